/-! the law of whole: its loop -/
def jLw (L : Nat) (xs : Nat → Int32) (it : Nat) (h : jH) : Prop := jLi L xs h ∧ pR ((it : Int) + 1) (vw h) (vw h)
theorem x_pop2L {M : jM} {d K S pc : Nat} {ls : jL} {st : List Value} {h : jH} {k n : Nat} {Q : Option Value → jH → Prop} {x : Int64} (hat : jat M pc = some (.pop2, 1)) (kk : jX M d K S (pc + 1) ls st h k n Q) : jX M d K S pc ls (.long x :: st) h k n Q :=
  jX.go (fun p l e R s m args below meth c ad H locs lA Z c1 c2 c8 c7 c13 hl g => lv_pop2_2 c1 c2 (jok_at c13 hat) rfl (g lA hl)) kk
theorem jcl_j {w l : Int32} {j : Nat} (e : w.toInt = l.toInt + (j : Int)) (hl : 0 ≤ l.toInt) : w.toNatClampNeg = l.toNatClampNeg + j := by
  have a := jcl_of hl
  have b := jcl_of (d := w) (by omega)
  omega
theorem jko_7 : (Int32.ofInt 7).toInt = 7 := by decide
set_option maxRecDepth 100000 in
set_option maxHeartbeats 4000000 in
theorem law_next {L it : Nat} {xs : Nat → Int32} {h : jH} {k n : Nat} {l3 : Int32} {Q : Option Value → jH → Prop} (y : 0 ≤ l3.toInt ∧ l3.toInt ≤ 3577) (I : jLw L xs (it + 1) h) (R : jRoom (it + 1) h k n) (kk : ∀ (l : Int32) h k n, l.toInt = l3.toInt + 7 → jLw L xs (it + 1) h → jRoom (it + 1) h k n → jX m_L_law 1300 600000 7302250 18 [(3, .int l), (2, .ref 125), (1, .ref 31), (0, .ref 0)] [] h k n Q) : jX m_L_law 1300 600000 7302250 2887 [(3, .int l3), (2, .ref 125), (1, .ref 31), (0, .ref 0)] [] h k n Q := by
  refine z_iinc (x := l3) (lsx9 := fun v => [(3, .int v), (2, .ref 125), (1, .ref 31), (0, .ref 0)]) rfl rfl rfl jko_7 (by omega) rfl (fun _ => rfl) (fun v ev => ?_)
  refine x_goto (tgt := 18) rfl rfl ?_
  exact kk v h k n (by omega) I R
set_option maxRecDepth 100000 in
set_option maxHeartbeats 4000000 in
theorem cs_feed {L it : Nat} {xs : Nat → Int32} {h : jH} {k n : Nat} {l3 : Int32} {Q : Option Value → jH → Prop} (hL : L ≤ 3584) (y : 0 ≤ l3.toInt ∧ l3.toInt + 7 ≤ (L : Int)) (hit : it < 512) (I : jLi L xs h) (V : pR ((it : Int) + 1) (vw h) (vw h)) (R : jRoom it h k n) (kk : ∀ (l : Int32) h k n, l.toInt = l3.toInt + 7 → jLw L xs (it + 1) h → jRoom (it + 1) h k n → jX m_L_law 1300 600000 7302250 18 [(3, .int l), (2, .ref 125), (1, .ref 31), (0, .ref 0)] [] h k n Q) : jX m_L_law 1300 600000 7302250 296 [(3, .int l3), (2, .ref 125), (1, .ref 31), (0, .ref 0)] [] h k n Q := by
  refine x_aloadn (x := 31) rfl rfl ?_
  refine x_aloadn (x := 0) rfl rfl ?_
  refine x_iloadn (x := l3) rfl rfl ?_
  refine x_iconst (v := 1) rfl ki_1 ?_
  refine z_iadd rfl rfl jk_1 (by omega) (fun w1 ew1 => ?_)
  refine y_iald (v := xs (l3.toNatClampNeg + 1)) (N := L) (l3.toNatClampNeg + 1) rfl I.2.2.2.1 (vpi (by omega)) (jcl_j (by omega) y.1) (I.2.2.2.2.1 _) ?_
  refine x_aloadn (x := 0) rfl rfl ?_
  refine x_iloadn (x := l3) rfl rfl ?_
  refine x_iconst (v := 2) rfl ki_2 ?_
  refine z_iadd rfl rfl jk_2 (by omega) (fun w2 ew2 => ?_)
  refine y_iald (v := xs (l3.toNatClampNeg + 2)) (N := L) (l3.toNatClampNeg + 2) rfl I.2.2.2.1 (vpi (by omega)) (jcl_j (by omega) y.1) (I.2.2.2.2.1 _) ?_
  refine x_aloadn (x := 0) rfl rfl ?_
  refine x_iloadn (x := l3) rfl rfl ?_
  refine x_iconst (v := 3) rfl ki_3 ?_
  refine z_iadd rfl rfl jk_3 (by omega) (fun w3 ew3 => ?_)
  refine y_iald (v := xs (l3.toNatClampNeg + 3)) (N := L) (l3.toNatClampNeg + 3) rfl I.2.2.2.1 (vpi (by omega)) (jcl_j (by omega) y.1) (I.2.2.2.2.1 _) ?_
  refine x_aloadn (x := 0) rfl rfl ?_
  refine x_iloadn (x := l3) rfl rfl ?_
  refine x_iconst (v := 4) rfl ki_4 ?_
  refine z_iadd rfl rfl jk_4 (by omega) (fun w4 ew4 => ?_)
  refine y_iald (v := xs (l3.toNatClampNeg + 4)) (N := L) (l3.toNatClampNeg + 4) rfl I.2.2.2.1 (vpi (by omega)) (jcl_j (by omega) y.1) (I.2.2.2.2.1 _) ?_
  refine x_aloadn (x := 0) rfl rfl ?_
  refine x_iloadn (x := l3) rfl rfl ?_
  refine x_iconst (v := 5) rfl ki_5 ?_
  refine z_iadd rfl rfl jk_5 (by omega) (fun w5 ew5 => ?_)
  refine y_iald (v := xs (l3.toNatClampNeg + 5)) (N := L) (l3.toNatClampNeg + 5) rfl I.2.2.2.1 (vpi (by omega)) (jcl_j (by omega) y.1) (I.2.2.2.2.1 _) ?_
  have rm := rm_0 R
  have D := I.1.2.2.2.1
  refine x_inv (N := m_X11_feed) (As := [.int (xs (l3.toNatClampNeg + 1)), .int (xs (l3.toNatClampNeg + 2)), .int (xs (l3.toNatClampNeg + 3)), .int (xs (l3.toNatClampNeg + 4)), .int (xs (l3.toNatClampNeg + 5))]) (b := 31) (st := []) (dx9 := 2) (mc := 0) (ms := 0) (host := "") 11 rfl t_X11_feed ⟨Or.inl q_13_13, i_X11_feed.1, i_X11_feed.2⟩ ⟨by decide, rfl⟩ (congrArg Prod.fst (I.1.1.1 31 (11, 13) rfl)) rfl (by decide) rfl rfl ⟨by omega, by omega⟩ (sf_X11_feed_r31d dy_k I.1 rfl (fun v7 h6 p8 J9 S10 p11 p12 => ?_))
  obtain ⟨I, r13⟩ := li_x I J9 S10 rfl (rx_m I.2.2.2.2.2 S10 rfl)
  have cr13 := cn_e r13
  show jX m_L_law 1300 600000 7302250 325 [(3, .int l3), (2, .ref 125), (1, .ref 31), (0, .ref 0)] [.int v7] h6 (k + 0) (n + 0) Q
  refine x_aloadn (x := 125) rfl rfl ?_
  refine x_aloadn (x := 0) rfl rfl ?_
  refine x_iloadn (x := l3) rfl rfl ?_
  refine x_iconst (v := 1) rfl ki_1 ?_
  refine z_iadd rfl rfl jk_1 (by omega) (fun w14 ew14 => ?_)
  refine y_iald (v := xs (l3.toNatClampNeg + 1)) (N := L) (l3.toNatClampNeg + 1) rfl I.2.2.2.1 (vpi (by omega)) (jcl_j (by omega) y.1) (I.2.2.2.2.1 _) ?_
  refine x_aloadn (x := 0) rfl rfl ?_
  refine x_iloadn (x := l3) rfl rfl ?_
  refine x_iconst (v := 2) rfl ki_2 ?_
  refine z_iadd rfl rfl jk_2 (by omega) (fun w15 ew15 => ?_)
  refine y_iald (v := xs (l3.toNatClampNeg + 2)) (N := L) (l3.toNatClampNeg + 2) rfl I.2.2.2.1 (vpi (by omega)) (jcl_j (by omega) y.1) (I.2.2.2.2.1 _) ?_
  refine x_aloadn (x := 0) rfl rfl ?_
  refine x_iloadn (x := l3) rfl rfl ?_
  refine x_iconst (v := 3) rfl ki_3 ?_
  refine z_iadd rfl rfl jk_3 (by omega) (fun w16 ew16 => ?_)
  refine y_iald (v := xs (l3.toNatClampNeg + 3)) (N := L) (l3.toNatClampNeg + 3) rfl I.2.2.2.1 (vpi (by omega)) (jcl_j (by omega) y.1) (I.2.2.2.2.1 _) ?_
  refine x_aloadn (x := 0) rfl rfl ?_
  refine x_iloadn (x := l3) rfl rfl ?_
  refine x_iconst (v := 4) rfl ki_4 ?_
  refine z_iadd rfl rfl jk_4 (by omega) (fun w17 ew17 => ?_)
  refine y_iald (v := xs (l3.toNatClampNeg + 4)) (N := L) (l3.toNatClampNeg + 4) rfl I.2.2.2.1 (vpi (by omega)) (jcl_j (by omega) y.1) (I.2.2.2.2.1 _) ?_
  refine x_aloadn (x := 0) rfl rfl ?_
  refine x_iloadn (x := l3) rfl rfl ?_
  refine x_iconst (v := 5) rfl ki_5 ?_
  refine z_iadd rfl rfl jk_5 (by omega) (fun w18 ew18 => ?_)
  refine y_iald (v := xs (l3.toNatClampNeg + 5)) (N := L) (l3.toNatClampNeg + 5) rfl I.2.2.2.1 (vpi (by omega)) (jcl_j (by omega) y.1) (I.2.2.2.2.1 _) ?_
  refine x_inv (N := m_X12_feed) (As := [.int (xs (l3.toNatClampNeg + 1)), .int (xs (l3.toNatClampNeg + 2)), .int (xs (l3.toNatClampNeg + 3)), .int (xs (l3.toNatClampNeg + 4)), .int (xs (l3.toNatClampNeg + 5))]) (b := 125) (st := [.int v7]) (dx9 := 2) (mc := 0) (ms := 0) (host := "") 12 rfl t_X12_feed ⟨Or.inl q_13_17, i_X12_feed.1, i_X12_feed.2⟩ ⟨by decide, rfl⟩ (congrArg Prod.fst (I.1.1.1 125 (12, 92) rfl)) rfl (by decide) rfl rfl ⟨by omega, by omega⟩ (sf_X12_feed_r125d dy_k (li_jm I) rfl (fun v20 h19 p21 J22 S23 p24 p25 => ?_))
  obtain ⟨I, r26⟩ := li_m I J22 S23 rfl (rr_m I.2.2.1 S23 rfl)
  have cr26 := cn_e r26
  have g := g_feed (xs (l3.toNatClampNeg + 1)).toInt (xs (l3.toNatClampNeg + 2)).toInt (xs (l3.toNatClampNeg + 3)).toInt (xs (l3.toNatClampNeg + 4)).toInt (xs (l3.toNatClampNeg + 5)).toInt V
  rw [p12] at g
  have ee : (v7 : Int32).toInt = (v20 : Int32).toInt := p11.symm.trans (g.1.trans p24)
  have V : pR ((it : Int) + 1 + 1) (vw h19) (vw h19) := by rw [← p25]; exact g.2
  show jX m_L_law 1300 600000 7302250 354 [(3, .int l3), (2, .ref 125), (1, .ref 31), (0, .ref 0)] [.int v20, .int v7] h19 (k + 0 + 0) (n + 0 + 0) Q
  refine x_iceq (tgt := 2887) rfl rfl (br_t (Int32.toInt_inj.mp ee) ?_)
  exact law_next (it := it) (by omega) ⟨I, by rw [show (((it + 1 : Nat) : Int) + 1) = (it : Int) + 1 + 1 from by omega]; exact V⟩ ⟨by omega, by have := R.2.1; omega, by have := R.2.2; omega⟩ kk
set_option maxRecDepth 100000 in
set_option maxHeartbeats 4000000 in
theorem cs_end {L it : Nat} {xs : Nat → Int32} {h : jH} {k n : Nat} {l3 : Int32} {Q : Option Value → jH → Prop} (hL : L ≤ 3584) (y : 0 ≤ l3.toInt ∧ l3.toInt + 7 ≤ (L : Int)) (hit : it < 512) (I : jLi L xs h) (V : pR ((it : Int) + 1) (vw h) (vw h)) (R : jRoom it h k n) (kk : ∀ (l : Int32) h k n, l.toInt = l3.toInt + 7 → jLw L xs (it + 1) h → jRoom (it + 1) h k n → jX m_L_law 1300 600000 7302250 18 [(3, .int l), (2, .ref 125), (1, .ref 31), (0, .ref 0)] [] h k n Q) : jX m_L_law 1300 600000 7302250 359 [(3, .int l3), (2, .ref 125), (1, .ref 31), (0, .ref 0)] [] h k n Q := by
  refine x_aloadn (x := 31) rfl rfl ?_
  refine x_aloadn (x := 0) rfl rfl ?_
  refine x_iloadn (x := l3) rfl rfl ?_
  refine x_iconst (v := 1) rfl ki_1 ?_
  refine z_iadd rfl rfl jk_1 (by omega) (fun w1 ew1 => ?_)
  refine y_iald (v := xs (l3.toNatClampNeg + 1)) (N := L) (l3.toNatClampNeg + 1) rfl I.2.2.2.1 (vpi (by omega)) (jcl_j (by omega) y.1) (I.2.2.2.2.1 _) ?_
  have rm := rm_0 R
  have D := I.1.2.2.2.1
  refine x_inv (N := m_X11_end) (As := [.int (xs (l3.toNatClampNeg + 1))]) (b := 31) (st := []) (dx9 := 1) (mc := 0) (ms := 0) (host := "") 11 rfl t_X11_end ⟨Or.inl q_13_18, i_X11_end.1, i_X11_end.2⟩ ⟨by decide, rfl⟩ (congrArg Prod.fst (I.1.1.1 31 (11, 13) rfl)) rfl (by decide) rfl rfl ⟨by omega, by omega⟩ (sf_X11_end_r31d dy_k I.1 rfl (fun v3 h2 p4 J5 S6 p7 p8 => ?_))
  obtain ⟨I, r9⟩ := li_x I J5 S6 rfl (rx_m I.2.2.2.2.2 S6 rfl)
  have cr9 := cn_e r9
  show jX m_L_law 1300 600000 7302250 368 [(3, .int l3), (2, .ref 125), (1, .ref 31), (0, .ref 0)] [.int v3] h2 (k + 0) (n + 0) Q
  refine x_aloadn (x := 125) rfl rfl ?_
  refine x_aloadn (x := 0) rfl rfl ?_
  refine x_iloadn (x := l3) rfl rfl ?_
  refine x_iconst (v := 1) rfl ki_1 ?_
  refine z_iadd rfl rfl jk_1 (by omega) (fun w10 ew10 => ?_)
  refine y_iald (v := xs (l3.toNatClampNeg + 1)) (N := L) (l3.toNatClampNeg + 1) rfl I.2.2.2.1 (vpi (by omega)) (jcl_j (by omega) y.1) (I.2.2.2.2.1 _) ?_
  refine x_inv (N := m_X12_end) (As := [.int (xs (l3.toNatClampNeg + 1))]) (b := 125) (st := [.int v3]) (dx9 := 1) (mc := 0) (ms := 0) (host := "") 12 rfl t_X12_end ⟨Or.inl q_13_22, i_X12_end.1, i_X12_end.2⟩ ⟨by decide, rfl⟩ (congrArg Prod.fst (I.1.1.1 125 (12, 92) rfl)) rfl (by decide) rfl rfl ⟨by omega, by omega⟩ (sf_X12_end_r125d dy_k (li_jm I) rfl (fun v12 h11 p13 J14 S15 p16 p17 => ?_))
  obtain ⟨I, r18⟩ := li_m I J14 S15 rfl (rr_m I.2.2.1 S15 rfl)
  have cr18 := cn_e r18
  have g := g_end (xs (l3.toNatClampNeg + 1)).toInt V
  rw [p8] at g
  have ee : (v3 : Int32).toInt = (v12 : Int32).toInt := p7.symm.trans (g.1.trans p16)
  have V : pR ((it : Int) + 1 + 1) (vw h11) (vw h11) := by rw [← p17]; exact g.2
  show jX m_L_law 1300 600000 7302250 377 [(3, .int l3), (2, .ref 125), (1, .ref 31), (0, .ref 0)] [.int v12, .int v3] h11 (k + 0 + 0) (n + 0 + 0) Q
  refine x_iceq (tgt := 2887) rfl rfl (br_t (Int32.toInt_inj.mp ee) ?_)
  exact law_next (it := it) (by omega) ⟨I, by rw [show (((it + 1 : Nat) : Int) + 1) = (it : Int) + 1 + 1 from by omega]; exact V⟩ ⟨by omega, by have := R.2.1; omega, by have := R.2.2; omega⟩ kk
set_option maxRecDepth 100000 in
set_option maxHeartbeats 4000000 in
theorem cs_fault {L it : Nat} {xs : Nat → Int32} {h : jH} {k n : Nat} {l3 : Int32} {Q : Option Value → jH → Prop} (hL : L ≤ 3584) (y : 0 ≤ l3.toInt ∧ l3.toInt + 7 ≤ (L : Int)) (hit : it < 512) (I : jLi L xs h) (V : pR ((it : Int) + 1) (vw h) (vw h)) (R : jRoom it h k n) (kk : ∀ (l : Int32) h k n, l.toInt = l3.toInt + 7 → jLw L xs (it + 1) h → jRoom (it + 1) h k n → jX m_L_law 1300 600000 7302250 18 [(3, .int l), (2, .ref 125), (1, .ref 31), (0, .ref 0)] [] h k n Q) : jX m_L_law 1300 600000 7302250 382 [(3, .int l3), (2, .ref 125), (1, .ref 31), (0, .ref 0)] [] h k n Q := by
  refine x_aloadn (x := 31) rfl rfl ?_
  have rm := rm_0 R
  have D := I.1.2.2.2.1
  refine x_inv (N := m_X11_fault) (As := []) (b := 31) (st := []) (dx9 := 1) (mc := 0) (ms := 0) (host := "") 11 rfl t_X11_fault ⟨Or.inl q_13_23, i_X11_fault.1, i_X11_fault.2⟩ ⟨by decide, rfl⟩ (congrArg Prod.fst (I.1.1.1 31 (11, 13) rfl)) rfl (by decide) rfl rfl ⟨by omega, by omega⟩ (sf_X11_fault_r31d dy_k I.1 rfl (fun v2 h1 p3 J4 S5 p6 p7 => ?_))
  obtain ⟨I, r8⟩ := li_x I J4 S5 rfl (rx_m I.2.2.2.2.2 S5 rfl)
  have cr8 := cn_e r8
  show jX m_L_law 1300 600000 7302250 386 [(3, .int l3), (2, .ref 125), (1, .ref 31), (0, .ref 0)] [.int v2] h1 (k + 0) (n + 0) Q
  refine x_aloadn (x := 125) rfl rfl ?_
  refine x_inv (N := m_X12_fault) (As := []) (b := 125) (st := [.int v2]) (dx9 := 1) (mc := 0) (ms := 0) (host := "") 12 rfl t_X12_fault ⟨Or.inl q_13_27, i_X12_fault.1, i_X12_fault.2⟩ ⟨by decide, rfl⟩ (congrArg Prod.fst (I.1.1.1 125 (12, 92) rfl)) rfl (by decide) rfl rfl ⟨by omega, by omega⟩ (sf_X12_fault_r125d dy_k (li_jm I) rfl (fun v10 h9 p11 J12 S13 p14 p15 => ?_))
  obtain ⟨I, r16⟩ := li_m I J12 S13 rfl (rr_m I.2.2.1 S13 rfl)
  have cr16 := cn_e r16
  have g := g_fault V
  rw [p7] at p14 p15
  have ee : (v2 : Int32).toInt = (v10 : Int32).toInt := p6.symm.trans (g.1.trans p14)
  have V : pR ((it : Int) + 1 + 1) (vw h9) (vw h9) := by rw [← p15]; exact g.2
  show jX m_L_law 1300 600000 7302250 390 [(3, .int l3), (2, .ref 125), (1, .ref 31), (0, .ref 0)] [.int v10, .int v2] h9 (k + 0 + 0) (n + 0 + 0) Q
  refine x_iceq (tgt := 2887) rfl rfl (br_t (Int32.toInt_inj.mp ee) ?_)
  exact law_next (it := it) (by omega) ⟨I, by rw [show (((it + 1 : Nat) : Int) + 1) = (it : Int) + 1 + 1 from by omega]; exact V⟩ ⟨by omega, by have := R.2.1; omega, by have := R.2.2; omega⟩ kk
set_option maxRecDepth 100000 in
set_option maxHeartbeats 4000000 in
theorem cs_line {L it : Nat} {xs : Nat → Int32} {h : jH} {k n : Nat} {l3 : Int32} {Q : Option Value → jH → Prop} (hL : L ≤ 3584) (y : 0 ≤ l3.toInt ∧ l3.toInt + 7 ≤ (L : Int)) (hit : it < 512) (I : jLi L xs h) (V : pR ((it : Int) + 1) (vw h) (vw h)) (R : jRoom it h k n) (kk : ∀ (l : Int32) h k n, l.toInt = l3.toInt + 7 → jLw L xs (it + 1) h → jRoom (it + 1) h k n → jX m_L_law 1300 600000 7302250 18 [(3, .int l), (2, .ref 125), (1, .ref 31), (0, .ref 0)] [] h k n Q) : jX m_L_law 1300 600000 7302250 395 [(3, .int l3), (2, .ref 125), (1, .ref 31), (0, .ref 0)] [] h k n Q := by
  refine x_aloadn (x := 31) rfl rfl ?_
  refine x_aloadn (x := 0) rfl rfl ?_
  refine x_iloadn (x := l3) rfl rfl ?_
  refine x_iconst (v := 1) rfl ki_1 ?_
  refine z_iadd rfl rfl jk_1 (by omega) (fun w1 ew1 => ?_)
  refine y_iald (v := xs (l3.toNatClampNeg + 1)) (N := L) (l3.toNatClampNeg + 1) rfl I.2.2.2.1 (vpi (by omega)) (jcl_j (by omega) y.1) (I.2.2.2.2.1 _) ?_
  refine x_aloadn (x := 0) rfl rfl ?_
  refine x_iloadn (x := l3) rfl rfl ?_
  refine x_iconst (v := 2) rfl ki_2 ?_
  refine z_iadd rfl rfl jk_2 (by omega) (fun w2 ew2 => ?_)
  refine y_iald (v := xs (l3.toNatClampNeg + 2)) (N := L) (l3.toNatClampNeg + 2) rfl I.2.2.2.1 (vpi (by omega)) (jcl_j (by omega) y.1) (I.2.2.2.2.1 _) ?_
  refine x_aloadn (x := 0) rfl rfl ?_
  refine x_iloadn (x := l3) rfl rfl ?_
  refine x_iconst (v := 3) rfl ki_3 ?_
  refine z_iadd rfl rfl jk_3 (by omega) (fun w3 ew3 => ?_)
  refine y_iald (v := xs (l3.toNatClampNeg + 3)) (N := L) (l3.toNatClampNeg + 3) rfl I.2.2.2.1 (vpi (by omega)) (jcl_j (by omega) y.1) (I.2.2.2.2.1 _) ?_
  refine x_aloadn (x := 0) rfl rfl ?_
  refine x_iloadn (x := l3) rfl rfl ?_
  refine x_iconst (v := 4) rfl ki_4 ?_
  refine z_iadd rfl rfl jk_4 (by omega) (fun w4 ew4 => ?_)
  refine y_iald (v := xs (l3.toNatClampNeg + 4)) (N := L) (l3.toNatClampNeg + 4) rfl I.2.2.2.1 (vpi (by omega)) (jcl_j (by omega) y.1) (I.2.2.2.2.1 _) ?_
  refine x_aloadn (x := 0) rfl rfl ?_
  refine x_iloadn (x := l3) rfl rfl ?_
  refine x_iconst (v := 5) rfl ki_5 ?_
  refine z_iadd rfl rfl jk_5 (by omega) (fun w5 ew5 => ?_)
  refine y_iald (v := xs (l3.toNatClampNeg + 5)) (N := L) (l3.toNatClampNeg + 5) rfl I.2.2.2.1 (vpi (by omega)) (jcl_j (by omega) y.1) (I.2.2.2.2.1 _) ?_
  have rm := rm_0 R
  have D := I.1.2.2.2.1
  refine x_inv (N := m_X11_line) (As := [.int (xs (l3.toNatClampNeg + 1)), .int (xs (l3.toNatClampNeg + 2)), .int (xs (l3.toNatClampNeg + 3)), .int (xs (l3.toNatClampNeg + 4)), .int (xs (l3.toNatClampNeg + 5))]) (b := 31) (st := []) (dx9 := 6) (mc := 0) (ms := 0) (host := "") 11 rfl t_X11_line ⟨Or.inl q_13_28, i_X11_line.1, i_X11_line.2⟩ ⟨by decide, rfl⟩ (congrArg Prod.fst (I.1.1.1 31 (11, 13) rfl)) rfl (by decide) rfl rfl ⟨by omega, by omega⟩ (sf_X11_line_r31d dy_k I.1 rfl rfl I.2.2.2.2.2 rfl (fun v7 h6 p8 J9 S10 u11 u12 p13 p14 p15 p16 p17 => ?_))
  obtain ⟨I, r18⟩ := li_x I J9 S10 rfl (rx_2 p13 p14 p15)
  have cr18 := cn_e r18
  show jX m_L_law 1300 600000 7302250 424 [(3, .int l3), (2, .ref 125), (1, .ref 31), (0, .ref 0)] [.int v7] h6 (k + 0) (n + 0) Q
  refine x_aloadn (x := 125) rfl rfl ?_
  refine x_aloadn (x := 0) rfl rfl ?_
  refine x_iloadn (x := l3) rfl rfl ?_
  refine x_iconst (v := 1) rfl ki_1 ?_
  refine z_iadd rfl rfl jk_1 (by omega) (fun w19 ew19 => ?_)
  refine y_iald (v := xs (l3.toNatClampNeg + 1)) (N := L) (l3.toNatClampNeg + 1) rfl I.2.2.2.1 (vpi (by omega)) (jcl_j (by omega) y.1) (I.2.2.2.2.1 _) ?_
  refine x_aloadn (x := 0) rfl rfl ?_
  refine x_iloadn (x := l3) rfl rfl ?_
  refine x_iconst (v := 2) rfl ki_2 ?_
  refine z_iadd rfl rfl jk_2 (by omega) (fun w20 ew20 => ?_)
  refine y_iald (v := xs (l3.toNatClampNeg + 2)) (N := L) (l3.toNatClampNeg + 2) rfl I.2.2.2.1 (vpi (by omega)) (jcl_j (by omega) y.1) (I.2.2.2.2.1 _) ?_
  refine x_aloadn (x := 0) rfl rfl ?_
  refine x_iloadn (x := l3) rfl rfl ?_
  refine x_iconst (v := 3) rfl ki_3 ?_
  refine z_iadd rfl rfl jk_3 (by omega) (fun w21 ew21 => ?_)
  refine y_iald (v := xs (l3.toNatClampNeg + 3)) (N := L) (l3.toNatClampNeg + 3) rfl I.2.2.2.1 (vpi (by omega)) (jcl_j (by omega) y.1) (I.2.2.2.2.1 _) ?_
  refine x_aloadn (x := 0) rfl rfl ?_
  refine x_iloadn (x := l3) rfl rfl ?_
  refine x_iconst (v := 4) rfl ki_4 ?_
  refine z_iadd rfl rfl jk_4 (by omega) (fun w22 ew22 => ?_)
  refine y_iald (v := xs (l3.toNatClampNeg + 4)) (N := L) (l3.toNatClampNeg + 4) rfl I.2.2.2.1 (vpi (by omega)) (jcl_j (by omega) y.1) (I.2.2.2.2.1 _) ?_
  refine x_aloadn (x := 0) rfl rfl ?_
  refine x_iloadn (x := l3) rfl rfl ?_
  refine x_iconst (v := 5) rfl ki_5 ?_
  refine z_iadd rfl rfl jk_5 (by omega) (fun w23 ew23 => ?_)
  refine y_iald (v := xs (l3.toNatClampNeg + 5)) (N := L) (l3.toNatClampNeg + 5) rfl I.2.2.2.1 (vpi (by omega)) (jcl_j (by omega) y.1) (I.2.2.2.2.1 _) ?_
  refine x_inv (N := m_X12_line) (As := [.int (xs (l3.toNatClampNeg + 1)), .int (xs (l3.toNatClampNeg + 2)), .int (xs (l3.toNatClampNeg + 3)), .int (xs (l3.toNatClampNeg + 4)), .int (xs (l3.toNatClampNeg + 5))]) (b := 125) (st := [.int v7]) (dx9 := 6) (mc := 0) (ms := 0) (host := "") 12 rfl t_X12_line ⟨Or.inl q_13_31, i_X12_line.1, i_X12_line.2⟩ ⟨by decide, rfl⟩ (congrArg Prod.fst (I.1.1.1 125 (12, 92) rfl)) rfl (by decide) rfl rfl ⟨by omega, by omega⟩ (sf_X12_line_r125d dy_k (li_jm I) rfl rfl rfl rfl rfl I.2.2.1.1 rfl (fun v25 h24 J26 S27 u28 u29 u30 u31 u32 p33 p34 p35 p36 p37 p38 p39 p40 => ?_))
  obtain ⟨I, r41⟩ := li_m I J26 S27 rfl (rr_2 I.2.2.1 S27 rfl p33 p34 p35 p36 p37 p38)
  have cr41 := cn_e r41
  have g := g_line (xs (l3.toNatClampNeg + 1)).toInt (xs (l3.toNatClampNeg + 2)).toInt (xs (l3.toNatClampNeg + 3)).toInt (xs (l3.toNatClampNeg + 4)).toInt (xs (l3.toNatClampNeg + 5)).toInt V (by omega)
  rw [p17] at g
  have ee : (v7 : Int32).toInt = (v25 : Int32).toInt := p16.symm.trans (g.1.trans p39)
  have V : pR ((it : Int) + 1 + 1) (vw h24) (vw h24) := by rw [← p40]; exact g.2
  show jX m_L_law 1300 600000 7302250 453 [(3, .int l3), (2, .ref 125), (1, .ref 31), (0, .ref 0)] [.int v25, .int v7] h24 (k + 0 + 0) (n + 0 + 0) Q
  refine x_iceq (tgt := 2887) rfl rfl (br_t (Int32.toInt_inj.mp ee) ?_)
  exact law_next (it := it) (by omega) ⟨I, by rw [show (((it + 1 : Nat) : Int) + 1) = (it : Int) + 1 + 1 from by omega]; exact V⟩ ⟨by omega, by have := R.2.1; omega, by have := R.2.2; omega⟩ kk
set_option maxRecDepth 100000 in
set_option maxHeartbeats 4000000 in
theorem cs_of {L it : Nat} {xs : Nat → Int32} {h : jH} {k n : Nat} {l3 : Int32} {Q : Option Value → jH → Prop} (hL : L ≤ 3584) (y : 0 ≤ l3.toInt ∧ l3.toInt + 7 ≤ (L : Int)) (hit : it < 512) (I : jLi L xs h) (V : pR ((it : Int) + 1) (vw h) (vw h)) (R : jRoom it h k n) (kk : ∀ (l : Int32) h k n, l.toInt = l3.toInt + 7 → jLw L xs (it + 1) h → jRoom (it + 1) h k n → jX m_L_law 1300 600000 7302250 18 [(3, .int l), (2, .ref 125), (1, .ref 31), (0, .ref 0)] [] h k n Q) : jX m_L_law 1300 600000 7302250 458 [(3, .int l3), (2, .ref 125), (1, .ref 31), (0, .ref 0)] [] h k n Q := by
  refine x_aloadn (x := 31) rfl rfl ?_
  refine x_aloadn (x := 0) rfl rfl ?_
  refine x_iloadn (x := l3) rfl rfl ?_
  refine x_iconst (v := 1) rfl ki_1 ?_
  refine z_iadd rfl rfl jk_1 (by omega) (fun w1 ew1 => ?_)
  refine y_iald (v := xs (l3.toNatClampNeg + 1)) (N := L) (l3.toNatClampNeg + 1) rfl I.2.2.2.1 (vpi (by omega)) (jcl_j (by omega) y.1) (I.2.2.2.2.1 _) ?_
  refine x_aloadn (x := 0) rfl rfl ?_
  refine x_iloadn (x := l3) rfl rfl ?_
  refine x_iconst (v := 2) rfl ki_2 ?_
  refine z_iadd rfl rfl jk_2 (by omega) (fun w2 ew2 => ?_)
  refine y_iald (v := xs (l3.toNatClampNeg + 2)) (N := L) (l3.toNatClampNeg + 2) rfl I.2.2.2.1 (vpi (by omega)) (jcl_j (by omega) y.1) (I.2.2.2.2.1 _) ?_
  have rm := rm_0 R
  have D := I.1.2.2.2.1
  refine x_inv (N := m_X11_of) (As := [.int (xs (l3.toNatClampNeg + 1)), .int (xs (l3.toNatClampNeg + 2))]) (b := 31) (st := []) (dx9 := 3) (mc := 0) (ms := 0) (host := "") 11 rfl t_X11_of ⟨Or.inl q_13_32, i_X11_of.1, i_X11_of.2⟩ ⟨by decide, rfl⟩ (congrArg Prod.fst (I.1.1.1 31 (11, 13) rfl)) rfl (by decide) rfl rfl ⟨by omega, by omega⟩ (sf_X11_of_r31d dy_k I.1 rfl (fun v4 h3 J5 S6 p7 p8 => ?_))
  obtain ⟨I, r9⟩ := li_x I J5 S6 rfl (rx_m I.2.2.2.2.2 S6 rfl)
  have cr9 := cn_e r9
  show jX m_L_law 1300 600000 7302250 472 [(3, .int l3), (2, .ref 125), (1, .ref 31), (0, .ref 0)] [.int v4] h3 (k + 0) (n + 0) Q
  refine x_aloadn (x := 125) rfl rfl ?_
  refine x_aloadn (x := 0) rfl rfl ?_
  refine x_iloadn (x := l3) rfl rfl ?_
  refine x_iconst (v := 1) rfl ki_1 ?_
  refine z_iadd rfl rfl jk_1 (by omega) (fun w10 ew10 => ?_)
  refine y_iald (v := xs (l3.toNatClampNeg + 1)) (N := L) (l3.toNatClampNeg + 1) rfl I.2.2.2.1 (vpi (by omega)) (jcl_j (by omega) y.1) (I.2.2.2.2.1 _) ?_
  refine x_aloadn (x := 0) rfl rfl ?_
  refine x_iloadn (x := l3) rfl rfl ?_
  refine x_iconst (v := 2) rfl ki_2 ?_
  refine z_iadd rfl rfl jk_2 (by omega) (fun w11 ew11 => ?_)
  refine y_iald (v := xs (l3.toNatClampNeg + 2)) (N := L) (l3.toNatClampNeg + 2) rfl I.2.2.2.1 (vpi (by omega)) (jcl_j (by omega) y.1) (I.2.2.2.2.1 _) ?_
  refine x_inv (N := m_X12_of) (As := [.int (xs (l3.toNatClampNeg + 1)), .int (xs (l3.toNatClampNeg + 2))]) (b := 125) (st := [.int v4]) (dx9 := 3) (mc := 0) (ms := 0) (host := "") 12 rfl t_X12_of ⟨Or.inl q_13_36, i_X12_of.1, i_X12_of.2⟩ ⟨by decide, rfl⟩ (congrArg Prod.fst (I.1.1.1 125 (12, 92) rfl)) rfl (by decide) rfl rfl ⟨by omega, by omega⟩ (sf_X12_of_r125d dy_k (li_jm I) rfl (fun v13 h12 J14 S15 p16 p17 => ?_))
  obtain ⟨I, r18⟩ := li_m I J14 S15 rfl (rr_m I.2.2.1 S15 rfl)
  have cr18 := cn_e r18
  have g := g_of (xs (l3.toNatClampNeg + 1)).toInt (xs (l3.toNatClampNeg + 2)).toInt V
  rw [p8] at p16 p17
  have ee : (v4 : Int32).toInt = (v13 : Int32).toInt := p7.symm.trans (g.1.trans p16)
  have V : pR ((it : Int) + 1 + 1) (vw h12) (vw h12) := by rw [← p17]; exact g.2
  show jX m_L_law 1300 600000 7302250 486 [(3, .int l3), (2, .ref 125), (1, .ref 31), (0, .ref 0)] [.int v13, .int v4] h12 (k + 0 + 0) (n + 0 + 0) Q
  refine x_iceq (tgt := 2887) rfl rfl (br_t (Int32.toInt_inj.mp ee) ?_)
  exact law_next (it := it) (by omega) ⟨I, by rw [show (((it + 1 : Nat) : Int) + 1) = (it : Int) + 1 + 1 from by omega]; exact V⟩ ⟨by omega, by have := R.2.1; omega, by have := R.2.2; omega⟩ kk
set_option maxRecDepth 100000 in
set_option maxHeartbeats 4000000 in
theorem cs_spell {L it : Nat} {xs : Nat → Int32} {h : jH} {k n : Nat} {l3 : Int32} {Q : Option Value → jH → Prop} (hL : L ≤ 3584) (y : 0 ≤ l3.toInt ∧ l3.toInt + 7 ≤ (L : Int)) (hit : it < 512) (I : jLi L xs h) (V : pR ((it : Int) + 1) (vw h) (vw h)) (R : jRoom it h k n) (kk : ∀ (l : Int32) h k n, l.toInt = l3.toInt + 7 → jLw L xs (it + 1) h → jRoom (it + 1) h k n → jX m_L_law 1300 600000 7302250 18 [(3, .int l), (2, .ref 125), (1, .ref 31), (0, .ref 0)] [] h k n Q) : jX m_L_law 1300 600000 7302250 491 [(3, .int l3), (2, .ref 125), (1, .ref 31), (0, .ref 0)] [] h k n Q := by
  refine x_aloadn (x := 31) rfl rfl ?_
  refine x_aloadn (x := 0) rfl rfl ?_
  refine x_iloadn (x := l3) rfl rfl ?_
  refine x_iconst (v := 1) rfl ki_1 ?_
  refine z_iadd rfl rfl jk_1 (by omega) (fun w1 ew1 => ?_)
  refine y_iald (v := xs (l3.toNatClampNeg + 1)) (N := L) (l3.toNatClampNeg + 1) rfl I.2.2.2.1 (vpi (by omega)) (jcl_j (by omega) y.1) (I.2.2.2.2.1 _) ?_
  have rm := rm_0 R
  have D := I.1.2.2.2.1
  refine x_inv (N := m_X11_spell) (As := [.int (xs (l3.toNatClampNeg + 1))]) (b := 31) (st := []) (dx9 := 6) (mc := 0) (ms := 0) (host := "") 11 rfl t_X11_spell ⟨Or.inl q_13_37, i_X11_spell.1, i_X11_spell.2⟩ ⟨by decide, rfl⟩ (congrArg Prod.fst (I.1.1.1 31 (11, 13) rfl)) rfl (by decide) rfl rfl ⟨by omega, by omega⟩ (sf_X11_spell_r31d dy_k I.1 rfl rfl I.2.2.2.2.2 rfl (fun v3 h2 p4 J5 S6 u7 u8 p9 p10 p11 p12 p13 => ?_))
  obtain ⟨I, r14⟩ := li_x I J5 S6 rfl (rx_2 p9 p10 p11)
  have cr14 := cn_e r14
  show jX m_L_law 1300 600000 7302250 500 [(3, .int l3), (2, .ref 125), (1, .ref 31), (0, .ref 0)] [.int v3] h2 (k + 0) (n + 0) Q
  refine x_aloadn (x := 125) rfl rfl ?_
  refine x_aloadn (x := 0) rfl rfl ?_
  refine x_iloadn (x := l3) rfl rfl ?_
  refine x_iconst (v := 1) rfl ki_1 ?_
  refine z_iadd rfl rfl jk_1 (by omega) (fun w15 ew15 => ?_)
  refine y_iald (v := xs (l3.toNatClampNeg + 1)) (N := L) (l3.toNatClampNeg + 1) rfl I.2.2.2.1 (vpi (by omega)) (jcl_j (by omega) y.1) (I.2.2.2.2.1 _) ?_
  refine x_inv (N := m_X12_spell) (As := [.int (xs (l3.toNatClampNeg + 1))]) (b := 125) (st := [.int v3]) (dx9 := 6) (mc := 0) (ms := 0) (host := "") 12 rfl t_X12_spell ⟨Or.inl q_13_40, i_X12_spell.1, i_X12_spell.2⟩ ⟨by decide, rfl⟩ (congrArg Prod.fst (I.1.1.1 125 (12, 92) rfl)) rfl (by decide) rfl rfl ⟨by omega, by omega⟩ (sf_X12_spell_r125d dy_k (li_jm I) rfl (fun v17 h16 J18 S19 p20 p21 => ?_))
  obtain ⟨I, r22⟩ := li_m I J18 S19 rfl (rr_m I.2.2.1 S19 rfl)
  have cr22 := cn_e r22
  have g := h_spell (xs (l3.toNatClampNeg + 1)).toInt V (by omega)
  rw [p13] at g
  have ee : (v3 : Int32).toInt = (v17 : Int32).toInt := p12.symm.trans (g.1.trans p20)
  have V : pR ((it : Int) + 1 + 1) (vw h16) (vw h16) := by rw [← p21]; exact g.2
  show jX m_L_law 1300 600000 7302250 509 [(3, .int l3), (2, .ref 125), (1, .ref 31), (0, .ref 0)] [.int v17, .int v3] h16 (k + 0 + 0) (n + 0 + 0) Q
  refine x_iceq (tgt := 2887) rfl rfl (br_t (Int32.toInt_inj.mp ee) ?_)
  exact law_next (it := it) (by omega) ⟨I, by rw [show (((it + 1 : Nat) : Int) + 1) = (it : Int) + 1 + 1 from by omega]; exact V⟩ ⟨by omega, by have := R.2.1; omega, by have := R.2.2; omega⟩ kk
set_option maxRecDepth 100000 in
set_option maxHeartbeats 4000000 in
theorem cs_name {L it : Nat} {xs : Nat → Int32} {h : jH} {k n : Nat} {l3 : Int32} {Q : Option Value → jH → Prop} (hL : L ≤ 3584) (y : 0 ≤ l3.toInt ∧ l3.toInt + 7 ≤ (L : Int)) (hit : it < 512) (I : jLi L xs h) (V : pR ((it : Int) + 1) (vw h) (vw h)) (R : jRoom it h k n) (kk : ∀ (l : Int32) h k n, l.toInt = l3.toInt + 7 → jLw L xs (it + 1) h → jRoom (it + 1) h k n → jX m_L_law 1300 600000 7302250 18 [(3, .int l), (2, .ref 125), (1, .ref 31), (0, .ref 0)] [] h k n Q) : jX m_L_law 1300 600000 7302250 514 [(3, .int l3), (2, .ref 125), (1, .ref 31), (0, .ref 0)] [] h k n Q := by
  refine x_aloadn (x := 31) rfl rfl ?_
  refine x_aloadn (x := 0) rfl rfl ?_
  refine x_iloadn (x := l3) rfl rfl ?_
  refine x_iconst (v := 1) rfl ki_1 ?_
  refine z_iadd rfl rfl jk_1 (by omega) (fun w1 ew1 => ?_)
  refine y_iald (v := xs (l3.toNatClampNeg + 1)) (N := L) (l3.toNatClampNeg + 1) rfl I.2.2.2.1 (vpi (by omega)) (jcl_j (by omega) y.1) (I.2.2.2.2.1 _) ?_
  refine x_aloadn (x := 0) rfl rfl ?_
  refine x_iloadn (x := l3) rfl rfl ?_
  refine x_iconst (v := 2) rfl ki_2 ?_
  refine z_iadd rfl rfl jk_2 (by omega) (fun w2 ew2 => ?_)
  refine y_iald (v := xs (l3.toNatClampNeg + 2)) (N := L) (l3.toNatClampNeg + 2) rfl I.2.2.2.1 (vpi (by omega)) (jcl_j (by omega) y.1) (I.2.2.2.2.1 _) ?_
  refine x_aloadn (x := 0) rfl rfl ?_
  refine x_iloadn (x := l3) rfl rfl ?_
  refine x_iconst (v := 3) rfl ki_3 ?_
  refine z_iadd rfl rfl jk_3 (by omega) (fun w3 ew3 => ?_)
  refine y_iald (v := xs (l3.toNatClampNeg + 3)) (N := L) (l3.toNatClampNeg + 3) rfl I.2.2.2.1 (vpi (by omega)) (jcl_j (by omega) y.1) (I.2.2.2.2.1 _) ?_
  have rm := rm_0 R
  have D := I.1.2.2.2.1
  refine x_inv (N := m_X11_name) (As := [.int (xs (l3.toNatClampNeg + 1)), .int (xs (l3.toNatClampNeg + 2)), .int (xs (l3.toNatClampNeg + 3))]) (b := 31) (st := []) (dx9 := 2) (mc := 0) (ms := 0) (host := "") 11 rfl t_X11_name ⟨Or.inl q_13_41, i_X11_name.1, i_X11_name.2⟩ ⟨by decide, rfl⟩ (congrArg Prod.fst (I.1.1.1 31 (11, 13) rfl)) rfl (by decide) rfl rfl ⟨by omega, by omega⟩ (sf_X11_name_r31d dy_k I.1 rfl (fun v5 h4 J6 S7 p8 p9 => ?_))
  obtain ⟨I, r10⟩ := li_x I J6 S7 rfl (rx_m I.2.2.2.2.2 S7 rfl)
  have cr10 := cn_e r10
  show jX m_L_law 1300 600000 7302250 533 [(3, .int l3), (2, .ref 125), (1, .ref 31), (0, .ref 0)] [.int v5] h4 (k + 0) (n + 0) Q
  refine x_aloadn (x := 125) rfl rfl ?_
  refine x_aloadn (x := 0) rfl rfl ?_
  refine x_iloadn (x := l3) rfl rfl ?_
  refine x_iconst (v := 1) rfl ki_1 ?_
  refine z_iadd rfl rfl jk_1 (by omega) (fun w11 ew11 => ?_)
  refine y_iald (v := xs (l3.toNatClampNeg + 1)) (N := L) (l3.toNatClampNeg + 1) rfl I.2.2.2.1 (vpi (by omega)) (jcl_j (by omega) y.1) (I.2.2.2.2.1 _) ?_
  refine x_aloadn (x := 0) rfl rfl ?_
  refine x_iloadn (x := l3) rfl rfl ?_
  refine x_iconst (v := 2) rfl ki_2 ?_
  refine z_iadd rfl rfl jk_2 (by omega) (fun w12 ew12 => ?_)
  refine y_iald (v := xs (l3.toNatClampNeg + 2)) (N := L) (l3.toNatClampNeg + 2) rfl I.2.2.2.1 (vpi (by omega)) (jcl_j (by omega) y.1) (I.2.2.2.2.1 _) ?_
  refine x_aloadn (x := 0) rfl rfl ?_
  refine x_iloadn (x := l3) rfl rfl ?_
  refine x_iconst (v := 3) rfl ki_3 ?_
  refine z_iadd rfl rfl jk_3 (by omega) (fun w13 ew13 => ?_)
  refine y_iald (v := xs (l3.toNatClampNeg + 3)) (N := L) (l3.toNatClampNeg + 3) rfl I.2.2.2.1 (vpi (by omega)) (jcl_j (by omega) y.1) (I.2.2.2.2.1 _) ?_
  refine x_inv (N := m_X12_name) (As := [.int (xs (l3.toNatClampNeg + 1)), .int (xs (l3.toNatClampNeg + 2)), .int (xs (l3.toNatClampNeg + 3))]) (b := 125) (st := [.int v5]) (dx9 := 4) (mc := 0) (ms := 0) (host := "") 12 rfl t_X12_name ⟨Or.inl q_13_45, i_X12_name.1, i_X12_name.2⟩ ⟨by decide, rfl⟩ (congrArg Prod.fst (I.1.1.1 125 (12, 92) rfl)) rfl (by decide) rfl rfl ⟨by omega, by omega⟩ (sf_X12_name_r125d dy_k (li_jm I) rfl (fun v15 h14 p16 J17 S18 p19 p20 => ?_))
  obtain ⟨I, r21⟩ := li_m I J17 S18 rfl (rr_m I.2.2.1 S18 rfl)
  have cr21 := cn_e r21
  have g := g_name (xs (l3.toNatClampNeg + 1)).toInt (xs (l3.toNatClampNeg + 2)).toInt (xs (l3.toNatClampNeg + 3)).toInt V
  rw [p9] at p19 p20
  have ee : (v5 : Int32).toInt = (v15 : Int32).toInt := p8.symm.trans (g.1.trans p19)
  have V : pR ((it : Int) + 1 + 1) (vw h14) (vw h14) := by rw [← p20]; exact g.2
  show jX m_L_law 1300 600000 7302250 552 [(3, .int l3), (2, .ref 125), (1, .ref 31), (0, .ref 0)] [.int v15, .int v5] h14 (k + 0 + 0) (n + 0 + 0) Q
  refine x_iceq (tgt := 2887) rfl rfl (br_t (Int32.toInt_inj.mp ee) ?_)
  exact law_next (it := it) (by omega) ⟨I, by rw [show (((it + 1 : Nat) : Int) + 1) = (it : Int) + 1 + 1 from by omega]; exact V⟩ ⟨by omega, by have := R.2.1; omega, by have := R.2.2; omega⟩ kk
set_option maxRecDepth 100000 in
set_option maxHeartbeats 4000000 in
theorem cs_piece {L it : Nat} {xs : Nat → Int32} {h : jH} {k n : Nat} {l3 : Int32} {Q : Option Value → jH → Prop} (hL : L ≤ 3584) (y : 0 ≤ l3.toInt ∧ l3.toInt + 7 ≤ (L : Int)) (hit : it < 512) (I : jLi L xs h) (V : pR ((it : Int) + 1) (vw h) (vw h)) (R : jRoom it h k n) (kk : ∀ (l : Int32) h k n, l.toInt = l3.toInt + 7 → jLw L xs (it + 1) h → jRoom (it + 1) h k n → jX m_L_law 1300 600000 7302250 18 [(3, .int l), (2, .ref 125), (1, .ref 31), (0, .ref 0)] [] h k n Q) : jX m_L_law 1300 600000 7302250 557 [(3, .int l3), (2, .ref 125), (1, .ref 31), (0, .ref 0)] [] h k n Q := by
  refine x_aloadn (x := 31) rfl rfl ?_
  refine x_aloadn (x := 0) rfl rfl ?_
  refine x_iloadn (x := l3) rfl rfl ?_
  refine x_iconst (v := 1) rfl ki_1 ?_
  refine z_iadd rfl rfl jk_1 (by omega) (fun w1 ew1 => ?_)
  refine y_iald (v := xs (l3.toNatClampNeg + 1)) (N := L) (l3.toNatClampNeg + 1) rfl I.2.2.2.1 (vpi (by omega)) (jcl_j (by omega) y.1) (I.2.2.2.2.1 _) ?_
  refine x_aloadn (x := 0) rfl rfl ?_
  refine x_iloadn (x := l3) rfl rfl ?_
  refine x_iconst (v := 2) rfl ki_2 ?_
  refine z_iadd rfl rfl jk_2 (by omega) (fun w2 ew2 => ?_)
  refine y_iald (v := xs (l3.toNatClampNeg + 2)) (N := L) (l3.toNatClampNeg + 2) rfl I.2.2.2.1 (vpi (by omega)) (jcl_j (by omega) y.1) (I.2.2.2.2.1 _) ?_
  refine x_aloadn (x := 0) rfl rfl ?_
  refine x_iloadn (x := l3) rfl rfl ?_
  refine x_iconst (v := 3) rfl ki_3 ?_
  refine z_iadd rfl rfl jk_3 (by omega) (fun w3 ew3 => ?_)
  refine y_iald (v := xs (l3.toNatClampNeg + 3)) (N := L) (l3.toNatClampNeg + 3) rfl I.2.2.2.1 (vpi (by omega)) (jcl_j (by omega) y.1) (I.2.2.2.2.1 _) ?_
  refine x_aloadn (x := 0) rfl rfl ?_
  refine x_iloadn (x := l3) rfl rfl ?_
  refine x_iconst (v := 4) rfl ki_4 ?_
  refine z_iadd rfl rfl jk_4 (by omega) (fun w4 ew4 => ?_)
  refine y_iald (v := xs (l3.toNatClampNeg + 4)) (N := L) (l3.toNatClampNeg + 4) rfl I.2.2.2.1 (vpi (by omega)) (jcl_j (by omega) y.1) (I.2.2.2.2.1 _) ?_
  have rm := rm_0 R
  have D := I.1.2.2.2.1
  refine x_inv (N := m_X11_piece) (As := [.int (xs (l3.toNatClampNeg + 1)), .int (xs (l3.toNatClampNeg + 2)), .int (xs (l3.toNatClampNeg + 3)), .int (xs (l3.toNatClampNeg + 4))]) (b := 31) (st := []) (dx9 := 2) (mc := 0) (ms := 0) (host := "") 11 rfl t_X11_piece ⟨Or.inl q_13_46, i_X11_piece.1, i_X11_piece.2⟩ ⟨by decide, rfl⟩ (congrArg Prod.fst (I.1.1.1 31 (11, 13) rfl)) rfl (by decide) rfl rfl ⟨by omega, by omega⟩ (sf_X11_piece_r31d dy_k I.1 rfl (fun v6 h5 J7 S8 p9 p10 => ?_))
  obtain ⟨I, r11⟩ := li_x I J7 S8 rfl (rx_m I.2.2.2.2.2 S8 rfl)
  have cr11 := cn_e r11
  show jX m_L_law 1300 600000 7302250 581 [(3, .int l3), (2, .ref 125), (1, .ref 31), (0, .ref 0)] [.int v6] h5 (k + 0) (n + 0) Q
  refine x_aloadn (x := 125) rfl rfl ?_
  refine x_aloadn (x := 0) rfl rfl ?_
  refine x_iloadn (x := l3) rfl rfl ?_
  refine x_iconst (v := 1) rfl ki_1 ?_
  refine z_iadd rfl rfl jk_1 (by omega) (fun w12 ew12 => ?_)
  refine y_iald (v := xs (l3.toNatClampNeg + 1)) (N := L) (l3.toNatClampNeg + 1) rfl I.2.2.2.1 (vpi (by omega)) (jcl_j (by omega) y.1) (I.2.2.2.2.1 _) ?_
  refine x_aloadn (x := 0) rfl rfl ?_
  refine x_iloadn (x := l3) rfl rfl ?_
  refine x_iconst (v := 2) rfl ki_2 ?_
  refine z_iadd rfl rfl jk_2 (by omega) (fun w13 ew13 => ?_)
  refine y_iald (v := xs (l3.toNatClampNeg + 2)) (N := L) (l3.toNatClampNeg + 2) rfl I.2.2.2.1 (vpi (by omega)) (jcl_j (by omega) y.1) (I.2.2.2.2.1 _) ?_
  refine x_aloadn (x := 0) rfl rfl ?_
  refine x_iloadn (x := l3) rfl rfl ?_
  refine x_iconst (v := 3) rfl ki_3 ?_
  refine z_iadd rfl rfl jk_3 (by omega) (fun w14 ew14 => ?_)
  refine y_iald (v := xs (l3.toNatClampNeg + 3)) (N := L) (l3.toNatClampNeg + 3) rfl I.2.2.2.1 (vpi (by omega)) (jcl_j (by omega) y.1) (I.2.2.2.2.1 _) ?_
  refine x_aloadn (x := 0) rfl rfl ?_
  refine x_iloadn (x := l3) rfl rfl ?_
  refine x_iconst (v := 4) rfl ki_4 ?_
  refine z_iadd rfl rfl jk_4 (by omega) (fun w15 ew15 => ?_)
  refine y_iald (v := xs (l3.toNatClampNeg + 4)) (N := L) (l3.toNatClampNeg + 4) rfl I.2.2.2.1 (vpi (by omega)) (jcl_j (by omega) y.1) (I.2.2.2.2.1 _) ?_
  refine x_inv (N := m_X12_piece) (As := [.int (xs (l3.toNatClampNeg + 1)), .int (xs (l3.toNatClampNeg + 2)), .int (xs (l3.toNatClampNeg + 3)), .int (xs (l3.toNatClampNeg + 4))]) (b := 125) (st := [.int v6]) (dx9 := 4) (mc := 0) (ms := 0) (host := "") 12 rfl t_X12_piece ⟨Or.inl q_13_50, i_X12_piece.1, i_X12_piece.2⟩ ⟨by decide, rfl⟩ (congrArg Prod.fst (I.1.1.1 125 (12, 92) rfl)) rfl (by decide) rfl rfl ⟨by omega, by omega⟩ (sf_X12_piece_r125d dy_k (li_jm I) rfl (fun v17 h16 J18 S19 p20 p21 => ?_))
  obtain ⟨I, r22⟩ := li_m I J18 S19 rfl (rr_m I.2.2.1 S19 rfl)
  have cr22 := cn_e r22
  have g := g_piece (xs (l3.toNatClampNeg + 1)).toInt (xs (l3.toNatClampNeg + 2)).toInt (xs (l3.toNatClampNeg + 3)).toInt (xs (l3.toNatClampNeg + 4)).toInt V
  rw [p10] at p20 p21
  have ee : (v6 : Int32).toInt = (v17 : Int32).toInt := p9.symm.trans (g.1.trans p20)
  have V : pR ((it : Int) + 1 + 1) (vw h16) (vw h16) := by rw [← p21]; exact g.2
  show jX m_L_law 1300 600000 7302250 605 [(3, .int l3), (2, .ref 125), (1, .ref 31), (0, .ref 0)] [.int v17, .int v6] h16 (k + 0 + 0) (n + 0 + 0) Q
  refine x_iceq (tgt := 2887) rfl rfl (br_t (Int32.toInt_inj.mp ee) ?_)
  exact law_next (it := it) (by omega) ⟨I, by rw [show (((it + 1 : Nat) : Int) + 1) = (it : Int) + 1 + 1 from by omega]; exact V⟩ ⟨by omega, by have := R.2.1; omega, by have := R.2.2; omega⟩ kk
set_option maxRecDepth 100000 in
set_option maxHeartbeats 4000000 in
theorem cs_terms {L it : Nat} {xs : Nat → Int32} {h : jH} {k n : Nat} {l3 : Int32} {Q : Option Value → jH → Prop} (hL : L ≤ 3584) (y : 0 ≤ l3.toInt ∧ l3.toInt + 7 ≤ (L : Int)) (hit : it < 512) (I : jLi L xs h) (V : pR ((it : Int) + 1) (vw h) (vw h)) (R : jRoom it h k n) (kk : ∀ (l : Int32) h k n, l.toInt = l3.toInt + 7 → jLw L xs (it + 1) h → jRoom (it + 1) h k n → jX m_L_law 1300 600000 7302250 18 [(3, .int l), (2, .ref 125), (1, .ref 31), (0, .ref 0)] [] h k n Q) : jX m_L_law 1300 600000 7302250 610 [(3, .int l3), (2, .ref 125), (1, .ref 31), (0, .ref 0)] [] h k n Q := by
  refine x_aloadn (x := 31) rfl rfl ?_
  refine x_aloadn (x := 0) rfl rfl ?_
  refine x_iloadn (x := l3) rfl rfl ?_
  refine x_iconst (v := 1) rfl ki_1 ?_
  refine z_iadd rfl rfl jk_1 (by omega) (fun w1 ew1 => ?_)
  refine y_iald (v := xs (l3.toNatClampNeg + 1)) (N := L) (l3.toNatClampNeg + 1) rfl I.2.2.2.1 (vpi (by omega)) (jcl_j (by omega) y.1) (I.2.2.2.2.1 _) ?_
  refine x_aloadn (x := 0) rfl rfl ?_
  refine x_iloadn (x := l3) rfl rfl ?_
  refine x_iconst (v := 2) rfl ki_2 ?_
  refine z_iadd rfl rfl jk_2 (by omega) (fun w2 ew2 => ?_)
  refine y_iald (v := xs (l3.toNatClampNeg + 2)) (N := L) (l3.toNatClampNeg + 2) rfl I.2.2.2.1 (vpi (by omega)) (jcl_j (by omega) y.1) (I.2.2.2.2.1 _) ?_
  refine x_aloadn (x := 0) rfl rfl ?_
  refine x_iloadn (x := l3) rfl rfl ?_
  refine x_iconst (v := 3) rfl ki_3 ?_
  refine z_iadd rfl rfl jk_3 (by omega) (fun w3 ew3 => ?_)
  refine y_iald (v := xs (l3.toNatClampNeg + 3)) (N := L) (l3.toNatClampNeg + 3) rfl I.2.2.2.1 (vpi (by omega)) (jcl_j (by omega) y.1) (I.2.2.2.2.1 _) ?_
  refine x_aloadn (x := 0) rfl rfl ?_
  refine x_iloadn (x := l3) rfl rfl ?_
  refine x_iconst (v := 4) rfl ki_4 ?_
  refine z_iadd rfl rfl jk_4 (by omega) (fun w4 ew4 => ?_)
  refine y_iald (v := xs (l3.toNatClampNeg + 4)) (N := L) (l3.toNatClampNeg + 4) rfl I.2.2.2.1 (vpi (by omega)) (jcl_j (by omega) y.1) (I.2.2.2.2.1 _) ?_
  refine x_aloadn (x := 0) rfl rfl ?_
  refine x_iloadn (x := l3) rfl rfl ?_
  refine x_iconst (v := 5) rfl ki_5 ?_
  refine z_iadd rfl rfl jk_5 (by omega) (fun w5 ew5 => ?_)
  refine y_iald (v := xs (l3.toNatClampNeg + 5)) (N := L) (l3.toNatClampNeg + 5) rfl I.2.2.2.1 (vpi (by omega)) (jcl_j (by omega) y.1) (I.2.2.2.2.1 _) ?_
  have rm := rm_0 R
  have D := I.1.2.2.2.1
  refine x_inv (N := m_X11_terms) (As := [.int (xs (l3.toNatClampNeg + 1)), .int (xs (l3.toNatClampNeg + 2)), .int (xs (l3.toNatClampNeg + 3)), .int (xs (l3.toNatClampNeg + 4)), .int (xs (l3.toNatClampNeg + 5))]) (b := 31) (st := []) (dx9 := 2) (mc := 0) (ms := 0) (host := "") 11 rfl t_X11_terms ⟨Or.inl q_13_51, i_X11_terms.1, i_X11_terms.2⟩ ⟨by decide, rfl⟩ (congrArg Prod.fst (I.1.1.1 31 (11, 13) rfl)) rfl (by decide) rfl rfl ⟨by omega, by omega⟩ (sf_X11_terms_r31d dy_k I.1 rfl (fun v7 h6 p8 J9 S10 p11 p12 => ?_))
  obtain ⟨I, r13⟩ := li_x I J9 S10 rfl (rx_m I.2.2.2.2.2 S10 rfl)
  have cr13 := cn_e r13
  show jX m_L_law 1300 600000 7302250 639 [(3, .int l3), (2, .ref 125), (1, .ref 31), (0, .ref 0)] [.int v7] h6 (k + 0) (n + 0) Q
  refine x_aloadn (x := 125) rfl rfl ?_
  refine x_aloadn (x := 0) rfl rfl ?_
  refine x_iloadn (x := l3) rfl rfl ?_
  refine x_iconst (v := 1) rfl ki_1 ?_
  refine z_iadd rfl rfl jk_1 (by omega) (fun w14 ew14 => ?_)
  refine y_iald (v := xs (l3.toNatClampNeg + 1)) (N := L) (l3.toNatClampNeg + 1) rfl I.2.2.2.1 (vpi (by omega)) (jcl_j (by omega) y.1) (I.2.2.2.2.1 _) ?_
  refine x_aloadn (x := 0) rfl rfl ?_
  refine x_iloadn (x := l3) rfl rfl ?_
  refine x_iconst (v := 2) rfl ki_2 ?_
  refine z_iadd rfl rfl jk_2 (by omega) (fun w15 ew15 => ?_)
  refine y_iald (v := xs (l3.toNatClampNeg + 2)) (N := L) (l3.toNatClampNeg + 2) rfl I.2.2.2.1 (vpi (by omega)) (jcl_j (by omega) y.1) (I.2.2.2.2.1 _) ?_
  refine x_aloadn (x := 0) rfl rfl ?_
  refine x_iloadn (x := l3) rfl rfl ?_
  refine x_iconst (v := 3) rfl ki_3 ?_
  refine z_iadd rfl rfl jk_3 (by omega) (fun w16 ew16 => ?_)
  refine y_iald (v := xs (l3.toNatClampNeg + 3)) (N := L) (l3.toNatClampNeg + 3) rfl I.2.2.2.1 (vpi (by omega)) (jcl_j (by omega) y.1) (I.2.2.2.2.1 _) ?_
  refine x_aloadn (x := 0) rfl rfl ?_
  refine x_iloadn (x := l3) rfl rfl ?_
  refine x_iconst (v := 4) rfl ki_4 ?_
  refine z_iadd rfl rfl jk_4 (by omega) (fun w17 ew17 => ?_)
  refine y_iald (v := xs (l3.toNatClampNeg + 4)) (N := L) (l3.toNatClampNeg + 4) rfl I.2.2.2.1 (vpi (by omega)) (jcl_j (by omega) y.1) (I.2.2.2.2.1 _) ?_
  refine x_aloadn (x := 0) rfl rfl ?_
  refine x_iloadn (x := l3) rfl rfl ?_
  refine x_iconst (v := 5) rfl ki_5 ?_
  refine z_iadd rfl rfl jk_5 (by omega) (fun w18 ew18 => ?_)
  refine y_iald (v := xs (l3.toNatClampNeg + 5)) (N := L) (l3.toNatClampNeg + 5) rfl I.2.2.2.1 (vpi (by omega)) (jcl_j (by omega) y.1) (I.2.2.2.2.1 _) ?_
  refine x_inv (N := m_X12_terms) (As := [.int (xs (l3.toNatClampNeg + 1)), .int (xs (l3.toNatClampNeg + 2)), .int (xs (l3.toNatClampNeg + 3)), .int (xs (l3.toNatClampNeg + 4)), .int (xs (l3.toNatClampNeg + 5))]) (b := 125) (st := [.int v7]) (dx9 := 2) (mc := 0) (ms := 0) (host := "") 12 rfl t_X12_terms ⟨Or.inl q_13_54, i_X12_terms.1, i_X12_terms.2⟩ ⟨by decide, rfl⟩ (congrArg Prod.fst (I.1.1.1 125 (12, 92) rfl)) rfl (by decide) rfl rfl ⟨by omega, by omega⟩ (sf_X12_terms_r125d dy_k (li_jm I) rfl (fun v20 h19 J21 S22 p23 p24 => ?_))
  obtain ⟨I, r25⟩ := li_m I J21 S22 rfl (rr_m I.2.2.1 S22 rfl)
  have cr25 := cn_e r25
  have g := g_terms (xs (l3.toNatClampNeg + 1)).toInt (xs (l3.toNatClampNeg + 2)).toInt (xs (l3.toNatClampNeg + 3)).toInt (xs (l3.toNatClampNeg + 4)).toInt (xs (l3.toNatClampNeg + 5)).toInt V (by omega)
  rw [p12] at g
  have ee : (v7 : Int32).toInt = (v20 : Int32).toInt := p11.symm.trans (g.1.trans p23)
  have V : pR ((it : Int) + 1 + 1) (vw h19) (vw h19) := by rw [← p24]; exact g.2
  show jX m_L_law 1300 600000 7302250 668 [(3, .int l3), (2, .ref 125), (1, .ref 31), (0, .ref 0)] [.int v20, .int v7] h19 (k + 0 + 0) (n + 0 + 0) Q
  refine x_iceq (tgt := 2887) rfl rfl (br_t (Int32.toInt_inj.mp ee) ?_)
  exact law_next (it := it) (by omega) ⟨I, by rw [show (((it + 1 : Nat) : Int) + 1) = (it : Int) + 1 + 1 from by omega]; exact V⟩ ⟨by omega, by have := R.2.1; omega, by have := R.2.2; omega⟩ kk
set_option maxRecDepth 100000 in
set_option maxHeartbeats 4000000 in
theorem cs_reason {L it : Nat} {xs : Nat → Int32} {h : jH} {k n : Nat} {l3 : Int32} {Q : Option Value → jH → Prop} (hL : L ≤ 3584) (y : 0 ≤ l3.toInt ∧ l3.toInt + 7 ≤ (L : Int)) (hit : it < 512) (I : jLi L xs h) (V : pR ((it : Int) + 1) (vw h) (vw h)) (R : jRoom it h k n) (kk : ∀ (l : Int32) h k n, l.toInt = l3.toInt + 7 → jLw L xs (it + 1) h → jRoom (it + 1) h k n → jX m_L_law 1300 600000 7302250 18 [(3, .int l), (2, .ref 125), (1, .ref 31), (0, .ref 0)] [] h k n Q) : jX m_L_law 1300 600000 7302250 673 [(3, .int l3), (2, .ref 125), (1, .ref 31), (0, .ref 0)] [] h k n Q := by
  refine x_aloadn (x := 31) rfl rfl ?_
  refine x_aloadn (x := 0) rfl rfl ?_
  refine x_iloadn (x := l3) rfl rfl ?_
  refine x_iconst (v := 1) rfl ki_1 ?_
  refine z_iadd rfl rfl jk_1 (by omega) (fun w1 ew1 => ?_)
  refine y_iald (v := xs (l3.toNatClampNeg + 1)) (N := L) (l3.toNatClampNeg + 1) rfl I.2.2.2.1 (vpi (by omega)) (jcl_j (by omega) y.1) (I.2.2.2.2.1 _) ?_
  refine x_aloadn (x := 0) rfl rfl ?_
  refine x_iloadn (x := l3) rfl rfl ?_
  refine x_iconst (v := 2) rfl ki_2 ?_
  refine z_iadd rfl rfl jk_2 (by omega) (fun w2 ew2 => ?_)
  refine y_iald (v := xs (l3.toNatClampNeg + 2)) (N := L) (l3.toNatClampNeg + 2) rfl I.2.2.2.1 (vpi (by omega)) (jcl_j (by omega) y.1) (I.2.2.2.2.1 _) ?_
  have rm := rm_0 R
  have D := I.1.2.2.2.1
  refine x_inv (N := m_X11_reason) (As := [.int (xs (l3.toNatClampNeg + 1)), .int (xs (l3.toNatClampNeg + 2))]) (b := 31) (st := []) (dx9 := 4) (mc := 0) (ms := 0) (host := "") 11 rfl t_X11_reason ⟨Or.inl q_13_55, i_X11_reason.1, i_X11_reason.2⟩ ⟨by decide, rfl⟩ (congrArg Prod.fst (I.1.1.1 31 (11, 13) rfl)) rfl (by decide) rfl rfl ⟨by omega, by omega⟩ (sf_X11_reason_r31d dy_k I.1 rfl (fun v4 h3 p5 J6 S7 p8 p9 => ?_))
  obtain ⟨I, r10⟩ := li_x I J6 S7 rfl (rx_m I.2.2.2.2.2 S7 rfl)
  have cr10 := cn_e r10
  show jX m_L_law 1300 600000 7302250 687 [(3, .int l3), (2, .ref 125), (1, .ref 31), (0, .ref 0)] [.int v4] h3 (k + 0) (n + 0) Q
  refine x_aloadn (x := 125) rfl rfl ?_
  refine x_aloadn (x := 0) rfl rfl ?_
  refine x_iloadn (x := l3) rfl rfl ?_
  refine x_iconst (v := 1) rfl ki_1 ?_
  refine z_iadd rfl rfl jk_1 (by omega) (fun w11 ew11 => ?_)
  refine y_iald (v := xs (l3.toNatClampNeg + 1)) (N := L) (l3.toNatClampNeg + 1) rfl I.2.2.2.1 (vpi (by omega)) (jcl_j (by omega) y.1) (I.2.2.2.2.1 _) ?_
  refine x_aloadn (x := 0) rfl rfl ?_
  refine x_iloadn (x := l3) rfl rfl ?_
  refine x_iconst (v := 2) rfl ki_2 ?_
  refine z_iadd rfl rfl jk_2 (by omega) (fun w12 ew12 => ?_)
  refine y_iald (v := xs (l3.toNatClampNeg + 2)) (N := L) (l3.toNatClampNeg + 2) rfl I.2.2.2.1 (vpi (by omega)) (jcl_j (by omega) y.1) (I.2.2.2.2.1 _) ?_
  refine x_inv (N := m_X12_reason) (As := [.int (xs (l3.toNatClampNeg + 1)), .int (xs (l3.toNatClampNeg + 2))]) (b := 125) (st := [.int v4]) (dx9 := 7) (mc := 0) (ms := 0) (host := "") 12 rfl t_X12_reason ⟨Or.inl q_13_58, i_X12_reason.1, i_X12_reason.2⟩ ⟨by decide, rfl⟩ (congrArg Prod.fst (I.1.1.1 125 (12, 92) rfl)) rfl (by decide) rfl rfl ⟨by omega, by omega⟩ (sf_X12_reason_r125d dy_k (li_jm I) rfl (fun v14 h13 p15 J16 S17 p18 p19 => ?_))
  obtain ⟨I, r20⟩ := li_m I J16 S17 rfl (rr_m I.2.2.1 S17 rfl)
  have cr20 := cn_e r20
  have g := g_reason (xs (l3.toNatClampNeg + 1)).toInt (xs (l3.toNatClampNeg + 2)).toInt V
  rw [p9] at p18 p19
  have ee : (v4 : Int32).toInt = (v14 : Int32).toInt := p8.symm.trans (g.1.trans p18)
  have V : pR ((it : Int) + 1 + 1) (vw h13) (vw h13) := by rw [← p19]; exact g.2
  show jX m_L_law 1300 600000 7302250 701 [(3, .int l3), (2, .ref 125), (1, .ref 31), (0, .ref 0)] [.int v14, .int v4] h13 (k + 0 + 0) (n + 0 + 0) Q
  refine x_iceq (tgt := 2887) rfl rfl (br_t (Int32.toInt_inj.mp ee) ?_)
  exact law_next (it := it) (by omega) ⟨I, by rw [show (((it + 1 : Nat) : Int) + 1) = (it : Int) + 1 + 1 from by omega]; exact V⟩ ⟨by omega, by have := R.2.1; omega, by have := R.2.2; omega⟩ kk
set_option maxRecDepth 100000 in
set_option maxHeartbeats 4000000 in
theorem cs_worth {L it : Nat} {xs : Nat → Int32} {h : jH} {k n : Nat} {l3 : Int32} {Q : Option Value → jH → Prop} (hL : L ≤ 3584) (y : 0 ≤ l3.toInt ∧ l3.toInt + 7 ≤ (L : Int)) (hit : it < 512) (I : jLi L xs h) (V : pR ((it : Int) + 1) (vw h) (vw h)) (R : jRoom it h k n) (kk : ∀ (l : Int32) h k n, l.toInt = l3.toInt + 7 → jLw L xs (it + 1) h → jRoom (it + 1) h k n → jX m_L_law 1300 600000 7302250 18 [(3, .int l), (2, .ref 125), (1, .ref 31), (0, .ref 0)] [] h k n Q) : jX m_L_law 1300 600000 7302250 706 [(3, .int l3), (2, .ref 125), (1, .ref 31), (0, .ref 0)] [] h k n Q := by
  refine x_aloadn (x := 31) rfl rfl ?_
  refine x_aloadn (x := 0) rfl rfl ?_
  refine x_iloadn (x := l3) rfl rfl ?_
  refine x_iconst (v := 1) rfl ki_1 ?_
  refine z_iadd rfl rfl jk_1 (by omega) (fun w1 ew1 => ?_)
  refine y_iald (v := xs (l3.toNatClampNeg + 1)) (N := L) (l3.toNatClampNeg + 1) rfl I.2.2.2.1 (vpi (by omega)) (jcl_j (by omega) y.1) (I.2.2.2.2.1 _) ?_
  refine x_aloadn (x := 0) rfl rfl ?_
  refine x_iloadn (x := l3) rfl rfl ?_
  refine x_iconst (v := 2) rfl ki_2 ?_
  refine z_iadd rfl rfl jk_2 (by omega) (fun w2 ew2 => ?_)
  refine y_iald (v := xs (l3.toNatClampNeg + 2)) (N := L) (l3.toNatClampNeg + 2) rfl I.2.2.2.1 (vpi (by omega)) (jcl_j (by omega) y.1) (I.2.2.2.2.1 _) ?_
  have rm := rm_0 R
  have D := I.1.2.2.2.1
  refine x_inv (N := m_X11_worth) (As := [.int (xs (l3.toNatClampNeg + 1)), .int (xs (l3.toNatClampNeg + 2))]) (b := 31) (st := []) (dx9 := 6) (mc := 0) (ms := 0) (host := "") 11 rfl t_X11_worth ⟨Or.inl q_13_59, i_X11_worth.1, i_X11_worth.2⟩ ⟨by decide, rfl⟩ (congrArg Prod.fst (I.1.1.1 31 (11, 13) rfl)) rfl (by decide) rfl rfl ⟨by omega, by omega⟩ (sf_X11_worth_r31d dy_k I.1 rfl (fun v4 h3 p5 J6 S7 p8 p9 => ?_))
  obtain ⟨I, r10⟩ := li_x I J6 S7 rfl (rx_m I.2.2.2.2.2 S7 rfl)
  have cr10 := cn_e r10
  show jX m_L_law 1300 600000 7302250 720 [(3, .int l3), (2, .ref 125), (1, .ref 31), (0, .ref 0)] [.int v4] h3 (k + 0) (n + 0) Q
  refine x_aloadn (x := 125) rfl rfl ?_
  refine x_aloadn (x := 0) rfl rfl ?_
  refine x_iloadn (x := l3) rfl rfl ?_
  refine x_iconst (v := 1) rfl ki_1 ?_
  refine z_iadd rfl rfl jk_1 (by omega) (fun w11 ew11 => ?_)
  refine y_iald (v := xs (l3.toNatClampNeg + 1)) (N := L) (l3.toNatClampNeg + 1) rfl I.2.2.2.1 (vpi (by omega)) (jcl_j (by omega) y.1) (I.2.2.2.2.1 _) ?_
  refine x_aloadn (x := 0) rfl rfl ?_
  refine x_iloadn (x := l3) rfl rfl ?_
  refine x_iconst (v := 2) rfl ki_2 ?_
  refine z_iadd rfl rfl jk_2 (by omega) (fun w12 ew12 => ?_)
  refine y_iald (v := xs (l3.toNatClampNeg + 2)) (N := L) (l3.toNatClampNeg + 2) rfl I.2.2.2.1 (vpi (by omega)) (jcl_j (by omega) y.1) (I.2.2.2.2.1 _) ?_
  refine x_inv (N := m_X12_worth) (As := [.int (xs (l3.toNatClampNeg + 1)), .int (xs (l3.toNatClampNeg + 2))]) (b := 125) (st := [.int v4]) (dx9 := 9) (mc := 0) (ms := 0) (host := "") 12 rfl t_X12_worth ⟨Or.inl q_13_62, i_X12_worth.1, i_X12_worth.2⟩ ⟨by decide, rfl⟩ (congrArg Prod.fst (I.1.1.1 125 (12, 92) rfl)) rfl (by decide) rfl rfl ⟨by omega, by omega⟩ (sf_X12_worth_r125d dy_k (li_jm I) rfl (fun v14 h13 p15 J16 S17 p18 p19 => ?_))
  obtain ⟨I, r20⟩ := li_m I J16 S17 rfl (rr_m I.2.2.1 S17 rfl)
  have cr20 := cn_e r20
  have g := g_worth (xs (l3.toNatClampNeg + 1)).toInt (xs (l3.toNatClampNeg + 2)).toInt V
  rw [p9] at p18 p19
  have ee : (v4 : Int32).toInt = (v14 : Int32).toInt := p8.symm.trans (g.1.trans p18)
  have V : pR ((it : Int) + 1 + 1) (vw h13) (vw h13) := by rw [← p19]; exact g.2
  show jX m_L_law 1300 600000 7302250 734 [(3, .int l3), (2, .ref 125), (1, .ref 31), (0, .ref 0)] [.int v14, .int v4] h13 (k + 0 + 0) (n + 0 + 0) Q
  refine x_iceq (tgt := 2887) rfl rfl (br_t (Int32.toInt_inj.mp ee) ?_)
  exact law_next (it := it) (by omega) ⟨I, by rw [show (((it + 1 : Nat) : Int) + 1) = (it : Int) + 1 + 1 from by omega]; exact V⟩ ⟨by omega, by have := R.2.1; omega, by have := R.2.2; omega⟩ kk
set_option maxRecDepth 100000 in
set_option maxHeartbeats 4000000 in
theorem cs_apart {L it : Nat} {xs : Nat → Int32} {h : jH} {k n : Nat} {l3 : Int32} {Q : Option Value → jH → Prop} (hL : L ≤ 3584) (y : 0 ≤ l3.toInt ∧ l3.toInt + 7 ≤ (L : Int)) (hit : it < 512) (I : jLi L xs h) (V : pR ((it : Int) + 1) (vw h) (vw h)) (R : jRoom it h k n) (kk : ∀ (l : Int32) h k n, l.toInt = l3.toInt + 7 → jLw L xs (it + 1) h → jRoom (it + 1) h k n → jX m_L_law 1300 600000 7302250 18 [(3, .int l), (2, .ref 125), (1, .ref 31), (0, .ref 0)] [] h k n Q) : jX m_L_law 1300 600000 7302250 739 [(3, .int l3), (2, .ref 125), (1, .ref 31), (0, .ref 0)] [] h k n Q := by
  refine x_aloadn (x := 31) rfl rfl ?_
  refine x_aloadn (x := 0) rfl rfl ?_
  refine x_iloadn (x := l3) rfl rfl ?_
  refine x_iconst (v := 1) rfl ki_1 ?_
  refine z_iadd rfl rfl jk_1 (by omega) (fun w1 ew1 => ?_)
  refine y_iald (v := xs (l3.toNatClampNeg + 1)) (N := L) (l3.toNatClampNeg + 1) rfl I.2.2.2.1 (vpi (by omega)) (jcl_j (by omega) y.1) (I.2.2.2.2.1 _) ?_
  refine x_aloadn (x := 0) rfl rfl ?_
  refine x_iloadn (x := l3) rfl rfl ?_
  refine x_iconst (v := 2) rfl ki_2 ?_
  refine z_iadd rfl rfl jk_2 (by omega) (fun w2 ew2 => ?_)
  refine y_iald (v := xs (l3.toNatClampNeg + 2)) (N := L) (l3.toNatClampNeg + 2) rfl I.2.2.2.1 (vpi (by omega)) (jcl_j (by omega) y.1) (I.2.2.2.2.1 _) ?_
  have rm := rm_0 R
  have D := I.1.2.2.2.1
  refine x_inv (N := m_X11_apart) (As := [.int (xs (l3.toNatClampNeg + 1)), .int (xs (l3.toNatClampNeg + 2))]) (b := 31) (st := []) (dx9 := 3) (mc := 0) (ms := 0) (host := "") 11 rfl t_X11_apart ⟨Or.inl q_13_63, i_X11_apart.1, i_X11_apart.2⟩ ⟨by decide, rfl⟩ (congrArg Prod.fst (I.1.1.1 31 (11, 13) rfl)) rfl (by decide) rfl rfl ⟨by omega, by omega⟩ (sf_X11_apart_r31d dy_k I.1 rfl (fun v4 h3 p5 J6 S7 p8 p9 => ?_))
  obtain ⟨I, r10⟩ := li_x I J6 S7 rfl (rx_m I.2.2.2.2.2 S7 rfl)
  have cr10 := cn_e r10
  show jX m_L_law 1300 600000 7302250 753 [(3, .int l3), (2, .ref 125), (1, .ref 31), (0, .ref 0)] [.int v4] h3 (k + 0) (n + 0) Q
  refine x_aloadn (x := 125) rfl rfl ?_
  refine x_aloadn (x := 0) rfl rfl ?_
  refine x_iloadn (x := l3) rfl rfl ?_
  refine x_iconst (v := 1) rfl ki_1 ?_
  refine z_iadd rfl rfl jk_1 (by omega) (fun w11 ew11 => ?_)
  refine y_iald (v := xs (l3.toNatClampNeg + 1)) (N := L) (l3.toNatClampNeg + 1) rfl I.2.2.2.1 (vpi (by omega)) (jcl_j (by omega) y.1) (I.2.2.2.2.1 _) ?_
  refine x_aloadn (x := 0) rfl rfl ?_
  refine x_iloadn (x := l3) rfl rfl ?_
  refine x_iconst (v := 2) rfl ki_2 ?_
  refine z_iadd rfl rfl jk_2 (by omega) (fun w12 ew12 => ?_)
  refine y_iald (v := xs (l3.toNatClampNeg + 2)) (N := L) (l3.toNatClampNeg + 2) rfl I.2.2.2.1 (vpi (by omega)) (jcl_j (by omega) y.1) (I.2.2.2.2.1 _) ?_
  refine x_inv (N := m_X12_apart) (As := [.int (xs (l3.toNatClampNeg + 1)), .int (xs (l3.toNatClampNeg + 2))]) (b := 125) (st := [.int v4]) (dx9 := 4) (mc := 0) (ms := 0) (host := "") 12 rfl t_X12_apart ⟨Or.inl q_13_66, i_X12_apart.1, i_X12_apart.2⟩ ⟨by decide, rfl⟩ (congrArg Prod.fst (I.1.1.1 125 (12, 92) rfl)) rfl (by decide) rfl rfl ⟨by omega, by omega⟩ (sf_X12_apart_r125d dy_k (li_jm I) rfl (fun v14 h13 J15 S16 p17 p18 => ?_))
  obtain ⟨I, r19⟩ := li_m I J15 S16 rfl (rr_m I.2.2.1 S16 rfl)
  have cr19 := cn_e r19
  have g := g_apart (xs (l3.toNatClampNeg + 1)).toInt (xs (l3.toNatClampNeg + 2)).toInt V (by omega)
  rw [p9] at g
  have ee : (v4 : Int32).toInt = (v14 : Int32).toInt := p8.symm.trans (g.1.trans p17)
  have V : pR ((it : Int) + 1 + 1) (vw h13) (vw h13) := by rw [← p18]; exact g.2
  show jX m_L_law 1300 600000 7302250 767 [(3, .int l3), (2, .ref 125), (1, .ref 31), (0, .ref 0)] [.int v14, .int v4] h13 (k + 0 + 0) (n + 0 + 0) Q
  refine x_iceq (tgt := 2887) rfl rfl (br_t (Int32.toInt_inj.mp ee) ?_)
  exact law_next (it := it) (by omega) ⟨I, by rw [show (((it + 1 : Nat) : Int) + 1) = (it : Int) + 1 + 1 from by omega]; exact V⟩ ⟨by omega, by have := R.2.1; omega, by have := R.2.2; omega⟩ kk
set_option maxRecDepth 100000 in
set_option maxHeartbeats 4000000 in
theorem cs_together {L it : Nat} {xs : Nat → Int32} {h : jH} {k n : Nat} {l3 : Int32} {Q : Option Value → jH → Prop} (hL : L ≤ 3584) (y : 0 ≤ l3.toInt ∧ l3.toInt + 7 ≤ (L : Int)) (hit : it < 512) (I : jLi L xs h) (V : pR ((it : Int) + 1) (vw h) (vw h)) (R : jRoom it h k n) (kk : ∀ (l : Int32) h k n, l.toInt = l3.toInt + 7 → jLw L xs (it + 1) h → jRoom (it + 1) h k n → jX m_L_law 1300 600000 7302250 18 [(3, .int l), (2, .ref 125), (1, .ref 31), (0, .ref 0)] [] h k n Q) : jX m_L_law 1300 600000 7302250 772 [(3, .int l3), (2, .ref 125), (1, .ref 31), (0, .ref 0)] [] h k n Q := by
  refine x_aloadn (x := 31) rfl rfl ?_
  refine x_aloadn (x := 0) rfl rfl ?_
  refine x_iloadn (x := l3) rfl rfl ?_
  refine x_iconst (v := 1) rfl ki_1 ?_
  refine z_iadd rfl rfl jk_1 (by omega) (fun w1 ew1 => ?_)
  refine y_iald (v := xs (l3.toNatClampNeg + 1)) (N := L) (l3.toNatClampNeg + 1) rfl I.2.2.2.1 (vpi (by omega)) (jcl_j (by omega) y.1) (I.2.2.2.2.1 _) ?_
  refine x_aloadn (x := 0) rfl rfl ?_
  refine x_iloadn (x := l3) rfl rfl ?_
  refine x_iconst (v := 2) rfl ki_2 ?_
  refine z_iadd rfl rfl jk_2 (by omega) (fun w2 ew2 => ?_)
  refine y_iald (v := xs (l3.toNatClampNeg + 2)) (N := L) (l3.toNatClampNeg + 2) rfl I.2.2.2.1 (vpi (by omega)) (jcl_j (by omega) y.1) (I.2.2.2.2.1 _) ?_
  refine x_aloadn (x := 0) rfl rfl ?_
  refine x_iloadn (x := l3) rfl rfl ?_
  refine x_iconst (v := 3) rfl ki_3 ?_
  refine z_iadd rfl rfl jk_3 (by omega) (fun w3 ew3 => ?_)
  refine y_iald (v := xs (l3.toNatClampNeg + 3)) (N := L) (l3.toNatClampNeg + 3) rfl I.2.2.2.1 (vpi (by omega)) (jcl_j (by omega) y.1) (I.2.2.2.2.1 _) ?_
  have rm := rm_0 R
  have D := I.1.2.2.2.1
  refine x_inv (N := m_X11_together) (As := [.int (xs (l3.toNatClampNeg + 1)), .int (xs (l3.toNatClampNeg + 2)), .int (xs (l3.toNatClampNeg + 3))]) (b := 31) (st := []) (dx9 := 8) (mc := 0) (ms := 0) (host := "") 11 rfl t_X11_together ⟨Or.inl q_13_67, i_X11_together.1, i_X11_together.2⟩ ⟨by decide, rfl⟩ (congrArg Prod.fst (I.1.1.1 31 (11, 13) rfl)) rfl (by decide) rfl rfl ⟨by omega, by omega⟩ (sf_X11_together_r31d dy_k I.1 rfl (fun v5 h4 p6 J7 S8 p9 p10 => ?_))
  obtain ⟨I, r11⟩ := li_x I J7 S8 rfl (rx_m I.2.2.2.2.2 S8 rfl)
  have cr11 := cn_e r11
  show jX m_L_law 1300 600000 7302250 791 [(3, .int l3), (2, .ref 125), (1, .ref 31), (0, .ref 0)] [.int v5] h4 (k + 0) (n + 0) Q
  refine x_aloadn (x := 125) rfl rfl ?_
  refine x_aloadn (x := 0) rfl rfl ?_
  refine x_iloadn (x := l3) rfl rfl ?_
  refine x_iconst (v := 1) rfl ki_1 ?_
  refine z_iadd rfl rfl jk_1 (by omega) (fun w12 ew12 => ?_)
  refine y_iald (v := xs (l3.toNatClampNeg + 1)) (N := L) (l3.toNatClampNeg + 1) rfl I.2.2.2.1 (vpi (by omega)) (jcl_j (by omega) y.1) (I.2.2.2.2.1 _) ?_
  refine x_aloadn (x := 0) rfl rfl ?_
  refine x_iloadn (x := l3) rfl rfl ?_
  refine x_iconst (v := 2) rfl ki_2 ?_
  refine z_iadd rfl rfl jk_2 (by omega) (fun w13 ew13 => ?_)
  refine y_iald (v := xs (l3.toNatClampNeg + 2)) (N := L) (l3.toNatClampNeg + 2) rfl I.2.2.2.1 (vpi (by omega)) (jcl_j (by omega) y.1) (I.2.2.2.2.1 _) ?_
  refine x_aloadn (x := 0) rfl rfl ?_
  refine x_iloadn (x := l3) rfl rfl ?_
  refine x_iconst (v := 3) rfl ki_3 ?_
  refine z_iadd rfl rfl jk_3 (by omega) (fun w14 ew14 => ?_)
  refine y_iald (v := xs (l3.toNatClampNeg + 3)) (N := L) (l3.toNatClampNeg + 3) rfl I.2.2.2.1 (vpi (by omega)) (jcl_j (by omega) y.1) (I.2.2.2.2.1 _) ?_
  refine x_inv (N := m_X12_together) (As := [.int (xs (l3.toNatClampNeg + 1)), .int (xs (l3.toNatClampNeg + 2)), .int (xs (l3.toNatClampNeg + 3))]) (b := 125) (st := [.int v5]) (dx9 := 9) (mc := 0) (ms := 0) (host := "") 12 rfl t_X12_together ⟨Or.inl q_13_70, i_X12_together.1, i_X12_together.2⟩ ⟨by decide, rfl⟩ (congrArg Prod.fst (I.1.1.1 125 (12, 92) rfl)) rfl (by decide) rfl rfl ⟨by omega, by omega⟩ (sf_X12_together_r125d dy_k (li_jm I) rfl (fun v16 h15 J17 S18 p19 p20 => ?_))
  obtain ⟨I, r21⟩ := li_m I J17 S18 rfl (rr_m I.2.2.1 S18 rfl)
  have cr21 := cn_e r21
  have g := g_together (xs (l3.toNatClampNeg + 1)).toInt (xs (l3.toNatClampNeg + 2)).toInt (xs (l3.toNatClampNeg + 3)).toInt V (by omega)
  rw [p10] at g
  have ee : (v5 : Int32).toInt = (v16 : Int32).toInt := p9.symm.trans (g.1.trans p19)
  have V : pR ((it : Int) + 1 + 1) (vw h15) (vw h15) := by rw [← p20]; exact g.2
  show jX m_L_law 1300 600000 7302250 810 [(3, .int l3), (2, .ref 125), (1, .ref 31), (0, .ref 0)] [.int v16, .int v5] h15 (k + 0 + 0) (n + 0 + 0) Q
  refine x_iceq (tgt := 2887) rfl rfl (br_t (Int32.toInt_inj.mp ee) ?_)
  exact law_next (it := it) (by omega) ⟨I, by rw [show (((it + 1 : Nat) : Int) + 1) = (it : Int) + 1 + 1 from by omega]; exact V⟩ ⟨by omega, by have := R.2.1; omega, by have := R.2.2; omega⟩ kk
set_option maxRecDepth 100000 in
set_option maxHeartbeats 4000000 in
theorem cs_waits {L it : Nat} {xs : Nat → Int32} {h : jH} {k n : Nat} {l3 : Int32} {Q : Option Value → jH → Prop} (hL : L ≤ 3584) (y : 0 ≤ l3.toInt ∧ l3.toInt + 7 ≤ (L : Int)) (hit : it < 512) (I : jLi L xs h) (V : pR ((it : Int) + 1) (vw h) (vw h)) (R : jRoom it h k n) (kk : ∀ (l : Int32) h k n, l.toInt = l3.toInt + 7 → jLw L xs (it + 1) h → jRoom (it + 1) h k n → jX m_L_law 1300 600000 7302250 18 [(3, .int l), (2, .ref 125), (1, .ref 31), (0, .ref 0)] [] h k n Q) : jX m_L_law 1300 600000 7302250 815 [(3, .int l3), (2, .ref 125), (1, .ref 31), (0, .ref 0)] [] h k n Q := by
  refine x_aloadn (x := 31) rfl rfl ?_
  refine x_aloadn (x := 0) rfl rfl ?_
  refine x_iloadn (x := l3) rfl rfl ?_
  refine x_iconst (v := 1) rfl ki_1 ?_
  refine z_iadd rfl rfl jk_1 (by omega) (fun w1 ew1 => ?_)
  refine y_iald (v := xs (l3.toNatClampNeg + 1)) (N := L) (l3.toNatClampNeg + 1) rfl I.2.2.2.1 (vpi (by omega)) (jcl_j (by omega) y.1) (I.2.2.2.2.1 _) ?_
  refine x_aloadn (x := 0) rfl rfl ?_
  refine x_iloadn (x := l3) rfl rfl ?_
  refine x_iconst (v := 2) rfl ki_2 ?_
  refine z_iadd rfl rfl jk_2 (by omega) (fun w2 ew2 => ?_)
  refine y_iald (v := xs (l3.toNatClampNeg + 2)) (N := L) (l3.toNatClampNeg + 2) rfl I.2.2.2.1 (vpi (by omega)) (jcl_j (by omega) y.1) (I.2.2.2.2.1 _) ?_
  have rm := rm_0 R
  have D := I.1.2.2.2.1
  refine x_inv (N := m_X11_waits) (As := [.int (xs (l3.toNatClampNeg + 1)), .int (xs (l3.toNatClampNeg + 2))]) (b := 31) (st := []) (dx9 := 7) (mc := 0) (ms := 0) (host := "") 11 rfl t_X11_waits ⟨Or.inl q_13_71, i_X11_waits.1, i_X11_waits.2⟩ ⟨by decide, rfl⟩ (congrArg Prod.fst (I.1.1.1 31 (11, 13) rfl)) rfl (by decide) rfl rfl ⟨by omega, by omega⟩ (sf_X11_waits_r31d dy_k I.1 rfl (fun v4 h3 p5 J6 S7 p8 p9 => ?_))
  obtain ⟨I, r10⟩ := li_x I J6 S7 rfl (rx_m I.2.2.2.2.2 S7 rfl)
  have cr10 := cn_e r10
  show jX m_L_law 1300 600000 7302250 829 [(3, .int l3), (2, .ref 125), (1, .ref 31), (0, .ref 0)] [.int v4] h3 (k + 0) (n + 0) Q
  refine x_aloadn (x := 125) rfl rfl ?_
  refine x_aloadn (x := 0) rfl rfl ?_
  refine x_iloadn (x := l3) rfl rfl ?_
  refine x_iconst (v := 1) rfl ki_1 ?_
  refine z_iadd rfl rfl jk_1 (by omega) (fun w11 ew11 => ?_)
  refine y_iald (v := xs (l3.toNatClampNeg + 1)) (N := L) (l3.toNatClampNeg + 1) rfl I.2.2.2.1 (vpi (by omega)) (jcl_j (by omega) y.1) (I.2.2.2.2.1 _) ?_
  refine x_aloadn (x := 0) rfl rfl ?_
  refine x_iloadn (x := l3) rfl rfl ?_
  refine x_iconst (v := 2) rfl ki_2 ?_
  refine z_iadd rfl rfl jk_2 (by omega) (fun w12 ew12 => ?_)
  refine y_iald (v := xs (l3.toNatClampNeg + 2)) (N := L) (l3.toNatClampNeg + 2) rfl I.2.2.2.1 (vpi (by omega)) (jcl_j (by omega) y.1) (I.2.2.2.2.1 _) ?_
  refine x_inv (N := m_X12_waits) (As := [.int (xs (l3.toNatClampNeg + 1)), .int (xs (l3.toNatClampNeg + 2))]) (b := 125) (st := [.int v4]) (dx9 := 9) (mc := 0) (ms := 0) (host := "") 12 rfl t_X12_waits ⟨Or.inl q_13_74, i_X12_waits.1, i_X12_waits.2⟩ ⟨by decide, rfl⟩ (congrArg Prod.fst (I.1.1.1 125 (12, 92) rfl)) rfl (by decide) rfl rfl ⟨by omega, by omega⟩ (sf_X12_waits_r125d dy_k (li_jm I) rfl (fun v14 h13 p15 J16 S17 p18 p19 => ?_))
  obtain ⟨I, r20⟩ := li_m I J16 S17 rfl (rr_m I.2.2.1 S17 rfl)
  have cr20 := cn_e r20
  have g := g_waits (xs (l3.toNatClampNeg + 1)).toInt (xs (l3.toNatClampNeg + 2)).toInt V
  rw [p9] at g
  have ee : (v4 : Int32).toInt = (v14 : Int32).toInt := p8.symm.trans (g.1.trans p18)
  have V : pR ((it : Int) + 1 + 1) (vw h13) (vw h13) := by rw [← p19]; exact g.2
  show jX m_L_law 1300 600000 7302250 843 [(3, .int l3), (2, .ref 125), (1, .ref 31), (0, .ref 0)] [.int v14, .int v4] h13 (k + 0 + 0) (n + 0 + 0) Q
  refine x_iceq (tgt := 2887) rfl rfl (br_t (Int32.toInt_inj.mp ee) ?_)
  exact law_next (it := it) (by omega) ⟨I, by rw [show (((it + 1 : Nat) : Int) + 1) = (it : Int) + 1 + 1 from by omega]; exact V⟩ ⟨by omega, by have := R.2.1; omega, by have := R.2.2; omega⟩ kk
set_option maxRecDepth 100000 in
set_option maxHeartbeats 4000000 in
theorem cs_soul {L it : Nat} {xs : Nat → Int32} {h : jH} {k n : Nat} {l3 : Int32} {Q : Option Value → jH → Prop} (hL : L ≤ 3584) (y : 0 ≤ l3.toInt ∧ l3.toInt + 7 ≤ (L : Int)) (hit : it < 512) (I : jLi L xs h) (V : pR ((it : Int) + 1) (vw h) (vw h)) (R : jRoom it h k n) (kk : ∀ (l : Int32) h k n, l.toInt = l3.toInt + 7 → jLw L xs (it + 1) h → jRoom (it + 1) h k n → jX m_L_law 1300 600000 7302250 18 [(3, .int l), (2, .ref 125), (1, .ref 31), (0, .ref 0)] [] h k n Q) : jX m_L_law 1300 600000 7302250 848 [(3, .int l3), (2, .ref 125), (1, .ref 31), (0, .ref 0)] [] h k n Q := by
  refine x_aloadn (x := 31) rfl rfl ?_
  refine x_aloadn (x := 0) rfl rfl ?_
  refine x_iloadn (x := l3) rfl rfl ?_
  refine x_iconst (v := 1) rfl ki_1 ?_
  refine z_iadd rfl rfl jk_1 (by omega) (fun w1 ew1 => ?_)
  refine y_iald (v := xs (l3.toNatClampNeg + 1)) (N := L) (l3.toNatClampNeg + 1) rfl I.2.2.2.1 (vpi (by omega)) (jcl_j (by omega) y.1) (I.2.2.2.2.1 _) ?_
  refine x_aloadn (x := 0) rfl rfl ?_
  refine x_iloadn (x := l3) rfl rfl ?_
  refine x_iconst (v := 2) rfl ki_2 ?_
  refine z_iadd rfl rfl jk_2 (by omega) (fun w2 ew2 => ?_)
  refine y_iald (v := xs (l3.toNatClampNeg + 2)) (N := L) (l3.toNatClampNeg + 2) rfl I.2.2.2.1 (vpi (by omega)) (jcl_j (by omega) y.1) (I.2.2.2.2.1 _) ?_
  have rm := rm_0 R
  have D := I.1.2.2.2.1
  refine x_inv (N := m_X11_soul) (As := [.int (xs (l3.toNatClampNeg + 1)), .int (xs (l3.toNatClampNeg + 2))]) (b := 31) (st := []) (dx9 := 8) (mc := 0) (ms := 0) (host := "") 11 rfl t_X11_soul ⟨Or.inl q_13_75, i_X11_soul.1, i_X11_soul.2⟩ ⟨by decide, rfl⟩ (congrArg Prod.fst (I.1.1.1 31 (11, 13) rfl)) rfl (by decide) rfl rfl ⟨by omega, by omega⟩ (sf_X11_soul_r31d dy_k I.1 rfl (fun v4 h3 p5 J6 S7 p8 p9 => ?_))
  obtain ⟨I, r10⟩ := li_x I J6 S7 rfl (rx_m I.2.2.2.2.2 S7 rfl)
  have cr10 := cn_e r10
  show jX m_L_law 1300 600000 7302250 862 [(3, .int l3), (2, .ref 125), (1, .ref 31), (0, .ref 0)] [.int v4] h3 (k + 0) (n + 0) Q
  refine x_aloadn (x := 125) rfl rfl ?_
  refine x_aloadn (x := 0) rfl rfl ?_
  refine x_iloadn (x := l3) rfl rfl ?_
  refine x_iconst (v := 1) rfl ki_1 ?_
  refine z_iadd rfl rfl jk_1 (by omega) (fun w11 ew11 => ?_)
  refine y_iald (v := xs (l3.toNatClampNeg + 1)) (N := L) (l3.toNatClampNeg + 1) rfl I.2.2.2.1 (vpi (by omega)) (jcl_j (by omega) y.1) (I.2.2.2.2.1 _) ?_
  refine x_aloadn (x := 0) rfl rfl ?_
  refine x_iloadn (x := l3) rfl rfl ?_
  refine x_iconst (v := 2) rfl ki_2 ?_
  refine z_iadd rfl rfl jk_2 (by omega) (fun w12 ew12 => ?_)
  refine y_iald (v := xs (l3.toNatClampNeg + 2)) (N := L) (l3.toNatClampNeg + 2) rfl I.2.2.2.1 (vpi (by omega)) (jcl_j (by omega) y.1) (I.2.2.2.2.1 _) ?_
  refine x_inv (N := m_X12_soul) (As := [.int (xs (l3.toNatClampNeg + 1)), .int (xs (l3.toNatClampNeg + 2))]) (b := 125) (st := [.int v4]) (dx9 := 9) (mc := 0) (ms := 0) (host := "") 12 rfl t_X12_soul ⟨Or.inl q_13_78, i_X12_soul.1, i_X12_soul.2⟩ ⟨by decide, rfl⟩ (congrArg Prod.fst (I.1.1.1 125 (12, 92) rfl)) rfl (by decide) rfl rfl ⟨by omega, by omega⟩ (sf_X12_soul_r125d dy_k (li_jm I) rfl (fun v14 h13 p15 J16 S17 p18 p19 => ?_))
  obtain ⟨I, r20⟩ := li_m I J16 S17 rfl (rr_m I.2.2.1 S17 rfl)
  have cr20 := cn_e r20
  have g := g_soul (xs (l3.toNatClampNeg + 1)).toInt (xs (l3.toNatClampNeg + 2)).toInt V
  rw [p9] at g
  have ee : (v4 : Int32).toInt = (v14 : Int32).toInt := p8.symm.trans (g.1.trans p18)
  have V : pR ((it : Int) + 1 + 1) (vw h13) (vw h13) := by rw [← p19]; exact g.2
  show jX m_L_law 1300 600000 7302250 876 [(3, .int l3), (2, .ref 125), (1, .ref 31), (0, .ref 0)] [.int v14, .int v4] h13 (k + 0 + 0) (n + 0 + 0) Q
  refine x_iceq (tgt := 2887) rfl rfl (br_t (Int32.toInt_inj.mp ee) ?_)
  exact law_next (it := it) (by omega) ⟨I, by rw [show (((it + 1 : Nat) : Int) + 1) = (it : Int) + 1 + 1 from by omega]; exact V⟩ ⟨by omega, by have := R.2.1; omega, by have := R.2.2; omega⟩ kk
set_option maxRecDepth 100000 in
set_option maxHeartbeats 4000000 in
theorem cs_mentions {L it : Nat} {xs : Nat → Int32} {h : jH} {k n : Nat} {l3 : Int32} {Q : Option Value → jH → Prop} (hL : L ≤ 3584) (y : 0 ≤ l3.toInt ∧ l3.toInt + 7 ≤ (L : Int)) (hit : it < 512) (I : jLi L xs h) (V : pR ((it : Int) + 1) (vw h) (vw h)) (R : jRoom it h k n) (kk : ∀ (l : Int32) h k n, l.toInt = l3.toInt + 7 → jLw L xs (it + 1) h → jRoom (it + 1) h k n → jX m_L_law 1300 600000 7302250 18 [(3, .int l), (2, .ref 125), (1, .ref 31), (0, .ref 0)] [] h k n Q) : jX m_L_law 1300 600000 7302250 881 [(3, .int l3), (2, .ref 125), (1, .ref 31), (0, .ref 0)] [] h k n Q := by
  refine x_aloadn (x := 31) rfl rfl ?_
  refine x_aloadn (x := 0) rfl rfl ?_
  refine x_iloadn (x := l3) rfl rfl ?_
  refine x_iconst (v := 1) rfl ki_1 ?_
  refine z_iadd rfl rfl jk_1 (by omega) (fun w1 ew1 => ?_)
  refine y_iald (v := xs (l3.toNatClampNeg + 1)) (N := L) (l3.toNatClampNeg + 1) rfl I.2.2.2.1 (vpi (by omega)) (jcl_j (by omega) y.1) (I.2.2.2.2.1 _) ?_
  refine x_aloadn (x := 0) rfl rfl ?_
  refine x_iloadn (x := l3) rfl rfl ?_
  refine x_iconst (v := 2) rfl ki_2 ?_
  refine z_iadd rfl rfl jk_2 (by omega) (fun w2 ew2 => ?_)
  refine y_iald (v := xs (l3.toNatClampNeg + 2)) (N := L) (l3.toNatClampNeg + 2) rfl I.2.2.2.1 (vpi (by omega)) (jcl_j (by omega) y.1) (I.2.2.2.2.1 _) ?_
  refine x_aloadn (x := 0) rfl rfl ?_
  refine x_iloadn (x := l3) rfl rfl ?_
  refine x_iconst (v := 3) rfl ki_3 ?_
  refine z_iadd rfl rfl jk_3 (by omega) (fun w3 ew3 => ?_)
  refine y_iald (v := xs (l3.toNatClampNeg + 3)) (N := L) (l3.toNatClampNeg + 3) rfl I.2.2.2.1 (vpi (by omega)) (jcl_j (by omega) y.1) (I.2.2.2.2.1 _) ?_
  refine x_aloadn (x := 0) rfl rfl ?_
  refine x_iloadn (x := l3) rfl rfl ?_
  refine x_iconst (v := 4) rfl ki_4 ?_
  refine z_iadd rfl rfl jk_4 (by omega) (fun w4 ew4 => ?_)
  refine y_iald (v := xs (l3.toNatClampNeg + 4)) (N := L) (l3.toNatClampNeg + 4) rfl I.2.2.2.1 (vpi (by omega)) (jcl_j (by omega) y.1) (I.2.2.2.2.1 _) ?_
  have rm := rm_0 R
  have D := I.1.2.2.2.1
  refine x_inv (N := m_X11_mentions) (As := [.int (xs (l3.toNatClampNeg + 1)), .int (xs (l3.toNatClampNeg + 2)), .int (xs (l3.toNatClampNeg + 3)), .int (xs (l3.toNatClampNeg + 4))]) (b := 31) (st := []) (dx9 := 8) (mc := 0) (ms := 0) (host := "") 11 rfl t_X11_mentions ⟨Or.inl q_13_79, i_X11_mentions.1, i_X11_mentions.2⟩ ⟨by decide, rfl⟩ (congrArg Prod.fst (I.1.1.1 31 (11, 13) rfl)) rfl (by decide) rfl rfl ⟨by omega, by omega⟩ (sf_X11_mentions_r31d dy_k I.1 rfl (fun v6 h5 p7 J8 S9 p10 p11 => ?_))
  obtain ⟨I, r12⟩ := li_x I J8 S9 rfl (rx_m I.2.2.2.2.2 S9 rfl)
  have cr12 := cn_e r12
  show jX m_L_law 1300 600000 7302250 905 [(3, .int l3), (2, .ref 125), (1, .ref 31), (0, .ref 0)] [.int v6] h5 (k + 0) (n + 0) Q
  refine x_aloadn (x := 125) rfl rfl ?_
  refine x_aloadn (x := 0) rfl rfl ?_
  refine x_iloadn (x := l3) rfl rfl ?_
  refine x_iconst (v := 1) rfl ki_1 ?_
  refine z_iadd rfl rfl jk_1 (by omega) (fun w13 ew13 => ?_)
  refine y_iald (v := xs (l3.toNatClampNeg + 1)) (N := L) (l3.toNatClampNeg + 1) rfl I.2.2.2.1 (vpi (by omega)) (jcl_j (by omega) y.1) (I.2.2.2.2.1 _) ?_
  refine x_aloadn (x := 0) rfl rfl ?_
  refine x_iloadn (x := l3) rfl rfl ?_
  refine x_iconst (v := 2) rfl ki_2 ?_
  refine z_iadd rfl rfl jk_2 (by omega) (fun w14 ew14 => ?_)
  refine y_iald (v := xs (l3.toNatClampNeg + 2)) (N := L) (l3.toNatClampNeg + 2) rfl I.2.2.2.1 (vpi (by omega)) (jcl_j (by omega) y.1) (I.2.2.2.2.1 _) ?_
  refine x_aloadn (x := 0) rfl rfl ?_
  refine x_iloadn (x := l3) rfl rfl ?_
  refine x_iconst (v := 3) rfl ki_3 ?_
  refine z_iadd rfl rfl jk_3 (by omega) (fun w15 ew15 => ?_)
  refine y_iald (v := xs (l3.toNatClampNeg + 3)) (N := L) (l3.toNatClampNeg + 3) rfl I.2.2.2.1 (vpi (by omega)) (jcl_j (by omega) y.1) (I.2.2.2.2.1 _) ?_
  refine x_aloadn (x := 0) rfl rfl ?_
  refine x_iloadn (x := l3) rfl rfl ?_
  refine x_iconst (v := 4) rfl ki_4 ?_
  refine z_iadd rfl rfl jk_4 (by omega) (fun w16 ew16 => ?_)
  refine y_iald (v := xs (l3.toNatClampNeg + 4)) (N := L) (l3.toNatClampNeg + 4) rfl I.2.2.2.1 (vpi (by omega)) (jcl_j (by omega) y.1) (I.2.2.2.2.1 _) ?_
  refine x_inv (N := m_X12_mentions) (As := [.int (xs (l3.toNatClampNeg + 1)), .int (xs (l3.toNatClampNeg + 2)), .int (xs (l3.toNatClampNeg + 3)), .int (xs (l3.toNatClampNeg + 4))]) (b := 125) (st := [.int v6]) (dx9 := 10) (mc := 0) (ms := 0) (host := "") 12 rfl t_X12_mentions ⟨Or.inl q_13_82, i_X12_mentions.1, i_X12_mentions.2⟩ ⟨by decide, rfl⟩ (congrArg Prod.fst (I.1.1.1 125 (12, 92) rfl)) rfl (by decide) rfl rfl ⟨by omega, by omega⟩ (sf_X12_mentions_r125d dy_k (li_jm I) rfl (fun v18 h17 J19 S20 p21 p22 => ?_))
  obtain ⟨I, r23⟩ := li_m I J19 S20 rfl (rr_m I.2.2.1 S20 rfl)
  have cr23 := cn_e r23
  have g := g_mentions (xs (l3.toNatClampNeg + 1)).toInt (xs (l3.toNatClampNeg + 2)).toInt (xs (l3.toNatClampNeg + 3)).toInt (xs (l3.toNatClampNeg + 4)).toInt V
  rw [p11] at g
  have ee : (v6 : Int32).toInt = (v18 : Int32).toInt := p10.symm.trans (g.1.trans p21)
  have V : pR ((it : Int) + 1 + 1) (vw h17) (vw h17) := by rw [← p22]; exact g.2
  show jX m_L_law 1300 600000 7302250 929 [(3, .int l3), (2, .ref 125), (1, .ref 31), (0, .ref 0)] [.int v18, .int v6] h17 (k + 0 + 0) (n + 0 + 0) Q
  refine x_iceq (tgt := 2887) rfl rfl (br_t (Int32.toInt_inj.mp ee) ?_)
  exact law_next (it := it) (by omega) ⟨I, by rw [show (((it + 1 : Nat) : Int) + 1) = (it : Int) + 1 + 1 from by omega]; exact V⟩ ⟨by omega, by have := R.2.1; omega, by have := R.2.2; omega⟩ kk
set_option maxRecDepth 100000 in
set_option maxHeartbeats 4000000 in
theorem cs_kin {L it : Nat} {xs : Nat → Int32} {h : jH} {k n : Nat} {l3 : Int32} {Q : Option Value → jH → Prop} (hL : L ≤ 3584) (y : 0 ≤ l3.toInt ∧ l3.toInt + 7 ≤ (L : Int)) (hit : it < 512) (I : jLi L xs h) (V : pR ((it : Int) + 1) (vw h) (vw h)) (R : jRoom it h k n) (kk : ∀ (l : Int32) h k n, l.toInt = l3.toInt + 7 → jLw L xs (it + 1) h → jRoom (it + 1) h k n → jX m_L_law 1300 600000 7302250 18 [(3, .int l), (2, .ref 125), (1, .ref 31), (0, .ref 0)] [] h k n Q) : jX m_L_law 1300 600000 7302250 934 [(3, .int l3), (2, .ref 125), (1, .ref 31), (0, .ref 0)] [] h k n Q := by
  refine x_aloadn (x := 31) rfl rfl ?_
  refine x_aloadn (x := 0) rfl rfl ?_
  refine x_iloadn (x := l3) rfl rfl ?_
  refine x_iconst (v := 1) rfl ki_1 ?_
  refine z_iadd rfl rfl jk_1 (by omega) (fun w1 ew1 => ?_)
  refine y_iald (v := xs (l3.toNatClampNeg + 1)) (N := L) (l3.toNatClampNeg + 1) rfl I.2.2.2.1 (vpi (by omega)) (jcl_j (by omega) y.1) (I.2.2.2.2.1 _) ?_
  refine x_aloadn (x := 0) rfl rfl ?_
  refine x_iloadn (x := l3) rfl rfl ?_
  refine x_iconst (v := 2) rfl ki_2 ?_
  refine z_iadd rfl rfl jk_2 (by omega) (fun w2 ew2 => ?_)
  refine y_iald (v := xs (l3.toNatClampNeg + 2)) (N := L) (l3.toNatClampNeg + 2) rfl I.2.2.2.1 (vpi (by omega)) (jcl_j (by omega) y.1) (I.2.2.2.2.1 _) ?_
  refine x_aloadn (x := 0) rfl rfl ?_
  refine x_iloadn (x := l3) rfl rfl ?_
  refine x_iconst (v := 3) rfl ki_3 ?_
  refine z_iadd rfl rfl jk_3 (by omega) (fun w3 ew3 => ?_)
  refine y_iald (v := xs (l3.toNatClampNeg + 3)) (N := L) (l3.toNatClampNeg + 3) rfl I.2.2.2.1 (vpi (by omega)) (jcl_j (by omega) y.1) (I.2.2.2.2.1 _) ?_
  refine x_aloadn (x := 0) rfl rfl ?_
  refine x_iloadn (x := l3) rfl rfl ?_
  refine x_iconst (v := 4) rfl ki_4 ?_
  refine z_iadd rfl rfl jk_4 (by omega) (fun w4 ew4 => ?_)
  refine y_iald (v := xs (l3.toNatClampNeg + 4)) (N := L) (l3.toNatClampNeg + 4) rfl I.2.2.2.1 (vpi (by omega)) (jcl_j (by omega) y.1) (I.2.2.2.2.1 _) ?_
  have rm := rm_0 R
  have D := I.1.2.2.2.1
  refine x_inv (N := m_X11_kin) (As := [.int (xs (l3.toNatClampNeg + 1)), .int (xs (l3.toNatClampNeg + 2)), .int (xs (l3.toNatClampNeg + 3)), .int (xs (l3.toNatClampNeg + 4))]) (b := 31) (st := []) (dx9 := 8) (mc := 0) (ms := 0) (host := "") 11 rfl t_X11_kin ⟨Or.inl q_13_83, i_X11_kin.1, i_X11_kin.2⟩ ⟨by decide, rfl⟩ (congrArg Prod.fst (I.1.1.1 31 (11, 13) rfl)) rfl (by decide) rfl rfl ⟨by omega, by omega⟩ (sf_X11_kin_r31d dy_k I.1 rfl (fun v6 h5 p7 J8 S9 p10 p11 => ?_))
  obtain ⟨I, r12⟩ := li_x I J8 S9 rfl (rx_m I.2.2.2.2.2 S9 rfl)
  have cr12 := cn_e r12
  show jX m_L_law 1300 600000 7302250 958 [(3, .int l3), (2, .ref 125), (1, .ref 31), (0, .ref 0)] [.int v6] h5 (k + 0) (n + 0) Q
  refine x_aloadn (x := 125) rfl rfl ?_
  refine x_aloadn (x := 0) rfl rfl ?_
  refine x_iloadn (x := l3) rfl rfl ?_
  refine x_iconst (v := 1) rfl ki_1 ?_
  refine z_iadd rfl rfl jk_1 (by omega) (fun w13 ew13 => ?_)
  refine y_iald (v := xs (l3.toNatClampNeg + 1)) (N := L) (l3.toNatClampNeg + 1) rfl I.2.2.2.1 (vpi (by omega)) (jcl_j (by omega) y.1) (I.2.2.2.2.1 _) ?_
  refine x_aloadn (x := 0) rfl rfl ?_
  refine x_iloadn (x := l3) rfl rfl ?_
  refine x_iconst (v := 2) rfl ki_2 ?_
  refine z_iadd rfl rfl jk_2 (by omega) (fun w14 ew14 => ?_)
  refine y_iald (v := xs (l3.toNatClampNeg + 2)) (N := L) (l3.toNatClampNeg + 2) rfl I.2.2.2.1 (vpi (by omega)) (jcl_j (by omega) y.1) (I.2.2.2.2.1 _) ?_
  refine x_aloadn (x := 0) rfl rfl ?_
  refine x_iloadn (x := l3) rfl rfl ?_
  refine x_iconst (v := 3) rfl ki_3 ?_
  refine z_iadd rfl rfl jk_3 (by omega) (fun w15 ew15 => ?_)
  refine y_iald (v := xs (l3.toNatClampNeg + 3)) (N := L) (l3.toNatClampNeg + 3) rfl I.2.2.2.1 (vpi (by omega)) (jcl_j (by omega) y.1) (I.2.2.2.2.1 _) ?_
  refine x_aloadn (x := 0) rfl rfl ?_
  refine x_iloadn (x := l3) rfl rfl ?_
  refine x_iconst (v := 4) rfl ki_4 ?_
  refine z_iadd rfl rfl jk_4 (by omega) (fun w16 ew16 => ?_)
  refine y_iald (v := xs (l3.toNatClampNeg + 4)) (N := L) (l3.toNatClampNeg + 4) rfl I.2.2.2.1 (vpi (by omega)) (jcl_j (by omega) y.1) (I.2.2.2.2.1 _) ?_
  refine x_inv (N := m_X12_kin) (As := [.int (xs (l3.toNatClampNeg + 1)), .int (xs (l3.toNatClampNeg + 2)), .int (xs (l3.toNatClampNeg + 3)), .int (xs (l3.toNatClampNeg + 4))]) (b := 125) (st := [.int v6]) (dx9 := 10) (mc := 0) (ms := 0) (host := "") 12 rfl t_X12_kin ⟨Or.inl q_13_86, i_X12_kin.1, i_X12_kin.2⟩ ⟨by decide, rfl⟩ (congrArg Prod.fst (I.1.1.1 125 (12, 92) rfl)) rfl (by decide) rfl rfl ⟨by omega, by omega⟩ (sf_X12_kin_r125d dy_k (li_jm I) rfl (fun v18 h17 p19 J20 S21 p22 p23 => ?_))
  obtain ⟨I, r24⟩ := li_m I J20 S21 rfl (rr_m I.2.2.1 S21 rfl)
  have cr24 := cn_e r24
  have g := g_kin (xs (l3.toNatClampNeg + 1)).toInt (xs (l3.toNatClampNeg + 2)).toInt (xs (l3.toNatClampNeg + 3)).toInt (xs (l3.toNatClampNeg + 4)).toInt V
  rw [p11] at g
  have ee : (v6 : Int32).toInt = (v18 : Int32).toInt := p10.symm.trans (g.1.trans p22)
  have V : pR ((it : Int) + 1 + 1) (vw h17) (vw h17) := by rw [← p23]; exact g.2
  show jX m_L_law 1300 600000 7302250 982 [(3, .int l3), (2, .ref 125), (1, .ref 31), (0, .ref 0)] [.int v18, .int v6] h17 (k + 0 + 0) (n + 0 + 0) Q
  refine x_iceq (tgt := 2887) rfl rfl (br_t (Int32.toInt_inj.mp ee) ?_)
  exact law_next (it := it) (by omega) ⟨I, by rw [show (((it + 1 : Nat) : Int) + 1) = (it : Int) + 1 + 1 from by omega]; exact V⟩ ⟨by omega, by have := R.2.1; omega, by have := R.2.2; omega⟩ kk
set_option maxRecDepth 100000 in
set_option maxHeartbeats 4000000 in
theorem cs_span {L it : Nat} {xs : Nat → Int32} {h : jH} {k n : Nat} {l3 : Int32} {Q : Option Value → jH → Prop} (hL : L ≤ 3584) (y : 0 ≤ l3.toInt ∧ l3.toInt + 7 ≤ (L : Int)) (hit : it < 512) (I : jLi L xs h) (V : pR ((it : Int) + 1) (vw h) (vw h)) (R : jRoom it h k n) (kk : ∀ (l : Int32) h k n, l.toInt = l3.toInt + 7 → jLw L xs (it + 1) h → jRoom (it + 1) h k n → jX m_L_law 1300 600000 7302250 18 [(3, .int l), (2, .ref 125), (1, .ref 31), (0, .ref 0)] [] h k n Q) : jX m_L_law 1300 600000 7302250 987 [(3, .int l3), (2, .ref 125), (1, .ref 31), (0, .ref 0)] [] h k n Q := by
  refine x_aloadn (x := 31) rfl rfl ?_
  refine x_aloadn (x := 0) rfl rfl ?_
  refine x_iloadn (x := l3) rfl rfl ?_
  refine x_iconst (v := 1) rfl ki_1 ?_
  refine z_iadd rfl rfl jk_1 (by omega) (fun w1 ew1 => ?_)
  refine y_iald (v := xs (l3.toNatClampNeg + 1)) (N := L) (l3.toNatClampNeg + 1) rfl I.2.2.2.1 (vpi (by omega)) (jcl_j (by omega) y.1) (I.2.2.2.2.1 _) ?_
  refine x_aloadn (x := 0) rfl rfl ?_
  refine x_iloadn (x := l3) rfl rfl ?_
  refine x_iconst (v := 2) rfl ki_2 ?_
  refine z_iadd rfl rfl jk_2 (by omega) (fun w2 ew2 => ?_)
  refine y_iald (v := xs (l3.toNatClampNeg + 2)) (N := L) (l3.toNatClampNeg + 2) rfl I.2.2.2.1 (vpi (by omega)) (jcl_j (by omega) y.1) (I.2.2.2.2.1 _) ?_
  refine x_aloadn (x := 0) rfl rfl ?_
  refine x_iloadn (x := l3) rfl rfl ?_
  refine x_iconst (v := 3) rfl ki_3 ?_
  refine z_iadd rfl rfl jk_3 (by omega) (fun w3 ew3 => ?_)
  refine y_iald (v := xs (l3.toNatClampNeg + 3)) (N := L) (l3.toNatClampNeg + 3) rfl I.2.2.2.1 (vpi (by omega)) (jcl_j (by omega) y.1) (I.2.2.2.2.1 _) ?_
  have rm := rm_0 R
  have D := I.1.2.2.2.1
  refine x_inv (N := m_X11_span) (As := [.int (xs (l3.toNatClampNeg + 1)), .int (xs (l3.toNatClampNeg + 2)), .int (xs (l3.toNatClampNeg + 3))]) (b := 31) (st := []) (dx9 := 8) (mc := 0) (ms := 0) (host := "") 11 rfl t_X11_span ⟨Or.inl q_13_87, i_X11_span.1, i_X11_span.2⟩ ⟨by decide, rfl⟩ (congrArg Prod.fst (I.1.1.1 31 (11, 13) rfl)) rfl (by decide) rfl rfl ⟨by omega, by omega⟩ (sf_X11_span_r31d dy_k I.1 rfl (fun v5 h4 J6 S7 p8 p9 => ?_))
  obtain ⟨I, r10⟩ := li_x I J6 S7 rfl (rx_m I.2.2.2.2.2 S7 rfl)
  have cr10 := cn_e r10
  show jX m_L_law 1300 600000 7302250 1006 [(3, .int l3), (2, .ref 125), (1, .ref 31), (0, .ref 0)] [.int v5] h4 (k + 0) (n + 0) Q
  refine x_aloadn (x := 125) rfl rfl ?_
  refine x_aloadn (x := 0) rfl rfl ?_
  refine x_iloadn (x := l3) rfl rfl ?_
  refine x_iconst (v := 1) rfl ki_1 ?_
  refine z_iadd rfl rfl jk_1 (by omega) (fun w11 ew11 => ?_)
  refine y_iald (v := xs (l3.toNatClampNeg + 1)) (N := L) (l3.toNatClampNeg + 1) rfl I.2.2.2.1 (vpi (by omega)) (jcl_j (by omega) y.1) (I.2.2.2.2.1 _) ?_
  refine x_aloadn (x := 0) rfl rfl ?_
  refine x_iloadn (x := l3) rfl rfl ?_
  refine x_iconst (v := 2) rfl ki_2 ?_
  refine z_iadd rfl rfl jk_2 (by omega) (fun w12 ew12 => ?_)
  refine y_iald (v := xs (l3.toNatClampNeg + 2)) (N := L) (l3.toNatClampNeg + 2) rfl I.2.2.2.1 (vpi (by omega)) (jcl_j (by omega) y.1) (I.2.2.2.2.1 _) ?_
  refine x_aloadn (x := 0) rfl rfl ?_
  refine x_iloadn (x := l3) rfl rfl ?_
  refine x_iconst (v := 3) rfl ki_3 ?_
  refine z_iadd rfl rfl jk_3 (by omega) (fun w13 ew13 => ?_)
  refine y_iald (v := xs (l3.toNatClampNeg + 3)) (N := L) (l3.toNatClampNeg + 3) rfl I.2.2.2.1 (vpi (by omega)) (jcl_j (by omega) y.1) (I.2.2.2.2.1 _) ?_
  refine x_inv (N := m_X12_span) (As := [.int (xs (l3.toNatClampNeg + 1)), .int (xs (l3.toNatClampNeg + 2)), .int (xs (l3.toNatClampNeg + 3))]) (b := 125) (st := [.int v5]) (dx9 := 10) (mc := 0) (ms := 0) (host := "") 12 rfl t_X12_span ⟨Or.inl q_13_90, i_X12_span.1, i_X12_span.2⟩ ⟨by decide, rfl⟩ (congrArg Prod.fst (I.1.1.1 125 (12, 92) rfl)) rfl (by decide) rfl rfl ⟨by omega, by omega⟩ (sf_X12_span_r125d dy_k (li_jm I) rfl (fun v15 h14 J16 S17 p18 p19 => ?_))
  obtain ⟨I, r20⟩ := li_m I J16 S17 rfl (rr_m I.2.2.1 S17 rfl)
  have cr20 := cn_e r20
  have g := g_span (xs (l3.toNatClampNeg + 1)).toInt (xs (l3.toNatClampNeg + 2)).toInt (xs (l3.toNatClampNeg + 3)).toInt V
  rw [p9] at g
  have ee : (v5 : Int32).toInt = (v15 : Int32).toInt := p8.symm.trans (g.1.trans p18)
  have V : pR ((it : Int) + 1 + 1) (vw h14) (vw h14) := by rw [← p19]; exact g.2
  show jX m_L_law 1300 600000 7302250 1025 [(3, .int l3), (2, .ref 125), (1, .ref 31), (0, .ref 0)] [.int v15, .int v5] h14 (k + 0 + 0) (n + 0 + 0) Q
  refine x_iceq (tgt := 2887) rfl rfl (br_t (Int32.toInt_inj.mp ee) ?_)
  exact law_next (it := it) (by omega) ⟨I, by rw [show (((it + 1 : Nat) : Int) + 1) = (it : Int) + 1 + 1 from by omega]; exact V⟩ ⟨by omega, by have := R.2.1; omega, by have := R.2.2; omega⟩ kk
set_option maxRecDepth 100000 in
set_option maxHeartbeats 4000000 in
theorem cs_wish {L it : Nat} {xs : Nat → Int32} {h : jH} {k n : Nat} {l3 : Int32} {Q : Option Value → jH → Prop} (hL : L ≤ 3584) (y : 0 ≤ l3.toInt ∧ l3.toInt + 7 ≤ (L : Int)) (hit : it < 512) (I : jLi L xs h) (V : pR ((it : Int) + 1) (vw h) (vw h)) (R : jRoom it h k n) (kk : ∀ (l : Int32) h k n, l.toInt = l3.toInt + 7 → jLw L xs (it + 1) h → jRoom (it + 1) h k n → jX m_L_law 1300 600000 7302250 18 [(3, .int l), (2, .ref 125), (1, .ref 31), (0, .ref 0)] [] h k n Q) : jX m_L_law 1300 600000 7302250 1030 [(3, .int l3), (2, .ref 125), (1, .ref 31), (0, .ref 0)] [] h k n Q := by
  refine x_aloadn (x := 31) rfl rfl ?_
  refine x_aloadn (x := 0) rfl rfl ?_
  refine x_iloadn (x := l3) rfl rfl ?_
  refine x_iconst (v := 1) rfl ki_1 ?_
  refine z_iadd rfl rfl jk_1 (by omega) (fun w1 ew1 => ?_)
  refine y_iald (v := xs (l3.toNatClampNeg + 1)) (N := L) (l3.toNatClampNeg + 1) rfl I.2.2.2.1 (vpi (by omega)) (jcl_j (by omega) y.1) (I.2.2.2.2.1 _) ?_
  have rm := rm_0 R
  have D := I.1.2.2.2.1
  refine x_inv (N := m_X11_wish) (As := [.int (xs (l3.toNatClampNeg + 1))]) (b := 31) (st := []) (dx9 := 2) (mc := 0) (ms := 0) (host := "") 11 rfl t_X11_wish ⟨Or.inl q_13_91, i_X11_wish.1, i_X11_wish.2⟩ ⟨by decide, rfl⟩ (congrArg Prod.fst (I.1.1.1 31 (11, 13) rfl)) rfl (by decide) rfl rfl ⟨by omega, by omega⟩ (sf_X11_wish_r31d dy_k I.1 rfl (fun v3 h2 p4 J5 S6 p7 p8 => ?_))
  obtain ⟨I, r9⟩ := li_x I J5 S6 rfl (rx_m I.2.2.2.2.2 S6 rfl)
  have cr9 := cn_e r9
  show jX m_L_law 1300 600000 7302250 1039 [(3, .int l3), (2, .ref 125), (1, .ref 31), (0, .ref 0)] [.int v3] h2 (k + 0) (n + 0) Q
  refine x_aloadn (x := 125) rfl rfl ?_
  refine x_aloadn (x := 0) rfl rfl ?_
  refine x_iloadn (x := l3) rfl rfl ?_
  refine x_iconst (v := 1) rfl ki_1 ?_
  refine z_iadd rfl rfl jk_1 (by omega) (fun w10 ew10 => ?_)
  refine y_iald (v := xs (l3.toNatClampNeg + 1)) (N := L) (l3.toNatClampNeg + 1) rfl I.2.2.2.1 (vpi (by omega)) (jcl_j (by omega) y.1) (I.2.2.2.2.1 _) ?_
  refine x_inv (N := m_X12_wish) (As := [.int (xs (l3.toNatClampNeg + 1))]) (b := 125) (st := [.int v3]) (dx9 := 4) (mc := 0) (ms := 0) (host := "") 12 rfl t_X12_wish ⟨Or.inl q_13_94, i_X12_wish.1, i_X12_wish.2⟩ ⟨by decide, rfl⟩ (congrArg Prod.fst (I.1.1.1 125 (12, 92) rfl)) rfl (by decide) rfl rfl ⟨by omega, by omega⟩ (sf_X12_wish_r125d dy_k (li_jm I) rfl (fun v12 h11 J13 S14 p15 p16 => ?_))
  obtain ⟨I, r17⟩ := li_m I J13 S14 rfl (rr_m I.2.2.1 S14 rfl)
  have cr17 := cn_e r17
  have g := g_wish (xs (l3.toNatClampNeg + 1)).toInt V (by omega)
  rw [p8] at g
  have ee : (v3 : Int32).toInt = (v12 : Int32).toInt := p7.symm.trans (g.1.trans p15)
  have V : pR ((it : Int) + 1 + 1) (vw h11) (vw h11) := by rw [← p16]; exact g.2
  show jX m_L_law 1300 600000 7302250 1048 [(3, .int l3), (2, .ref 125), (1, .ref 31), (0, .ref 0)] [.int v12, .int v3] h11 (k + 0 + 0) (n + 0 + 0) Q
  refine x_iceq (tgt := 2887) rfl rfl (br_t (Int32.toInt_inj.mp ee) ?_)
  exact law_next (it := it) (by omega) ⟨I, by rw [show (((it + 1 : Nat) : Int) + 1) = (it : Int) + 1 + 1 from by omega]; exact V⟩ ⟨by omega, by have := R.2.1; omega, by have := R.2.2; omega⟩ kk
set_option maxRecDepth 100000 in
set_option maxHeartbeats 4000000 in
theorem cs_clear {L it : Nat} {xs : Nat → Int32} {h : jH} {k n : Nat} {l3 : Int32} {Q : Option Value → jH → Prop} (hL : L ≤ 3584) (y : 0 ≤ l3.toInt ∧ l3.toInt + 7 ≤ (L : Int)) (hit : it < 512) (I : jLi L xs h) (V : pR ((it : Int) + 1) (vw h) (vw h)) (R : jRoom it h k n) (kk : ∀ (l : Int32) h k n, l.toInt = l3.toInt + 7 → jLw L xs (it + 1) h → jRoom (it + 1) h k n → jX m_L_law 1300 600000 7302250 18 [(3, .int l), (2, .ref 125), (1, .ref 31), (0, .ref 0)] [] h k n Q) : jX m_L_law 1300 600000 7302250 1053 [(3, .int l3), (2, .ref 125), (1, .ref 31), (0, .ref 0)] [] h k n Q := by
  refine x_aloadn (x := 31) rfl rfl ?_
  have rm := rm_0 R
  have D := I.1.2.2.2.1
  refine x_inv (N := m_X11_clear) (As := []) (b := 31) (st := []) (dx9 := 2) (mc := 0) (ms := 0) (host := "") 11 rfl t_X11_clear ⟨Or.inl q_13_95, i_X11_clear.1, i_X11_clear.2⟩ ⟨by decide, rfl⟩ (congrArg Prod.fst (I.1.1.1 31 (11, 13) rfl)) rfl (by decide) rfl rfl ⟨by omega, by omega⟩ (sf_X11_clear_r31d dy_k I.1 rfl (fun v2 h1 p3 J4 S5 p6 p7 => ?_))
  obtain ⟨I, r8⟩ := li_x I J4 S5 rfl (rx_m I.2.2.2.2.2 S5 rfl)
  have cr8 := cn_e r8
  show jX m_L_law 1300 600000 7302250 1057 [(3, .int l3), (2, .ref 125), (1, .ref 31), (0, .ref 0)] [.int v2] h1 (k + 0) (n + 0) Q
  refine x_aloadn (x := 125) rfl rfl ?_
  refine x_inv (N := m_X12_clear) (As := []) (b := 125) (st := [.int v2]) (dx9 := 1) (mc := 0) (ms := 0) (host := "") 12 rfl t_X12_clear ⟨Or.inl q_13_98, i_X12_clear.1, i_X12_clear.2⟩ ⟨by decide, rfl⟩ (congrArg Prod.fst (I.1.1.1 125 (12, 92) rfl)) rfl (by decide) rfl rfl ⟨by omega, by omega⟩ (sf_X12_clear_r125d dy_k (li_jm I) rfl (fun v10 h9 p11 J12 S13 p14 p15 => ?_))
  obtain ⟨I, r16⟩ := li_m I J12 S13 rfl (rr_m I.2.2.1 S13 rfl)
  have cr16 := cn_e r16
  have g := g_clear V
  rw [p7] at g
  have ee : (v2 : Int32).toInt = (v10 : Int32).toInt := p6.symm.trans (g.1.trans p14)
  have V : pR ((it : Int) + 1 + 1) (vw h9) (vw h9) := by rw [← p15]; exact g.2
  show jX m_L_law 1300 600000 7302250 1061 [(3, .int l3), (2, .ref 125), (1, .ref 31), (0, .ref 0)] [.int v10, .int v2] h9 (k + 0 + 0) (n + 0 + 0) Q
  refine x_iceq (tgt := 2887) rfl rfl (br_t (Int32.toInt_inj.mp ee) ?_)
  exact law_next (it := it) (by omega) ⟨I, by rw [show (((it + 1 : Nat) : Int) + 1) = (it : Int) + 1 + 1 from by omega]; exact V⟩ ⟨by omega, by have := R.2.1; omega, by have := R.2.2; omega⟩ kk
set_option maxRecDepth 100000 in
set_option maxHeartbeats 4000000 in
theorem cs_best {L it : Nat} {xs : Nat → Int32} {h : jH} {k n : Nat} {l3 : Int32} {Q : Option Value → jH → Prop} (hL : L ≤ 3584) (y : 0 ≤ l3.toInt ∧ l3.toInt + 7 ≤ (L : Int)) (hit : it < 512) (I : jLi L xs h) (V : pR ((it : Int) + 1) (vw h) (vw h)) (R : jRoom it h k n) (kk : ∀ (l : Int32) h k n, l.toInt = l3.toInt + 7 → jLw L xs (it + 1) h → jRoom (it + 1) h k n → jX m_L_law 1300 600000 7302250 18 [(3, .int l), (2, .ref 125), (1, .ref 31), (0, .ref 0)] [] h k n Q) : jX m_L_law 1300 600000 7302250 1066 [(3, .int l3), (2, .ref 125), (1, .ref 31), (0, .ref 0)] [] h k n Q := by
  refine x_aloadn (x := 31) rfl rfl ?_
  refine x_aloadn (x := 0) rfl rfl ?_
  refine x_iloadn (x := l3) rfl rfl ?_
  refine x_iconst (v := 1) rfl ki_1 ?_
  refine z_iadd rfl rfl jk_1 (by omega) (fun w1 ew1 => ?_)
  refine y_iald (v := xs (l3.toNatClampNeg + 1)) (N := L) (l3.toNatClampNeg + 1) rfl I.2.2.2.1 (vpi (by omega)) (jcl_j (by omega) y.1) (I.2.2.2.2.1 _) ?_
  refine x_aloadn (x := 0) rfl rfl ?_
  refine x_iloadn (x := l3) rfl rfl ?_
  refine x_iconst (v := 2) rfl ki_2 ?_
  refine z_iadd rfl rfl jk_2 (by omega) (fun w2 ew2 => ?_)
  refine y_iald (v := xs (l3.toNatClampNeg + 2)) (N := L) (l3.toNatClampNeg + 2) rfl I.2.2.2.1 (vpi (by omega)) (jcl_j (by omega) y.1) (I.2.2.2.2.1 _) ?_
  have rm := rm_0 R
  have D := I.1.2.2.2.1
  refine x_inv (N := m_X11_best) (As := [.int (xs (l3.toNatClampNeg + 1)), .int (xs (l3.toNatClampNeg + 2))]) (b := 31) (st := []) (dx9 := 14) (mc := 0) (ms := 0) (host := "") 11 rfl t_X11_best ⟨Or.inl q_13_99, i_X11_best.1, i_X11_best.2⟩ ⟨by decide, rfl⟩ (congrArg Prod.fst (I.1.1.1 31 (11, 13) rfl)) rfl (by decide) rfl rfl ⟨by omega, by omega⟩ (sf_X11_best_r31d dy_k I.1 rfl (fun v4 h3 J5 S6 p7 p8 => ?_))
  obtain ⟨I, r9⟩ := li_x I J5 S6 rfl (rx_m I.2.2.2.2.2 S6 rfl)
  have cr9 := cn_e r9
  show jX m_L_law 1300 600000 7302250 1080 [(3, .int l3), (2, .ref 125), (1, .ref 31), (0, .ref 0)] [.int v4] h3 (k + 0) (n + 0) Q
  refine x_aloadn (x := 125) rfl rfl ?_
  refine x_aloadn (x := 0) rfl rfl ?_
  refine x_iloadn (x := l3) rfl rfl ?_
  refine x_iconst (v := 1) rfl ki_1 ?_
  refine z_iadd rfl rfl jk_1 (by omega) (fun w10 ew10 => ?_)
  refine y_iald (v := xs (l3.toNatClampNeg + 1)) (N := L) (l3.toNatClampNeg + 1) rfl I.2.2.2.1 (vpi (by omega)) (jcl_j (by omega) y.1) (I.2.2.2.2.1 _) ?_
  refine x_aloadn (x := 0) rfl rfl ?_
  refine x_iloadn (x := l3) rfl rfl ?_
  refine x_iconst (v := 2) rfl ki_2 ?_
  refine z_iadd rfl rfl jk_2 (by omega) (fun w11 ew11 => ?_)
  refine y_iald (v := xs (l3.toNatClampNeg + 2)) (N := L) (l3.toNatClampNeg + 2) rfl I.2.2.2.1 (vpi (by omega)) (jcl_j (by omega) y.1) (I.2.2.2.2.1 _) ?_
  refine x_inv (N := m_X12_best) (As := [.int (xs (l3.toNatClampNeg + 1)), .int (xs (l3.toNatClampNeg + 2))]) (b := 125) (st := [.int v4]) (dx9 := 11) (mc := 0) (ms := 0) (host := "") 12 rfl t_X12_best ⟨Or.inl q_13_102, i_X12_best.1, i_X12_best.2⟩ ⟨by decide, rfl⟩ (congrArg Prod.fst (I.1.1.1 125 (12, 92) rfl)) rfl (by decide) rfl rfl ⟨by omega, by omega⟩ (sf_X12_best_r125d dy_k (li_jm I) rfl (fun v13 h12 J14 S15 p16 p17 => ?_))
  obtain ⟨I, r18⟩ := li_m I J14 S15 rfl (rr_m I.2.2.1 S15 rfl)
  have cr18 := cn_e r18
  have g := g_best (xs (l3.toNatClampNeg + 1)).toInt (xs (l3.toNatClampNeg + 2)).toInt V
  rw [p8] at g
  have ee : (v4 : Int32).toInt = (v13 : Int32).toInt := p7.symm.trans (g.1.trans p16)
  have V : pR ((it : Int) + 1 + 1) (vw h12) (vw h12) := by rw [← p17]; exact g.2
  show jX m_L_law 1300 600000 7302250 1094 [(3, .int l3), (2, .ref 125), (1, .ref 31), (0, .ref 0)] [.int v13, .int v4] h12 (k + 0 + 0) (n + 0 + 0) Q
  refine x_iceq (tgt := 2887) rfl rfl (br_t (Int32.toInt_inj.mp ee) ?_)
  exact law_next (it := it) (by omega) ⟨I, by rw [show (((it + 1 : Nat) : Int) + 1) = (it : Int) + 1 + 1 from by omega]; exact V⟩ ⟨by omega, by have := R.2.1; omega, by have := R.2.2; omega⟩ kk
set_option maxRecDepth 100000 in
set_option maxHeartbeats 4000000 in
theorem cs_group {L it : Nat} {xs : Nat → Int32} {h : jH} {k n : Nat} {l3 : Int32} {Q : Option Value → jH → Prop} (hL : L ≤ 3584) (y : 0 ≤ l3.toInt ∧ l3.toInt + 7 ≤ (L : Int)) (hit : it < 512) (I : jLi L xs h) (V : pR ((it : Int) + 1) (vw h) (vw h)) (R : jRoom it h k n) (kk : ∀ (l : Int32) h k n, l.toInt = l3.toInt + 7 → jLw L xs (it + 1) h → jRoom (it + 1) h k n → jX m_L_law 1300 600000 7302250 18 [(3, .int l), (2, .ref 125), (1, .ref 31), (0, .ref 0)] [] h k n Q) : jX m_L_law 1300 600000 7302250 1099 [(3, .int l3), (2, .ref 125), (1, .ref 31), (0, .ref 0)] [] h k n Q := by
  refine x_aloadn (x := 31) rfl rfl ?_
  refine x_aloadn (x := 0) rfl rfl ?_
  refine x_iloadn (x := l3) rfl rfl ?_
  refine x_iconst (v := 1) rfl ki_1 ?_
  refine z_iadd rfl rfl jk_1 (by omega) (fun w1 ew1 => ?_)
  refine y_iald (v := xs (l3.toNatClampNeg + 1)) (N := L) (l3.toNatClampNeg + 1) rfl I.2.2.2.1 (vpi (by omega)) (jcl_j (by omega) y.1) (I.2.2.2.2.1 _) ?_
  have rm := rm_0 R
  have D := I.1.2.2.2.1
  refine x_inv (N := m_X11_group) (As := [.int (xs (l3.toNatClampNeg + 1))]) (b := 31) (st := []) (dx9 := 14) (mc := 0) (ms := 0) (host := "") 11 rfl t_X11_group ⟨Or.inl q_13_103, i_X11_group.1, i_X11_group.2⟩ ⟨by decide, rfl⟩ (congrArg Prod.fst (I.1.1.1 31 (11, 13) rfl)) rfl (by decide) rfl rfl ⟨by omega, by omega⟩ (sf_X11_group_r31d dy_k I.1 rfl (fun v3 h2 p4 J5 S6 p7 p8 => ?_))
  obtain ⟨I, r9⟩ := li_x I J5 S6 rfl (rx_m I.2.2.2.2.2 S6 rfl)
  have cr9 := cn_e r9
  show jX m_L_law 1300 600000 7302250 1108 [(3, .int l3), (2, .ref 125), (1, .ref 31), (0, .ref 0)] [.int v3] h2 (k + 0) (n + 0) Q
  refine x_aloadn (x := 125) rfl rfl ?_
  refine x_aloadn (x := 0) rfl rfl ?_
  refine x_iloadn (x := l3) rfl rfl ?_
  refine x_iconst (v := 1) rfl ki_1 ?_
  refine z_iadd rfl rfl jk_1 (by omega) (fun w10 ew10 => ?_)
  refine y_iald (v := xs (l3.toNatClampNeg + 1)) (N := L) (l3.toNatClampNeg + 1) rfl I.2.2.2.1 (vpi (by omega)) (jcl_j (by omega) y.1) (I.2.2.2.2.1 _) ?_
  refine x_inv (N := m_X12_group) (As := [.int (xs (l3.toNatClampNeg + 1))]) (b := 125) (st := [.int v3]) (dx9 := 11) (mc := 0) (ms := 0) (host := "") 12 rfl t_X12_group ⟨Or.inl q_13_106, i_X12_group.1, i_X12_group.2⟩ ⟨by decide, rfl⟩ (congrArg Prod.fst (I.1.1.1 125 (12, 92) rfl)) rfl (by decide) rfl rfl ⟨by omega, by omega⟩ (sf_X12_group_r125d dy_k (li_jm I) rfl (fun v12 h11 p13 J14 S15 p16 p17 => ?_))
  obtain ⟨I, r18⟩ := li_m I J14 S15 rfl (rr_m I.2.2.1 S15 rfl)
  have cr18 := cn_e r18
  have g := g_group (xs (l3.toNatClampNeg + 1)).toInt V
  rw [p8] at g
  have ee : (v3 : Int32).toInt = (v12 : Int32).toInt := p7.symm.trans (g.1.trans p16)
  have V : pR ((it : Int) + 1 + 1) (vw h11) (vw h11) := by rw [← p17]; exact g.2
  show jX m_L_law 1300 600000 7302250 1117 [(3, .int l3), (2, .ref 125), (1, .ref 31), (0, .ref 0)] [.int v12, .int v3] h11 (k + 0 + 0) (n + 0 + 0) Q
  refine x_iceq (tgt := 2887) rfl rfl (br_t (Int32.toInt_inj.mp ee) ?_)
  exact law_next (it := it) (by omega) ⟨I, by rw [show (((it + 1 : Nat) : Int) + 1) = (it : Int) + 1 + 1 from by omega]; exact V⟩ ⟨by omega, by have := R.2.1; omega, by have := R.2.2; omega⟩ kk
set_option maxRecDepth 100000 in
set_option maxHeartbeats 4000000 in
theorem cs_join {L it : Nat} {xs : Nat → Int32} {h : jH} {k n : Nat} {l3 : Int32} {Q : Option Value → jH → Prop} (hL : L ≤ 3584) (y : 0 ≤ l3.toInt ∧ l3.toInt + 7 ≤ (L : Int)) (hit : it < 512) (I : jLi L xs h) (V : pR ((it : Int) + 1) (vw h) (vw h)) (R : jRoom it h k n) (kk : ∀ (l : Int32) h k n, l.toInt = l3.toInt + 7 → jLw L xs (it + 1) h → jRoom (it + 1) h k n → jX m_L_law 1300 600000 7302250 18 [(3, .int l), (2, .ref 125), (1, .ref 31), (0, .ref 0)] [] h k n Q) : jX m_L_law 1300 600000 7302250 1122 [(3, .int l3), (2, .ref 125), (1, .ref 31), (0, .ref 0)] [] h k n Q := by
  refine x_aloadn (x := 31) rfl rfl ?_
  refine x_aloadn (x := 0) rfl rfl ?_
  refine x_iloadn (x := l3) rfl rfl ?_
  refine x_iconst (v := 1) rfl ki_1 ?_
  refine z_iadd rfl rfl jk_1 (by omega) (fun w1 ew1 => ?_)
  refine y_iald (v := xs (l3.toNatClampNeg + 1)) (N := L) (l3.toNatClampNeg + 1) rfl I.2.2.2.1 (vpi (by omega)) (jcl_j (by omega) y.1) (I.2.2.2.2.1 _) ?_
  have rm := rm_0 R
  have D := I.1.2.2.2.1
  refine x_inv (N := m_X11_join) (As := [.int (xs (l3.toNatClampNeg + 1))]) (b := 31) (st := []) (dx9 := 14) (mc := 0) (ms := 0) (host := "") 11 rfl t_X11_join ⟨Or.inl q_13_107, i_X11_join.1, i_X11_join.2⟩ ⟨by decide, rfl⟩ (congrArg Prod.fst (I.1.1.1 31 (11, 13) rfl)) rfl (by decide) rfl rfl ⟨by omega, by omega⟩ (sf_X11_join_r31d dy_k I.1 rfl (fun v3 h2 J4 S5 p6 p7 => ?_))
  obtain ⟨I, r8⟩ := li_x I J4 S5 rfl (rx_m I.2.2.2.2.2 S5 rfl)
  have cr8 := cn_e r8
  show jX m_L_law 1300 600000 7302250 1131 [(3, .int l3), (2, .ref 125), (1, .ref 31), (0, .ref 0)] [.int v3] h2 (k + 0) (n + 0) Q
  refine x_aloadn (x := 125) rfl rfl ?_
  refine x_aloadn (x := 0) rfl rfl ?_
  refine x_iloadn (x := l3) rfl rfl ?_
  refine x_iconst (v := 1) rfl ki_1 ?_
  refine z_iadd rfl rfl jk_1 (by omega) (fun w9 ew9 => ?_)
  refine y_iald (v := xs (l3.toNatClampNeg + 1)) (N := L) (l3.toNatClampNeg + 1) rfl I.2.2.2.1 (vpi (by omega)) (jcl_j (by omega) y.1) (I.2.2.2.2.1 _) ?_
  refine x_inv (N := m_X12_join) (As := [.int (xs (l3.toNatClampNeg + 1))]) (b := 125) (st := [.int v3]) (dx9 := 11) (mc := 0) (ms := 0) (host := "") 12 rfl t_X12_join ⟨Or.inl q_13_110, i_X12_join.1, i_X12_join.2⟩ ⟨by decide, rfl⟩ (congrArg Prod.fst (I.1.1.1 125 (12, 92) rfl)) rfl (by decide) rfl rfl ⟨by omega, by omega⟩ (sf_X12_join_r125d dy_k (li_jm I) rfl (fun v11 h10 J12 S13 p14 p15 => ?_))
  obtain ⟨I, r16⟩ := li_m I J12 S13 rfl (rr_m I.2.2.1 S13 rfl)
  have cr16 := cn_e r16
  have g := g_join (xs (l3.toNatClampNeg + 1)).toInt V (by omega)
  rw [p7] at g
  have ee : (v3 : Int32).toInt = (v11 : Int32).toInt := p6.symm.trans (g.1.trans p14)
  have V : pR ((it : Int) + 1 + 1) (vw h10) (vw h10) := by rw [← p15]; exact g.2
  show jX m_L_law 1300 600000 7302250 1140 [(3, .int l3), (2, .ref 125), (1, .ref 31), (0, .ref 0)] [.int v11, .int v3] h10 (k + 0 + 0) (n + 0 + 0) Q
  refine x_iceq (tgt := 2887) rfl rfl (br_t (Int32.toInt_inj.mp ee) ?_)
  exact law_next (it := it) (by omega) ⟨I, by rw [show (((it + 1 : Nat) : Int) + 1) = (it : Int) + 1 + 1 from by omega]; exact V⟩ ⟨by omega, by have := R.2.1; omega, by have := R.2.2; omega⟩ kk
set_option maxRecDepth 100000 in
set_option maxHeartbeats 4000000 in
theorem cs_torn {L it : Nat} {xs : Nat → Int32} {h : jH} {k n : Nat} {l3 : Int32} {Q : Option Value → jH → Prop} (hL : L ≤ 3584) (y : 0 ≤ l3.toInt ∧ l3.toInt + 7 ≤ (L : Int)) (hit : it < 512) (I : jLi L xs h) (V : pR ((it : Int) + 1) (vw h) (vw h)) (R : jRoom it h k n) (kk : ∀ (l : Int32) h k n, l.toInt = l3.toInt + 7 → jLw L xs (it + 1) h → jRoom (it + 1) h k n → jX m_L_law 1300 600000 7302250 18 [(3, .int l), (2, .ref 125), (1, .ref 31), (0, .ref 0)] [] h k n Q) : jX m_L_law 1300 600000 7302250 1145 [(3, .int l3), (2, .ref 125), (1, .ref 31), (0, .ref 0)] [] h k n Q := by
  refine x_aloadn (x := 31) rfl rfl ?_
  refine x_aloadn (x := 0) rfl rfl ?_
  refine x_iloadn (x := l3) rfl rfl ?_
  refine x_iconst (v := 1) rfl ki_1 ?_
  refine z_iadd rfl rfl jk_1 (by omega) (fun w1 ew1 => ?_)
  refine y_iald (v := xs (l3.toNatClampNeg + 1)) (N := L) (l3.toNatClampNeg + 1) rfl I.2.2.2.1 (vpi (by omega)) (jcl_j (by omega) y.1) (I.2.2.2.2.1 _) ?_
  refine x_aloadn (x := 0) rfl rfl ?_
  refine x_iloadn (x := l3) rfl rfl ?_
  refine x_iconst (v := 2) rfl ki_2 ?_
  refine z_iadd rfl rfl jk_2 (by omega) (fun w2 ew2 => ?_)
  refine y_iald (v := xs (l3.toNatClampNeg + 2)) (N := L) (l3.toNatClampNeg + 2) rfl I.2.2.2.1 (vpi (by omega)) (jcl_j (by omega) y.1) (I.2.2.2.2.1 _) ?_
  refine x_aloadn (x := 0) rfl rfl ?_
  refine x_iloadn (x := l3) rfl rfl ?_
  refine x_iconst (v := 3) rfl ki_3 ?_
  refine z_iadd rfl rfl jk_3 (by omega) (fun w3 ew3 => ?_)
  refine y_iald (v := xs (l3.toNatClampNeg + 3)) (N := L) (l3.toNatClampNeg + 3) rfl I.2.2.2.1 (vpi (by omega)) (jcl_j (by omega) y.1) (I.2.2.2.2.1 _) ?_
  refine x_aloadn (x := 0) rfl rfl ?_
  refine x_iloadn (x := l3) rfl rfl ?_
  refine x_iconst (v := 4) rfl ki_4 ?_
  refine z_iadd rfl rfl jk_4 (by omega) (fun w4 ew4 => ?_)
  refine y_iald (v := xs (l3.toNatClampNeg + 4)) (N := L) (l3.toNatClampNeg + 4) rfl I.2.2.2.1 (vpi (by omega)) (jcl_j (by omega) y.1) (I.2.2.2.2.1 _) ?_
  have rm := rm_0 R
  have D := I.1.2.2.2.1
  refine x_inv (N := m_X11_torn) (As := [.int (xs (l3.toNatClampNeg + 1)), .int (xs (l3.toNatClampNeg + 2)), .int (xs (l3.toNatClampNeg + 3)), .int (xs (l3.toNatClampNeg + 4))]) (b := 31) (st := []) (dx9 := 3) (mc := 0) (ms := 0) (host := "") 11 rfl t_X11_torn ⟨Or.inl q_13_111, i_X11_torn.1, i_X11_torn.2⟩ ⟨by decide, rfl⟩ (congrArg Prod.fst (I.1.1.1 31 (11, 13) rfl)) rfl (by decide) rfl rfl ⟨by omega, by omega⟩ (sf_X11_torn_r31d dy_k I.1 rfl (fun v6 h5 p7 J8 S9 p10 p11 => ?_))
  obtain ⟨I, r12⟩ := li_x I J8 S9 rfl (rx_m I.2.2.2.2.2 S9 rfl)
  have cr12 := cn_e r12
  show jX m_L_law 1300 600000 7302250 1169 [(3, .int l3), (2, .ref 125), (1, .ref 31), (0, .ref 0)] [.int v6] h5 (k + 0) (n + 0) Q
  refine x_aloadn (x := 125) rfl rfl ?_
  refine x_aloadn (x := 0) rfl rfl ?_
  refine x_iloadn (x := l3) rfl rfl ?_
  refine x_iconst (v := 1) rfl ki_1 ?_
  refine z_iadd rfl rfl jk_1 (by omega) (fun w13 ew13 => ?_)
  refine y_iald (v := xs (l3.toNatClampNeg + 1)) (N := L) (l3.toNatClampNeg + 1) rfl I.2.2.2.1 (vpi (by omega)) (jcl_j (by omega) y.1) (I.2.2.2.2.1 _) ?_
  refine x_aloadn (x := 0) rfl rfl ?_
  refine x_iloadn (x := l3) rfl rfl ?_
  refine x_iconst (v := 2) rfl ki_2 ?_
  refine z_iadd rfl rfl jk_2 (by omega) (fun w14 ew14 => ?_)
  refine y_iald (v := xs (l3.toNatClampNeg + 2)) (N := L) (l3.toNatClampNeg + 2) rfl I.2.2.2.1 (vpi (by omega)) (jcl_j (by omega) y.1) (I.2.2.2.2.1 _) ?_
  refine x_aloadn (x := 0) rfl rfl ?_
  refine x_iloadn (x := l3) rfl rfl ?_
  refine x_iconst (v := 3) rfl ki_3 ?_
  refine z_iadd rfl rfl jk_3 (by omega) (fun w15 ew15 => ?_)
  refine y_iald (v := xs (l3.toNatClampNeg + 3)) (N := L) (l3.toNatClampNeg + 3) rfl I.2.2.2.1 (vpi (by omega)) (jcl_j (by omega) y.1) (I.2.2.2.2.1 _) ?_
  refine x_aloadn (x := 0) rfl rfl ?_
  refine x_iloadn (x := l3) rfl rfl ?_
  refine x_iconst (v := 4) rfl ki_4 ?_
  refine z_iadd rfl rfl jk_4 (by omega) (fun w16 ew16 => ?_)
  refine y_iald (v := xs (l3.toNatClampNeg + 4)) (N := L) (l3.toNatClampNeg + 4) rfl I.2.2.2.1 (vpi (by omega)) (jcl_j (by omega) y.1) (I.2.2.2.2.1 _) ?_
  refine x_inv (N := m_X12_torn) (As := [.int (xs (l3.toNatClampNeg + 1)), .int (xs (l3.toNatClampNeg + 2)), .int (xs (l3.toNatClampNeg + 3)), .int (xs (l3.toNatClampNeg + 4))]) (b := 125) (st := [.int v6]) (dx9 := 3) (mc := 0) (ms := 0) (host := "") 12 rfl t_X12_torn ⟨Or.inl q_13_114, i_X12_torn.1, i_X12_torn.2⟩ ⟨by decide, rfl⟩ (congrArg Prod.fst (I.1.1.1 125 (12, 92) rfl)) rfl (by decide) rfl rfl ⟨by omega, by omega⟩ (sf_X12_torn_r125d dy_k (li_jm I) rfl (fun v18 h17 J19 S20 p21 p22 => ?_))
  obtain ⟨I, r23⟩ := li_m I J19 S20 rfl (rr_m I.2.2.1 S20 rfl)
  have cr23 := cn_e r23
  have g := g_torn (xs (l3.toNatClampNeg + 1)).toInt (xs (l3.toNatClampNeg + 2)).toInt (xs (l3.toNatClampNeg + 3)).toInt (xs (l3.toNatClampNeg + 4)).toInt V (by omega)
  rw [p11] at g
  have ee : (v6 : Int32).toInt = (v18 : Int32).toInt := p10.symm.trans (g.1.trans p21)
  have V : pR ((it : Int) + 1 + 1) (vw h17) (vw h17) := by rw [← p22]; exact g.2
  show jX m_L_law 1300 600000 7302250 1193 [(3, .int l3), (2, .ref 125), (1, .ref 31), (0, .ref 0)] [.int v18, .int v6] h17 (k + 0 + 0) (n + 0 + 0) Q
  refine x_iceq (tgt := 2887) rfl rfl (br_t (Int32.toInt_inj.mp ee) ?_)
  exact law_next (it := it) (by omega) ⟨I, by rw [show (((it + 1 : Nat) : Int) + 1) = (it : Int) + 1 + 1 from by omega]; exact V⟩ ⟨by omega, by have := R.2.1; omega, by have := R.2.2; omega⟩ kk
set_option maxRecDepth 100000 in
set_option maxHeartbeats 4000000 in
theorem cs_fill {L it : Nat} {xs : Nat → Int32} {h : jH} {k n : Nat} {l3 : Int32} {Q : Option Value → jH → Prop} (hL : L ≤ 3584) (y : 0 ≤ l3.toInt ∧ l3.toInt + 7 ≤ (L : Int)) (hit : it < 512) (I : jLi L xs h) (V : pR ((it : Int) + 1) (vw h) (vw h)) (R : jRoom it h k n) (kk : ∀ (l : Int32) h k n, l.toInt = l3.toInt + 7 → jLw L xs (it + 1) h → jRoom (it + 1) h k n → jX m_L_law 1300 600000 7302250 18 [(3, .int l), (2, .ref 125), (1, .ref 31), (0, .ref 0)] [] h k n Q) : jX m_L_law 1300 600000 7302250 1198 [(3, .int l3), (2, .ref 125), (1, .ref 31), (0, .ref 0)] [] h k n Q := by
  refine x_aloadn (x := 31) rfl rfl ?_
  refine x_aloadn (x := 0) rfl rfl ?_
  refine x_iloadn (x := l3) rfl rfl ?_
  refine x_iconst (v := 1) rfl ki_1 ?_
  refine z_iadd rfl rfl jk_1 (by omega) (fun w1 ew1 => ?_)
  refine y_iald (v := xs (l3.toNatClampNeg + 1)) (N := L) (l3.toNatClampNeg + 1) rfl I.2.2.2.1 (vpi (by omega)) (jcl_j (by omega) y.1) (I.2.2.2.2.1 _) ?_
  refine x_aloadn (x := 0) rfl rfl ?_
  refine x_iloadn (x := l3) rfl rfl ?_
  refine x_iconst (v := 2) rfl ki_2 ?_
  refine z_iadd rfl rfl jk_2 (by omega) (fun w2 ew2 => ?_)
  refine y_iald (v := xs (l3.toNatClampNeg + 2)) (N := L) (l3.toNatClampNeg + 2) rfl I.2.2.2.1 (vpi (by omega)) (jcl_j (by omega) y.1) (I.2.2.2.2.1 _) ?_
  refine x_aloadn (x := 0) rfl rfl ?_
  refine x_iloadn (x := l3) rfl rfl ?_
  refine x_iconst (v := 3) rfl ki_3 ?_
  refine z_iadd rfl rfl jk_3 (by omega) (fun w3 ew3 => ?_)
  refine y_iald (v := xs (l3.toNatClampNeg + 3)) (N := L) (l3.toNatClampNeg + 3) rfl I.2.2.2.1 (vpi (by omega)) (jcl_j (by omega) y.1) (I.2.2.2.2.1 _) ?_
  refine x_aloadn (x := 0) rfl rfl ?_
  refine x_iloadn (x := l3) rfl rfl ?_
  refine x_iconst (v := 4) rfl ki_4 ?_
  refine z_iadd rfl rfl jk_4 (by omega) (fun w4 ew4 => ?_)
  refine y_iald (v := xs (l3.toNatClampNeg + 4)) (N := L) (l3.toNatClampNeg + 4) rfl I.2.2.2.1 (vpi (by omega)) (jcl_j (by omega) y.1) (I.2.2.2.2.1 _) ?_
  refine x_aloadn (x := 0) rfl rfl ?_
  refine x_iloadn (x := l3) rfl rfl ?_
  refine x_iconst (v := 5) rfl ki_5 ?_
  refine z_iadd rfl rfl jk_5 (by omega) (fun w5 ew5 => ?_)
  refine y_iald (v := xs (l3.toNatClampNeg + 5)) (N := L) (l3.toNatClampNeg + 5) rfl I.2.2.2.1 (vpi (by omega)) (jcl_j (by omega) y.1) (I.2.2.2.2.1 _) ?_
  have rm := rm_0 R
  have D := I.1.2.2.2.1
  refine x_inv (N := m_X11_fill) (As := [.int (xs (l3.toNatClampNeg + 1)), .int (xs (l3.toNatClampNeg + 2)), .int (xs (l3.toNatClampNeg + 3)), .int (xs (l3.toNatClampNeg + 4)), .int (xs (l3.toNatClampNeg + 5))]) (b := 31) (st := []) (dx9 := 7) (mc := 0) (ms := 0) (host := "") 11 rfl t_X11_fill ⟨Or.inl q_13_115, i_X11_fill.1, i_X11_fill.2⟩ ⟨by decide, rfl⟩ (congrArg Prod.fst (I.1.1.1 31 (11, 13) rfl)) rfl (by decide) rfl rfl ⟨by omega, by omega⟩ (sf_X11_fill_r31d dy_k I.1 rfl (fun v7 h6 J8 S9 p10 p11 => ?_))
  obtain ⟨I, r12⟩ := li_x I J8 S9 rfl (rx_m I.2.2.2.2.2 S9 rfl)
  have cr12 := cn_e r12
  show jX m_L_law 1300 600000 7302250 1227 [(3, .int l3), (2, .ref 125), (1, .ref 31), (0, .ref 0)] [.int v7] h6 (k + 0) (n + 0) Q
  refine x_aloadn (x := 125) rfl rfl ?_
  refine x_aloadn (x := 0) rfl rfl ?_
  refine x_iloadn (x := l3) rfl rfl ?_
  refine x_iconst (v := 1) rfl ki_1 ?_
  refine z_iadd rfl rfl jk_1 (by omega) (fun w13 ew13 => ?_)
  refine y_iald (v := xs (l3.toNatClampNeg + 1)) (N := L) (l3.toNatClampNeg + 1) rfl I.2.2.2.1 (vpi (by omega)) (jcl_j (by omega) y.1) (I.2.2.2.2.1 _) ?_
  refine x_aloadn (x := 0) rfl rfl ?_
  refine x_iloadn (x := l3) rfl rfl ?_
  refine x_iconst (v := 2) rfl ki_2 ?_
  refine z_iadd rfl rfl jk_2 (by omega) (fun w14 ew14 => ?_)
  refine y_iald (v := xs (l3.toNatClampNeg + 2)) (N := L) (l3.toNatClampNeg + 2) rfl I.2.2.2.1 (vpi (by omega)) (jcl_j (by omega) y.1) (I.2.2.2.2.1 _) ?_
  refine x_aloadn (x := 0) rfl rfl ?_
  refine x_iloadn (x := l3) rfl rfl ?_
  refine x_iconst (v := 3) rfl ki_3 ?_
  refine z_iadd rfl rfl jk_3 (by omega) (fun w15 ew15 => ?_)
  refine y_iald (v := xs (l3.toNatClampNeg + 3)) (N := L) (l3.toNatClampNeg + 3) rfl I.2.2.2.1 (vpi (by omega)) (jcl_j (by omega) y.1) (I.2.2.2.2.1 _) ?_
  refine x_aloadn (x := 0) rfl rfl ?_
  refine x_iloadn (x := l3) rfl rfl ?_
  refine x_iconst (v := 4) rfl ki_4 ?_
  refine z_iadd rfl rfl jk_4 (by omega) (fun w16 ew16 => ?_)
  refine y_iald (v := xs (l3.toNatClampNeg + 4)) (N := L) (l3.toNatClampNeg + 4) rfl I.2.2.2.1 (vpi (by omega)) (jcl_j (by omega) y.1) (I.2.2.2.2.1 _) ?_
  refine x_aloadn (x := 0) rfl rfl ?_
  refine x_iloadn (x := l3) rfl rfl ?_
  refine x_iconst (v := 5) rfl ki_5 ?_
  refine z_iadd rfl rfl jk_5 (by omega) (fun w17 ew17 => ?_)
  refine y_iald (v := xs (l3.toNatClampNeg + 5)) (N := L) (l3.toNatClampNeg + 5) rfl I.2.2.2.1 (vpi (by omega)) (jcl_j (by omega) y.1) (I.2.2.2.2.1 _) ?_
  refine x_inv (N := m_X12_fill) (As := [.int (xs (l3.toNatClampNeg + 1)), .int (xs (l3.toNatClampNeg + 2)), .int (xs (l3.toNatClampNeg + 3)), .int (xs (l3.toNatClampNeg + 4)), .int (xs (l3.toNatClampNeg + 5))]) (b := 125) (st := [.int v7]) (dx9 := 9) (mc := 0) (ms := 0) (host := "") 12 rfl t_X12_fill ⟨Or.inl q_13_118, i_X12_fill.1, i_X12_fill.2⟩ ⟨by decide, rfl⟩ (congrArg Prod.fst (I.1.1.1 125 (12, 92) rfl)) rfl (by decide) rfl rfl ⟨by omega, by omega⟩ (sf_X12_fill_r125d dy_k (li_jm I) rfl (fun v19 h18 J20 S21 p22 p23 => ?_))
  obtain ⟨I, r24⟩ := li_m I J20 S21 rfl (rr_m I.2.2.1 S21 rfl)
  have cr24 := cn_e r24
  have g := g_fill (xs (l3.toNatClampNeg + 1)).toInt (xs (l3.toNatClampNeg + 2)).toInt (xs (l3.toNatClampNeg + 3)).toInt (xs (l3.toNatClampNeg + 4)).toInt (xs (l3.toNatClampNeg + 5)).toInt V
  rw [p11] at g
  have ee : (v7 : Int32).toInt = (v19 : Int32).toInt := p10.symm.trans (g.1.trans p22)
  have V : pR ((it : Int) + 1 + 1) (vw h18) (vw h18) := by rw [← p23]; exact g.2
  show jX m_L_law 1300 600000 7302250 1256 [(3, .int l3), (2, .ref 125), (1, .ref 31), (0, .ref 0)] [.int v19, .int v7] h18 (k + 0 + 0) (n + 0 + 0) Q
  refine x_iceq (tgt := 2887) rfl rfl (br_t (Int32.toInt_inj.mp ee) ?_)
  exact law_next (it := it) (by omega) ⟨I, by rw [show (((it + 1 : Nat) : Int) + 1) = (it : Int) + 1 + 1 from by omega]; exact V⟩ ⟨by omega, by have := R.2.1; omega, by have := R.2.2; omega⟩ kk
set_option maxRecDepth 100000 in
set_option maxHeartbeats 4000000 in
theorem cs_text {L it : Nat} {xs : Nat → Int32} {h : jH} {k n : Nat} {l3 : Int32} {Q : Option Value → jH → Prop} (hL : L ≤ 3584) (y : 0 ≤ l3.toInt ∧ l3.toInt + 7 ≤ (L : Int)) (hit : it < 512) (I : jLi L xs h) (V : pR ((it : Int) + 1) (vw h) (vw h)) (R : jRoom it h k n) (kk : ∀ (l : Int32) h k n, l.toInt = l3.toInt + 7 → jLw L xs (it + 1) h → jRoom (it + 1) h k n → jX m_L_law 1300 600000 7302250 18 [(3, .int l), (2, .ref 125), (1, .ref 31), (0, .ref 0)] [] h k n Q) : jX m_L_law 1300 600000 7302250 1261 [(3, .int l3), (2, .ref 125), (1, .ref 31), (0, .ref 0)] [] h k n Q := by
  refine x_aloadn (x := 31) rfl rfl ?_
  refine x_aloadn (x := 0) rfl rfl ?_
  refine x_iloadn (x := l3) rfl rfl ?_
  refine x_iconst (v := 1) rfl ki_1 ?_
  refine z_iadd rfl rfl jk_1 (by omega) (fun w1 ew1 => ?_)
  refine y_iald (v := xs (l3.toNatClampNeg + 1)) (N := L) (l3.toNatClampNeg + 1) rfl I.2.2.2.1 (vpi (by omega)) (jcl_j (by omega) y.1) (I.2.2.2.2.1 _) ?_
  refine x_aloadn (x := 0) rfl rfl ?_
  refine x_iloadn (x := l3) rfl rfl ?_
  refine x_iconst (v := 2) rfl ki_2 ?_
  refine z_iadd rfl rfl jk_2 (by omega) (fun w2 ew2 => ?_)
  refine y_iald (v := xs (l3.toNatClampNeg + 2)) (N := L) (l3.toNatClampNeg + 2) rfl I.2.2.2.1 (vpi (by omega)) (jcl_j (by omega) y.1) (I.2.2.2.2.1 _) ?_
  refine x_aloadn (x := 0) rfl rfl ?_
  refine x_iloadn (x := l3) rfl rfl ?_
  refine x_iconst (v := 3) rfl ki_3 ?_
  refine z_iadd rfl rfl jk_3 (by omega) (fun w3 ew3 => ?_)
  refine y_iald (v := xs (l3.toNatClampNeg + 3)) (N := L) (l3.toNatClampNeg + 3) rfl I.2.2.2.1 (vpi (by omega)) (jcl_j (by omega) y.1) (I.2.2.2.2.1 _) ?_
  have rm := rm_0 R
  have D := I.1.2.2.2.1
  refine x_inv (N := m_X11_text) (As := [.int (xs (l3.toNatClampNeg + 1)), .int (xs (l3.toNatClampNeg + 2)), .int (xs (l3.toNatClampNeg + 3))]) (b := 31) (st := []) (dx9 := 27) (mc := 3) (ms := 1278) (host := "") 11 rfl t_X11_text ⟨Or.inl q_13_119, i_X11_text.1, i_X11_text.2⟩ ⟨by decide, rfl⟩ (congrArg Prod.fst (I.1.1.1 31 (11, 13) rfl)) rfl (by decide) rfl rfl ⟨by omega, by omega⟩ (sf_X11_text_r31D dy_k I.1 rfl rfl I.2.2.2.2.2 (fun v5 h4 ev5 J6 S7 p9 p10 p11 p12 p13 p14 => ?_))
  obtain ⟨I, r8⟩ := li_x I J6 S7 rfl (rx_2 p11 p12 p13)
  have cr8 := cn_e r8
  show jX m_L_law 1300 600000 7302250 1280 [(3, .int l3), (2, .ref 125), (1, .ref 31), (0, .ref 0)] [.int v5] h4 (k + 3) (n + 1278) Q
  refine x_aloadn (x := 125) rfl rfl ?_
  refine x_aloadn (x := 0) rfl rfl ?_
  refine x_iloadn (x := l3) rfl rfl ?_
  refine x_iconst (v := 1) rfl ki_1 ?_
  refine z_iadd rfl rfl jk_1 (by omega) (fun w15 ew15 => ?_)
  refine y_iald (v := xs (l3.toNatClampNeg + 1)) (N := L) (l3.toNatClampNeg + 1) rfl I.2.2.2.1 (vpi (by omega)) (jcl_j (by omega) y.1) (I.2.2.2.2.1 _) ?_
  refine x_aloadn (x := 0) rfl rfl ?_
  refine x_iloadn (x := l3) rfl rfl ?_
  refine x_iconst (v := 2) rfl ki_2 ?_
  refine z_iadd rfl rfl jk_2 (by omega) (fun w16 ew16 => ?_)
  refine y_iald (v := xs (l3.toNatClampNeg + 2)) (N := L) (l3.toNatClampNeg + 2) rfl I.2.2.2.1 (vpi (by omega)) (jcl_j (by omega) y.1) (I.2.2.2.2.1 _) ?_
  refine x_aloadn (x := 0) rfl rfl ?_
  refine x_iloadn (x := l3) rfl rfl ?_
  refine x_iconst (v := 3) rfl ki_3 ?_
  refine z_iadd rfl rfl jk_3 (by omega) (fun w17 ew17 => ?_)
  refine y_iald (v := xs (l3.toNatClampNeg + 3)) (N := L) (l3.toNatClampNeg + 3) rfl I.2.2.2.1 (vpi (by omega)) (jcl_j (by omega) y.1) (I.2.2.2.2.1 _) ?_
  refine x_inv (N := m_X12_text) (As := [.int (xs (l3.toNatClampNeg + 1)), .int (xs (l3.toNatClampNeg + 2)), .int (xs (l3.toNatClampNeg + 3))]) (b := 125) (st := [.int v5]) (dx9 := 10) (mc := 0) (ms := 0) (host := "") 12 rfl t_X12_text ⟨Or.inl q_13_122, i_X12_text.1, i_X12_text.2⟩ ⟨by decide, rfl⟩ (congrArg Prod.fst (I.1.1.1 125 (12, 92) rfl)) rfl (by decide) rfl rfl ⟨by omega, by omega⟩ (sf_X12_text_r125d dy_k (li_jm I) rfl rfl rfl rfl rfl I.2.2.1.1 rfl (fun v19 h18 J20 S21 u22 u23 u24 u25 u26 p27 p28 p29 p30 p31 p32 p33 p34 => ?_))
  obtain ⟨I, r35⟩ := li_m I J20 S21 rfl (rr_2 I.2.2.1 S21 rfl p27 p28 p29 p30 p31 p32)
  have cr35 := cn_e r35
  have g := h_text (xs (l3.toNatClampNeg + 1)).toInt (xs (l3.toNatClampNeg + 2)).toInt (xs (l3.toNatClampNeg + 3)).toInt V (by omega) p14 (ecl_s S7 rfl)
  have ee : (v5 : Int32).toInt = (v19 : Int32).toInt := g.1.trans p33
  have V : pR ((it : Int) + 1 + 1) (vw h18) (vw h18) := by rw [← p34]; exact g.2
  show jX m_L_law 1300 600000 7302250 1299 [(3, .int l3), (2, .ref 125), (1, .ref 31), (0, .ref 0)] [.int v19, .int v5] h18 (k + 3 + 0) (n + 1278 + 0) Q
  refine x_iceq (tgt := 2887) rfl rfl (br_t (Int32.toInt_inj.mp ee) ?_)
  exact law_next (it := it) (by omega) ⟨I, by rw [show (((it + 1 : Nat) : Int) + 1) = (it : Int) + 1 + 1 from by omega]; exact V⟩ ⟨by omega, by have := R.2.1; omega, by have := R.2.2; omega⟩ kk
set_option maxRecDepth 100000 in
set_option maxHeartbeats 4000000 in
theorem cs_force {L it : Nat} {xs : Nat → Int32} {h : jH} {k n : Nat} {l3 : Int32} {Q : Option Value → jH → Prop} (hL : L ≤ 3584) (y : 0 ≤ l3.toInt ∧ l3.toInt + 7 ≤ (L : Int)) (hit : it < 512) (I : jLi L xs h) (V : pR ((it : Int) + 1) (vw h) (vw h)) (R : jRoom it h k n) (kk : ∀ (l : Int32) h k n, l.toInt = l3.toInt + 7 → jLw L xs (it + 1) h → jRoom (it + 1) h k n → jX m_L_law 1300 600000 7302250 18 [(3, .int l), (2, .ref 125), (1, .ref 31), (0, .ref 0)] [] h k n Q) : jX m_L_law 1300 600000 7302250 1304 [(3, .int l3), (2, .ref 125), (1, .ref 31), (0, .ref 0)] [] h k n Q := by
  refine x_aloadn (x := 31) rfl rfl ?_
  refine x_aloadn (x := 0) rfl rfl ?_
  refine x_iloadn (x := l3) rfl rfl ?_
  refine x_iconst (v := 1) rfl ki_1 ?_
  refine z_iadd rfl rfl jk_1 (by omega) (fun w1 ew1 => ?_)
  refine y_iald (v := xs (l3.toNatClampNeg + 1)) (N := L) (l3.toNatClampNeg + 1) rfl I.2.2.2.1 (vpi (by omega)) (jcl_j (by omega) y.1) (I.2.2.2.2.1 _) ?_
  refine x_aloadn (x := 0) rfl rfl ?_
  refine x_iloadn (x := l3) rfl rfl ?_
  refine x_iconst (v := 2) rfl ki_2 ?_
  refine z_iadd rfl rfl jk_2 (by omega) (fun w2 ew2 => ?_)
  refine y_iald (v := xs (l3.toNatClampNeg + 2)) (N := L) (l3.toNatClampNeg + 2) rfl I.2.2.2.1 (vpi (by omega)) (jcl_j (by omega) y.1) (I.2.2.2.2.1 _) ?_
  refine x_aloadn (x := 0) rfl rfl ?_
  refine x_iloadn (x := l3) rfl rfl ?_
  refine x_iconst (v := 3) rfl ki_3 ?_
  refine z_iadd rfl rfl jk_3 (by omega) (fun w3 ew3 => ?_)
  refine y_iald (v := xs (l3.toNatClampNeg + 3)) (N := L) (l3.toNatClampNeg + 3) rfl I.2.2.2.1 (vpi (by omega)) (jcl_j (by omega) y.1) (I.2.2.2.2.1 _) ?_
  refine x_aloadn (x := 0) rfl rfl ?_
  refine x_iloadn (x := l3) rfl rfl ?_
  refine x_iconst (v := 4) rfl ki_4 ?_
  refine z_iadd rfl rfl jk_4 (by omega) (fun w4 ew4 => ?_)
  refine y_iald (v := xs (l3.toNatClampNeg + 4)) (N := L) (l3.toNatClampNeg + 4) rfl I.2.2.2.1 (vpi (by omega)) (jcl_j (by omega) y.1) (I.2.2.2.2.1 _) ?_
  have rm := rm_0 R
  have D := I.1.2.2.2.1
  refine x_inv (N := m_X11_force) (As := [.int (xs (l3.toNatClampNeg + 1)), .int (xs (l3.toNatClampNeg + 2)), .int (xs (l3.toNatClampNeg + 3)), .int (xs (l3.toNatClampNeg + 4))]) (b := 31) (st := []) (dx9 := 4) (mc := 0) (ms := 0) (host := "") 11 rfl t_X11_force ⟨Or.inl q_13_123, i_X11_force.1, i_X11_force.2⟩ ⟨by decide, rfl⟩ (congrArg Prod.fst (I.1.1.1 31 (11, 13) rfl)) rfl (by decide) rfl rfl ⟨by omega, by omega⟩ (sf_X11_force_r31d dy_k I.1 rfl (fun v6 h5 p7 J8 S9 p10 p11 => ?_))
  obtain ⟨I, r12⟩ := li_x I J8 S9 rfl (rx_m I.2.2.2.2.2 S9 rfl)
  have cr12 := cn_e r12
  show jX m_L_law 1300 600000 7302250 1328 [(3, .int l3), (2, .ref 125), (1, .ref 31), (0, .ref 0)] [.int v6] h5 (k + 0) (n + 0) Q
  refine x_aloadn (x := 125) rfl rfl ?_
  refine x_aloadn (x := 0) rfl rfl ?_
  refine x_iloadn (x := l3) rfl rfl ?_
  refine x_iconst (v := 1) rfl ki_1 ?_
  refine z_iadd rfl rfl jk_1 (by omega) (fun w13 ew13 => ?_)
  refine y_iald (v := xs (l3.toNatClampNeg + 1)) (N := L) (l3.toNatClampNeg + 1) rfl I.2.2.2.1 (vpi (by omega)) (jcl_j (by omega) y.1) (I.2.2.2.2.1 _) ?_
  refine x_aloadn (x := 0) rfl rfl ?_
  refine x_iloadn (x := l3) rfl rfl ?_
  refine x_iconst (v := 2) rfl ki_2 ?_
  refine z_iadd rfl rfl jk_2 (by omega) (fun w14 ew14 => ?_)
  refine y_iald (v := xs (l3.toNatClampNeg + 2)) (N := L) (l3.toNatClampNeg + 2) rfl I.2.2.2.1 (vpi (by omega)) (jcl_j (by omega) y.1) (I.2.2.2.2.1 _) ?_
  refine x_aloadn (x := 0) rfl rfl ?_
  refine x_iloadn (x := l3) rfl rfl ?_
  refine x_iconst (v := 3) rfl ki_3 ?_
  refine z_iadd rfl rfl jk_3 (by omega) (fun w15 ew15 => ?_)
  refine y_iald (v := xs (l3.toNatClampNeg + 3)) (N := L) (l3.toNatClampNeg + 3) rfl I.2.2.2.1 (vpi (by omega)) (jcl_j (by omega) y.1) (I.2.2.2.2.1 _) ?_
  refine x_aloadn (x := 0) rfl rfl ?_
  refine x_iloadn (x := l3) rfl rfl ?_
  refine x_iconst (v := 4) rfl ki_4 ?_
  refine z_iadd rfl rfl jk_4 (by omega) (fun w16 ew16 => ?_)
  refine y_iald (v := xs (l3.toNatClampNeg + 4)) (N := L) (l3.toNatClampNeg + 4) rfl I.2.2.2.1 (vpi (by omega)) (jcl_j (by omega) y.1) (I.2.2.2.2.1 _) ?_
  refine x_inv (N := m_X12_force) (As := [.int (xs (l3.toNatClampNeg + 1)), .int (xs (l3.toNatClampNeg + 2)), .int (xs (l3.toNatClampNeg + 3)), .int (xs (l3.toNatClampNeg + 4))]) (b := 125) (st := [.int v6]) (dx9 := 9) (mc := 0) (ms := 0) (host := "") 12 rfl t_X12_force ⟨Or.inl q_13_126, i_X12_force.1, i_X12_force.2⟩ ⟨by decide, rfl⟩ (congrArg Prod.fst (I.1.1.1 125 (12, 92) rfl)) rfl (by decide) rfl rfl ⟨by omega, by omega⟩ (sf_X12_force_r125d dy_k (li_jm I) rfl (fun v18 h17 p19 J20 S21 p22 p23 => ?_))
  obtain ⟨I, r24⟩ := li_m I J20 S21 rfl (rr_m I.2.2.1 S21 rfl)
  have cr24 := cn_e r24
  have g := g_force (xs (l3.toNatClampNeg + 1)).toInt (xs (l3.toNatClampNeg + 2)).toInt (xs (l3.toNatClampNeg + 3)).toInt (xs (l3.toNatClampNeg + 4)).toInt V
  rw [p11] at g
  have ee : (v6 : Int32).toInt = (v18 : Int32).toInt := p10.symm.trans (g.1.trans p22)
  have V : pR ((it : Int) + 1 + 1) (vw h17) (vw h17) := by rw [← p23]; exact g.2
  show jX m_L_law 1300 600000 7302250 1352 [(3, .int l3), (2, .ref 125), (1, .ref 31), (0, .ref 0)] [.int v18, .int v6] h17 (k + 0 + 0) (n + 0 + 0) Q
  refine x_iceq (tgt := 2887) rfl rfl (br_t (Int32.toInt_inj.mp ee) ?_)
  exact law_next (it := it) (by omega) ⟨I, by rw [show (((it + 1 : Nat) : Int) + 1) = (it : Int) + 1 + 1 from by omega]; exact V⟩ ⟨by omega, by have := R.2.1; omega, by have := R.2.2; omega⟩ kk
set_option maxRecDepth 100000 in
set_option maxHeartbeats 4000000 in
theorem cs_holds {L it : Nat} {xs : Nat → Int32} {h : jH} {k n : Nat} {l3 : Int32} {Q : Option Value → jH → Prop} (hL : L ≤ 3584) (y : 0 ≤ l3.toInt ∧ l3.toInt + 7 ≤ (L : Int)) (hit : it < 512) (I : jLi L xs h) (V : pR ((it : Int) + 1) (vw h) (vw h)) (R : jRoom it h k n) (kk : ∀ (l : Int32) h k n, l.toInt = l3.toInt + 7 → jLw L xs (it + 1) h → jRoom (it + 1) h k n → jX m_L_law 1300 600000 7302250 18 [(3, .int l), (2, .ref 125), (1, .ref 31), (0, .ref 0)] [] h k n Q) : jX m_L_law 1300 600000 7302250 1357 [(3, .int l3), (2, .ref 125), (1, .ref 31), (0, .ref 0)] [] h k n Q := by
  refine x_aloadn (x := 31) rfl rfl ?_
  refine x_aloadn (x := 0) rfl rfl ?_
  refine x_iloadn (x := l3) rfl rfl ?_
  refine x_iconst (v := 1) rfl ki_1 ?_
  refine z_iadd rfl rfl jk_1 (by omega) (fun w1 ew1 => ?_)
  refine y_iald (v := xs (l3.toNatClampNeg + 1)) (N := L) (l3.toNatClampNeg + 1) rfl I.2.2.2.1 (vpi (by omega)) (jcl_j (by omega) y.1) (I.2.2.2.2.1 _) ?_
  refine x_aloadn (x := 0) rfl rfl ?_
  refine x_iloadn (x := l3) rfl rfl ?_
  refine x_iconst (v := 2) rfl ki_2 ?_
  refine z_iadd rfl rfl jk_2 (by omega) (fun w2 ew2 => ?_)
  refine y_iald (v := xs (l3.toNatClampNeg + 2)) (N := L) (l3.toNatClampNeg + 2) rfl I.2.2.2.1 (vpi (by omega)) (jcl_j (by omega) y.1) (I.2.2.2.2.1 _) ?_
  refine x_aloadn (x := 0) rfl rfl ?_
  refine x_iloadn (x := l3) rfl rfl ?_
  refine x_iconst (v := 3) rfl ki_3 ?_
  refine z_iadd rfl rfl jk_3 (by omega) (fun w3 ew3 => ?_)
  refine y_iald (v := xs (l3.toNatClampNeg + 3)) (N := L) (l3.toNatClampNeg + 3) rfl I.2.2.2.1 (vpi (by omega)) (jcl_j (by omega) y.1) (I.2.2.2.2.1 _) ?_
  refine x_aloadn (x := 0) rfl rfl ?_
  refine x_iloadn (x := l3) rfl rfl ?_
  refine x_iconst (v := 4) rfl ki_4 ?_
  refine z_iadd rfl rfl jk_4 (by omega) (fun w4 ew4 => ?_)
  refine y_iald (v := xs (l3.toNatClampNeg + 4)) (N := L) (l3.toNatClampNeg + 4) rfl I.2.2.2.1 (vpi (by omega)) (jcl_j (by omega) y.1) (I.2.2.2.2.1 _) ?_
  refine x_aloadn (x := 0) rfl rfl ?_
  refine x_iloadn (x := l3) rfl rfl ?_
  refine x_iconst (v := 5) rfl ki_5 ?_
  refine z_iadd rfl rfl jk_5 (by omega) (fun w5 ew5 => ?_)
  refine y_iald (v := xs (l3.toNatClampNeg + 5)) (N := L) (l3.toNatClampNeg + 5) rfl I.2.2.2.1 (vpi (by omega)) (jcl_j (by omega) y.1) (I.2.2.2.2.1 _) ?_
  have rm := rm_0 R
  have D := I.1.2.2.2.1
  refine x_inv (N := m_X11_holds) (As := [.int (xs (l3.toNatClampNeg + 1)), .int (xs (l3.toNatClampNeg + 2)), .int (xs (l3.toNatClampNeg + 3)), .int (xs (l3.toNatClampNeg + 4)), .int (xs (l3.toNatClampNeg + 5))]) (b := 31) (st := []) (dx9 := 8) (mc := 0) (ms := 0) (host := "") 11 rfl t_X11_holds ⟨Or.inl q_13_127, i_X11_holds.1, i_X11_holds.2⟩ ⟨by decide, rfl⟩ (congrArg Prod.fst (I.1.1.1 31 (11, 13) rfl)) rfl (by decide) rfl rfl ⟨by omega, by omega⟩ (sf_X11_holds_r31d dy_k I.1 rfl (fun v7 h6 p8 J9 S10 p11 p12 => ?_))
  obtain ⟨I, r13⟩ := li_x I J9 S10 rfl (rx_m I.2.2.2.2.2 S10 rfl)
  have cr13 := cn_e r13
  show jX m_L_law 1300 600000 7302250 1386 [(3, .int l3), (2, .ref 125), (1, .ref 31), (0, .ref 0)] [.int v7] h6 (k + 0) (n + 0) Q
  refine x_aloadn (x := 125) rfl rfl ?_
  refine x_aloadn (x := 0) rfl rfl ?_
  refine x_iloadn (x := l3) rfl rfl ?_
  refine x_iconst (v := 1) rfl ki_1 ?_
  refine z_iadd rfl rfl jk_1 (by omega) (fun w14 ew14 => ?_)
  refine y_iald (v := xs (l3.toNatClampNeg + 1)) (N := L) (l3.toNatClampNeg + 1) rfl I.2.2.2.1 (vpi (by omega)) (jcl_j (by omega) y.1) (I.2.2.2.2.1 _) ?_
  refine x_aloadn (x := 0) rfl rfl ?_
  refine x_iloadn (x := l3) rfl rfl ?_
  refine x_iconst (v := 2) rfl ki_2 ?_
  refine z_iadd rfl rfl jk_2 (by omega) (fun w15 ew15 => ?_)
  refine y_iald (v := xs (l3.toNatClampNeg + 2)) (N := L) (l3.toNatClampNeg + 2) rfl I.2.2.2.1 (vpi (by omega)) (jcl_j (by omega) y.1) (I.2.2.2.2.1 _) ?_
  refine x_aloadn (x := 0) rfl rfl ?_
  refine x_iloadn (x := l3) rfl rfl ?_
  refine x_iconst (v := 3) rfl ki_3 ?_
  refine z_iadd rfl rfl jk_3 (by omega) (fun w16 ew16 => ?_)
  refine y_iald (v := xs (l3.toNatClampNeg + 3)) (N := L) (l3.toNatClampNeg + 3) rfl I.2.2.2.1 (vpi (by omega)) (jcl_j (by omega) y.1) (I.2.2.2.2.1 _) ?_
  refine x_aloadn (x := 0) rfl rfl ?_
  refine x_iloadn (x := l3) rfl rfl ?_
  refine x_iconst (v := 4) rfl ki_4 ?_
  refine z_iadd rfl rfl jk_4 (by omega) (fun w17 ew17 => ?_)
  refine y_iald (v := xs (l3.toNatClampNeg + 4)) (N := L) (l3.toNatClampNeg + 4) rfl I.2.2.2.1 (vpi (by omega)) (jcl_j (by omega) y.1) (I.2.2.2.2.1 _) ?_
  refine x_aloadn (x := 0) rfl rfl ?_
  refine x_iloadn (x := l3) rfl rfl ?_
  refine x_iconst (v := 5) rfl ki_5 ?_
  refine z_iadd rfl rfl jk_5 (by omega) (fun w18 ew18 => ?_)
  refine y_iald (v := xs (l3.toNatClampNeg + 5)) (N := L) (l3.toNatClampNeg + 5) rfl I.2.2.2.1 (vpi (by omega)) (jcl_j (by omega) y.1) (I.2.2.2.2.1 _) ?_
  refine x_inv (N := m_X12_holds) (As := [.int (xs (l3.toNatClampNeg + 1)), .int (xs (l3.toNatClampNeg + 2)), .int (xs (l3.toNatClampNeg + 3)), .int (xs (l3.toNatClampNeg + 4)), .int (xs (l3.toNatClampNeg + 5))]) (b := 125) (st := [.int v7]) (dx9 := 11) (mc := 0) (ms := 0) (host := "") 12 rfl t_X12_holds ⟨Or.inl q_13_130, i_X12_holds.1, i_X12_holds.2⟩ ⟨by decide, rfl⟩ (congrArg Prod.fst (I.1.1.1 125 (12, 92) rfl)) rfl (by decide) rfl rfl ⟨by omega, by omega⟩ (sf_X12_holds_r125d dy_k (li_jm I) rfl (fun v20 h19 p21 J22 S23 p24 p25 => ?_))
  obtain ⟨I, r26⟩ := li_m I J22 S23 rfl (rr_m I.2.2.1 S23 rfl)
  have cr26 := cn_e r26
  have g := g_holds (xs (l3.toNatClampNeg + 1)).toInt (xs (l3.toNatClampNeg + 2)).toInt (xs (l3.toNatClampNeg + 3)).toInt (xs (l3.toNatClampNeg + 4)).toInt (xs (l3.toNatClampNeg + 5)).toInt V
  rw [p12] at g
  have ee : (v7 : Int32).toInt = (v20 : Int32).toInt := p11.symm.trans (g.1.trans p24)
  have V : pR ((it : Int) + 1 + 1) (vw h19) (vw h19) := by rw [← p25]; exact g.2
  show jX m_L_law 1300 600000 7302250 1415 [(3, .int l3), (2, .ref 125), (1, .ref 31), (0, .ref 0)] [.int v20, .int v7] h19 (k + 0 + 0) (n + 0 + 0) Q
  refine x_iceq (tgt := 2887) rfl rfl (br_t (Int32.toInt_inj.mp ee) ?_)
  exact law_next (it := it) (by omega) ⟨I, by rw [show (((it + 1 : Nat) : Int) + 1) = (it : Int) + 1 + 1 from by omega]; exact V⟩ ⟨by omega, by have := R.2.1; omega, by have := R.2.2; omega⟩ kk
set_option maxRecDepth 100000 in
set_option maxHeartbeats 4000000 in
theorem cs_counts {L it : Nat} {xs : Nat → Int32} {h : jH} {k n : Nat} {l3 : Int32} {Q : Option Value → jH → Prop} (hL : L ≤ 3584) (y : 0 ≤ l3.toInt ∧ l3.toInt + 7 ≤ (L : Int)) (hit : it < 512) (I : jLi L xs h) (V : pR ((it : Int) + 1) (vw h) (vw h)) (R : jRoom it h k n) (kk : ∀ (l : Int32) h k n, l.toInt = l3.toInt + 7 → jLw L xs (it + 1) h → jRoom (it + 1) h k n → jX m_L_law 1300 600000 7302250 18 [(3, .int l), (2, .ref 125), (1, .ref 31), (0, .ref 0)] [] h k n Q) : jX m_L_law 1300 600000 7302250 1420 [(3, .int l3), (2, .ref 125), (1, .ref 31), (0, .ref 0)] [] h k n Q := by
  refine x_aloadn (x := 31) rfl rfl ?_
  refine x_aloadn (x := 0) rfl rfl ?_
  refine x_iloadn (x := l3) rfl rfl ?_
  refine x_iconst (v := 1) rfl ki_1 ?_
  refine z_iadd rfl rfl jk_1 (by omega) (fun w1 ew1 => ?_)
  refine y_iald (v := xs (l3.toNatClampNeg + 1)) (N := L) (l3.toNatClampNeg + 1) rfl I.2.2.2.1 (vpi (by omega)) (jcl_j (by omega) y.1) (I.2.2.2.2.1 _) ?_
  refine x_aloadn (x := 0) rfl rfl ?_
  refine x_iloadn (x := l3) rfl rfl ?_
  refine x_iconst (v := 2) rfl ki_2 ?_
  refine z_iadd rfl rfl jk_2 (by omega) (fun w2 ew2 => ?_)
  refine y_iald (v := xs (l3.toNatClampNeg + 2)) (N := L) (l3.toNatClampNeg + 2) rfl I.2.2.2.1 (vpi (by omega)) (jcl_j (by omega) y.1) (I.2.2.2.2.1 _) ?_
  refine x_aloadn (x := 0) rfl rfl ?_
  refine x_iloadn (x := l3) rfl rfl ?_
  refine x_iconst (v := 3) rfl ki_3 ?_
  refine z_iadd rfl rfl jk_3 (by omega) (fun w3 ew3 => ?_)
  refine y_iald (v := xs (l3.toNatClampNeg + 3)) (N := L) (l3.toNatClampNeg + 3) rfl I.2.2.2.1 (vpi (by omega)) (jcl_j (by omega) y.1) (I.2.2.2.2.1 _) ?_
  refine x_aloadn (x := 0) rfl rfl ?_
  refine x_iloadn (x := l3) rfl rfl ?_
  refine x_iconst (v := 4) rfl ki_4 ?_
  refine z_iadd rfl rfl jk_4 (by omega) (fun w4 ew4 => ?_)
  refine y_iald (v := xs (l3.toNatClampNeg + 4)) (N := L) (l3.toNatClampNeg + 4) rfl I.2.2.2.1 (vpi (by omega)) (jcl_j (by omega) y.1) (I.2.2.2.2.1 _) ?_
  refine x_aloadn (x := 0) rfl rfl ?_
  refine x_iloadn (x := l3) rfl rfl ?_
  refine x_iconst (v := 5) rfl ki_5 ?_
  refine z_iadd rfl rfl jk_5 (by omega) (fun w5 ew5 => ?_)
  refine y_iald (v := xs (l3.toNatClampNeg + 5)) (N := L) (l3.toNatClampNeg + 5) rfl I.2.2.2.1 (vpi (by omega)) (jcl_j (by omega) y.1) (I.2.2.2.2.1 _) ?_
  have rm := rm_0 R
  have D := I.1.2.2.2.1
  refine x_inv (N := m_X11_counts) (As := [.int (xs (l3.toNatClampNeg + 1)), .int (xs (l3.toNatClampNeg + 2)), .int (xs (l3.toNatClampNeg + 3)), .int (xs (l3.toNatClampNeg + 4)), .int (xs (l3.toNatClampNeg + 5))]) (b := 31) (st := []) (dx9 := 8) (mc := 0) (ms := 0) (host := "") 11 rfl t_X11_counts ⟨Or.inl q_13_131, i_X11_counts.1, i_X11_counts.2⟩ ⟨by decide, rfl⟩ (congrArg Prod.fst (I.1.1.1 31 (11, 13) rfl)) rfl (by decide) rfl rfl ⟨by omega, by omega⟩ (sf_X11_counts_r31d dy_k I.1 rfl (fun v7 h6 J8 S9 p10 p11 => ?_))
  obtain ⟨I, r12⟩ := li_x I J8 S9 rfl (rx_m I.2.2.2.2.2 S9 rfl)
  have cr12 := cn_e r12
  show jX m_L_law 1300 600000 7302250 1449 [(3, .int l3), (2, .ref 125), (1, .ref 31), (0, .ref 0)] [.long v7] h6 (k + 0) (n + 0) Q
  refine x_aloadn (x := 125) rfl rfl ?_
  refine x_aloadn (x := 0) rfl rfl ?_
  refine x_iloadn (x := l3) rfl rfl ?_
  refine x_iconst (v := 1) rfl ki_1 ?_
  refine z_iadd rfl rfl jk_1 (by omega) (fun w13 ew13 => ?_)
  refine y_iald (v := xs (l3.toNatClampNeg + 1)) (N := L) (l3.toNatClampNeg + 1) rfl I.2.2.2.1 (vpi (by omega)) (jcl_j (by omega) y.1) (I.2.2.2.2.1 _) ?_
  refine x_aloadn (x := 0) rfl rfl ?_
  refine x_iloadn (x := l3) rfl rfl ?_
  refine x_iconst (v := 2) rfl ki_2 ?_
  refine z_iadd rfl rfl jk_2 (by omega) (fun w14 ew14 => ?_)
  refine y_iald (v := xs (l3.toNatClampNeg + 2)) (N := L) (l3.toNatClampNeg + 2) rfl I.2.2.2.1 (vpi (by omega)) (jcl_j (by omega) y.1) (I.2.2.2.2.1 _) ?_
  refine x_aloadn (x := 0) rfl rfl ?_
  refine x_iloadn (x := l3) rfl rfl ?_
  refine x_iconst (v := 3) rfl ki_3 ?_
  refine z_iadd rfl rfl jk_3 (by omega) (fun w15 ew15 => ?_)
  refine y_iald (v := xs (l3.toNatClampNeg + 3)) (N := L) (l3.toNatClampNeg + 3) rfl I.2.2.2.1 (vpi (by omega)) (jcl_j (by omega) y.1) (I.2.2.2.2.1 _) ?_
  refine x_aloadn (x := 0) rfl rfl ?_
  refine x_iloadn (x := l3) rfl rfl ?_
  refine x_iconst (v := 4) rfl ki_4 ?_
  refine z_iadd rfl rfl jk_4 (by omega) (fun w16 ew16 => ?_)
  refine y_iald (v := xs (l3.toNatClampNeg + 4)) (N := L) (l3.toNatClampNeg + 4) rfl I.2.2.2.1 (vpi (by omega)) (jcl_j (by omega) y.1) (I.2.2.2.2.1 _) ?_
  refine x_aloadn (x := 0) rfl rfl ?_
  refine x_iloadn (x := l3) rfl rfl ?_
  refine x_iconst (v := 5) rfl ki_5 ?_
  refine z_iadd rfl rfl jk_5 (by omega) (fun w17 ew17 => ?_)
  refine y_iald (v := xs (l3.toNatClampNeg + 5)) (N := L) (l3.toNatClampNeg + 5) rfl I.2.2.2.1 (vpi (by omega)) (jcl_j (by omega) y.1) (I.2.2.2.2.1 _) ?_
  refine x_inv (N := m_X12_counts) (As := [.int (xs (l3.toNatClampNeg + 1)), .int (xs (l3.toNatClampNeg + 2)), .int (xs (l3.toNatClampNeg + 3)), .int (xs (l3.toNatClampNeg + 4)), .int (xs (l3.toNatClampNeg + 5))]) (b := 125) (st := [.long v7]) (dx9 := 12) (mc := 0) (ms := 0) (host := "") 12 rfl t_X12_counts ⟨Or.inl q_13_135, i_X12_counts.1, i_X12_counts.2⟩ ⟨by decide, rfl⟩ (congrArg Prod.fst (I.1.1.1 125 (12, 92) rfl)) rfl (by decide) rfl rfl ⟨by omega, by omega⟩ (sf_X12_counts_r125d dy_k (li_jm I) rfl (fun v19 h18 J20 S21 p22 p23 => ?_))
  obtain ⟨I, r24⟩ := li_m I J20 S21 rfl (rr_m I.2.2.1 S21 rfl)
  have cr24 := cn_e r24
  have g := g_counts (xs (l3.toNatClampNeg + 1)).toInt (xs (l3.toNatClampNeg + 2)).toInt (xs (l3.toNatClampNeg + 3)).toInt (xs (l3.toNatClampNeg + 4)).toInt (xs (l3.toNatClampNeg + 5)).toInt V
  rw [p11] at g
  have ee : (v7 : Int64).toInt = (v19 : Int64).toInt := p10.symm.trans (g.1.trans p22)
  have V : pR ((it : Int) + 1 + 1) (vw h18) (vw h18) := by rw [← p23]; exact g.2
  show jX m_L_law 1300 600000 7302250 1478 [(3, .int l3), (2, .ref 125), (1, .ref 31), (0, .ref 0)] [.long v19, .long v7] h18 (k + 0 + 0) (n + 0 + 0) Q
  refine z_lcmp rfl rfl rfl (fun vc evc => ?_)
  have vz : vc.toInt = 0 := by omega
  refine x_ifeq (tgt := 2887) rfl rfl (br_t (Int32.toInt_inj.mp (vz.trans jk_0.symm)) ?_)
  exact law_next (it := it) (by omega) ⟨I, by rw [show (((it + 1 : Nat) : Int) + 1) = (it : Int) + 1 + 1 from by omega]; exact V⟩ ⟨by omega, by have := R.2.1; omega, by have := R.2.2; omega⟩ kk
set_option maxRecDepth 100000 in
set_option maxHeartbeats 4000000 in
theorem cs_about {L it : Nat} {xs : Nat → Int32} {h : jH} {k n : Nat} {l3 : Int32} {Q : Option Value → jH → Prop} (hL : L ≤ 3584) (y : 0 ≤ l3.toInt ∧ l3.toInt + 7 ≤ (L : Int)) (hit : it < 512) (I : jLi L xs h) (V : pR ((it : Int) + 1) (vw h) (vw h)) (R : jRoom it h k n) (kk : ∀ (l : Int32) h k n, l.toInt = l3.toInt + 7 → jLw L xs (it + 1) h → jRoom (it + 1) h k n → jX m_L_law 1300 600000 7302250 18 [(3, .int l), (2, .ref 125), (1, .ref 31), (0, .ref 0)] [] h k n Q) : jX m_L_law 1300 600000 7302250 1484 [(3, .int l3), (2, .ref 125), (1, .ref 31), (0, .ref 0)] [] h k n Q := by
  refine x_aloadn (x := 31) rfl rfl ?_
  refine x_aloadn (x := 0) rfl rfl ?_
  refine x_iloadn (x := l3) rfl rfl ?_
  refine x_iconst (v := 1) rfl ki_1 ?_
  refine z_iadd rfl rfl jk_1 (by omega) (fun w1 ew1 => ?_)
  refine y_iald (v := xs (l3.toNatClampNeg + 1)) (N := L) (l3.toNatClampNeg + 1) rfl I.2.2.2.1 (vpi (by omega)) (jcl_j (by omega) y.1) (I.2.2.2.2.1 _) ?_
  refine x_aloadn (x := 0) rfl rfl ?_
  refine x_iloadn (x := l3) rfl rfl ?_
  refine x_iconst (v := 2) rfl ki_2 ?_
  refine z_iadd rfl rfl jk_2 (by omega) (fun w2 ew2 => ?_)
  refine y_iald (v := xs (l3.toNatClampNeg + 2)) (N := L) (l3.toNatClampNeg + 2) rfl I.2.2.2.1 (vpi (by omega)) (jcl_j (by omega) y.1) (I.2.2.2.2.1 _) ?_
  refine x_aloadn (x := 0) rfl rfl ?_
  refine x_iloadn (x := l3) rfl rfl ?_
  refine x_iconst (v := 3) rfl ki_3 ?_
  refine z_iadd rfl rfl jk_3 (by omega) (fun w3 ew3 => ?_)
  refine y_iald (v := xs (l3.toNatClampNeg + 3)) (N := L) (l3.toNatClampNeg + 3) rfl I.2.2.2.1 (vpi (by omega)) (jcl_j (by omega) y.1) (I.2.2.2.2.1 _) ?_
  refine x_aloadn (x := 0) rfl rfl ?_
  refine x_iloadn (x := l3) rfl rfl ?_
  refine x_iconst (v := 4) rfl ki_4 ?_
  refine z_iadd rfl rfl jk_4 (by omega) (fun w4 ew4 => ?_)
  refine y_iald (v := xs (l3.toNatClampNeg + 4)) (N := L) (l3.toNatClampNeg + 4) rfl I.2.2.2.1 (vpi (by omega)) (jcl_j (by omega) y.1) (I.2.2.2.2.1 _) ?_
  have rm := rm_0 R
  have D := I.1.2.2.2.1
  refine x_inv (N := m_X11_about) (As := [.int (xs (l3.toNatClampNeg + 1)), .int (xs (l3.toNatClampNeg + 2)), .int (xs (l3.toNatClampNeg + 3)), .int (xs (l3.toNatClampNeg + 4))]) (b := 31) (st := []) (dx9 := 8) (mc := 0) (ms := 0) (host := "") 11 rfl t_X11_about ⟨Or.inl q_13_136, i_X11_about.1, i_X11_about.2⟩ ⟨by decide, rfl⟩ (congrArg Prod.fst (I.1.1.1 31 (11, 13) rfl)) rfl (by decide) rfl rfl ⟨by omega, by omega⟩ (sf_X11_about_r31d dy_k I.1 rfl (fun v6 h5 J7 S8 p9 p10 => ?_))
  obtain ⟨I, r11⟩ := li_x I J7 S8 rfl (rx_m I.2.2.2.2.2 S8 rfl)
  have cr11 := cn_e r11
  show jX m_L_law 1300 600000 7302250 1508 [(3, .int l3), (2, .ref 125), (1, .ref 31), (0, .ref 0)] [.long v6] h5 (k + 0) (n + 0) Q
  refine x_aloadn (x := 125) rfl rfl ?_
  refine x_aloadn (x := 0) rfl rfl ?_
  refine x_iloadn (x := l3) rfl rfl ?_
  refine x_iconst (v := 1) rfl ki_1 ?_
  refine z_iadd rfl rfl jk_1 (by omega) (fun w12 ew12 => ?_)
  refine y_iald (v := xs (l3.toNatClampNeg + 1)) (N := L) (l3.toNatClampNeg + 1) rfl I.2.2.2.1 (vpi (by omega)) (jcl_j (by omega) y.1) (I.2.2.2.2.1 _) ?_
  refine x_aloadn (x := 0) rfl rfl ?_
  refine x_iloadn (x := l3) rfl rfl ?_
  refine x_iconst (v := 2) rfl ki_2 ?_
  refine z_iadd rfl rfl jk_2 (by omega) (fun w13 ew13 => ?_)
  refine y_iald (v := xs (l3.toNatClampNeg + 2)) (N := L) (l3.toNatClampNeg + 2) rfl I.2.2.2.1 (vpi (by omega)) (jcl_j (by omega) y.1) (I.2.2.2.2.1 _) ?_
  refine x_aloadn (x := 0) rfl rfl ?_
  refine x_iloadn (x := l3) rfl rfl ?_
  refine x_iconst (v := 3) rfl ki_3 ?_
  refine z_iadd rfl rfl jk_3 (by omega) (fun w14 ew14 => ?_)
  refine y_iald (v := xs (l3.toNatClampNeg + 3)) (N := L) (l3.toNatClampNeg + 3) rfl I.2.2.2.1 (vpi (by omega)) (jcl_j (by omega) y.1) (I.2.2.2.2.1 _) ?_
  refine x_aloadn (x := 0) rfl rfl ?_
  refine x_iloadn (x := l3) rfl rfl ?_
  refine x_iconst (v := 4) rfl ki_4 ?_
  refine z_iadd rfl rfl jk_4 (by omega) (fun w15 ew15 => ?_)
  refine y_iald (v := xs (l3.toNatClampNeg + 4)) (N := L) (l3.toNatClampNeg + 4) rfl I.2.2.2.1 (vpi (by omega)) (jcl_j (by omega) y.1) (I.2.2.2.2.1 _) ?_
  refine x_inv (N := m_X12_about) (As := [.int (xs (l3.toNatClampNeg + 1)), .int (xs (l3.toNatClampNeg + 2)), .int (xs (l3.toNatClampNeg + 3)), .int (xs (l3.toNatClampNeg + 4))]) (b := 125) (st := [.long v6]) (dx9 := 10) (mc := 0) (ms := 0) (host := "") 12 rfl t_X12_about ⟨Or.inl q_13_140, i_X12_about.1, i_X12_about.2⟩ ⟨by decide, rfl⟩ (congrArg Prod.fst (I.1.1.1 125 (12, 92) rfl)) rfl (by decide) rfl rfl ⟨by omega, by omega⟩ (sf_X12_about_r125d dy_k (li_jm I) rfl (fun v17 h16 J18 S19 p20 p21 => ?_))
  obtain ⟨I, r22⟩ := li_m I J18 S19 rfl (rr_m I.2.2.1 S19 rfl)
  have cr22 := cn_e r22
  have g := g_about (xs (l3.toNatClampNeg + 1)).toInt (xs (l3.toNatClampNeg + 2)).toInt (xs (l3.toNatClampNeg + 3)).toInt (xs (l3.toNatClampNeg + 4)).toInt V
  rw [p10] at g
  have ee : (v6 : Int64).toInt = (v17 : Int64).toInt := p9.symm.trans (g.1.trans p20)
  have V : pR ((it : Int) + 1 + 1) (vw h16) (vw h16) := by rw [← p21]; exact g.2
  show jX m_L_law 1300 600000 7302250 1532 [(3, .int l3), (2, .ref 125), (1, .ref 31), (0, .ref 0)] [.long v17, .long v6] h16 (k + 0 + 0) (n + 0 + 0) Q
  refine z_lcmp rfl rfl rfl (fun vc evc => ?_)
  have vz : vc.toInt = 0 := by omega
  refine x_ifeq (tgt := 2887) rfl rfl (br_t (Int32.toInt_inj.mp (vz.trans jk_0.symm)) ?_)
  exact law_next (it := it) (by omega) ⟨I, by rw [show (((it + 1 : Nat) : Int) + 1) = (it : Int) + 1 + 1 from by omega]; exact V⟩ ⟨by omega, by have := R.2.1; omega, by have := R.2.2; omega⟩ kk
set_option maxRecDepth 100000 in
set_option maxHeartbeats 4000000 in
theorem cs_fact {L it : Nat} {xs : Nat → Int32} {h : jH} {k n : Nat} {l3 : Int32} {Q : Option Value → jH → Prop} (hL : L ≤ 3584) (y : 0 ≤ l3.toInt ∧ l3.toInt + 7 ≤ (L : Int)) (hit : it < 512) (I : jLi L xs h) (V : pR ((it : Int) + 1) (vw h) (vw h)) (R : jRoom it h k n) (kk : ∀ (l : Int32) h k n, l.toInt = l3.toInt + 7 → jLw L xs (it + 1) h → jRoom (it + 1) h k n → jX m_L_law 1300 600000 7302250 18 [(3, .int l), (2, .ref 125), (1, .ref 31), (0, .ref 0)] [] h k n Q) : jX m_L_law 1300 600000 7302250 1538 [(3, .int l3), (2, .ref 125), (1, .ref 31), (0, .ref 0)] [] h k n Q := by
  refine x_aloadn (x := 31) rfl rfl ?_
  refine x_aloadn (x := 0) rfl rfl ?_
  refine x_iloadn (x := l3) rfl rfl ?_
  refine x_iconst (v := 1) rfl ki_1 ?_
  refine z_iadd rfl rfl jk_1 (by omega) (fun w1 ew1 => ?_)
  refine y_iald (v := xs (l3.toNatClampNeg + 1)) (N := L) (l3.toNatClampNeg + 1) rfl I.2.2.2.1 (vpi (by omega)) (jcl_j (by omega) y.1) (I.2.2.2.2.1 _) ?_
  refine x_aloadn (x := 0) rfl rfl ?_
  refine x_iloadn (x := l3) rfl rfl ?_
  refine x_iconst (v := 2) rfl ki_2 ?_
  refine z_iadd rfl rfl jk_2 (by omega) (fun w2 ew2 => ?_)
  refine y_iald (v := xs (l3.toNatClampNeg + 2)) (N := L) (l3.toNatClampNeg + 2) rfl I.2.2.2.1 (vpi (by omega)) (jcl_j (by omega) y.1) (I.2.2.2.2.1 _) ?_
  refine x_aloadn (x := 0) rfl rfl ?_
  refine x_iloadn (x := l3) rfl rfl ?_
  refine x_iconst (v := 3) rfl ki_3 ?_
  refine z_iadd rfl rfl jk_3 (by omega) (fun w3 ew3 => ?_)
  refine y_iald (v := xs (l3.toNatClampNeg + 3)) (N := L) (l3.toNatClampNeg + 3) rfl I.2.2.2.1 (vpi (by omega)) (jcl_j (by omega) y.1) (I.2.2.2.2.1 _) ?_
  refine x_aloadn (x := 0) rfl rfl ?_
  refine x_iloadn (x := l3) rfl rfl ?_
  refine x_iconst (v := 4) rfl ki_4 ?_
  refine z_iadd rfl rfl jk_4 (by omega) (fun w4 ew4 => ?_)
  refine y_iald (v := xs (l3.toNatClampNeg + 4)) (N := L) (l3.toNatClampNeg + 4) rfl I.2.2.2.1 (vpi (by omega)) (jcl_j (by omega) y.1) (I.2.2.2.2.1 _) ?_
  refine x_aloadn (x := 0) rfl rfl ?_
  refine x_iloadn (x := l3) rfl rfl ?_
  refine x_iconst (v := 5) rfl ki_5 ?_
  refine z_iadd rfl rfl jk_5 (by omega) (fun w5 ew5 => ?_)
  refine y_iald (v := xs (l3.toNatClampNeg + 5)) (N := L) (l3.toNatClampNeg + 5) rfl I.2.2.2.1 (vpi (by omega)) (jcl_j (by omega) y.1) (I.2.2.2.2.1 _) ?_
  refine x_aloadn (x := 0) rfl rfl ?_
  refine x_iloadn (x := l3) rfl rfl ?_
  refine x_bipush (v := 6) rfl kb_6 ?_
  refine z_iadd rfl rfl jk_6 (by omega) (fun w6 ew6 => ?_)
  refine y_iald (v := xs (l3.toNatClampNeg + 6)) (N := L) (l3.toNatClampNeg + 6) rfl I.2.2.2.1 (vpi (by omega)) (jcl_j (by omega) y.1) (I.2.2.2.2.1 _) ?_
  have rm := rm_0 R
  have D := I.1.2.2.2.1
  refine x_inv (N := m_X11_fact) (As := [.int (xs (l3.toNatClampNeg + 1)), .int (xs (l3.toNatClampNeg + 2)), .int (xs (l3.toNatClampNeg + 3)), .int (xs (l3.toNatClampNeg + 4)), .int (xs (l3.toNatClampNeg + 5)), .int (xs (l3.toNatClampNeg + 6))]) (b := 31) (st := []) (dx9 := 3) (mc := 0) (ms := 0) (host := "") 11 rfl t_X11_fact ⟨Or.inl q_13_141, i_X11_fact.1, i_X11_fact.2⟩ ⟨by decide, rfl⟩ (congrArg Prod.fst (I.1.1.1 31 (11, 13) rfl)) rfl (by decide) rfl rfl ⟨by omega, by omega⟩ (sf_X11_fact_r31d dy_k I.1 rfl (fun v8 h7 p9 J10 S11 p12 p13 => ?_))
  obtain ⟨I, r14⟩ := li_x I J10 S11 rfl (rx_m I.2.2.2.2.2 S11 rfl)
  have cr14 := cn_e r14
  show jX m_L_law 1300 600000 7302250 1573 [(3, .int l3), (2, .ref 125), (1, .ref 31), (0, .ref 0)] [.int v8] h7 (k + 0) (n + 0) Q
  refine x_aloadn (x := 125) rfl rfl ?_
  refine x_aloadn (x := 0) rfl rfl ?_
  refine x_iloadn (x := l3) rfl rfl ?_
  refine x_iconst (v := 1) rfl ki_1 ?_
  refine z_iadd rfl rfl jk_1 (by omega) (fun w15 ew15 => ?_)
  refine y_iald (v := xs (l3.toNatClampNeg + 1)) (N := L) (l3.toNatClampNeg + 1) rfl I.2.2.2.1 (vpi (by omega)) (jcl_j (by omega) y.1) (I.2.2.2.2.1 _) ?_
  refine x_aloadn (x := 0) rfl rfl ?_
  refine x_iloadn (x := l3) rfl rfl ?_
  refine x_iconst (v := 2) rfl ki_2 ?_
  refine z_iadd rfl rfl jk_2 (by omega) (fun w16 ew16 => ?_)
  refine y_iald (v := xs (l3.toNatClampNeg + 2)) (N := L) (l3.toNatClampNeg + 2) rfl I.2.2.2.1 (vpi (by omega)) (jcl_j (by omega) y.1) (I.2.2.2.2.1 _) ?_
  refine x_aloadn (x := 0) rfl rfl ?_
  refine x_iloadn (x := l3) rfl rfl ?_
  refine x_iconst (v := 3) rfl ki_3 ?_
  refine z_iadd rfl rfl jk_3 (by omega) (fun w17 ew17 => ?_)
  refine y_iald (v := xs (l3.toNatClampNeg + 3)) (N := L) (l3.toNatClampNeg + 3) rfl I.2.2.2.1 (vpi (by omega)) (jcl_j (by omega) y.1) (I.2.2.2.2.1 _) ?_
  refine x_aloadn (x := 0) rfl rfl ?_
  refine x_iloadn (x := l3) rfl rfl ?_
  refine x_iconst (v := 4) rfl ki_4 ?_
  refine z_iadd rfl rfl jk_4 (by omega) (fun w18 ew18 => ?_)
  refine y_iald (v := xs (l3.toNatClampNeg + 4)) (N := L) (l3.toNatClampNeg + 4) rfl I.2.2.2.1 (vpi (by omega)) (jcl_j (by omega) y.1) (I.2.2.2.2.1 _) ?_
  refine x_aloadn (x := 0) rfl rfl ?_
  refine x_iloadn (x := l3) rfl rfl ?_
  refine x_iconst (v := 5) rfl ki_5 ?_
  refine z_iadd rfl rfl jk_5 (by omega) (fun w19 ew19 => ?_)
  refine y_iald (v := xs (l3.toNatClampNeg + 5)) (N := L) (l3.toNatClampNeg + 5) rfl I.2.2.2.1 (vpi (by omega)) (jcl_j (by omega) y.1) (I.2.2.2.2.1 _) ?_
  refine x_aloadn (x := 0) rfl rfl ?_
  refine x_iloadn (x := l3) rfl rfl ?_
  refine x_bipush (v := 6) rfl kb_6 ?_
  refine z_iadd rfl rfl jk_6 (by omega) (fun w20 ew20 => ?_)
  refine y_iald (v := xs (l3.toNatClampNeg + 6)) (N := L) (l3.toNatClampNeg + 6) rfl I.2.2.2.1 (vpi (by omega)) (jcl_j (by omega) y.1) (I.2.2.2.2.1 _) ?_
  refine x_inv (N := m_X12_fact) (As := [.int (xs (l3.toNatClampNeg + 1)), .int (xs (l3.toNatClampNeg + 2)), .int (xs (l3.toNatClampNeg + 3)), .int (xs (l3.toNatClampNeg + 4)), .int (xs (l3.toNatClampNeg + 5)), .int (xs (l3.toNatClampNeg + 6))]) (b := 125) (st := [.int v8]) (dx9 := 4) (mc := 0) (ms := 0) (host := "") 12 rfl t_X12_fact ⟨Or.inl q_13_145, i_X12_fact.1, i_X12_fact.2⟩ ⟨by decide, rfl⟩ (congrArg Prod.fst (I.1.1.1 125 (12, 92) rfl)) rfl (by decide) rfl rfl ⟨by omega, by omega⟩ (sf_X12_fact_r125d dy_k (li_jm I) rfl rfl rfl rfl rfl I.2.2.1.1 rfl (fun v22 h21 J23 S24 u25 u26 u27 u28 u29 p30 p31 p32 p33 p34 p35 p36 p37 => ?_))
  obtain ⟨I, r38⟩ := li_m I J23 S24 rfl (rr_2 I.2.2.1 S24 rfl p30 p31 p32 p33 p34 p35)
  have cr38 := cn_e r38
  have g := g_fact (xs (l3.toNatClampNeg + 1)).toInt (xs (l3.toNatClampNeg + 2)).toInt (xs (l3.toNatClampNeg + 3)).toInt (xs (l3.toNatClampNeg + 4)).toInt (xs (l3.toNatClampNeg + 5)).toInt (xs (l3.toNatClampNeg + 6)).toInt V (by omega)
  rw [p13] at g
  have ee : (v8 : Int32).toInt = (v22 : Int32).toInt := p12.symm.trans (g.1.trans p36)
  have V : pR ((it : Int) + 1 + 1) (vw h21) (vw h21) := by rw [← p37]; exact g.2
  show jX m_L_law 1300 600000 7302250 1608 [(3, .int l3), (2, .ref 125), (1, .ref 31), (0, .ref 0)] [.int v22, .int v8] h21 (k + 0 + 0) (n + 0 + 0) Q
  refine x_iceq (tgt := 2887) rfl rfl (br_t (Int32.toInt_inj.mp ee) ?_)
  exact law_next (it := it) (by omega) ⟨I, by rw [show (((it + 1 : Nat) : Int) + 1) = (it : Int) + 1 + 1 from by omega]; exact V⟩ ⟨by omega, by have := R.2.1; omega, by have := R.2.2; omega⟩ kk
set_option maxRecDepth 100000 in
set_option maxHeartbeats 4000000 in
theorem cs_belong {L it : Nat} {xs : Nat → Int32} {h : jH} {k n : Nat} {l3 : Int32} {Q : Option Value → jH → Prop} (hL : L ≤ 3584) (y : 0 ≤ l3.toInt ∧ l3.toInt + 7 ≤ (L : Int)) (hit : it < 512) (I : jLi L xs h) (V : pR ((it : Int) + 1) (vw h) (vw h)) (R : jRoom it h k n) (kk : ∀ (l : Int32) h k n, l.toInt = l3.toInt + 7 → jLw L xs (it + 1) h → jRoom (it + 1) h k n → jX m_L_law 1300 600000 7302250 18 [(3, .int l), (2, .ref 125), (1, .ref 31), (0, .ref 0)] [] h k n Q) : jX m_L_law 1300 600000 7302250 1613 [(3, .int l3), (2, .ref 125), (1, .ref 31), (0, .ref 0)] [] h k n Q := by
  refine x_aloadn (x := 31) rfl rfl ?_
  refine x_aloadn (x := 0) rfl rfl ?_
  refine x_iloadn (x := l3) rfl rfl ?_
  refine x_iconst (v := 1) rfl ki_1 ?_
  refine z_iadd rfl rfl jk_1 (by omega) (fun w1 ew1 => ?_)
  refine y_iald (v := xs (l3.toNatClampNeg + 1)) (N := L) (l3.toNatClampNeg + 1) rfl I.2.2.2.1 (vpi (by omega)) (jcl_j (by omega) y.1) (I.2.2.2.2.1 _) ?_
  refine x_aloadn (x := 0) rfl rfl ?_
  refine x_iloadn (x := l3) rfl rfl ?_
  refine x_iconst (v := 2) rfl ki_2 ?_
  refine z_iadd rfl rfl jk_2 (by omega) (fun w2 ew2 => ?_)
  refine y_iald (v := xs (l3.toNatClampNeg + 2)) (N := L) (l3.toNatClampNeg + 2) rfl I.2.2.2.1 (vpi (by omega)) (jcl_j (by omega) y.1) (I.2.2.2.2.1 _) ?_
  refine x_aloadn (x := 0) rfl rfl ?_
  refine x_iloadn (x := l3) rfl rfl ?_
  refine x_iconst (v := 3) rfl ki_3 ?_
  refine z_iadd rfl rfl jk_3 (by omega) (fun w3 ew3 => ?_)
  refine y_iald (v := xs (l3.toNatClampNeg + 3)) (N := L) (l3.toNatClampNeg + 3) rfl I.2.2.2.1 (vpi (by omega)) (jcl_j (by omega) y.1) (I.2.2.2.2.1 _) ?_
  refine x_aloadn (x := 0) rfl rfl ?_
  refine x_iloadn (x := l3) rfl rfl ?_
  refine x_iconst (v := 4) rfl ki_4 ?_
  refine z_iadd rfl rfl jk_4 (by omega) (fun w4 ew4 => ?_)
  refine y_iald (v := xs (l3.toNatClampNeg + 4)) (N := L) (l3.toNatClampNeg + 4) rfl I.2.2.2.1 (vpi (by omega)) (jcl_j (by omega) y.1) (I.2.2.2.2.1 _) ?_
  have rm := rm_0 R
  have D := I.1.2.2.2.1
  refine x_inv (N := m_X11_belong) (As := [.int (xs (l3.toNatClampNeg + 1)), .int (xs (l3.toNatClampNeg + 2)), .int (xs (l3.toNatClampNeg + 3)), .int (xs (l3.toNatClampNeg + 4))]) (b := 31) (st := []) (dx9 := 25) (mc := 0) (ms := 0) (host := "") 11 rfl t_X11_belong ⟨Or.inl q_13_146, i_X11_belong.1, i_X11_belong.2⟩ ⟨by decide, rfl⟩ (congrArg Prod.fst (I.1.1.1 31 (11, 13) rfl)) rfl (by decide) rfl rfl ⟨by omega, by omega⟩ (sf_X11_belong_r31d dy_k I.1 rfl (fun v6 h5 J7 S8 p9 p10 => ?_))
  obtain ⟨I, r11⟩ := li_x I J7 S8 rfl (rx_m I.2.2.2.2.2 S8 rfl)
  have cr11 := cn_e r11
  show jX m_L_law 1300 600000 7302250 1637 [(3, .int l3), (2, .ref 125), (1, .ref 31), (0, .ref 0)] [.int v6] h5 (k + 0) (n + 0) Q
  refine x_aloadn (x := 125) rfl rfl ?_
  refine x_aloadn (x := 0) rfl rfl ?_
  refine x_iloadn (x := l3) rfl rfl ?_
  refine x_iconst (v := 1) rfl ki_1 ?_
  refine z_iadd rfl rfl jk_1 (by omega) (fun w12 ew12 => ?_)
  refine y_iald (v := xs (l3.toNatClampNeg + 1)) (N := L) (l3.toNatClampNeg + 1) rfl I.2.2.2.1 (vpi (by omega)) (jcl_j (by omega) y.1) (I.2.2.2.2.1 _) ?_
  refine x_aloadn (x := 0) rfl rfl ?_
  refine x_iloadn (x := l3) rfl rfl ?_
  refine x_iconst (v := 2) rfl ki_2 ?_
  refine z_iadd rfl rfl jk_2 (by omega) (fun w13 ew13 => ?_)
  refine y_iald (v := xs (l3.toNatClampNeg + 2)) (N := L) (l3.toNatClampNeg + 2) rfl I.2.2.2.1 (vpi (by omega)) (jcl_j (by omega) y.1) (I.2.2.2.2.1 _) ?_
  refine x_aloadn (x := 0) rfl rfl ?_
  refine x_iloadn (x := l3) rfl rfl ?_
  refine x_iconst (v := 3) rfl ki_3 ?_
  refine z_iadd rfl rfl jk_3 (by omega) (fun w14 ew14 => ?_)
  refine y_iald (v := xs (l3.toNatClampNeg + 3)) (N := L) (l3.toNatClampNeg + 3) rfl I.2.2.2.1 (vpi (by omega)) (jcl_j (by omega) y.1) (I.2.2.2.2.1 _) ?_
  refine x_aloadn (x := 0) rfl rfl ?_
  refine x_iloadn (x := l3) rfl rfl ?_
  refine x_iconst (v := 4) rfl ki_4 ?_
  refine z_iadd rfl rfl jk_4 (by omega) (fun w15 ew15 => ?_)
  refine y_iald (v := xs (l3.toNatClampNeg + 4)) (N := L) (l3.toNatClampNeg + 4) rfl I.2.2.2.1 (vpi (by omega)) (jcl_j (by omega) y.1) (I.2.2.2.2.1 _) ?_
  refine x_inv (N := m_X12_belong) (As := [.int (xs (l3.toNatClampNeg + 1)), .int (xs (l3.toNatClampNeg + 2)), .int (xs (l3.toNatClampNeg + 3)), .int (xs (l3.toNatClampNeg + 4))]) (b := 125) (st := [.int v6]) (dx9 := 13) (mc := 0) (ms := 0) (host := "") 12 rfl t_X12_belong ⟨Or.inl q_13_149, i_X12_belong.1, i_X12_belong.2⟩ ⟨by decide, rfl⟩ (congrArg Prod.fst (I.1.1.1 125 (12, 92) rfl)) rfl (by decide) rfl rfl ⟨by omega, by omega⟩ (sf_X12_belong_r125d dy_k (li_jm I) rfl (fun v17 h16 J18 S19 p20 p21 => ?_))
  obtain ⟨I, r22⟩ := li_m I J18 S19 rfl (rr_m I.2.2.1 S19 rfl)
  have cr22 := cn_e r22
  have g := g_belong (xs (l3.toNatClampNeg + 1)).toInt (xs (l3.toNatClampNeg + 2)).toInt (xs (l3.toNatClampNeg + 3)).toInt (xs (l3.toNatClampNeg + 4)).toInt V
  rw [p10] at g
  have ee : (v6 : Int32).toInt = (v17 : Int32).toInt := p9.symm.trans (g.1.trans p20)
  have V : pR ((it : Int) + 1 + 1) (vw h16) (vw h16) := by rw [← p21]; exact g.2
  show jX m_L_law 1300 600000 7302250 1661 [(3, .int l3), (2, .ref 125), (1, .ref 31), (0, .ref 0)] [.int v17, .int v6] h16 (k + 0 + 0) (n + 0 + 0) Q
  refine x_iceq (tgt := 2887) rfl rfl (br_t (Int32.toInt_inj.mp ee) ?_)
  exact law_next (it := it) (by omega) ⟨I, by rw [show (((it + 1 : Nat) : Int) + 1) = (it : Int) + 1 + 1 from by omega]; exact V⟩ ⟨by omega, by have := R.2.1; omega, by have := R.2.2; omega⟩ kk
set_option maxRecDepth 100000 in
set_option maxHeartbeats 4000000 in
theorem cs_order {L it : Nat} {xs : Nat → Int32} {h : jH} {k n : Nat} {l3 : Int32} {Q : Option Value → jH → Prop} (hL : L ≤ 3584) (y : 0 ≤ l3.toInt ∧ l3.toInt + 7 ≤ (L : Int)) (hit : it < 512) (I : jLi L xs h) (V : pR ((it : Int) + 1) (vw h) (vw h)) (R : jRoom it h k n) (kk : ∀ (l : Int32) h k n, l.toInt = l3.toInt + 7 → jLw L xs (it + 1) h → jRoom (it + 1) h k n → jX m_L_law 1300 600000 7302250 18 [(3, .int l), (2, .ref 125), (1, .ref 31), (0, .ref 0)] [] h k n Q) : jX m_L_law 1300 600000 7302250 1666 [(3, .int l3), (2, .ref 125), (1, .ref 31), (0, .ref 0)] [] h k n Q := by
  refine x_aloadn (x := 31) rfl rfl ?_
  refine x_aloadn (x := 0) rfl rfl ?_
  refine x_iloadn (x := l3) rfl rfl ?_
  refine x_iconst (v := 1) rfl ki_1 ?_
  refine z_iadd rfl rfl jk_1 (by omega) (fun w1 ew1 => ?_)
  refine y_iald (v := xs (l3.toNatClampNeg + 1)) (N := L) (l3.toNatClampNeg + 1) rfl I.2.2.2.1 (vpi (by omega)) (jcl_j (by omega) y.1) (I.2.2.2.2.1 _) ?_
  refine x_aloadn (x := 0) rfl rfl ?_
  refine x_iloadn (x := l3) rfl rfl ?_
  refine x_iconst (v := 2) rfl ki_2 ?_
  refine z_iadd rfl rfl jk_2 (by omega) (fun w2 ew2 => ?_)
  refine y_iald (v := xs (l3.toNatClampNeg + 2)) (N := L) (l3.toNatClampNeg + 2) rfl I.2.2.2.1 (vpi (by omega)) (jcl_j (by omega) y.1) (I.2.2.2.2.1 _) ?_
  refine x_aloadn (x := 0) rfl rfl ?_
  refine x_iloadn (x := l3) rfl rfl ?_
  refine x_iconst (v := 3) rfl ki_3 ?_
  refine z_iadd rfl rfl jk_3 (by omega) (fun w3 ew3 => ?_)
  refine y_iald (v := xs (l3.toNatClampNeg + 3)) (N := L) (l3.toNatClampNeg + 3) rfl I.2.2.2.1 (vpi (by omega)) (jcl_j (by omega) y.1) (I.2.2.2.2.1 _) ?_
  have rm := rm_0 R
  have D := I.1.2.2.2.1
  refine x_inv (N := m_X11_order) (As := [.int (xs (l3.toNatClampNeg + 1)), .int (xs (l3.toNatClampNeg + 2)), .int (xs (l3.toNatClampNeg + 3))]) (b := 31) (st := []) (dx9 := 26) (mc := 0) (ms := 0) (host := "") 11 rfl t_X11_order ⟨Or.inl q_13_150, i_X11_order.1, i_X11_order.2⟩ ⟨by decide, rfl⟩ (congrArg Prod.fst (I.1.1.1 31 (11, 13) rfl)) rfl (by decide) rfl rfl ⟨by omega, by omega⟩ (sf_X11_order_r31d dy_k I.1 rfl (fun v5 h4 J6 S7 p8 p9 => ?_))
  obtain ⟨I, r10⟩ := li_x I J6 S7 rfl (rx_m I.2.2.2.2.2 S7 rfl)
  have cr10 := cn_e r10
  show jX m_L_law 1300 600000 7302250 1685 [(3, .int l3), (2, .ref 125), (1, .ref 31), (0, .ref 0)] [.int v5] h4 (k + 0) (n + 0) Q
  refine x_aloadn (x := 125) rfl rfl ?_
  refine x_aloadn (x := 0) rfl rfl ?_
  refine x_iloadn (x := l3) rfl rfl ?_
  refine x_iconst (v := 1) rfl ki_1 ?_
  refine z_iadd rfl rfl jk_1 (by omega) (fun w11 ew11 => ?_)
  refine y_iald (v := xs (l3.toNatClampNeg + 1)) (N := L) (l3.toNatClampNeg + 1) rfl I.2.2.2.1 (vpi (by omega)) (jcl_j (by omega) y.1) (I.2.2.2.2.1 _) ?_
  refine x_aloadn (x := 0) rfl rfl ?_
  refine x_iloadn (x := l3) rfl rfl ?_
  refine x_iconst (v := 2) rfl ki_2 ?_
  refine z_iadd rfl rfl jk_2 (by omega) (fun w12 ew12 => ?_)
  refine y_iald (v := xs (l3.toNatClampNeg + 2)) (N := L) (l3.toNatClampNeg + 2) rfl I.2.2.2.1 (vpi (by omega)) (jcl_j (by omega) y.1) (I.2.2.2.2.1 _) ?_
  refine x_aloadn (x := 0) rfl rfl ?_
  refine x_iloadn (x := l3) rfl rfl ?_
  refine x_iconst (v := 3) rfl ki_3 ?_
  refine z_iadd rfl rfl jk_3 (by omega) (fun w13 ew13 => ?_)
  refine y_iald (v := xs (l3.toNatClampNeg + 3)) (N := L) (l3.toNatClampNeg + 3) rfl I.2.2.2.1 (vpi (by omega)) (jcl_j (by omega) y.1) (I.2.2.2.2.1 _) ?_
  refine x_inv (N := m_X12_order) (As := [.int (xs (l3.toNatClampNeg + 1)), .int (xs (l3.toNatClampNeg + 2)), .int (xs (l3.toNatClampNeg + 3))]) (b := 125) (st := [.int v5]) (dx9 := 14) (mc := 0) (ms := 0) (host := "") 12 rfl t_X12_order ⟨Or.inl q_13_153, i_X12_order.1, i_X12_order.2⟩ ⟨by decide, rfl⟩ (congrArg Prod.fst (I.1.1.1 125 (12, 92) rfl)) rfl (by decide) rfl rfl ⟨by omega, by omega⟩ (sf_X12_order_r125d dy_k (li_jm I) rfl (fun v15 h14 J16 S17 p18 p19 => ?_))
  obtain ⟨I, r20⟩ := li_m I J16 S17 rfl (rr_m I.2.2.1 S17 rfl)
  have cr20 := cn_e r20
  have g := g_order (xs (l3.toNatClampNeg + 1)).toInt (xs (l3.toNatClampNeg + 2)).toInt (xs (l3.toNatClampNeg + 3)).toInt V
  rw [p9] at g
  have ee : (v5 : Int32).toInt = (v15 : Int32).toInt := p8.symm.trans (g.1.trans p18)
  have V : pR ((it : Int) + 1 + 1) (vw h14) (vw h14) := by rw [← p19]; exact g.2
  show jX m_L_law 1300 600000 7302250 1704 [(3, .int l3), (2, .ref 125), (1, .ref 31), (0, .ref 0)] [.int v15, .int v5] h14 (k + 0 + 0) (n + 0 + 0) Q
  refine x_iceq (tgt := 2887) rfl rfl (br_t (Int32.toInt_inj.mp ee) ?_)
  exact law_next (it := it) (by omega) ⟨I, by rw [show (((it + 1 : Nat) : Int) + 1) = (it : Int) + 1 + 1 from by omega]; exact V⟩ ⟨by omega, by have := R.2.1; omega, by have := R.2.2; omega⟩ kk
set_option maxRecDepth 100000 in
set_option maxHeartbeats 4000000 in
theorem cs_appeal {L it : Nat} {xs : Nat → Int32} {h : jH} {k n : Nat} {l3 : Int32} {Q : Option Value → jH → Prop} (hL : L ≤ 3584) (y : 0 ≤ l3.toInt ∧ l3.toInt + 7 ≤ (L : Int)) (hit : it < 512) (I : jLi L xs h) (V : pR ((it : Int) + 1) (vw h) (vw h)) (R : jRoom it h k n) (kk : ∀ (l : Int32) h k n, l.toInt = l3.toInt + 7 → jLw L xs (it + 1) h → jRoom (it + 1) h k n → jX m_L_law 1300 600000 7302250 18 [(3, .int l), (2, .ref 125), (1, .ref 31), (0, .ref 0)] [] h k n Q) : jX m_L_law 1300 600000 7302250 1709 [(3, .int l3), (2, .ref 125), (1, .ref 31), (0, .ref 0)] [] h k n Q := by
  refine x_aloadn (x := 31) rfl rfl ?_
  refine x_aloadn (x := 0) rfl rfl ?_
  refine x_iloadn (x := l3) rfl rfl ?_
  refine x_iconst (v := 1) rfl ki_1 ?_
  refine z_iadd rfl rfl jk_1 (by omega) (fun w1 ew1 => ?_)
  refine y_iald (v := xs (l3.toNatClampNeg + 1)) (N := L) (l3.toNatClampNeg + 1) rfl I.2.2.2.1 (vpi (by omega)) (jcl_j (by omega) y.1) (I.2.2.2.2.1 _) ?_
  refine x_aloadn (x := 0) rfl rfl ?_
  refine x_iloadn (x := l3) rfl rfl ?_
  refine x_iconst (v := 2) rfl ki_2 ?_
  refine z_iadd rfl rfl jk_2 (by omega) (fun w2 ew2 => ?_)
  refine y_iald (v := xs (l3.toNatClampNeg + 2)) (N := L) (l3.toNatClampNeg + 2) rfl I.2.2.2.1 (vpi (by omega)) (jcl_j (by omega) y.1) (I.2.2.2.2.1 _) ?_
  refine x_aloadn (x := 0) rfl rfl ?_
  refine x_iloadn (x := l3) rfl rfl ?_
  refine x_iconst (v := 3) rfl ki_3 ?_
  refine z_iadd rfl rfl jk_3 (by omega) (fun w3 ew3 => ?_)
  refine y_iald (v := xs (l3.toNatClampNeg + 3)) (N := L) (l3.toNatClampNeg + 3) rfl I.2.2.2.1 (vpi (by omega)) (jcl_j (by omega) y.1) (I.2.2.2.2.1 _) ?_
  have rm := rm_0 R
  have D := I.1.2.2.2.1
  refine x_inv (N := m_X11_appeal) (As := [.int (xs (l3.toNatClampNeg + 1)), .int (xs (l3.toNatClampNeg + 2)), .int (xs (l3.toNatClampNeg + 3))]) (b := 31) (st := []) (dx9 := 3) (mc := 0) (ms := 0) (host := "") 11 rfl t_X11_appeal ⟨Or.inl q_13_154, i_X11_appeal.1, i_X11_appeal.2⟩ ⟨by decide, rfl⟩ (congrArg Prod.fst (I.1.1.1 31 (11, 13) rfl)) rfl (by decide) rfl rfl ⟨by omega, by omega⟩ (sf_X11_appeal_r31d dy_k I.1 rfl (fun v5 h4 p6 J7 S8 p9 p10 => ?_))
  obtain ⟨I, r11⟩ := li_x I J7 S8 rfl (rx_m I.2.2.2.2.2 S8 rfl)
  have cr11 := cn_e r11
  show jX m_L_law 1300 600000 7302250 1728 [(3, .int l3), (2, .ref 125), (1, .ref 31), (0, .ref 0)] [.int v5] h4 (k + 0) (n + 0) Q
  refine x_aloadn (x := 125) rfl rfl ?_
  refine x_aloadn (x := 0) rfl rfl ?_
  refine x_iloadn (x := l3) rfl rfl ?_
  refine x_iconst (v := 1) rfl ki_1 ?_
  refine z_iadd rfl rfl jk_1 (by omega) (fun w12 ew12 => ?_)
  refine y_iald (v := xs (l3.toNatClampNeg + 1)) (N := L) (l3.toNatClampNeg + 1) rfl I.2.2.2.1 (vpi (by omega)) (jcl_j (by omega) y.1) (I.2.2.2.2.1 _) ?_
  refine x_aloadn (x := 0) rfl rfl ?_
  refine x_iloadn (x := l3) rfl rfl ?_
  refine x_iconst (v := 2) rfl ki_2 ?_
  refine z_iadd rfl rfl jk_2 (by omega) (fun w13 ew13 => ?_)
  refine y_iald (v := xs (l3.toNatClampNeg + 2)) (N := L) (l3.toNatClampNeg + 2) rfl I.2.2.2.1 (vpi (by omega)) (jcl_j (by omega) y.1) (I.2.2.2.2.1 _) ?_
  refine x_aloadn (x := 0) rfl rfl ?_
  refine x_iloadn (x := l3) rfl rfl ?_
  refine x_iconst (v := 3) rfl ki_3 ?_
  refine z_iadd rfl rfl jk_3 (by omega) (fun w14 ew14 => ?_)
  refine y_iald (v := xs (l3.toNatClampNeg + 3)) (N := L) (l3.toNatClampNeg + 3) rfl I.2.2.2.1 (vpi (by omega)) (jcl_j (by omega) y.1) (I.2.2.2.2.1 _) ?_
  refine x_inv (N := m_X12_appeal) (As := [.int (xs (l3.toNatClampNeg + 1)), .int (xs (l3.toNatClampNeg + 2)), .int (xs (l3.toNatClampNeg + 3))]) (b := 125) (st := [.int v5]) (dx9 := 3) (mc := 0) (ms := 0) (host := "") 12 rfl t_X12_appeal ⟨Or.inl q_13_157, i_X12_appeal.1, i_X12_appeal.2⟩ ⟨by decide, rfl⟩ (congrArg Prod.fst (I.1.1.1 125 (12, 92) rfl)) rfl (by decide) rfl rfl ⟨by omega, by omega⟩ (sf_X12_appeal_r125d dy_k (li_jm I) rfl (fun v16 h15 J17 S18 p19 p20 => ?_))
  obtain ⟨I, r21⟩ := li_m I J17 S18 rfl (rr_m I.2.2.1 S18 rfl)
  have cr21 := cn_e r21
  have g := g_appeal (xs (l3.toNatClampNeg + 1)).toInt (xs (l3.toNatClampNeg + 2)).toInt (xs (l3.toNatClampNeg + 3)).toInt V (by omega)
  rw [p10] at g
  have ee : (v5 : Int32).toInt = (v16 : Int32).toInt := p9.symm.trans (g.1.trans p19)
  have V : pR ((it : Int) + 1 + 1) (vw h15) (vw h15) := by rw [← p20]; exact g.2
  show jX m_L_law 1300 600000 7302250 1747 [(3, .int l3), (2, .ref 125), (1, .ref 31), (0, .ref 0)] [.int v16, .int v5] h15 (k + 0 + 0) (n + 0 + 0) Q
  refine x_iceq (tgt := 2887) rfl rfl (br_t (Int32.toInt_inj.mp ee) ?_)
  exact law_next (it := it) (by omega) ⟨I, by rw [show (((it + 1 : Nat) : Int) + 1) = (it : Int) + 1 + 1 from by omega]; exact V⟩ ⟨by omega, by have := R.2.1; omega, by have := R.2.2; omega⟩ kk
set_option maxRecDepth 100000 in
set_option maxHeartbeats 4000000 in
theorem cs_holding {L it : Nat} {xs : Nat → Int32} {h : jH} {k n : Nat} {l3 : Int32} {Q : Option Value → jH → Prop} (hL : L ≤ 3584) (y : 0 ≤ l3.toInt ∧ l3.toInt + 7 ≤ (L : Int)) (hit : it < 512) (I : jLi L xs h) (V : pR ((it : Int) + 1) (vw h) (vw h)) (R : jRoom it h k n) (kk : ∀ (l : Int32) h k n, l.toInt = l3.toInt + 7 → jLw L xs (it + 1) h → jRoom (it + 1) h k n → jX m_L_law 1300 600000 7302250 18 [(3, .int l), (2, .ref 125), (1, .ref 31), (0, .ref 0)] [] h k n Q) : jX m_L_law 1300 600000 7302250 1752 [(3, .int l3), (2, .ref 125), (1, .ref 31), (0, .ref 0)] [] h k n Q := by
  refine x_aloadn (x := 31) rfl rfl ?_
  have rm := rm_0 R
  have D := I.1.2.2.2.1
  refine x_inv (N := m_X11_holding) (As := []) (b := 31) (st := []) (dx9 := 4) (mc := 0) (ms := 0) (host := "") 11 rfl t_X11_holding ⟨Or.inl q_13_158, i_X11_holding.1, i_X11_holding.2⟩ ⟨by decide, rfl⟩ (congrArg Prod.fst (I.1.1.1 31 (11, 13) rfl)) rfl (by decide) rfl rfl ⟨by omega, by omega⟩ (sf_X11_holding_r31d dy_k I.1 rfl (fun v2 h1 p3 J4 S5 p6 p7 => ?_))
  obtain ⟨I, r8⟩ := li_x I J4 S5 rfl (rx_m I.2.2.2.2.2 S5 rfl)
  have cr8 := cn_e r8
  show jX m_L_law 1300 600000 7302250 1756 [(3, .int l3), (2, .ref 125), (1, .ref 31), (0, .ref 0)] [.int v2] h1 (k + 0) (n + 0) Q
  refine x_aloadn (x := 125) rfl rfl ?_
  refine x_inv (N := m_X12_holding) (As := []) (b := 125) (st := [.int v2]) (dx9 := 2) (mc := 0) (ms := 0) (host := "") 12 rfl t_X12_holding ⟨Or.inl q_13_161, i_X12_holding.1, i_X12_holding.2⟩ ⟨by decide, rfl⟩ (congrArg Prod.fst (I.1.1.1 125 (12, 92) rfl)) rfl (by decide) rfl rfl ⟨by omega, by omega⟩ (sf_X12_holding_r125d dy_k (li_jm I) rfl rfl rfl rfl rfl I.2.2.1.1 rfl rfl I.2.2.1.2 rfl (fun v10 h9 J11 S12 u13 u14 u15 u16 u17 p18 p19 p20 p21 p22 p23 u24 u25 p26 p27 p28 p29 p30 => ?_))
  obtain ⟨I, r31⟩ := li_m I J11 S12 rfl (rr_3 p18 p19 p20 p21 p22 p23 p26 p27 p28)
  have cr31 := cn_e r31
  have g := g_holding V (by omega)
  rw [p7] at g
  have ee : (v2 : Int32).toInt = (v10 : Int32).toInt := p6.symm.trans (g.1.trans p29)
  have V : pR ((it : Int) + 1 + 1) (vw h9) (vw h9) := by rw [← p30]; exact g.2
  show jX m_L_law 1300 600000 7302250 1760 [(3, .int l3), (2, .ref 125), (1, .ref 31), (0, .ref 0)] [.int v10, .int v2] h9 (k + 0 + 0) (n + 0 + 0) Q
  refine x_iceq (tgt := 2887) rfl rfl (br_t (Int32.toInt_inj.mp ee) ?_)
  exact law_next (it := it) (by omega) ⟨I, by rw [show (((it + 1 : Nat) : Int) + 1) = (it : Int) + 1 + 1 from by omega]; exact V⟩ ⟨by omega, by have := R.2.1; omega, by have := R.2.2; omega⟩ kk
set_option maxRecDepth 100000 in
set_option maxHeartbeats 4000000 in
theorem cs_value {L it : Nat} {xs : Nat → Int32} {h : jH} {k n : Nat} {l3 : Int32} {Q : Option Value → jH → Prop} (hL : L ≤ 3584) (y : 0 ≤ l3.toInt ∧ l3.toInt + 7 ≤ (L : Int)) (hit : it < 512) (I : jLi L xs h) (V : pR ((it : Int) + 1) (vw h) (vw h)) (R : jRoom it h k n) (kk : ∀ (l : Int32) h k n, l.toInt = l3.toInt + 7 → jLw L xs (it + 1) h → jRoom (it + 1) h k n → jX m_L_law 1300 600000 7302250 18 [(3, .int l), (2, .ref 125), (1, .ref 31), (0, .ref 0)] [] h k n Q) : jX m_L_law 1300 600000 7302250 1765 [(3, .int l3), (2, .ref 125), (1, .ref 31), (0, .ref 0)] [] h k n Q := by
  refine x_aloadn (x := 31) rfl rfl ?_
  refine x_aloadn (x := 0) rfl rfl ?_
  refine x_iloadn (x := l3) rfl rfl ?_
  refine x_iconst (v := 1) rfl ki_1 ?_
  refine z_iadd rfl rfl jk_1 (by omega) (fun w1 ew1 => ?_)
  refine y_iald (v := xs (l3.toNatClampNeg + 1)) (N := L) (l3.toNatClampNeg + 1) rfl I.2.2.2.1 (vpi (by omega)) (jcl_j (by omega) y.1) (I.2.2.2.2.1 _) ?_
  refine x_aloadn (x := 0) rfl rfl ?_
  refine x_iloadn (x := l3) rfl rfl ?_
  refine x_iconst (v := 2) rfl ki_2 ?_
  refine z_iadd rfl rfl jk_2 (by omega) (fun w2 ew2 => ?_)
  refine y_iald (v := xs (l3.toNatClampNeg + 2)) (N := L) (l3.toNatClampNeg + 2) rfl I.2.2.2.1 (vpi (by omega)) (jcl_j (by omega) y.1) (I.2.2.2.2.1 _) ?_
  refine x_aloadn (x := 0) rfl rfl ?_
  refine x_iloadn (x := l3) rfl rfl ?_
  refine x_iconst (v := 3) rfl ki_3 ?_
  refine z_iadd rfl rfl jk_3 (by omega) (fun w3 ew3 => ?_)
  refine y_iald (v := xs (l3.toNatClampNeg + 3)) (N := L) (l3.toNatClampNeg + 3) rfl I.2.2.2.1 (vpi (by omega)) (jcl_j (by omega) y.1) (I.2.2.2.2.1 _) ?_
  refine x_aloadn (x := 0) rfl rfl ?_
  refine x_iloadn (x := l3) rfl rfl ?_
  refine x_iconst (v := 4) rfl ki_4 ?_
  refine z_iadd rfl rfl jk_4 (by omega) (fun w4 ew4 => ?_)
  refine y_iald (v := xs (l3.toNatClampNeg + 4)) (N := L) (l3.toNatClampNeg + 4) rfl I.2.2.2.1 (vpi (by omega)) (jcl_j (by omega) y.1) (I.2.2.2.2.1 _) ?_
  have rm := rm_0 R
  have D := I.1.2.2.2.1
  refine x_inv (N := m_X11_value) (As := [.int (xs (l3.toNatClampNeg + 1)), .int (xs (l3.toNatClampNeg + 2)), .int (xs (l3.toNatClampNeg + 3)), .int (xs (l3.toNatClampNeg + 4))]) (b := 31) (st := []) (dx9 := 3) (mc := 0) (ms := 0) (host := "") 11 rfl t_X11_value ⟨Or.inl q_13_162, i_X11_value.1, i_X11_value.2⟩ ⟨by decide, rfl⟩ (congrArg Prod.fst (I.1.1.1 31 (11, 13) rfl)) rfl (by decide) rfl rfl ⟨by omega, by omega⟩ (sf_X11_value_r31d dy_k I.1 rfl (fun v6 h5 p7 J8 S9 p10 p11 => ?_))
  obtain ⟨I, r12⟩ := li_x I J8 S9 rfl (rx_m I.2.2.2.2.2 S9 rfl)
  have cr12 := cn_e r12
  show jX m_L_law 1300 600000 7302250 1789 [(3, .int l3), (2, .ref 125), (1, .ref 31), (0, .ref 0)] [.int v6] h5 (k + 0) (n + 0) Q
  refine x_aloadn (x := 125) rfl rfl ?_
  refine x_aloadn (x := 0) rfl rfl ?_
  refine x_iloadn (x := l3) rfl rfl ?_
  refine x_iconst (v := 1) rfl ki_1 ?_
  refine z_iadd rfl rfl jk_1 (by omega) (fun w13 ew13 => ?_)
  refine y_iald (v := xs (l3.toNatClampNeg + 1)) (N := L) (l3.toNatClampNeg + 1) rfl I.2.2.2.1 (vpi (by omega)) (jcl_j (by omega) y.1) (I.2.2.2.2.1 _) ?_
  refine x_aloadn (x := 0) rfl rfl ?_
  refine x_iloadn (x := l3) rfl rfl ?_
  refine x_iconst (v := 2) rfl ki_2 ?_
  refine z_iadd rfl rfl jk_2 (by omega) (fun w14 ew14 => ?_)
  refine y_iald (v := xs (l3.toNatClampNeg + 2)) (N := L) (l3.toNatClampNeg + 2) rfl I.2.2.2.1 (vpi (by omega)) (jcl_j (by omega) y.1) (I.2.2.2.2.1 _) ?_
  refine x_aloadn (x := 0) rfl rfl ?_
  refine x_iloadn (x := l3) rfl rfl ?_
  refine x_iconst (v := 3) rfl ki_3 ?_
  refine z_iadd rfl rfl jk_3 (by omega) (fun w15 ew15 => ?_)
  refine y_iald (v := xs (l3.toNatClampNeg + 3)) (N := L) (l3.toNatClampNeg + 3) rfl I.2.2.2.1 (vpi (by omega)) (jcl_j (by omega) y.1) (I.2.2.2.2.1 _) ?_
  refine x_aloadn (x := 0) rfl rfl ?_
  refine x_iloadn (x := l3) rfl rfl ?_
  refine x_iconst (v := 4) rfl ki_4 ?_
  refine z_iadd rfl rfl jk_4 (by omega) (fun w16 ew16 => ?_)
  refine y_iald (v := xs (l3.toNatClampNeg + 4)) (N := L) (l3.toNatClampNeg + 4) rfl I.2.2.2.1 (vpi (by omega)) (jcl_j (by omega) y.1) (I.2.2.2.2.1 _) ?_
  refine x_inv (N := m_X12_value) (As := [.int (xs (l3.toNatClampNeg + 1)), .int (xs (l3.toNatClampNeg + 2)), .int (xs (l3.toNatClampNeg + 3)), .int (xs (l3.toNatClampNeg + 4))]) (b := 125) (st := [.int v6]) (dx9 := 3) (mc := 0) (ms := 0) (host := "") 12 rfl t_X12_value ⟨Or.inl q_13_165, i_X12_value.1, i_X12_value.2⟩ ⟨by decide, rfl⟩ (congrArg Prod.fst (I.1.1.1 125 (12, 92) rfl)) rfl (by decide) rfl rfl ⟨by omega, by omega⟩ (sf_X12_value_r125d dy_k (li_jm I) rfl (fun v18 h17 J19 S20 p21 p22 => ?_))
  obtain ⟨I, r23⟩ := li_m I J19 S20 rfl (rr_m I.2.2.1 S20 rfl)
  have cr23 := cn_e r23
  have g := g_value (xs (l3.toNatClampNeg + 1)).toInt (xs (l3.toNatClampNeg + 2)).toInt (xs (l3.toNatClampNeg + 3)).toInt (xs (l3.toNatClampNeg + 4)).toInt V (by omega)
  rw [p11] at g
  have ee : (v6 : Int32).toInt = (v18 : Int32).toInt := p10.symm.trans (g.1.trans p21)
  have V : pR ((it : Int) + 1 + 1) (vw h17) (vw h17) := by rw [← p22]; exact g.2
  show jX m_L_law 1300 600000 7302250 1813 [(3, .int l3), (2, .ref 125), (1, .ref 31), (0, .ref 0)] [.int v18, .int v6] h17 (k + 0 + 0) (n + 0 + 0) Q
  refine x_iceq (tgt := 2887) rfl rfl (br_t (Int32.toInt_inj.mp ee) ?_)
  exact law_next (it := it) (by omega) ⟨I, by rw [show (((it + 1 : Nat) : Int) + 1) = (it : Int) + 1 + 1 from by omega]; exact V⟩ ⟨by omega, by have := R.2.1; omega, by have := R.2.2; omega⟩ kk
set_option maxRecDepth 100000 in
set_option maxHeartbeats 4000000 in
theorem cs_split {L it : Nat} {xs : Nat → Int32} {h : jH} {k n : Nat} {l3 : Int32} {Q : Option Value → jH → Prop} (hL : L ≤ 3584) (y : 0 ≤ l3.toInt ∧ l3.toInt + 7 ≤ (L : Int)) (hit : it < 512) (I : jLi L xs h) (V : pR ((it : Int) + 1) (vw h) (vw h)) (R : jRoom it h k n) (kk : ∀ (l : Int32) h k n, l.toInt = l3.toInt + 7 → jLw L xs (it + 1) h → jRoom (it + 1) h k n → jX m_L_law 1300 600000 7302250 18 [(3, .int l), (2, .ref 125), (1, .ref 31), (0, .ref 0)] [] h k n Q) : jX m_L_law 1300 600000 7302250 1818 [(3, .int l3), (2, .ref 125), (1, .ref 31), (0, .ref 0)] [] h k n Q := by
  refine x_aloadn (x := 31) rfl rfl ?_
  refine x_aloadn (x := 0) rfl rfl ?_
  refine x_iloadn (x := l3) rfl rfl ?_
  refine x_iconst (v := 1) rfl ki_1 ?_
  refine z_iadd rfl rfl jk_1 (by omega) (fun w1 ew1 => ?_)
  refine y_iald (v := xs (l3.toNatClampNeg + 1)) (N := L) (l3.toNatClampNeg + 1) rfl I.2.2.2.1 (vpi (by omega)) (jcl_j (by omega) y.1) (I.2.2.2.2.1 _) ?_
  refine x_aloadn (x := 0) rfl rfl ?_
  refine x_iloadn (x := l3) rfl rfl ?_
  refine x_iconst (v := 2) rfl ki_2 ?_
  refine z_iadd rfl rfl jk_2 (by omega) (fun w2 ew2 => ?_)
  refine y_iald (v := xs (l3.toNatClampNeg + 2)) (N := L) (l3.toNatClampNeg + 2) rfl I.2.2.2.1 (vpi (by omega)) (jcl_j (by omega) y.1) (I.2.2.2.2.1 _) ?_
  refine x_aloadn (x := 0) rfl rfl ?_
  refine x_iloadn (x := l3) rfl rfl ?_
  refine x_iconst (v := 3) rfl ki_3 ?_
  refine z_iadd rfl rfl jk_3 (by omega) (fun w3 ew3 => ?_)
  refine y_iald (v := xs (l3.toNatClampNeg + 3)) (N := L) (l3.toNatClampNeg + 3) rfl I.2.2.2.1 (vpi (by omega)) (jcl_j (by omega) y.1) (I.2.2.2.2.1 _) ?_
  refine x_aloadn (x := 0) rfl rfl ?_
  refine x_iloadn (x := l3) rfl rfl ?_
  refine x_iconst (v := 4) rfl ki_4 ?_
  refine z_iadd rfl rfl jk_4 (by omega) (fun w4 ew4 => ?_)
  refine y_iald (v := xs (l3.toNatClampNeg + 4)) (N := L) (l3.toNatClampNeg + 4) rfl I.2.2.2.1 (vpi (by omega)) (jcl_j (by omega) y.1) (I.2.2.2.2.1 _) ?_
  refine x_aloadn (x := 0) rfl rfl ?_
  refine x_iloadn (x := l3) rfl rfl ?_
  refine x_iconst (v := 5) rfl ki_5 ?_
  refine z_iadd rfl rfl jk_5 (by omega) (fun w5 ew5 => ?_)
  refine y_iald (v := xs (l3.toNatClampNeg + 5)) (N := L) (l3.toNatClampNeg + 5) rfl I.2.2.2.1 (vpi (by omega)) (jcl_j (by omega) y.1) (I.2.2.2.2.1 _) ?_
  have rm := rm_0 R
  have D := I.1.2.2.2.1
  refine x_inv (N := m_X11_split) (As := [.int (xs (l3.toNatClampNeg + 1)), .int (xs (l3.toNatClampNeg + 2)), .int (xs (l3.toNatClampNeg + 3)), .int (xs (l3.toNatClampNeg + 4)), .int (xs (l3.toNatClampNeg + 5))]) (b := 31) (st := []) (dx9 := 4) (mc := 0) (ms := 0) (host := "") 11 rfl t_X11_split ⟨Or.inl q_13_166, i_X11_split.1, i_X11_split.2⟩ ⟨by decide, rfl⟩ (congrArg Prod.fst (I.1.1.1 31 (11, 13) rfl)) rfl (by decide) rfl rfl ⟨by omega, by omega⟩ (sf_X11_split_r31d dy_k I.1 rfl (fun v7 h6 p8 J9 S10 p11 p12 => ?_))
  obtain ⟨I, r13⟩ := li_x I J9 S10 rfl (rx_m I.2.2.2.2.2 S10 rfl)
  have cr13 := cn_e r13
  show jX m_L_law 1300 600000 7302250 1847 [(3, .int l3), (2, .ref 125), (1, .ref 31), (0, .ref 0)] [.int v7] h6 (k + 0) (n + 0) Q
  refine x_aloadn (x := 125) rfl rfl ?_
  refine x_aloadn (x := 0) rfl rfl ?_
  refine x_iloadn (x := l3) rfl rfl ?_
  refine x_iconst (v := 1) rfl ki_1 ?_
  refine z_iadd rfl rfl jk_1 (by omega) (fun w14 ew14 => ?_)
  refine y_iald (v := xs (l3.toNatClampNeg + 1)) (N := L) (l3.toNatClampNeg + 1) rfl I.2.2.2.1 (vpi (by omega)) (jcl_j (by omega) y.1) (I.2.2.2.2.1 _) ?_
  refine x_aloadn (x := 0) rfl rfl ?_
  refine x_iloadn (x := l3) rfl rfl ?_
  refine x_iconst (v := 2) rfl ki_2 ?_
  refine z_iadd rfl rfl jk_2 (by omega) (fun w15 ew15 => ?_)
  refine y_iald (v := xs (l3.toNatClampNeg + 2)) (N := L) (l3.toNatClampNeg + 2) rfl I.2.2.2.1 (vpi (by omega)) (jcl_j (by omega) y.1) (I.2.2.2.2.1 _) ?_
  refine x_aloadn (x := 0) rfl rfl ?_
  refine x_iloadn (x := l3) rfl rfl ?_
  refine x_iconst (v := 3) rfl ki_3 ?_
  refine z_iadd rfl rfl jk_3 (by omega) (fun w16 ew16 => ?_)
  refine y_iald (v := xs (l3.toNatClampNeg + 3)) (N := L) (l3.toNatClampNeg + 3) rfl I.2.2.2.1 (vpi (by omega)) (jcl_j (by omega) y.1) (I.2.2.2.2.1 _) ?_
  refine x_aloadn (x := 0) rfl rfl ?_
  refine x_iloadn (x := l3) rfl rfl ?_
  refine x_iconst (v := 4) rfl ki_4 ?_
  refine z_iadd rfl rfl jk_4 (by omega) (fun w17 ew17 => ?_)
  refine y_iald (v := xs (l3.toNatClampNeg + 4)) (N := L) (l3.toNatClampNeg + 4) rfl I.2.2.2.1 (vpi (by omega)) (jcl_j (by omega) y.1) (I.2.2.2.2.1 _) ?_
  refine x_aloadn (x := 0) rfl rfl ?_
  refine x_iloadn (x := l3) rfl rfl ?_
  refine x_iconst (v := 5) rfl ki_5 ?_
  refine z_iadd rfl rfl jk_5 (by omega) (fun w18 ew18 => ?_)
  refine y_iald (v := xs (l3.toNatClampNeg + 5)) (N := L) (l3.toNatClampNeg + 5) rfl I.2.2.2.1 (vpi (by omega)) (jcl_j (by omega) y.1) (I.2.2.2.2.1 _) ?_
  refine x_inv (N := m_X12_split) (As := [.int (xs (l3.toNatClampNeg + 1)), .int (xs (l3.toNatClampNeg + 2)), .int (xs (l3.toNatClampNeg + 3)), .int (xs (l3.toNatClampNeg + 4)), .int (xs (l3.toNatClampNeg + 5))]) (b := 125) (st := [.int v7]) (dx9 := 3) (mc := 0) (ms := 0) (host := "") 12 rfl t_X12_split ⟨Or.inl q_13_169, i_X12_split.1, i_X12_split.2⟩ ⟨by decide, rfl⟩ (congrArg Prod.fst (I.1.1.1 125 (12, 92) rfl)) rfl (by decide) rfl rfl ⟨by omega, by omega⟩ (sf_X12_split_r125d dy_k (li_jm I) rfl rfl rfl rfl rfl I.2.2.1.1 rfl rfl I.2.2.1.2 rfl (fun v20 h19 J21 S22 u23 u24 u25 u26 u27 p28 p29 p30 p31 p32 p33 u34 u35 p36 p37 p38 p39 p40 => ?_))
  obtain ⟨I, r41⟩ := li_m I J21 S22 rfl (rr_3 p28 p29 p30 p31 p32 p33 p36 p37 p38)
  have cr41 := cn_e r41
  have g := g_split (xs (l3.toNatClampNeg + 1)).toInt (xs (l3.toNatClampNeg + 2)).toInt (xs (l3.toNatClampNeg + 3)).toInt (xs (l3.toNatClampNeg + 4)).toInt (xs (l3.toNatClampNeg + 5)).toInt V (by omega)
  rw [p12] at g
  have ee : (v7 : Int32).toInt = (v20 : Int32).toInt := p11.symm.trans (g.1.trans p39)
  have V : pR ((it : Int) + 1 + 1) (vw h19) (vw h19) := by rw [← p40]; exact g.2
  show jX m_L_law 1300 600000 7302250 1876 [(3, .int l3), (2, .ref 125), (1, .ref 31), (0, .ref 0)] [.int v20, .int v7] h19 (k + 0 + 0) (n + 0 + 0) Q
  refine x_iceq (tgt := 2887) rfl rfl (br_t (Int32.toInt_inj.mp ee) ?_)
  exact law_next (it := it) (by omega) ⟨I, by rw [show (((it + 1 : Nat) : Int) + 1) = (it : Int) + 1 + 1 from by omega]; exact V⟩ ⟨by omega, by have := R.2.1; omega, by have := R.2.2; omega⟩ kk
set_option maxRecDepth 100000 in
set_option maxHeartbeats 4000000 in
theorem cs_hold {L it : Nat} {xs : Nat → Int32} {h : jH} {k n : Nat} {l3 : Int32} {Q : Option Value → jH → Prop} (hL : L ≤ 3584) (y : 0 ≤ l3.toInt ∧ l3.toInt + 7 ≤ (L : Int)) (hit : it < 512) (I : jLi L xs h) (V : pR ((it : Int) + 1) (vw h) (vw h)) (R : jRoom it h k n) (kk : ∀ (l : Int32) h k n, l.toInt = l3.toInt + 7 → jLw L xs (it + 1) h → jRoom (it + 1) h k n → jX m_L_law 1300 600000 7302250 18 [(3, .int l), (2, .ref 125), (1, .ref 31), (0, .ref 0)] [] h k n Q) : jX m_L_law 1300 600000 7302250 1881 [(3, .int l3), (2, .ref 125), (1, .ref 31), (0, .ref 0)] [] h k n Q := by
  refine x_aloadn (x := 31) rfl rfl ?_
  refine x_aloadn (x := 0) rfl rfl ?_
  refine x_iloadn (x := l3) rfl rfl ?_
  refine x_iconst (v := 1) rfl ki_1 ?_
  refine z_iadd rfl rfl jk_1 (by omega) (fun w1 ew1 => ?_)
  refine y_iald (v := xs (l3.toNatClampNeg + 1)) (N := L) (l3.toNatClampNeg + 1) rfl I.2.2.2.1 (vpi (by omega)) (jcl_j (by omega) y.1) (I.2.2.2.2.1 _) ?_
  refine x_aloadn (x := 0) rfl rfl ?_
  refine x_iloadn (x := l3) rfl rfl ?_
  refine x_iconst (v := 2) rfl ki_2 ?_
  refine z_iadd rfl rfl jk_2 (by omega) (fun w2 ew2 => ?_)
  refine y_iald (v := xs (l3.toNatClampNeg + 2)) (N := L) (l3.toNatClampNeg + 2) rfl I.2.2.2.1 (vpi (by omega)) (jcl_j (by omega) y.1) (I.2.2.2.2.1 _) ?_
  refine x_aloadn (x := 0) rfl rfl ?_
  refine x_iloadn (x := l3) rfl rfl ?_
  refine x_iconst (v := 3) rfl ki_3 ?_
  refine z_iadd rfl rfl jk_3 (by omega) (fun w3 ew3 => ?_)
  refine y_iald (v := xs (l3.toNatClampNeg + 3)) (N := L) (l3.toNatClampNeg + 3) rfl I.2.2.2.1 (vpi (by omega)) (jcl_j (by omega) y.1) (I.2.2.2.2.1 _) ?_
  refine x_aloadn (x := 0) rfl rfl ?_
  refine x_iloadn (x := l3) rfl rfl ?_
  refine x_iconst (v := 4) rfl ki_4 ?_
  refine z_iadd rfl rfl jk_4 (by omega) (fun w4 ew4 => ?_)
  refine y_iald (v := xs (l3.toNatClampNeg + 4)) (N := L) (l3.toNatClampNeg + 4) rfl I.2.2.2.1 (vpi (by omega)) (jcl_j (by omega) y.1) (I.2.2.2.2.1 _) ?_
  have rm := rm_0 R
  have D := I.1.2.2.2.1
  refine x_inv (N := m_X11_hold) (As := [.int (xs (l3.toNatClampNeg + 1)), .int (xs (l3.toNatClampNeg + 2)), .int (xs (l3.toNatClampNeg + 3)), .int (xs (l3.toNatClampNeg + 4))]) (b := 31) (st := []) (dx9 := 3) (mc := 0) (ms := 0) (host := "") 11 rfl t_X11_hold ⟨Or.inl q_13_170, i_X11_hold.1, i_X11_hold.2⟩ ⟨by decide, rfl⟩ (congrArg Prod.fst (I.1.1.1 31 (11, 13) rfl)) rfl (by decide) rfl rfl ⟨by omega, by omega⟩ (sf_X11_hold_r31d dy_k I.1 rfl (fun v6 h5 p7 J8 S9 p10 p11 => ?_))
  obtain ⟨I, r12⟩ := li_x I J8 S9 rfl (rx_m I.2.2.2.2.2 S9 rfl)
  have cr12 := cn_e r12
  show jX m_L_law 1300 600000 7302250 1905 [(3, .int l3), (2, .ref 125), (1, .ref 31), (0, .ref 0)] [.int v6] h5 (k + 0) (n + 0) Q
  refine x_aloadn (x := 125) rfl rfl ?_
  refine x_aloadn (x := 0) rfl rfl ?_
  refine x_iloadn (x := l3) rfl rfl ?_
  refine x_iconst (v := 1) rfl ki_1 ?_
  refine z_iadd rfl rfl jk_1 (by omega) (fun w13 ew13 => ?_)
  refine y_iald (v := xs (l3.toNatClampNeg + 1)) (N := L) (l3.toNatClampNeg + 1) rfl I.2.2.2.1 (vpi (by omega)) (jcl_j (by omega) y.1) (I.2.2.2.2.1 _) ?_
  refine x_aloadn (x := 0) rfl rfl ?_
  refine x_iloadn (x := l3) rfl rfl ?_
  refine x_iconst (v := 2) rfl ki_2 ?_
  refine z_iadd rfl rfl jk_2 (by omega) (fun w14 ew14 => ?_)
  refine y_iald (v := xs (l3.toNatClampNeg + 2)) (N := L) (l3.toNatClampNeg + 2) rfl I.2.2.2.1 (vpi (by omega)) (jcl_j (by omega) y.1) (I.2.2.2.2.1 _) ?_
  refine x_aloadn (x := 0) rfl rfl ?_
  refine x_iloadn (x := l3) rfl rfl ?_
  refine x_iconst (v := 3) rfl ki_3 ?_
  refine z_iadd rfl rfl jk_3 (by omega) (fun w15 ew15 => ?_)
  refine y_iald (v := xs (l3.toNatClampNeg + 3)) (N := L) (l3.toNatClampNeg + 3) rfl I.2.2.2.1 (vpi (by omega)) (jcl_j (by omega) y.1) (I.2.2.2.2.1 _) ?_
  refine x_aloadn (x := 0) rfl rfl ?_
  refine x_iloadn (x := l3) rfl rfl ?_
  refine x_iconst (v := 4) rfl ki_4 ?_
  refine z_iadd rfl rfl jk_4 (by omega) (fun w16 ew16 => ?_)
  refine y_iald (v := xs (l3.toNatClampNeg + 4)) (N := L) (l3.toNatClampNeg + 4) rfl I.2.2.2.1 (vpi (by omega)) (jcl_j (by omega) y.1) (I.2.2.2.2.1 _) ?_
  refine x_inv (N := m_X12_hold) (As := [.int (xs (l3.toNatClampNeg + 1)), .int (xs (l3.toNatClampNeg + 2)), .int (xs (l3.toNatClampNeg + 3)), .int (xs (l3.toNatClampNeg + 4))]) (b := 125) (st := [.int v6]) (dx9 := 4) (mc := 0) (ms := 0) (host := "") 12 rfl t_X12_hold ⟨Or.inl q_13_173, i_X12_hold.1, i_X12_hold.2⟩ ⟨by decide, rfl⟩ (congrArg Prod.fst (I.1.1.1 125 (12, 92) rfl)) rfl (by decide) rfl rfl ⟨by omega, by omega⟩ (sf_X12_hold_r125d dy_k (li_jm I) rfl (fun v18 h17 J19 S20 p21 p22 => ?_))
  obtain ⟨I, r23⟩ := li_m I J19 S20 rfl (rr_m I.2.2.1 S20 rfl)
  have cr23 := cn_e r23
  have g := g_hold (xs (l3.toNatClampNeg + 1)).toInt (xs (l3.toNatClampNeg + 2)).toInt (xs (l3.toNatClampNeg + 3)).toInt (xs (l3.toNatClampNeg + 4)).toInt V (by omega)
  rw [p11] at g
  have ee : (v6 : Int32).toInt = (v18 : Int32).toInt := p10.symm.trans (g.1.trans p21)
  have V : pR ((it : Int) + 1 + 1) (vw h17) (vw h17) := by rw [← p22]; exact g.2
  show jX m_L_law 1300 600000 7302250 1929 [(3, .int l3), (2, .ref 125), (1, .ref 31), (0, .ref 0)] [.int v18, .int v6] h17 (k + 0 + 0) (n + 0 + 0) Q
  refine x_iceq (tgt := 2887) rfl rfl (br_t (Int32.toInt_inj.mp ee) ?_)
  exact law_next (it := it) (by omega) ⟨I, by rw [show (((it + 1 : Nat) : Int) + 1) = (it : Int) + 1 + 1 from by omega]; exact V⟩ ⟨by omega, by have := R.2.1; omega, by have := R.2.2; omega⟩ kk
set_option maxRecDepth 100000 in
set_option maxHeartbeats 4000000 in
theorem cs_house {L it : Nat} {xs : Nat → Int32} {h : jH} {k n : Nat} {l3 : Int32} {Q : Option Value → jH → Prop} (hL : L ≤ 3584) (y : 0 ≤ l3.toInt ∧ l3.toInt + 7 ≤ (L : Int)) (hit : it < 512) (I : jLi L xs h) (V : pR ((it : Int) + 1) (vw h) (vw h)) (R : jRoom it h k n) (kk : ∀ (l : Int32) h k n, l.toInt = l3.toInt + 7 → jLw L xs (it + 1) h → jRoom (it + 1) h k n → jX m_L_law 1300 600000 7302250 18 [(3, .int l), (2, .ref 125), (1, .ref 31), (0, .ref 0)] [] h k n Q) : jX m_L_law 1300 600000 7302250 1934 [(3, .int l3), (2, .ref 125), (1, .ref 31), (0, .ref 0)] [] h k n Q := by
  refine x_aloadn (x := 31) rfl rfl ?_
  refine x_aloadn (x := 0) rfl rfl ?_
  refine x_iloadn (x := l3) rfl rfl ?_
  refine x_iconst (v := 1) rfl ki_1 ?_
  refine z_iadd rfl rfl jk_1 (by omega) (fun w1 ew1 => ?_)
  refine y_iald (v := xs (l3.toNatClampNeg + 1)) (N := L) (l3.toNatClampNeg + 1) rfl I.2.2.2.1 (vpi (by omega)) (jcl_j (by omega) y.1) (I.2.2.2.2.1 _) ?_
  refine x_aloadn (x := 0) rfl rfl ?_
  refine x_iloadn (x := l3) rfl rfl ?_
  refine x_iconst (v := 2) rfl ki_2 ?_
  refine z_iadd rfl rfl jk_2 (by omega) (fun w2 ew2 => ?_)
  refine y_iald (v := xs (l3.toNatClampNeg + 2)) (N := L) (l3.toNatClampNeg + 2) rfl I.2.2.2.1 (vpi (by omega)) (jcl_j (by omega) y.1) (I.2.2.2.2.1 _) ?_
  refine x_aloadn (x := 0) rfl rfl ?_
  refine x_iloadn (x := l3) rfl rfl ?_
  refine x_iconst (v := 3) rfl ki_3 ?_
  refine z_iadd rfl rfl jk_3 (by omega) (fun w3 ew3 => ?_)
  refine y_iald (v := xs (l3.toNatClampNeg + 3)) (N := L) (l3.toNatClampNeg + 3) rfl I.2.2.2.1 (vpi (by omega)) (jcl_j (by omega) y.1) (I.2.2.2.2.1 _) ?_
  refine x_aloadn (x := 0) rfl rfl ?_
  refine x_iloadn (x := l3) rfl rfl ?_
  refine x_iconst (v := 4) rfl ki_4 ?_
  refine z_iadd rfl rfl jk_4 (by omega) (fun w4 ew4 => ?_)
  refine y_iald (v := xs (l3.toNatClampNeg + 4)) (N := L) (l3.toNatClampNeg + 4) rfl I.2.2.2.1 (vpi (by omega)) (jcl_j (by omega) y.1) (I.2.2.2.2.1 _) ?_
  have rm := rm_0 R
  have D := I.1.2.2.2.1
  refine x_inv (N := m_X11_house) (As := [.int (xs (l3.toNatClampNeg + 1)), .int (xs (l3.toNatClampNeg + 2)), .int (xs (l3.toNatClampNeg + 3)), .int (xs (l3.toNatClampNeg + 4))]) (b := 31) (st := []) (dx9 := 7) (mc := 0) (ms := 0) (host := "") 11 rfl t_X11_house ⟨Or.inl q_13_174, i_X11_house.1, i_X11_house.2⟩ ⟨by decide, rfl⟩ (congrArg Prod.fst (I.1.1.1 31 (11, 13) rfl)) rfl (by decide) rfl rfl ⟨by omega, by omega⟩ (sf_X11_house_r31d dy_k I.1 rfl (fun v6 h5 J7 S8 p9 p10 => ?_))
  obtain ⟨I, r11⟩ := li_x I J7 S8 rfl (rx_m I.2.2.2.2.2 S8 rfl)
  have cr11 := cn_e r11
  show jX m_L_law 1300 600000 7302250 1958 [(3, .int l3), (2, .ref 125), (1, .ref 31), (0, .ref 0)] [.int v6] h5 (k + 0) (n + 0) Q
  refine x_aloadn (x := 125) rfl rfl ?_
  refine x_aloadn (x := 0) rfl rfl ?_
  refine x_iloadn (x := l3) rfl rfl ?_
  refine x_iconst (v := 1) rfl ki_1 ?_
  refine z_iadd rfl rfl jk_1 (by omega) (fun w12 ew12 => ?_)
  refine y_iald (v := xs (l3.toNatClampNeg + 1)) (N := L) (l3.toNatClampNeg + 1) rfl I.2.2.2.1 (vpi (by omega)) (jcl_j (by omega) y.1) (I.2.2.2.2.1 _) ?_
  refine x_aloadn (x := 0) rfl rfl ?_
  refine x_iloadn (x := l3) rfl rfl ?_
  refine x_iconst (v := 2) rfl ki_2 ?_
  refine z_iadd rfl rfl jk_2 (by omega) (fun w13 ew13 => ?_)
  refine y_iald (v := xs (l3.toNatClampNeg + 2)) (N := L) (l3.toNatClampNeg + 2) rfl I.2.2.2.1 (vpi (by omega)) (jcl_j (by omega) y.1) (I.2.2.2.2.1 _) ?_
  refine x_aloadn (x := 0) rfl rfl ?_
  refine x_iloadn (x := l3) rfl rfl ?_
  refine x_iconst (v := 3) rfl ki_3 ?_
  refine z_iadd rfl rfl jk_3 (by omega) (fun w14 ew14 => ?_)
  refine y_iald (v := xs (l3.toNatClampNeg + 3)) (N := L) (l3.toNatClampNeg + 3) rfl I.2.2.2.1 (vpi (by omega)) (jcl_j (by omega) y.1) (I.2.2.2.2.1 _) ?_
  refine x_aloadn (x := 0) rfl rfl ?_
  refine x_iloadn (x := l3) rfl rfl ?_
  refine x_iconst (v := 4) rfl ki_4 ?_
  refine z_iadd rfl rfl jk_4 (by omega) (fun w15 ew15 => ?_)
  refine y_iald (v := xs (l3.toNatClampNeg + 4)) (N := L) (l3.toNatClampNeg + 4) rfl I.2.2.2.1 (vpi (by omega)) (jcl_j (by omega) y.1) (I.2.2.2.2.1 _) ?_
  refine x_inv (N := m_X12_house) (As := [.int (xs (l3.toNatClampNeg + 1)), .int (xs (l3.toNatClampNeg + 2)), .int (xs (l3.toNatClampNeg + 3)), .int (xs (l3.toNatClampNeg + 4))]) (b := 125) (st := [.int v6]) (dx9 := 9) (mc := 0) (ms := 0) (host := "") 12 rfl t_X12_house ⟨Or.inl q_13_177, i_X12_house.1, i_X12_house.2⟩ ⟨by decide, rfl⟩ (congrArg Prod.fst (I.1.1.1 125 (12, 92) rfl)) rfl (by decide) rfl rfl ⟨by omega, by omega⟩ (sf_X12_house_r125d dy_k (li_jm I) rfl (fun v17 h16 J18 S19 p20 p21 => ?_))
  obtain ⟨I, r22⟩ := li_m I J18 S19 rfl (rr_m I.2.2.1 S19 rfl)
  have cr22 := cn_e r22
  have g := g_house (xs (l3.toNatClampNeg + 1)).toInt (xs (l3.toNatClampNeg + 2)).toInt (xs (l3.toNatClampNeg + 3)).toInt (xs (l3.toNatClampNeg + 4)).toInt V
  rw [p10] at g
  have ee : (v6 : Int32).toInt = (v17 : Int32).toInt := p9.symm.trans (g.1.trans p20)
  have V : pR ((it : Int) + 1 + 1) (vw h16) (vw h16) := by rw [← p21]; exact g.2
  show jX m_L_law 1300 600000 7302250 1982 [(3, .int l3), (2, .ref 125), (1, .ref 31), (0, .ref 0)] [.int v17, .int v6] h16 (k + 0 + 0) (n + 0 + 0) Q
  refine x_iceq (tgt := 2887) rfl rfl (br_t (Int32.toInt_inj.mp ee) ?_)
  exact law_next (it := it) (by omega) ⟨I, by rw [show (((it + 1 : Nat) : Int) + 1) = (it : Int) + 1 + 1 from by omega]; exact V⟩ ⟨by omega, by have := R.2.1; omega, by have := R.2.2; omega⟩ kk
set_option maxRecDepth 100000 in
set_option maxHeartbeats 4000000 in
theorem cs_levy {L it : Nat} {xs : Nat → Int32} {h : jH} {k n : Nat} {l3 : Int32} {Q : Option Value → jH → Prop} (hL : L ≤ 3584) (y : 0 ≤ l3.toInt ∧ l3.toInt + 7 ≤ (L : Int)) (hit : it < 512) (I : jLi L xs h) (V : pR ((it : Int) + 1) (vw h) (vw h)) (R : jRoom it h k n) (kk : ∀ (l : Int32) h k n, l.toInt = l3.toInt + 7 → jLw L xs (it + 1) h → jRoom (it + 1) h k n → jX m_L_law 1300 600000 7302250 18 [(3, .int l), (2, .ref 125), (1, .ref 31), (0, .ref 0)] [] h k n Q) : jX m_L_law 1300 600000 7302250 1987 [(3, .int l3), (2, .ref 125), (1, .ref 31), (0, .ref 0)] [] h k n Q := by
  refine x_aloadn (x := 31) rfl rfl ?_
  refine x_aloadn (x := 0) rfl rfl ?_
  refine x_iloadn (x := l3) rfl rfl ?_
  refine x_iconst (v := 1) rfl ki_1 ?_
  refine z_iadd rfl rfl jk_1 (by omega) (fun w1 ew1 => ?_)
  refine y_iald (v := xs (l3.toNatClampNeg + 1)) (N := L) (l3.toNatClampNeg + 1) rfl I.2.2.2.1 (vpi (by omega)) (jcl_j (by omega) y.1) (I.2.2.2.2.1 _) ?_
  refine x_aloadn (x := 0) rfl rfl ?_
  refine x_iloadn (x := l3) rfl rfl ?_
  refine x_iconst (v := 2) rfl ki_2 ?_
  refine z_iadd rfl rfl jk_2 (by omega) (fun w2 ew2 => ?_)
  refine y_iald (v := xs (l3.toNatClampNeg + 2)) (N := L) (l3.toNatClampNeg + 2) rfl I.2.2.2.1 (vpi (by omega)) (jcl_j (by omega) y.1) (I.2.2.2.2.1 _) ?_
  refine x_aloadn (x := 0) rfl rfl ?_
  refine x_iloadn (x := l3) rfl rfl ?_
  refine x_iconst (v := 3) rfl ki_3 ?_
  refine z_iadd rfl rfl jk_3 (by omega) (fun w3 ew3 => ?_)
  refine y_iald (v := xs (l3.toNatClampNeg + 3)) (N := L) (l3.toNatClampNeg + 3) rfl I.2.2.2.1 (vpi (by omega)) (jcl_j (by omega) y.1) (I.2.2.2.2.1 _) ?_
  refine x_aloadn (x := 0) rfl rfl ?_
  refine x_iloadn (x := l3) rfl rfl ?_
  refine x_iconst (v := 4) rfl ki_4 ?_
  refine z_iadd rfl rfl jk_4 (by omega) (fun w4 ew4 => ?_)
  refine y_iald (v := xs (l3.toNatClampNeg + 4)) (N := L) (l3.toNatClampNeg + 4) rfl I.2.2.2.1 (vpi (by omega)) (jcl_j (by omega) y.1) (I.2.2.2.2.1 _) ?_
  have rm := rm_0 R
  have D := I.1.2.2.2.1
  refine x_inv (N := m_X11_levy) (As := [.int (xs (l3.toNatClampNeg + 1)), .int (xs (l3.toNatClampNeg + 2)), .int (xs (l3.toNatClampNeg + 3)), .int (xs (l3.toNatClampNeg + 4))]) (b := 31) (st := []) (dx9 := 3) (mc := 0) (ms := 0) (host := "") 11 rfl t_X11_levy ⟨Or.inl q_13_178, i_X11_levy.1, i_X11_levy.2⟩ ⟨by decide, rfl⟩ (congrArg Prod.fst (I.1.1.1 31 (11, 13) rfl)) rfl (by decide) rfl rfl ⟨by omega, by omega⟩ (sf_X11_levy_r31d dy_k I.1 rfl (fun v6 h5 p7 J8 S9 p10 p11 => ?_))
  obtain ⟨I, r12⟩ := li_x I J8 S9 rfl (rx_m I.2.2.2.2.2 S9 rfl)
  have cr12 := cn_e r12
  show jX m_L_law 1300 600000 7302250 2011 [(3, .int l3), (2, .ref 125), (1, .ref 31), (0, .ref 0)] [.int v6] h5 (k + 0) (n + 0) Q
  refine x_aloadn (x := 125) rfl rfl ?_
  refine x_aloadn (x := 0) rfl rfl ?_
  refine x_iloadn (x := l3) rfl rfl ?_
  refine x_iconst (v := 1) rfl ki_1 ?_
  refine z_iadd rfl rfl jk_1 (by omega) (fun w13 ew13 => ?_)
  refine y_iald (v := xs (l3.toNatClampNeg + 1)) (N := L) (l3.toNatClampNeg + 1) rfl I.2.2.2.1 (vpi (by omega)) (jcl_j (by omega) y.1) (I.2.2.2.2.1 _) ?_
  refine x_aloadn (x := 0) rfl rfl ?_
  refine x_iloadn (x := l3) rfl rfl ?_
  refine x_iconst (v := 2) rfl ki_2 ?_
  refine z_iadd rfl rfl jk_2 (by omega) (fun w14 ew14 => ?_)
  refine y_iald (v := xs (l3.toNatClampNeg + 2)) (N := L) (l3.toNatClampNeg + 2) rfl I.2.2.2.1 (vpi (by omega)) (jcl_j (by omega) y.1) (I.2.2.2.2.1 _) ?_
  refine x_aloadn (x := 0) rfl rfl ?_
  refine x_iloadn (x := l3) rfl rfl ?_
  refine x_iconst (v := 3) rfl ki_3 ?_
  refine z_iadd rfl rfl jk_3 (by omega) (fun w15 ew15 => ?_)
  refine y_iald (v := xs (l3.toNatClampNeg + 3)) (N := L) (l3.toNatClampNeg + 3) rfl I.2.2.2.1 (vpi (by omega)) (jcl_j (by omega) y.1) (I.2.2.2.2.1 _) ?_
  refine x_aloadn (x := 0) rfl rfl ?_
  refine x_iloadn (x := l3) rfl rfl ?_
  refine x_iconst (v := 4) rfl ki_4 ?_
  refine z_iadd rfl rfl jk_4 (by omega) (fun w16 ew16 => ?_)
  refine y_iald (v := xs (l3.toNatClampNeg + 4)) (N := L) (l3.toNatClampNeg + 4) rfl I.2.2.2.1 (vpi (by omega)) (jcl_j (by omega) y.1) (I.2.2.2.2.1 _) ?_
  refine x_inv (N := m_X12_levy) (As := [.int (xs (l3.toNatClampNeg + 1)), .int (xs (l3.toNatClampNeg + 2)), .int (xs (l3.toNatClampNeg + 3)), .int (xs (l3.toNatClampNeg + 4))]) (b := 125) (st := [.int v6]) (dx9 := 3) (mc := 0) (ms := 0) (host := "") 12 rfl t_X12_levy ⟨Or.inl q_13_181, i_X12_levy.1, i_X12_levy.2⟩ ⟨by decide, rfl⟩ (congrArg Prod.fst (I.1.1.1 125 (12, 92) rfl)) rfl (by decide) rfl rfl ⟨by omega, by omega⟩ (sf_X12_levy_r125d dy_k (li_jm I) rfl (fun v18 h17 J19 S20 p21 p22 => ?_))
  obtain ⟨I, r23⟩ := li_m I J19 S20 rfl (rr_m I.2.2.1 S20 rfl)
  have cr23 := cn_e r23
  have g := g_levy (xs (l3.toNatClampNeg + 1)).toInt (xs (l3.toNatClampNeg + 2)).toInt (xs (l3.toNatClampNeg + 3)).toInt (xs (l3.toNatClampNeg + 4)).toInt V (by omega)
  rw [p11] at g
  have ee : (v6 : Int32).toInt = (v18 : Int32).toInt := p10.symm.trans (g.1.trans p21)
  have V : pR ((it : Int) + 1 + 1) (vw h17) (vw h17) := by rw [← p22]; exact g.2
  show jX m_L_law 1300 600000 7302250 2035 [(3, .int l3), (2, .ref 125), (1, .ref 31), (0, .ref 0)] [.int v18, .int v6] h17 (k + 0 + 0) (n + 0 + 0) Q
  refine x_iceq (tgt := 2887) rfl rfl (br_t (Int32.toInt_inj.mp ee) ?_)
  exact law_next (it := it) (by omega) ⟨I, by rw [show (((it + 1 : Nat) : Int) + 1) = (it : Int) + 1 + 1 from by omega]; exact V⟩ ⟨by omega, by have := R.2.1; omega, by have := R.2.2; omega⟩ kk
set_option maxRecDepth 100000 in
set_option maxHeartbeats 4000000 in
theorem cs_owe {L it : Nat} {xs : Nat → Int32} {h : jH} {k n : Nat} {l3 : Int32} {Q : Option Value → jH → Prop} (hL : L ≤ 3584) (y : 0 ≤ l3.toInt ∧ l3.toInt + 7 ≤ (L : Int)) (hit : it < 512) (I : jLi L xs h) (V : pR ((it : Int) + 1) (vw h) (vw h)) (R : jRoom it h k n) (kk : ∀ (l : Int32) h k n, l.toInt = l3.toInt + 7 → jLw L xs (it + 1) h → jRoom (it + 1) h k n → jX m_L_law 1300 600000 7302250 18 [(3, .int l), (2, .ref 125), (1, .ref 31), (0, .ref 0)] [] h k n Q) : jX m_L_law 1300 600000 7302250 2040 [(3, .int l3), (2, .ref 125), (1, .ref 31), (0, .ref 0)] [] h k n Q := by
  refine x_aloadn (x := 31) rfl rfl ?_
  refine x_aloadn (x := 0) rfl rfl ?_
  refine x_iloadn (x := l3) rfl rfl ?_
  refine x_iconst (v := 1) rfl ki_1 ?_
  refine z_iadd rfl rfl jk_1 (by omega) (fun w1 ew1 => ?_)
  refine y_iald (v := xs (l3.toNatClampNeg + 1)) (N := L) (l3.toNatClampNeg + 1) rfl I.2.2.2.1 (vpi (by omega)) (jcl_j (by omega) y.1) (I.2.2.2.2.1 _) ?_
  refine x_aloadn (x := 0) rfl rfl ?_
  refine x_iloadn (x := l3) rfl rfl ?_
  refine x_iconst (v := 2) rfl ki_2 ?_
  refine z_iadd rfl rfl jk_2 (by omega) (fun w2 ew2 => ?_)
  refine y_iald (v := xs (l3.toNatClampNeg + 2)) (N := L) (l3.toNatClampNeg + 2) rfl I.2.2.2.1 (vpi (by omega)) (jcl_j (by omega) y.1) (I.2.2.2.2.1 _) ?_
  refine x_aloadn (x := 0) rfl rfl ?_
  refine x_iloadn (x := l3) rfl rfl ?_
  refine x_iconst (v := 3) rfl ki_3 ?_
  refine z_iadd rfl rfl jk_3 (by omega) (fun w3 ew3 => ?_)
  refine y_iald (v := xs (l3.toNatClampNeg + 3)) (N := L) (l3.toNatClampNeg + 3) rfl I.2.2.2.1 (vpi (by omega)) (jcl_j (by omega) y.1) (I.2.2.2.2.1 _) ?_
  have rm := rm_0 R
  have D := I.1.2.2.2.1
  refine x_inv (N := m_X11_owe) (As := [.int (xs (l3.toNatClampNeg + 1)), .int (xs (l3.toNatClampNeg + 2)), .int (xs (l3.toNatClampNeg + 3))]) (b := 31) (st := []) (dx9 := 8) (mc := 0) (ms := 0) (host := "") 11 rfl t_X11_owe ⟨Or.inl q_13_182, i_X11_owe.1, i_X11_owe.2⟩ ⟨by decide, rfl⟩ (congrArg Prod.fst (I.1.1.1 31 (11, 13) rfl)) rfl (by decide) rfl rfl ⟨by omega, by omega⟩ (sf_X11_owe_r31d dy_k I.1 rfl (fun v5 h4 J6 S7 p8 p9 => ?_))
  obtain ⟨I, r10⟩ := li_x I J6 S7 rfl (rx_m I.2.2.2.2.2 S7 rfl)
  have cr10 := cn_e r10
  show jX m_L_law 1300 600000 7302250 2059 [(3, .int l3), (2, .ref 125), (1, .ref 31), (0, .ref 0)] [.int v5] h4 (k + 0) (n + 0) Q
  refine x_aloadn (x := 125) rfl rfl ?_
  refine x_aloadn (x := 0) rfl rfl ?_
  refine x_iloadn (x := l3) rfl rfl ?_
  refine x_iconst (v := 1) rfl ki_1 ?_
  refine z_iadd rfl rfl jk_1 (by omega) (fun w11 ew11 => ?_)
  refine y_iald (v := xs (l3.toNatClampNeg + 1)) (N := L) (l3.toNatClampNeg + 1) rfl I.2.2.2.1 (vpi (by omega)) (jcl_j (by omega) y.1) (I.2.2.2.2.1 _) ?_
  refine x_aloadn (x := 0) rfl rfl ?_
  refine x_iloadn (x := l3) rfl rfl ?_
  refine x_iconst (v := 2) rfl ki_2 ?_
  refine z_iadd rfl rfl jk_2 (by omega) (fun w12 ew12 => ?_)
  refine y_iald (v := xs (l3.toNatClampNeg + 2)) (N := L) (l3.toNatClampNeg + 2) rfl I.2.2.2.1 (vpi (by omega)) (jcl_j (by omega) y.1) (I.2.2.2.2.1 _) ?_
  refine x_aloadn (x := 0) rfl rfl ?_
  refine x_iloadn (x := l3) rfl rfl ?_
  refine x_iconst (v := 3) rfl ki_3 ?_
  refine z_iadd rfl rfl jk_3 (by omega) (fun w13 ew13 => ?_)
  refine y_iald (v := xs (l3.toNatClampNeg + 3)) (N := L) (l3.toNatClampNeg + 3) rfl I.2.2.2.1 (vpi (by omega)) (jcl_j (by omega) y.1) (I.2.2.2.2.1 _) ?_
  refine x_inv (N := m_X12_owe) (As := [.int (xs (l3.toNatClampNeg + 1)), .int (xs (l3.toNatClampNeg + 2)), .int (xs (l3.toNatClampNeg + 3))]) (b := 125) (st := [.int v5]) (dx9 := 13) (mc := 0) (ms := 0) (host := "") 12 rfl t_X12_owe ⟨Or.inl q_13_185, i_X12_owe.1, i_X12_owe.2⟩ ⟨by decide, rfl⟩ (congrArg Prod.fst (I.1.1.1 125 (12, 92) rfl)) rfl (by decide) rfl rfl ⟨by omega, by omega⟩ (sf_X12_owe_r125d dy_k (li_jm I) rfl (fun v15 h14 J16 S17 p18 p19 => ?_))
  obtain ⟨I, r20⟩ := li_m I J16 S17 rfl (rr_m I.2.2.1 S17 rfl)
  have cr20 := cn_e r20
  have g := g_owe (xs (l3.toNatClampNeg + 1)).toInt (xs (l3.toNatClampNeg + 2)).toInt (xs (l3.toNatClampNeg + 3)).toInt V
  rw [p9] at g
  have ee : (v5 : Int32).toInt = (v15 : Int32).toInt := p8.symm.trans (g.1.trans p18)
  have V : pR ((it : Int) + 1 + 1) (vw h14) (vw h14) := by rw [← p19]; exact g.2
  show jX m_L_law 1300 600000 7302250 2078 [(3, .int l3), (2, .ref 125), (1, .ref 31), (0, .ref 0)] [.int v15, .int v5] h14 (k + 0 + 0) (n + 0 + 0) Q
  refine x_iceq (tgt := 2887) rfl rfl (br_t (Int32.toInt_inj.mp ee) ?_)
  exact law_next (it := it) (by omega) ⟨I, by rw [show (((it + 1 : Nat) : Int) + 1) = (it : Int) + 1 + 1 from by omega]; exact V⟩ ⟨by omega, by have := R.2.1; omega, by have := R.2.2; omega⟩ kk
set_option maxRecDepth 100000 in
set_option maxHeartbeats 4000000 in
theorem cs_pay {L it : Nat} {xs : Nat → Int32} {h : jH} {k n : Nat} {l3 : Int32} {Q : Option Value → jH → Prop} (hL : L ≤ 3584) (y : 0 ≤ l3.toInt ∧ l3.toInt + 7 ≤ (L : Int)) (hit : it < 512) (I : jLi L xs h) (V : pR ((it : Int) + 1) (vw h) (vw h)) (R : jRoom it h k n) (kk : ∀ (l : Int32) h k n, l.toInt = l3.toInt + 7 → jLw L xs (it + 1) h → jRoom (it + 1) h k n → jX m_L_law 1300 600000 7302250 18 [(3, .int l), (2, .ref 125), (1, .ref 31), (0, .ref 0)] [] h k n Q) : jX m_L_law 1300 600000 7302250 2083 [(3, .int l3), (2, .ref 125), (1, .ref 31), (0, .ref 0)] [] h k n Q := by
  refine x_aloadn (x := 31) rfl rfl ?_
  refine x_aloadn (x := 0) rfl rfl ?_
  refine x_iloadn (x := l3) rfl rfl ?_
  refine x_iconst (v := 1) rfl ki_1 ?_
  refine z_iadd rfl rfl jk_1 (by omega) (fun w1 ew1 => ?_)
  refine y_iald (v := xs (l3.toNatClampNeg + 1)) (N := L) (l3.toNatClampNeg + 1) rfl I.2.2.2.1 (vpi (by omega)) (jcl_j (by omega) y.1) (I.2.2.2.2.1 _) ?_
  refine x_aloadn (x := 0) rfl rfl ?_
  refine x_iloadn (x := l3) rfl rfl ?_
  refine x_iconst (v := 2) rfl ki_2 ?_
  refine z_iadd rfl rfl jk_2 (by omega) (fun w2 ew2 => ?_)
  refine y_iald (v := xs (l3.toNatClampNeg + 2)) (N := L) (l3.toNatClampNeg + 2) rfl I.2.2.2.1 (vpi (by omega)) (jcl_j (by omega) y.1) (I.2.2.2.2.1 _) ?_
  refine x_aloadn (x := 0) rfl rfl ?_
  refine x_iloadn (x := l3) rfl rfl ?_
  refine x_iconst (v := 3) rfl ki_3 ?_
  refine z_iadd rfl rfl jk_3 (by omega) (fun w3 ew3 => ?_)
  refine y_iald (v := xs (l3.toNatClampNeg + 3)) (N := L) (l3.toNatClampNeg + 3) rfl I.2.2.2.1 (vpi (by omega)) (jcl_j (by omega) y.1) (I.2.2.2.2.1 _) ?_
  refine x_aloadn (x := 0) rfl rfl ?_
  refine x_iloadn (x := l3) rfl rfl ?_
  refine x_iconst (v := 4) rfl ki_4 ?_
  refine z_iadd rfl rfl jk_4 (by omega) (fun w4 ew4 => ?_)
  refine y_iald (v := xs (l3.toNatClampNeg + 4)) (N := L) (l3.toNatClampNeg + 4) rfl I.2.2.2.1 (vpi (by omega)) (jcl_j (by omega) y.1) (I.2.2.2.2.1 _) ?_
  refine x_aloadn (x := 0) rfl rfl ?_
  refine x_iloadn (x := l3) rfl rfl ?_
  refine x_iconst (v := 5) rfl ki_5 ?_
  refine z_iadd rfl rfl jk_5 (by omega) (fun w5 ew5 => ?_)
  refine y_iald (v := xs (l3.toNatClampNeg + 5)) (N := L) (l3.toNatClampNeg + 5) rfl I.2.2.2.1 (vpi (by omega)) (jcl_j (by omega) y.1) (I.2.2.2.2.1 _) ?_
  have rm := rm_0 R
  have D := I.1.2.2.2.1
  refine x_inv (N := m_X11_pay) (As := [.int (xs (l3.toNatClampNeg + 1)), .int (xs (l3.toNatClampNeg + 2)), .int (xs (l3.toNatClampNeg + 3)), .int (xs (l3.toNatClampNeg + 4)), .int (xs (l3.toNatClampNeg + 5))]) (b := 31) (st := []) (dx9 := 3) (mc := 0) (ms := 0) (host := "") 11 rfl t_X11_pay ⟨Or.inl q_13_186, i_X11_pay.1, i_X11_pay.2⟩ ⟨by decide, rfl⟩ (congrArg Prod.fst (I.1.1.1 31 (11, 13) rfl)) rfl (by decide) rfl rfl ⟨by omega, by omega⟩ (sf_X11_pay_r31d dy_k I.1 rfl (fun v7 h6 p8 J9 S10 p11 p12 => ?_))
  obtain ⟨I, r13⟩ := li_x I J9 S10 rfl (rx_m I.2.2.2.2.2 S10 rfl)
  have cr13 := cn_e r13
  show jX m_L_law 1300 600000 7302250 2112 [(3, .int l3), (2, .ref 125), (1, .ref 31), (0, .ref 0)] [.int v7] h6 (k + 0) (n + 0) Q
  refine x_aloadn (x := 125) rfl rfl ?_
  refine x_aloadn (x := 0) rfl rfl ?_
  refine x_iloadn (x := l3) rfl rfl ?_
  refine x_iconst (v := 1) rfl ki_1 ?_
  refine z_iadd rfl rfl jk_1 (by omega) (fun w14 ew14 => ?_)
  refine y_iald (v := xs (l3.toNatClampNeg + 1)) (N := L) (l3.toNatClampNeg + 1) rfl I.2.2.2.1 (vpi (by omega)) (jcl_j (by omega) y.1) (I.2.2.2.2.1 _) ?_
  refine x_aloadn (x := 0) rfl rfl ?_
  refine x_iloadn (x := l3) rfl rfl ?_
  refine x_iconst (v := 2) rfl ki_2 ?_
  refine z_iadd rfl rfl jk_2 (by omega) (fun w15 ew15 => ?_)
  refine y_iald (v := xs (l3.toNatClampNeg + 2)) (N := L) (l3.toNatClampNeg + 2) rfl I.2.2.2.1 (vpi (by omega)) (jcl_j (by omega) y.1) (I.2.2.2.2.1 _) ?_
  refine x_aloadn (x := 0) rfl rfl ?_
  refine x_iloadn (x := l3) rfl rfl ?_
  refine x_iconst (v := 3) rfl ki_3 ?_
  refine z_iadd rfl rfl jk_3 (by omega) (fun w16 ew16 => ?_)
  refine y_iald (v := xs (l3.toNatClampNeg + 3)) (N := L) (l3.toNatClampNeg + 3) rfl I.2.2.2.1 (vpi (by omega)) (jcl_j (by omega) y.1) (I.2.2.2.2.1 _) ?_
  refine x_aloadn (x := 0) rfl rfl ?_
  refine x_iloadn (x := l3) rfl rfl ?_
  refine x_iconst (v := 4) rfl ki_4 ?_
  refine z_iadd rfl rfl jk_4 (by omega) (fun w17 ew17 => ?_)
  refine y_iald (v := xs (l3.toNatClampNeg + 4)) (N := L) (l3.toNatClampNeg + 4) rfl I.2.2.2.1 (vpi (by omega)) (jcl_j (by omega) y.1) (I.2.2.2.2.1 _) ?_
  refine x_aloadn (x := 0) rfl rfl ?_
  refine x_iloadn (x := l3) rfl rfl ?_
  refine x_iconst (v := 5) rfl ki_5 ?_
  refine z_iadd rfl rfl jk_5 (by omega) (fun w18 ew18 => ?_)
  refine y_iald (v := xs (l3.toNatClampNeg + 5)) (N := L) (l3.toNatClampNeg + 5) rfl I.2.2.2.1 (vpi (by omega)) (jcl_j (by omega) y.1) (I.2.2.2.2.1 _) ?_
  refine x_inv (N := m_X12_pay) (As := [.int (xs (l3.toNatClampNeg + 1)), .int (xs (l3.toNatClampNeg + 2)), .int (xs (l3.toNatClampNeg + 3)), .int (xs (l3.toNatClampNeg + 4)), .int (xs (l3.toNatClampNeg + 5))]) (b := 125) (st := [.int v7]) (dx9 := 3) (mc := 0) (ms := 0) (host := "") 12 rfl t_X12_pay ⟨Or.inl q_13_189, i_X12_pay.1, i_X12_pay.2⟩ ⟨by decide, rfl⟩ (congrArg Prod.fst (I.1.1.1 125 (12, 92) rfl)) rfl (by decide) rfl rfl ⟨by omega, by omega⟩ (sf_X12_pay_r125d dy_k (li_jm I) rfl (fun v20 h19 J21 S22 p23 p24 => ?_))
  obtain ⟨I, r25⟩ := li_m I J21 S22 rfl (rr_m I.2.2.1 S22 rfl)
  have cr25 := cn_e r25
  have g := g_pay (xs (l3.toNatClampNeg + 1)).toInt (xs (l3.toNatClampNeg + 2)).toInt (xs (l3.toNatClampNeg + 3)).toInt (xs (l3.toNatClampNeg + 4)).toInt (xs (l3.toNatClampNeg + 5)).toInt V (by omega)
  rw [p12] at g
  have ee : (v7 : Int32).toInt = (v20 : Int32).toInt := p11.symm.trans (g.1.trans p23)
  have V : pR ((it : Int) + 1 + 1) (vw h19) (vw h19) := by rw [← p24]; exact g.2
  show jX m_L_law 1300 600000 7302250 2141 [(3, .int l3), (2, .ref 125), (1, .ref 31), (0, .ref 0)] [.int v20, .int v7] h19 (k + 0 + 0) (n + 0 + 0) Q
  refine x_iceq (tgt := 2887) rfl rfl (br_t (Int32.toInt_inj.mp ee) ?_)
  exact law_next (it := it) (by omega) ⟨I, by rw [show (((it + 1 : Nat) : Int) + 1) = (it : Int) + 1 + 1 from by omega]; exact V⟩ ⟨by omega, by have := R.2.1; omega, by have := R.2.2; omega⟩ kk
set_option maxRecDepth 100000 in
set_option maxHeartbeats 4000000 in
theorem cs_arrear {L it : Nat} {xs : Nat → Int32} {h : jH} {k n : Nat} {l3 : Int32} {Q : Option Value → jH → Prop} (hL : L ≤ 3584) (y : 0 ≤ l3.toInt ∧ l3.toInt + 7 ≤ (L : Int)) (hit : it < 512) (I : jLi L xs h) (V : pR ((it : Int) + 1) (vw h) (vw h)) (R : jRoom it h k n) (kk : ∀ (l : Int32) h k n, l.toInt = l3.toInt + 7 → jLw L xs (it + 1) h → jRoom (it + 1) h k n → jX m_L_law 1300 600000 7302250 18 [(3, .int l), (2, .ref 125), (1, .ref 31), (0, .ref 0)] [] h k n Q) : jX m_L_law 1300 600000 7302250 2146 [(3, .int l3), (2, .ref 125), (1, .ref 31), (0, .ref 0)] [] h k n Q := by
  refine x_aloadn (x := 31) rfl rfl ?_
  refine x_aloadn (x := 0) rfl rfl ?_
  refine x_iloadn (x := l3) rfl rfl ?_
  refine x_iconst (v := 1) rfl ki_1 ?_
  refine z_iadd rfl rfl jk_1 (by omega) (fun w1 ew1 => ?_)
  refine y_iald (v := xs (l3.toNatClampNeg + 1)) (N := L) (l3.toNatClampNeg + 1) rfl I.2.2.2.1 (vpi (by omega)) (jcl_j (by omega) y.1) (I.2.2.2.2.1 _) ?_
  refine x_aloadn (x := 0) rfl rfl ?_
  refine x_iloadn (x := l3) rfl rfl ?_
  refine x_iconst (v := 2) rfl ki_2 ?_
  refine z_iadd rfl rfl jk_2 (by omega) (fun w2 ew2 => ?_)
  refine y_iald (v := xs (l3.toNatClampNeg + 2)) (N := L) (l3.toNatClampNeg + 2) rfl I.2.2.2.1 (vpi (by omega)) (jcl_j (by omega) y.1) (I.2.2.2.2.1 _) ?_
  refine x_aloadn (x := 0) rfl rfl ?_
  refine x_iloadn (x := l3) rfl rfl ?_
  refine x_iconst (v := 3) rfl ki_3 ?_
  refine z_iadd rfl rfl jk_3 (by omega) (fun w3 ew3 => ?_)
  refine y_iald (v := xs (l3.toNatClampNeg + 3)) (N := L) (l3.toNatClampNeg + 3) rfl I.2.2.2.1 (vpi (by omega)) (jcl_j (by omega) y.1) (I.2.2.2.2.1 _) ?_
  refine x_aloadn (x := 0) rfl rfl ?_
  refine x_iloadn (x := l3) rfl rfl ?_
  refine x_iconst (v := 4) rfl ki_4 ?_
  refine z_iadd rfl rfl jk_4 (by omega) (fun w4 ew4 => ?_)
  refine y_iald (v := xs (l3.toNatClampNeg + 4)) (N := L) (l3.toNatClampNeg + 4) rfl I.2.2.2.1 (vpi (by omega)) (jcl_j (by omega) y.1) (I.2.2.2.2.1 _) ?_
  have rm := rm_0 R
  have D := I.1.2.2.2.1
  refine x_inv (N := m_X11_arrear) (As := [.int (xs (l3.toNatClampNeg + 1)), .int (xs (l3.toNatClampNeg + 2)), .int (xs (l3.toNatClampNeg + 3)), .int (xs (l3.toNatClampNeg + 4))]) (b := 31) (st := []) (dx9 := 8) (mc := 0) (ms := 0) (host := "") 11 rfl t_X11_arrear ⟨Or.inl q_13_190, i_X11_arrear.1, i_X11_arrear.2⟩ ⟨by decide, rfl⟩ (congrArg Prod.fst (I.1.1.1 31 (11, 13) rfl)) rfl (by decide) rfl rfl ⟨by omega, by omega⟩ (sf_X11_arrear_r31d dy_k I.1 rfl (fun v6 h5 J7 S8 p9 p10 => ?_))
  obtain ⟨I, r11⟩ := li_x I J7 S8 rfl (rx_m I.2.2.2.2.2 S8 rfl)
  have cr11 := cn_e r11
  show jX m_L_law 1300 600000 7302250 2170 [(3, .int l3), (2, .ref 125), (1, .ref 31), (0, .ref 0)] [.int v6] h5 (k + 0) (n + 0) Q
  refine x_aloadn (x := 125) rfl rfl ?_
  refine x_aloadn (x := 0) rfl rfl ?_
  refine x_iloadn (x := l3) rfl rfl ?_
  refine x_iconst (v := 1) rfl ki_1 ?_
  refine z_iadd rfl rfl jk_1 (by omega) (fun w12 ew12 => ?_)
  refine y_iald (v := xs (l3.toNatClampNeg + 1)) (N := L) (l3.toNatClampNeg + 1) rfl I.2.2.2.1 (vpi (by omega)) (jcl_j (by omega) y.1) (I.2.2.2.2.1 _) ?_
  refine x_aloadn (x := 0) rfl rfl ?_
  refine x_iloadn (x := l3) rfl rfl ?_
  refine x_iconst (v := 2) rfl ki_2 ?_
  refine z_iadd rfl rfl jk_2 (by omega) (fun w13 ew13 => ?_)
  refine y_iald (v := xs (l3.toNatClampNeg + 2)) (N := L) (l3.toNatClampNeg + 2) rfl I.2.2.2.1 (vpi (by omega)) (jcl_j (by omega) y.1) (I.2.2.2.2.1 _) ?_
  refine x_aloadn (x := 0) rfl rfl ?_
  refine x_iloadn (x := l3) rfl rfl ?_
  refine x_iconst (v := 3) rfl ki_3 ?_
  refine z_iadd rfl rfl jk_3 (by omega) (fun w14 ew14 => ?_)
  refine y_iald (v := xs (l3.toNatClampNeg + 3)) (N := L) (l3.toNatClampNeg + 3) rfl I.2.2.2.1 (vpi (by omega)) (jcl_j (by omega) y.1) (I.2.2.2.2.1 _) ?_
  refine x_aloadn (x := 0) rfl rfl ?_
  refine x_iloadn (x := l3) rfl rfl ?_
  refine x_iconst (v := 4) rfl ki_4 ?_
  refine z_iadd rfl rfl jk_4 (by omega) (fun w15 ew15 => ?_)
  refine y_iald (v := xs (l3.toNatClampNeg + 4)) (N := L) (l3.toNatClampNeg + 4) rfl I.2.2.2.1 (vpi (by omega)) (jcl_j (by omega) y.1) (I.2.2.2.2.1 _) ?_
  refine x_inv (N := m_X12_arrear) (As := [.int (xs (l3.toNatClampNeg + 1)), .int (xs (l3.toNatClampNeg + 2)), .int (xs (l3.toNatClampNeg + 3)), .int (xs (l3.toNatClampNeg + 4))]) (b := 125) (st := [.int v6]) (dx9 := 13) (mc := 0) (ms := 0) (host := "") 12 rfl t_X12_arrear ⟨Or.inl q_13_193, i_X12_arrear.1, i_X12_arrear.2⟩ ⟨by decide, rfl⟩ (congrArg Prod.fst (I.1.1.1 125 (12, 92) rfl)) rfl (by decide) rfl rfl ⟨by omega, by omega⟩ (sf_X12_arrear_r125d dy_k (li_jm I) rfl (fun v17 h16 J18 S19 p20 p21 => ?_))
  obtain ⟨I, r22⟩ := li_m I J18 S19 rfl (rr_m I.2.2.1 S19 rfl)
  have cr22 := cn_e r22
  have g := g_arrear (xs (l3.toNatClampNeg + 1)).toInt (xs (l3.toNatClampNeg + 2)).toInt (xs (l3.toNatClampNeg + 3)).toInt (xs (l3.toNatClampNeg + 4)).toInt V
  rw [p10] at g
  have ee : (v6 : Int32).toInt = (v17 : Int32).toInt := p9.symm.trans (g.1.trans p20)
  have V : pR ((it : Int) + 1 + 1) (vw h16) (vw h16) := by rw [← p21]; exact g.2
  show jX m_L_law 1300 600000 7302250 2194 [(3, .int l3), (2, .ref 125), (1, .ref 31), (0, .ref 0)] [.int v17, .int v6] h16 (k + 0 + 0) (n + 0 + 0) Q
  refine x_iceq (tgt := 2887) rfl rfl (br_t (Int32.toInt_inj.mp ee) ?_)
  exact law_next (it := it) (by omega) ⟨I, by rw [show (((it + 1 : Nat) : Int) + 1) = (it : Int) + 1 + 1 from by omega]; exact V⟩ ⟨by omega, by have := R.2.1; omega, by have := R.2.2; omega⟩ kk
set_option maxRecDepth 100000 in
set_option maxHeartbeats 4000000 in
theorem cs_turn {L it : Nat} {xs : Nat → Int32} {h : jH} {k n : Nat} {l3 : Int32} {Q : Option Value → jH → Prop} (hL : L ≤ 3584) (y : 0 ≤ l3.toInt ∧ l3.toInt + 7 ≤ (L : Int)) (hit : it < 512) (I : jLi L xs h) (V : pR ((it : Int) + 1) (vw h) (vw h)) (R : jRoom it h k n) (kk : ∀ (l : Int32) h k n, l.toInt = l3.toInt + 7 → jLw L xs (it + 1) h → jRoom (it + 1) h k n → jX m_L_law 1300 600000 7302250 18 [(3, .int l), (2, .ref 125), (1, .ref 31), (0, .ref 0)] [] h k n Q) : jX m_L_law 1300 600000 7302250 2199 [(3, .int l3), (2, .ref 125), (1, .ref 31), (0, .ref 0)] [] h k n Q := by
  refine x_aloadn (x := 31) rfl rfl ?_
  refine x_aloadn (x := 0) rfl rfl ?_
  refine x_iloadn (x := l3) rfl rfl ?_
  refine x_iconst (v := 1) rfl ki_1 ?_
  refine z_iadd rfl rfl jk_1 (by omega) (fun w1 ew1 => ?_)
  refine y_iald (v := xs (l3.toNatClampNeg + 1)) (N := L) (l3.toNatClampNeg + 1) rfl I.2.2.2.1 (vpi (by omega)) (jcl_j (by omega) y.1) (I.2.2.2.2.1 _) ?_
  refine x_aloadn (x := 0) rfl rfl ?_
  refine x_iloadn (x := l3) rfl rfl ?_
  refine x_iconst (v := 2) rfl ki_2 ?_
  refine z_iadd rfl rfl jk_2 (by omega) (fun w2 ew2 => ?_)
  refine y_iald (v := xs (l3.toNatClampNeg + 2)) (N := L) (l3.toNatClampNeg + 2) rfl I.2.2.2.1 (vpi (by omega)) (jcl_j (by omega) y.1) (I.2.2.2.2.1 _) ?_
  refine x_aloadn (x := 0) rfl rfl ?_
  refine x_iloadn (x := l3) rfl rfl ?_
  refine x_iconst (v := 3) rfl ki_3 ?_
  refine z_iadd rfl rfl jk_3 (by omega) (fun w3 ew3 => ?_)
  refine y_iald (v := xs (l3.toNatClampNeg + 3)) (N := L) (l3.toNatClampNeg + 3) rfl I.2.2.2.1 (vpi (by omega)) (jcl_j (by omega) y.1) (I.2.2.2.2.1 _) ?_
  refine x_aloadn (x := 0) rfl rfl ?_
  refine x_iloadn (x := l3) rfl rfl ?_
  refine x_iconst (v := 4) rfl ki_4 ?_
  refine z_iadd rfl rfl jk_4 (by omega) (fun w4 ew4 => ?_)
  refine y_iald (v := xs (l3.toNatClampNeg + 4)) (N := L) (l3.toNatClampNeg + 4) rfl I.2.2.2.1 (vpi (by omega)) (jcl_j (by omega) y.1) (I.2.2.2.2.1 _) ?_
  have rm := rm_0 R
  have D := I.1.2.2.2.1
  refine x_inv (N := m_X11_turn) (As := [.int (xs (l3.toNatClampNeg + 1)), .int (xs (l3.toNatClampNeg + 2)), .int (xs (l3.toNatClampNeg + 3)), .int (xs (l3.toNatClampNeg + 4))]) (b := 31) (st := []) (dx9 := 8) (mc := 0) (ms := 0) (host := "") 11 rfl t_X11_turn ⟨Or.inl q_13_194, i_X11_turn.1, i_X11_turn.2⟩ ⟨by decide, rfl⟩ (congrArg Prod.fst (I.1.1.1 31 (11, 13) rfl)) rfl (by decide) rfl rfl ⟨by omega, by omega⟩ (sf_X11_turn_r31d dy_k I.1 rfl (fun v6 h5 J7 S8 p9 p10 => ?_))
  obtain ⟨I, r11⟩ := li_x I J7 S8 rfl (rx_m I.2.2.2.2.2 S8 rfl)
  have cr11 := cn_e r11
  show jX m_L_law 1300 600000 7302250 2223 [(3, .int l3), (2, .ref 125), (1, .ref 31), (0, .ref 0)] [.int v6] h5 (k + 0) (n + 0) Q
  refine x_aloadn (x := 125) rfl rfl ?_
  refine x_aloadn (x := 0) rfl rfl ?_
  refine x_iloadn (x := l3) rfl rfl ?_
  refine x_iconst (v := 1) rfl ki_1 ?_
  refine z_iadd rfl rfl jk_1 (by omega) (fun w12 ew12 => ?_)
  refine y_iald (v := xs (l3.toNatClampNeg + 1)) (N := L) (l3.toNatClampNeg + 1) rfl I.2.2.2.1 (vpi (by omega)) (jcl_j (by omega) y.1) (I.2.2.2.2.1 _) ?_
  refine x_aloadn (x := 0) rfl rfl ?_
  refine x_iloadn (x := l3) rfl rfl ?_
  refine x_iconst (v := 2) rfl ki_2 ?_
  refine z_iadd rfl rfl jk_2 (by omega) (fun w13 ew13 => ?_)
  refine y_iald (v := xs (l3.toNatClampNeg + 2)) (N := L) (l3.toNatClampNeg + 2) rfl I.2.2.2.1 (vpi (by omega)) (jcl_j (by omega) y.1) (I.2.2.2.2.1 _) ?_
  refine x_aloadn (x := 0) rfl rfl ?_
  refine x_iloadn (x := l3) rfl rfl ?_
  refine x_iconst (v := 3) rfl ki_3 ?_
  refine z_iadd rfl rfl jk_3 (by omega) (fun w14 ew14 => ?_)
  refine y_iald (v := xs (l3.toNatClampNeg + 3)) (N := L) (l3.toNatClampNeg + 3) rfl I.2.2.2.1 (vpi (by omega)) (jcl_j (by omega) y.1) (I.2.2.2.2.1 _) ?_
  refine x_aloadn (x := 0) rfl rfl ?_
  refine x_iloadn (x := l3) rfl rfl ?_
  refine x_iconst (v := 4) rfl ki_4 ?_
  refine z_iadd rfl rfl jk_4 (by omega) (fun w15 ew15 => ?_)
  refine y_iald (v := xs (l3.toNatClampNeg + 4)) (N := L) (l3.toNatClampNeg + 4) rfl I.2.2.2.1 (vpi (by omega)) (jcl_j (by omega) y.1) (I.2.2.2.2.1 _) ?_
  refine x_inv (N := m_X12_turn) (As := [.int (xs (l3.toNatClampNeg + 1)), .int (xs (l3.toNatClampNeg + 2)), .int (xs (l3.toNatClampNeg + 3)), .int (xs (l3.toNatClampNeg + 4))]) (b := 125) (st := [.int v6]) (dx9 := 12) (mc := 0) (ms := 0) (host := "") 12 rfl t_X12_turn ⟨Or.inl q_13_197, i_X12_turn.1, i_X12_turn.2⟩ ⟨by decide, rfl⟩ (congrArg Prod.fst (I.1.1.1 125 (12, 92) rfl)) rfl (by decide) rfl rfl ⟨by omega, by omega⟩ (sf_X12_turn_r125d dy_k (li_jm I) rfl (fun v17 h16 J18 S19 p20 p21 => ?_))
  obtain ⟨I, r22⟩ := li_m I J18 S19 rfl (rr_m I.2.2.1 S19 rfl)
  have cr22 := cn_e r22
  have g := g_turn (xs (l3.toNatClampNeg + 1)).toInt (xs (l3.toNatClampNeg + 2)).toInt (xs (l3.toNatClampNeg + 3)).toInt (xs (l3.toNatClampNeg + 4)).toInt V
  rw [p10] at g
  have ee : (v6 : Int32).toInt = (v17 : Int32).toInt := p9.symm.trans (g.1.trans p20)
  have V : pR ((it : Int) + 1 + 1) (vw h16) (vw h16) := by rw [← p21]; exact g.2
  show jX m_L_law 1300 600000 7302250 2247 [(3, .int l3), (2, .ref 125), (1, .ref 31), (0, .ref 0)] [.int v17, .int v6] h16 (k + 0 + 0) (n + 0 + 0) Q
  refine x_iceq (tgt := 2887) rfl rfl (br_t (Int32.toInt_inj.mp ee) ?_)
  exact law_next (it := it) (by omega) ⟨I, by rw [show (((it + 1 : Nat) : Int) + 1) = (it : Int) + 1 + 1 from by omega]; exact V⟩ ⟨by omega, by have := R.2.1; omega, by have := R.2.2; omega⟩ kk
set_option maxRecDepth 100000 in
set_option maxHeartbeats 4000000 in
theorem cs_entry {L it : Nat} {xs : Nat → Int32} {h : jH} {k n : Nat} {l3 : Int32} {Q : Option Value → jH → Prop} (hL : L ≤ 3584) (y : 0 ≤ l3.toInt ∧ l3.toInt + 7 ≤ (L : Int)) (hit : it < 512) (I : jLi L xs h) (V : pR ((it : Int) + 1) (vw h) (vw h)) (R : jRoom it h k n) (kk : ∀ (l : Int32) h k n, l.toInt = l3.toInt + 7 → jLw L xs (it + 1) h → jRoom (it + 1) h k n → jX m_L_law 1300 600000 7302250 18 [(3, .int l), (2, .ref 125), (1, .ref 31), (0, .ref 0)] [] h k n Q) : jX m_L_law 1300 600000 7302250 2252 [(3, .int l3), (2, .ref 125), (1, .ref 31), (0, .ref 0)] [] h k n Q := by
  refine x_aloadn (x := 31) rfl rfl ?_
  refine x_aloadn (x := 0) rfl rfl ?_
  refine x_iloadn (x := l3) rfl rfl ?_
  refine x_iconst (v := 1) rfl ki_1 ?_
  refine z_iadd rfl rfl jk_1 (by omega) (fun w1 ew1 => ?_)
  refine y_iald (v := xs (l3.toNatClampNeg + 1)) (N := L) (l3.toNatClampNeg + 1) rfl I.2.2.2.1 (vpi (by omega)) (jcl_j (by omega) y.1) (I.2.2.2.2.1 _) ?_
  refine x_aloadn (x := 0) rfl rfl ?_
  refine x_iloadn (x := l3) rfl rfl ?_
  refine x_iconst (v := 2) rfl ki_2 ?_
  refine z_iadd rfl rfl jk_2 (by omega) (fun w2 ew2 => ?_)
  refine y_iald (v := xs (l3.toNatClampNeg + 2)) (N := L) (l3.toNatClampNeg + 2) rfl I.2.2.2.1 (vpi (by omega)) (jcl_j (by omega) y.1) (I.2.2.2.2.1 _) ?_
  refine x_aloadn (x := 0) rfl rfl ?_
  refine x_iloadn (x := l3) rfl rfl ?_
  refine x_iconst (v := 3) rfl ki_3 ?_
  refine z_iadd rfl rfl jk_3 (by omega) (fun w3 ew3 => ?_)
  refine y_iald (v := xs (l3.toNatClampNeg + 3)) (N := L) (l3.toNatClampNeg + 3) rfl I.2.2.2.1 (vpi (by omega)) (jcl_j (by omega) y.1) (I.2.2.2.2.1 _) ?_
  refine x_aloadn (x := 0) rfl rfl ?_
  refine x_iloadn (x := l3) rfl rfl ?_
  refine x_iconst (v := 4) rfl ki_4 ?_
  refine z_iadd rfl rfl jk_4 (by omega) (fun w4 ew4 => ?_)
  refine y_iald (v := xs (l3.toNatClampNeg + 4)) (N := L) (l3.toNatClampNeg + 4) rfl I.2.2.2.1 (vpi (by omega)) (jcl_j (by omega) y.1) (I.2.2.2.2.1 _) ?_
  have rm := rm_0 R
  have D := I.1.2.2.2.1
  refine x_inv (N := m_X11_entry) (As := [.int (xs (l3.toNatClampNeg + 1)), .int (xs (l3.toNatClampNeg + 2)), .int (xs (l3.toNatClampNeg + 3)), .int (xs (l3.toNatClampNeg + 4))]) (b := 31) (st := []) (dx9 := 3) (mc := 0) (ms := 0) (host := "") 11 rfl t_X11_entry ⟨Or.inl q_13_198, i_X11_entry.1, i_X11_entry.2⟩ ⟨by decide, rfl⟩ (congrArg Prod.fst (I.1.1.1 31 (11, 13) rfl)) rfl (by decide) rfl rfl ⟨by omega, by omega⟩ (sf_X11_entry_r31d dy_k I.1 rfl (fun v6 h5 p7 J8 S9 p10 p11 => ?_))
  obtain ⟨I, r12⟩ := li_x I J8 S9 rfl (rx_m I.2.2.2.2.2 S9 rfl)
  have cr12 := cn_e r12
  show jX m_L_law 1300 600000 7302250 2276 [(3, .int l3), (2, .ref 125), (1, .ref 31), (0, .ref 0)] [.int v6] h5 (k + 0) (n + 0) Q
  refine x_aloadn (x := 125) rfl rfl ?_
  refine x_aloadn (x := 0) rfl rfl ?_
  refine x_iloadn (x := l3) rfl rfl ?_
  refine x_iconst (v := 1) rfl ki_1 ?_
  refine z_iadd rfl rfl jk_1 (by omega) (fun w13 ew13 => ?_)
  refine y_iald (v := xs (l3.toNatClampNeg + 1)) (N := L) (l3.toNatClampNeg + 1) rfl I.2.2.2.1 (vpi (by omega)) (jcl_j (by omega) y.1) (I.2.2.2.2.1 _) ?_
  refine x_aloadn (x := 0) rfl rfl ?_
  refine x_iloadn (x := l3) rfl rfl ?_
  refine x_iconst (v := 2) rfl ki_2 ?_
  refine z_iadd rfl rfl jk_2 (by omega) (fun w14 ew14 => ?_)
  refine y_iald (v := xs (l3.toNatClampNeg + 2)) (N := L) (l3.toNatClampNeg + 2) rfl I.2.2.2.1 (vpi (by omega)) (jcl_j (by omega) y.1) (I.2.2.2.2.1 _) ?_
  refine x_aloadn (x := 0) rfl rfl ?_
  refine x_iloadn (x := l3) rfl rfl ?_
  refine x_iconst (v := 3) rfl ki_3 ?_
  refine z_iadd rfl rfl jk_3 (by omega) (fun w15 ew15 => ?_)
  refine y_iald (v := xs (l3.toNatClampNeg + 3)) (N := L) (l3.toNatClampNeg + 3) rfl I.2.2.2.1 (vpi (by omega)) (jcl_j (by omega) y.1) (I.2.2.2.2.1 _) ?_
  refine x_aloadn (x := 0) rfl rfl ?_
  refine x_iloadn (x := l3) rfl rfl ?_
  refine x_iconst (v := 4) rfl ki_4 ?_
  refine z_iadd rfl rfl jk_4 (by omega) (fun w16 ew16 => ?_)
  refine y_iald (v := xs (l3.toNatClampNeg + 4)) (N := L) (l3.toNatClampNeg + 4) rfl I.2.2.2.1 (vpi (by omega)) (jcl_j (by omega) y.1) (I.2.2.2.2.1 _) ?_
  refine x_inv (N := m_X12_entry) (As := [.int (xs (l3.toNatClampNeg + 1)), .int (xs (l3.toNatClampNeg + 2)), .int (xs (l3.toNatClampNeg + 3)), .int (xs (l3.toNatClampNeg + 4))]) (b := 125) (st := [.int v6]) (dx9 := 3) (mc := 0) (ms := 0) (host := "") 12 rfl t_X12_entry ⟨Or.inl q_13_201, i_X12_entry.1, i_X12_entry.2⟩ ⟨by decide, rfl⟩ (congrArg Prod.fst (I.1.1.1 125 (12, 92) rfl)) rfl (by decide) rfl rfl ⟨by omega, by omega⟩ (sf_X12_entry_r125d dy_k (li_jm I) rfl (fun v18 h17 J19 S20 p21 p22 => ?_))
  obtain ⟨I, r23⟩ := li_m I J19 S20 rfl (rr_m I.2.2.1 S20 rfl)
  have cr23 := cn_e r23
  have g := g_entry (xs (l3.toNatClampNeg + 1)).toInt (xs (l3.toNatClampNeg + 2)).toInt (xs (l3.toNatClampNeg + 3)).toInt (xs (l3.toNatClampNeg + 4)).toInt V (by omega)
  rw [p11] at g
  have ee : (v6 : Int32).toInt = (v18 : Int32).toInt := p10.symm.trans (g.1.trans p21)
  have V : pR ((it : Int) + 1 + 1) (vw h17) (vw h17) := by rw [← p22]; exact g.2
  show jX m_L_law 1300 600000 7302250 2300 [(3, .int l3), (2, .ref 125), (1, .ref 31), (0, .ref 0)] [.int v18, .int v6] h17 (k + 0 + 0) (n + 0 + 0) Q
  refine x_iceq (tgt := 2887) rfl rfl (br_t (Int32.toInt_inj.mp ee) ?_)
  exact law_next (it := it) (by omega) ⟨I, by rw [show (((it + 1 : Nat) : Int) + 1) = (it : Int) + 1 + 1 from by omega]; exact V⟩ ⟨by omega, by have := R.2.1; omega, by have := R.2.2; omega⟩ kk
set_option maxRecDepth 100000 in
set_option maxHeartbeats 4000000 in
theorem cs_close {L it : Nat} {xs : Nat → Int32} {h : jH} {k n : Nat} {l3 : Int32} {Q : Option Value → jH → Prop} (hL : L ≤ 3584) (y : 0 ≤ l3.toInt ∧ l3.toInt + 7 ≤ (L : Int)) (hit : it < 512) (I : jLi L xs h) (V : pR ((it : Int) + 1) (vw h) (vw h)) (R : jRoom it h k n) (kk : ∀ (l : Int32) h k n, l.toInt = l3.toInt + 7 → jLw L xs (it + 1) h → jRoom (it + 1) h k n → jX m_L_law 1300 600000 7302250 18 [(3, .int l), (2, .ref 125), (1, .ref 31), (0, .ref 0)] [] h k n Q) : jX m_L_law 1300 600000 7302250 2305 [(3, .int l3), (2, .ref 125), (1, .ref 31), (0, .ref 0)] [] h k n Q := by
  refine x_aloadn (x := 31) rfl rfl ?_
  refine x_aloadn (x := 0) rfl rfl ?_
  refine x_iloadn (x := l3) rfl rfl ?_
  refine x_iconst (v := 1) rfl ki_1 ?_
  refine z_iadd rfl rfl jk_1 (by omega) (fun w1 ew1 => ?_)
  refine y_iald (v := xs (l3.toNatClampNeg + 1)) (N := L) (l3.toNatClampNeg + 1) rfl I.2.2.2.1 (vpi (by omega)) (jcl_j (by omega) y.1) (I.2.2.2.2.1 _) ?_
  refine x_aloadn (x := 0) rfl rfl ?_
  refine x_iloadn (x := l3) rfl rfl ?_
  refine x_iconst (v := 2) rfl ki_2 ?_
  refine z_iadd rfl rfl jk_2 (by omega) (fun w2 ew2 => ?_)
  refine y_iald (v := xs (l3.toNatClampNeg + 2)) (N := L) (l3.toNatClampNeg + 2) rfl I.2.2.2.1 (vpi (by omega)) (jcl_j (by omega) y.1) (I.2.2.2.2.1 _) ?_
  refine x_aloadn (x := 0) rfl rfl ?_
  refine x_iloadn (x := l3) rfl rfl ?_
  refine x_iconst (v := 3) rfl ki_3 ?_
  refine z_iadd rfl rfl jk_3 (by omega) (fun w3 ew3 => ?_)
  refine y_iald (v := xs (l3.toNatClampNeg + 3)) (N := L) (l3.toNatClampNeg + 3) rfl I.2.2.2.1 (vpi (by omega)) (jcl_j (by omega) y.1) (I.2.2.2.2.1 _) ?_
  refine x_aloadn (x := 0) rfl rfl ?_
  refine x_iloadn (x := l3) rfl rfl ?_
  refine x_iconst (v := 4) rfl ki_4 ?_
  refine z_iadd rfl rfl jk_4 (by omega) (fun w4 ew4 => ?_)
  refine y_iald (v := xs (l3.toNatClampNeg + 4)) (N := L) (l3.toNatClampNeg + 4) rfl I.2.2.2.1 (vpi (by omega)) (jcl_j (by omega) y.1) (I.2.2.2.2.1 _) ?_
  have rm := rm_0 R
  have D := I.1.2.2.2.1
  refine x_inv (N := m_X11_close) (As := [.int (xs (l3.toNatClampNeg + 1)), .int (xs (l3.toNatClampNeg + 2)), .int (xs (l3.toNatClampNeg + 3)), .int (xs (l3.toNatClampNeg + 4))]) (b := 31) (st := []) (dx9 := 5) (mc := 0) (ms := 0) (host := "") 11 rfl t_X11_close ⟨Or.inl q_13_202, i_X11_close.1, i_X11_close.2⟩ ⟨by decide, rfl⟩ (congrArg Prod.fst (I.1.1.1 31 (11, 13) rfl)) rfl (by decide) rfl rfl ⟨by omega, by omega⟩ (sf_X11_close_r31d dy_k I.1 rfl (fun v6 h5 p7 J8 S9 p10 p11 => ?_))
  obtain ⟨I, r12⟩ := li_x I J8 S9 rfl (rx_m I.2.2.2.2.2 S9 rfl)
  have cr12 := cn_e r12
  show jX m_L_law 1300 600000 7302250 2329 [(3, .int l3), (2, .ref 125), (1, .ref 31), (0, .ref 0)] [.int v6] h5 (k + 0) (n + 0) Q
  refine x_aloadn (x := 125) rfl rfl ?_
  refine x_aloadn (x := 0) rfl rfl ?_
  refine x_iloadn (x := l3) rfl rfl ?_
  refine x_iconst (v := 1) rfl ki_1 ?_
  refine z_iadd rfl rfl jk_1 (by omega) (fun w13 ew13 => ?_)
  refine y_iald (v := xs (l3.toNatClampNeg + 1)) (N := L) (l3.toNatClampNeg + 1) rfl I.2.2.2.1 (vpi (by omega)) (jcl_j (by omega) y.1) (I.2.2.2.2.1 _) ?_
  refine x_aloadn (x := 0) rfl rfl ?_
  refine x_iloadn (x := l3) rfl rfl ?_
  refine x_iconst (v := 2) rfl ki_2 ?_
  refine z_iadd rfl rfl jk_2 (by omega) (fun w14 ew14 => ?_)
  refine y_iald (v := xs (l3.toNatClampNeg + 2)) (N := L) (l3.toNatClampNeg + 2) rfl I.2.2.2.1 (vpi (by omega)) (jcl_j (by omega) y.1) (I.2.2.2.2.1 _) ?_
  refine x_aloadn (x := 0) rfl rfl ?_
  refine x_iloadn (x := l3) rfl rfl ?_
  refine x_iconst (v := 3) rfl ki_3 ?_
  refine z_iadd rfl rfl jk_3 (by omega) (fun w15 ew15 => ?_)
  refine y_iald (v := xs (l3.toNatClampNeg + 3)) (N := L) (l3.toNatClampNeg + 3) rfl I.2.2.2.1 (vpi (by omega)) (jcl_j (by omega) y.1) (I.2.2.2.2.1 _) ?_
  refine x_aloadn (x := 0) rfl rfl ?_
  refine x_iloadn (x := l3) rfl rfl ?_
  refine x_iconst (v := 4) rfl ki_4 ?_
  refine z_iadd rfl rfl jk_4 (by omega) (fun w16 ew16 => ?_)
  refine y_iald (v := xs (l3.toNatClampNeg + 4)) (N := L) (l3.toNatClampNeg + 4) rfl I.2.2.2.1 (vpi (by omega)) (jcl_j (by omega) y.1) (I.2.2.2.2.1 _) ?_
  refine x_inv (N := m_X12_close_) (As := [.int (xs (l3.toNatClampNeg + 1)), .int (xs (l3.toNatClampNeg + 2)), .int (xs (l3.toNatClampNeg + 3)), .int (xs (l3.toNatClampNeg + 4))]) (b := 125) (st := [.int v6]) (dx9 := 3) (mc := 0) (ms := 0) (host := "") 12 rfl t_X12_close_ ⟨Or.inl q_13_205, i_X12_close_.1, i_X12_close_.2⟩ ⟨by decide, rfl⟩ (congrArg Prod.fst (I.1.1.1 125 (12, 92) rfl)) rfl (by decide) rfl rfl ⟨by omega, by omega⟩ (sf_X12_close__r125d dy_k (li_jm I) rfl (fun v18 h17 J19 S20 p21 p22 => ?_))
  obtain ⟨I, r23⟩ := li_m I J19 S20 rfl (rr_m I.2.2.1 S20 rfl)
  have cr23 := cn_e r23
  have g := g_close (xs (l3.toNatClampNeg + 1)).toInt (xs (l3.toNatClampNeg + 2)).toInt (xs (l3.toNatClampNeg + 3)).toInt (xs (l3.toNatClampNeg + 4)).toInt V (by omega)
  rw [p11] at g
  have ee : (v6 : Int32).toInt = (v18 : Int32).toInt := p10.symm.trans (g.1.trans p21)
  have V : pR ((it : Int) + 1 + 1) (vw h17) (vw h17) := by rw [← p22]; exact g.2
  show jX m_L_law 1300 600000 7302250 2353 [(3, .int l3), (2, .ref 125), (1, .ref 31), (0, .ref 0)] [.int v18, .int v6] h17 (k + 0 + 0) (n + 0 + 0) Q
  refine x_iceq (tgt := 2887) rfl rfl (br_t (Int32.toInt_inj.mp ee) ?_)
  exact law_next (it := it) (by omega) ⟨I, by rw [show (((it + 1 : Nat) : Int) + 1) = (it : Int) + 1 + 1 from by omega]; exact V⟩ ⟨by omega, by have := R.2.1; omega, by have := R.2.2; omega⟩ kk
set_option maxRecDepth 100000 in
set_option maxHeartbeats 4000000 in
theorem cs_balance {L it : Nat} {xs : Nat → Int32} {h : jH} {k n : Nat} {l3 : Int32} {Q : Option Value → jH → Prop} (hL : L ≤ 3584) (y : 0 ≤ l3.toInt ∧ l3.toInt + 7 ≤ (L : Int)) (hit : it < 512) (I : jLi L xs h) (V : pR ((it : Int) + 1) (vw h) (vw h)) (R : jRoom it h k n) (kk : ∀ (l : Int32) h k n, l.toInt = l3.toInt + 7 → jLw L xs (it + 1) h → jRoom (it + 1) h k n → jX m_L_law 1300 600000 7302250 18 [(3, .int l), (2, .ref 125), (1, .ref 31), (0, .ref 0)] [] h k n Q) : jX m_L_law 1300 600000 7302250 2358 [(3, .int l3), (2, .ref 125), (1, .ref 31), (0, .ref 0)] [] h k n Q := by
  refine x_aloadn (x := 31) rfl rfl ?_
  refine x_aloadn (x := 0) rfl rfl ?_
  refine x_iloadn (x := l3) rfl rfl ?_
  refine x_iconst (v := 1) rfl ki_1 ?_
  refine z_iadd rfl rfl jk_1 (by omega) (fun w1 ew1 => ?_)
  refine y_iald (v := xs (l3.toNatClampNeg + 1)) (N := L) (l3.toNatClampNeg + 1) rfl I.2.2.2.1 (vpi (by omega)) (jcl_j (by omega) y.1) (I.2.2.2.2.1 _) ?_
  refine x_aloadn (x := 0) rfl rfl ?_
  refine x_iloadn (x := l3) rfl rfl ?_
  refine x_iconst (v := 2) rfl ki_2 ?_
  refine z_iadd rfl rfl jk_2 (by omega) (fun w2 ew2 => ?_)
  refine y_iald (v := xs (l3.toNatClampNeg + 2)) (N := L) (l3.toNatClampNeg + 2) rfl I.2.2.2.1 (vpi (by omega)) (jcl_j (by omega) y.1) (I.2.2.2.2.1 _) ?_
  refine x_aloadn (x := 0) rfl rfl ?_
  refine x_iloadn (x := l3) rfl rfl ?_
  refine x_iconst (v := 3) rfl ki_3 ?_
  refine z_iadd rfl rfl jk_3 (by omega) (fun w3 ew3 => ?_)
  refine y_iald (v := xs (l3.toNatClampNeg + 3)) (N := L) (l3.toNatClampNeg + 3) rfl I.2.2.2.1 (vpi (by omega)) (jcl_j (by omega) y.1) (I.2.2.2.2.1 _) ?_
  have rm := rm_0 R
  have D := I.1.2.2.2.1
  refine x_inv (N := m_X11_balance) (As := [.int (xs (l3.toNatClampNeg + 1)), .int (xs (l3.toNatClampNeg + 2)), .int (xs (l3.toNatClampNeg + 3))]) (b := 31) (st := []) (dx9 := 5) (mc := 0) (ms := 0) (host := "") 11 rfl t_X11_balance ⟨Or.inl q_13_206, i_X11_balance.1, i_X11_balance.2⟩ ⟨by decide, rfl⟩ (congrArg Prod.fst (I.1.1.1 31 (11, 13) rfl)) rfl (by decide) rfl rfl ⟨by omega, by omega⟩ (sf_X11_balance_r31d dy_k I.1 rfl (fun v5 h4 J6 S7 p8 p9 => ?_))
  obtain ⟨I, r10⟩ := li_x I J6 S7 rfl (rx_m I.2.2.2.2.2 S7 rfl)
  have cr10 := cn_e r10
  show jX m_L_law 1300 600000 7302250 2377 [(3, .int l3), (2, .ref 125), (1, .ref 31), (0, .ref 0)] [.int v5] h4 (k + 0) (n + 0) Q
  refine x_aloadn (x := 125) rfl rfl ?_
  refine x_aloadn (x := 0) rfl rfl ?_
  refine x_iloadn (x := l3) rfl rfl ?_
  refine x_iconst (v := 1) rfl ki_1 ?_
  refine z_iadd rfl rfl jk_1 (by omega) (fun w11 ew11 => ?_)
  refine y_iald (v := xs (l3.toNatClampNeg + 1)) (N := L) (l3.toNatClampNeg + 1) rfl I.2.2.2.1 (vpi (by omega)) (jcl_j (by omega) y.1) (I.2.2.2.2.1 _) ?_
  refine x_aloadn (x := 0) rfl rfl ?_
  refine x_iloadn (x := l3) rfl rfl ?_
  refine x_iconst (v := 2) rfl ki_2 ?_
  refine z_iadd rfl rfl jk_2 (by omega) (fun w12 ew12 => ?_)
  refine y_iald (v := xs (l3.toNatClampNeg + 2)) (N := L) (l3.toNatClampNeg + 2) rfl I.2.2.2.1 (vpi (by omega)) (jcl_j (by omega) y.1) (I.2.2.2.2.1 _) ?_
  refine x_aloadn (x := 0) rfl rfl ?_
  refine x_iloadn (x := l3) rfl rfl ?_
  refine x_iconst (v := 3) rfl ki_3 ?_
  refine z_iadd rfl rfl jk_3 (by omega) (fun w13 ew13 => ?_)
  refine y_iald (v := xs (l3.toNatClampNeg + 3)) (N := L) (l3.toNatClampNeg + 3) rfl I.2.2.2.1 (vpi (by omega)) (jcl_j (by omega) y.1) (I.2.2.2.2.1 _) ?_
  refine x_inv (N := m_X12_balance) (As := [.int (xs (l3.toNatClampNeg + 1)), .int (xs (l3.toNatClampNeg + 2)), .int (xs (l3.toNatClampNeg + 3))]) (b := 125) (st := [.int v5]) (dx9 := 3) (mc := 0) (ms := 0) (host := "") 12 rfl t_X12_balance ⟨Or.inl q_13_209, i_X12_balance.1, i_X12_balance.2⟩ ⟨by decide, rfl⟩ (congrArg Prod.fst (I.1.1.1 125 (12, 92) rfl)) rfl (by decide) rfl rfl ⟨by omega, by omega⟩ (sf_X12_balance_r125d dy_k (li_jm I) rfl (fun v15 h14 J16 S17 p18 p19 => ?_))
  obtain ⟨I, r20⟩ := li_m I J16 S17 rfl (rr_m I.2.2.1 S17 rfl)
  have cr20 := cn_e r20
  have g := g_balance (xs (l3.toNatClampNeg + 1)).toInt (xs (l3.toNatClampNeg + 2)).toInt (xs (l3.toNatClampNeg + 3)).toInt V
  rw [p9] at p18 p19
  have ee : (v5 : Int32).toInt = (v15 : Int32).toInt := p8.symm.trans (g.1.trans p18)
  have V : pR ((it : Int) + 1 + 1) (vw h14) (vw h14) := by rw [← p19]; exact g.2
  show jX m_L_law 1300 600000 7302250 2396 [(3, .int l3), (2, .ref 125), (1, .ref 31), (0, .ref 0)] [.int v15, .int v5] h14 (k + 0 + 0) (n + 0 + 0) Q
  refine x_iceq (tgt := 2887) rfl rfl (br_t (Int32.toInt_inj.mp ee) ?_)
  exact law_next (it := it) (by omega) ⟨I, by rw [show (((it + 1 : Nat) : Int) + 1) = (it : Int) + 1 + 1 from by omega]; exact V⟩ ⟨by omega, by have := R.2.1; omega, by have := R.2.2; omega⟩ kk
set_option maxRecDepth 100000 in
set_option maxHeartbeats 4000000 in
theorem cs_beyond {L it : Nat} {xs : Nat → Int32} {h : jH} {k n : Nat} {l3 : Int32} {Q : Option Value → jH → Prop} (hL : L ≤ 3584) (y : 0 ≤ l3.toInt ∧ l3.toInt + 7 ≤ (L : Int)) (hit : it < 512) (I : jLi L xs h) (V : pR ((it : Int) + 1) (vw h) (vw h)) (R : jRoom it h k n) (kk : ∀ (l : Int32) h k n, l.toInt = l3.toInt + 7 → jLw L xs (it + 1) h → jRoom (it + 1) h k n → jX m_L_law 1300 600000 7302250 18 [(3, .int l), (2, .ref 125), (1, .ref 31), (0, .ref 0)] [] h k n Q) : jX m_L_law 1300 600000 7302250 2401 [(3, .int l3), (2, .ref 125), (1, .ref 31), (0, .ref 0)] [] h k n Q := by
  refine x_aloadn (x := 31) rfl rfl ?_
  refine x_aloadn (x := 0) rfl rfl ?_
  refine x_iloadn (x := l3) rfl rfl ?_
  refine x_iconst (v := 1) rfl ki_1 ?_
  refine z_iadd rfl rfl jk_1 (by omega) (fun w1 ew1 => ?_)
  refine y_iald (v := xs (l3.toNatClampNeg + 1)) (N := L) (l3.toNatClampNeg + 1) rfl I.2.2.2.1 (vpi (by omega)) (jcl_j (by omega) y.1) (I.2.2.2.2.1 _) ?_
  refine x_aloadn (x := 0) rfl rfl ?_
  refine x_iloadn (x := l3) rfl rfl ?_
  refine x_iconst (v := 2) rfl ki_2 ?_
  refine z_iadd rfl rfl jk_2 (by omega) (fun w2 ew2 => ?_)
  refine y_iald (v := xs (l3.toNatClampNeg + 2)) (N := L) (l3.toNatClampNeg + 2) rfl I.2.2.2.1 (vpi (by omega)) (jcl_j (by omega) y.1) (I.2.2.2.2.1 _) ?_
  have rm := rm_0 R
  have D := I.1.2.2.2.1
  refine x_inv (N := m_X11_beyond) (As := [.int (xs (l3.toNatClampNeg + 1)), .int (xs (l3.toNatClampNeg + 2))]) (b := 31) (st := []) (dx9 := 8) (mc := 0) (ms := 0) (host := "") 11 rfl t_X11_beyond ⟨Or.inl q_13_210, i_X11_beyond.1, i_X11_beyond.2⟩ ⟨by decide, rfl⟩ (congrArg Prod.fst (I.1.1.1 31 (11, 13) rfl)) rfl (by decide) rfl rfl ⟨by omega, by omega⟩ (sf_X11_beyond_r31d dy_k I.1 rfl (fun v4 h3 J5 S6 p7 p8 => ?_))
  obtain ⟨I, r9⟩ := li_x I J5 S6 rfl (rx_m I.2.2.2.2.2 S6 rfl)
  have cr9 := cn_e r9
  show jX m_L_law 1300 600000 7302250 2415 [(3, .int l3), (2, .ref 125), (1, .ref 31), (0, .ref 0)] [.int v4] h3 (k + 0) (n + 0) Q
  refine x_aloadn (x := 125) rfl rfl ?_
  refine x_aloadn (x := 0) rfl rfl ?_
  refine x_iloadn (x := l3) rfl rfl ?_
  refine x_iconst (v := 1) rfl ki_1 ?_
  refine z_iadd rfl rfl jk_1 (by omega) (fun w10 ew10 => ?_)
  refine y_iald (v := xs (l3.toNatClampNeg + 1)) (N := L) (l3.toNatClampNeg + 1) rfl I.2.2.2.1 (vpi (by omega)) (jcl_j (by omega) y.1) (I.2.2.2.2.1 _) ?_
  refine x_aloadn (x := 0) rfl rfl ?_
  refine x_iloadn (x := l3) rfl rfl ?_
  refine x_iconst (v := 2) rfl ki_2 ?_
  refine z_iadd rfl rfl jk_2 (by omega) (fun w11 ew11 => ?_)
  refine y_iald (v := xs (l3.toNatClampNeg + 2)) (N := L) (l3.toNatClampNeg + 2) rfl I.2.2.2.1 (vpi (by omega)) (jcl_j (by omega) y.1) (I.2.2.2.2.1 _) ?_
  refine x_inv (N := m_X12_beyond) (As := [.int (xs (l3.toNatClampNeg + 1)), .int (xs (l3.toNatClampNeg + 2))]) (b := 125) (st := [.int v4]) (dx9 := 12) (mc := 0) (ms := 0) (host := "") 12 rfl t_X12_beyond ⟨Or.inl q_13_213, i_X12_beyond.1, i_X12_beyond.2⟩ ⟨by decide, rfl⟩ (congrArg Prod.fst (I.1.1.1 125 (12, 92) rfl)) rfl (by decide) rfl rfl ⟨by omega, by omega⟩ (sf_X12_beyond_r125d dy_k (li_jm I) rfl (fun v13 h12 J14 S15 p16 p17 => ?_))
  obtain ⟨I, r18⟩ := li_m I J14 S15 rfl (rr_m I.2.2.1 S15 rfl)
  have cr18 := cn_e r18
  have g := g_beyond (xs (l3.toNatClampNeg + 1)).toInt (xs (l3.toNatClampNeg + 2)).toInt V
  rw [p8] at g
  have ee : (v4 : Int32).toInt = (v13 : Int32).toInt := p7.symm.trans (g.1.trans p16)
  have V : pR ((it : Int) + 1 + 1) (vw h12) (vw h12) := by rw [← p17]; exact g.2
  show jX m_L_law 1300 600000 7302250 2429 [(3, .int l3), (2, .ref 125), (1, .ref 31), (0, .ref 0)] [.int v13, .int v4] h12 (k + 0 + 0) (n + 0 + 0) Q
  refine x_iceq (tgt := 2887) rfl rfl (br_t (Int32.toInt_inj.mp ee) ?_)
  exact law_next (it := it) (by omega) ⟨I, by rw [show (((it + 1 : Nat) : Int) + 1) = (it : Int) + 1 + 1 from by omega]; exact V⟩ ⟨by omega, by have := R.2.1; omega, by have := R.2.2; omega⟩ kk
set_option maxRecDepth 100000 in
set_option maxHeartbeats 4000000 in
theorem cs_badge {L it : Nat} {xs : Nat → Int32} {h : jH} {k n : Nat} {l3 : Int32} {Q : Option Value → jH → Prop} (hL : L ≤ 3584) (y : 0 ≤ l3.toInt ∧ l3.toInt + 7 ≤ (L : Int)) (hit : it < 512) (I : jLi L xs h) (V : pR ((it : Int) + 1) (vw h) (vw h)) (R : jRoom it h k n) (kk : ∀ (l : Int32) h k n, l.toInt = l3.toInt + 7 → jLw L xs (it + 1) h → jRoom (it + 1) h k n → jX m_L_law 1300 600000 7302250 18 [(3, .int l), (2, .ref 125), (1, .ref 31), (0, .ref 0)] [] h k n Q) : jX m_L_law 1300 600000 7302250 2434 [(3, .int l3), (2, .ref 125), (1, .ref 31), (0, .ref 0)] [] h k n Q := by
  refine x_aloadn (x := 31) rfl rfl ?_
  refine x_aloadn (x := 0) rfl rfl ?_
  refine x_iloadn (x := l3) rfl rfl ?_
  refine x_iconst (v := 1) rfl ki_1 ?_
  refine z_iadd rfl rfl jk_1 (by omega) (fun w1 ew1 => ?_)
  refine y_iald (v := xs (l3.toNatClampNeg + 1)) (N := L) (l3.toNatClampNeg + 1) rfl I.2.2.2.1 (vpi (by omega)) (jcl_j (by omega) y.1) (I.2.2.2.2.1 _) ?_
  refine x_aloadn (x := 0) rfl rfl ?_
  refine x_iloadn (x := l3) rfl rfl ?_
  refine x_iconst (v := 2) rfl ki_2 ?_
  refine z_iadd rfl rfl jk_2 (by omega) (fun w2 ew2 => ?_)
  refine y_iald (v := xs (l3.toNatClampNeg + 2)) (N := L) (l3.toNatClampNeg + 2) rfl I.2.2.2.1 (vpi (by omega)) (jcl_j (by omega) y.1) (I.2.2.2.2.1 _) ?_
  refine x_aloadn (x := 0) rfl rfl ?_
  refine x_iloadn (x := l3) rfl rfl ?_
  refine x_iconst (v := 3) rfl ki_3 ?_
  refine z_iadd rfl rfl jk_3 (by omega) (fun w3 ew3 => ?_)
  refine y_iald (v := xs (l3.toNatClampNeg + 3)) (N := L) (l3.toNatClampNeg + 3) rfl I.2.2.2.1 (vpi (by omega)) (jcl_j (by omega) y.1) (I.2.2.2.2.1 _) ?_
  have rm := rm_0 R
  have D := I.1.2.2.2.1
  refine x_inv (N := m_X11_badge) (As := [.int (xs (l3.toNatClampNeg + 1)), .int (xs (l3.toNatClampNeg + 2)), .int (xs (l3.toNatClampNeg + 3))]) (b := 31) (st := []) (dx9 := 8) (mc := 0) (ms := 0) (host := "") 11 rfl t_X11_badge ⟨Or.inl q_13_214, i_X11_badge.1, i_X11_badge.2⟩ ⟨by decide, rfl⟩ (congrArg Prod.fst (I.1.1.1 31 (11, 13) rfl)) rfl (by decide) rfl rfl ⟨by omega, by omega⟩ (sf_X11_badge_r31d dy_k I.1 rfl (fun v5 h4 p6 J7 S8 p9 p10 => ?_))
  obtain ⟨I, r11⟩ := li_x I J7 S8 rfl (rx_m I.2.2.2.2.2 S8 rfl)
  have cr11 := cn_e r11
  show jX m_L_law 1300 600000 7302250 2453 [(3, .int l3), (2, .ref 125), (1, .ref 31), (0, .ref 0)] [.int v5] h4 (k + 0) (n + 0) Q
  refine x_aloadn (x := 125) rfl rfl ?_
  refine x_aloadn (x := 0) rfl rfl ?_
  refine x_iloadn (x := l3) rfl rfl ?_
  refine x_iconst (v := 1) rfl ki_1 ?_
  refine z_iadd rfl rfl jk_1 (by omega) (fun w12 ew12 => ?_)
  refine y_iald (v := xs (l3.toNatClampNeg + 1)) (N := L) (l3.toNatClampNeg + 1) rfl I.2.2.2.1 (vpi (by omega)) (jcl_j (by omega) y.1) (I.2.2.2.2.1 _) ?_
  refine x_aloadn (x := 0) rfl rfl ?_
  refine x_iloadn (x := l3) rfl rfl ?_
  refine x_iconst (v := 2) rfl ki_2 ?_
  refine z_iadd rfl rfl jk_2 (by omega) (fun w13 ew13 => ?_)
  refine y_iald (v := xs (l3.toNatClampNeg + 2)) (N := L) (l3.toNatClampNeg + 2) rfl I.2.2.2.1 (vpi (by omega)) (jcl_j (by omega) y.1) (I.2.2.2.2.1 _) ?_
  refine x_aloadn (x := 0) rfl rfl ?_
  refine x_iloadn (x := l3) rfl rfl ?_
  refine x_iconst (v := 3) rfl ki_3 ?_
  refine z_iadd rfl rfl jk_3 (by omega) (fun w14 ew14 => ?_)
  refine y_iald (v := xs (l3.toNatClampNeg + 3)) (N := L) (l3.toNatClampNeg + 3) rfl I.2.2.2.1 (vpi (by omega)) (jcl_j (by omega) y.1) (I.2.2.2.2.1 _) ?_
  refine x_inv (N := m_X12_badge) (As := [.int (xs (l3.toNatClampNeg + 1)), .int (xs (l3.toNatClampNeg + 2)), .int (xs (l3.toNatClampNeg + 3))]) (b := 125) (st := [.int v5]) (dx9 := 12) (mc := 0) (ms := 0) (host := "") 12 rfl t_X12_badge ⟨Or.inl q_13_217, i_X12_badge.1, i_X12_badge.2⟩ ⟨by decide, rfl⟩ (congrArg Prod.fst (I.1.1.1 125 (12, 92) rfl)) rfl (by decide) rfl rfl ⟨by omega, by omega⟩ (sf_X12_badge_r125d dy_k (li_jm I) rfl (fun v16 h15 p17 J18 S19 p20 p21 => ?_))
  obtain ⟨I, r22⟩ := li_m I J18 S19 rfl (rr_m I.2.2.1 S19 rfl)
  have cr22 := cn_e r22
  have g := g_badge (xs (l3.toNatClampNeg + 1)).toInt (xs (l3.toNatClampNeg + 2)).toInt (xs (l3.toNatClampNeg + 3)).toInt V
  rw [p10] at g
  have ee : (v5 : Int32).toInt = (v16 : Int32).toInt := p9.symm.trans (g.1.trans p20)
  have V : pR ((it : Int) + 1 + 1) (vw h15) (vw h15) := by rw [← p21]; exact g.2
  show jX m_L_law 1300 600000 7302250 2472 [(3, .int l3), (2, .ref 125), (1, .ref 31), (0, .ref 0)] [.int v16, .int v5] h15 (k + 0 + 0) (n + 0 + 0) Q
  refine x_iceq (tgt := 2887) rfl rfl (br_t (Int32.toInt_inj.mp ee) ?_)
  exact law_next (it := it) (by omega) ⟨I, by rw [show (((it + 1 : Nat) : Int) + 1) = (it : Int) + 1 + 1 from by omega]; exact V⟩ ⟨by omega, by have := R.2.1; omega, by have := R.2.2; omega⟩ kk
set_option maxRecDepth 100000 in
set_option maxHeartbeats 4000000 in
theorem cs_seat {L it : Nat} {xs : Nat → Int32} {h : jH} {k n : Nat} {l3 : Int32} {Q : Option Value → jH → Prop} (hL : L ≤ 3584) (y : 0 ≤ l3.toInt ∧ l3.toInt + 7 ≤ (L : Int)) (hit : it < 512) (I : jLi L xs h) (V : pR ((it : Int) + 1) (vw h) (vw h)) (R : jRoom it h k n) (kk : ∀ (l : Int32) h k n, l.toInt = l3.toInt + 7 → jLw L xs (it + 1) h → jRoom (it + 1) h k n → jX m_L_law 1300 600000 7302250 18 [(3, .int l), (2, .ref 125), (1, .ref 31), (0, .ref 0)] [] h k n Q) : jX m_L_law 1300 600000 7302250 2477 [(3, .int l3), (2, .ref 125), (1, .ref 31), (0, .ref 0)] [] h k n Q := by
  refine x_aloadn (x := 31) rfl rfl ?_
  refine x_aloadn (x := 0) rfl rfl ?_
  refine x_iloadn (x := l3) rfl rfl ?_
  refine x_iconst (v := 1) rfl ki_1 ?_
  refine z_iadd rfl rfl jk_1 (by omega) (fun w1 ew1 => ?_)
  refine y_iald (v := xs (l3.toNatClampNeg + 1)) (N := L) (l3.toNatClampNeg + 1) rfl I.2.2.2.1 (vpi (by omega)) (jcl_j (by omega) y.1) (I.2.2.2.2.1 _) ?_
  refine x_aloadn (x := 0) rfl rfl ?_
  refine x_iloadn (x := l3) rfl rfl ?_
  refine x_iconst (v := 2) rfl ki_2 ?_
  refine z_iadd rfl rfl jk_2 (by omega) (fun w2 ew2 => ?_)
  refine y_iald (v := xs (l3.toNatClampNeg + 2)) (N := L) (l3.toNatClampNeg + 2) rfl I.2.2.2.1 (vpi (by omega)) (jcl_j (by omega) y.1) (I.2.2.2.2.1 _) ?_
  refine x_aloadn (x := 0) rfl rfl ?_
  refine x_iloadn (x := l3) rfl rfl ?_
  refine x_iconst (v := 3) rfl ki_3 ?_
  refine z_iadd rfl rfl jk_3 (by omega) (fun w3 ew3 => ?_)
  refine y_iald (v := xs (l3.toNatClampNeg + 3)) (N := L) (l3.toNatClampNeg + 3) rfl I.2.2.2.1 (vpi (by omega)) (jcl_j (by omega) y.1) (I.2.2.2.2.1 _) ?_
  have rm := rm_0 R
  have D := I.1.2.2.2.1
  refine x_inv (N := m_X11_seat) (As := [.int (xs (l3.toNatClampNeg + 1)), .int (xs (l3.toNatClampNeg + 2)), .int (xs (l3.toNatClampNeg + 3))]) (b := 31) (st := []) (dx9 := 8) (mc := 0) (ms := 0) (host := "") 11 rfl t_X11_seat ⟨Or.inl q_13_218, i_X11_seat.1, i_X11_seat.2⟩ ⟨by decide, rfl⟩ (congrArg Prod.fst (I.1.1.1 31 (11, 13) rfl)) rfl (by decide) rfl rfl ⟨by omega, by omega⟩ (sf_X11_seat_r31d dy_k I.1 rfl (fun v5 h4 p6 J7 S8 p9 p10 => ?_))
  obtain ⟨I, r11⟩ := li_x I J7 S8 rfl (rx_m I.2.2.2.2.2 S8 rfl)
  have cr11 := cn_e r11
  show jX m_L_law 1300 600000 7302250 2496 [(3, .int l3), (2, .ref 125), (1, .ref 31), (0, .ref 0)] [.int v5] h4 (k + 0) (n + 0) Q
  refine x_aloadn (x := 125) rfl rfl ?_
  refine x_aloadn (x := 0) rfl rfl ?_
  refine x_iloadn (x := l3) rfl rfl ?_
  refine x_iconst (v := 1) rfl ki_1 ?_
  refine z_iadd rfl rfl jk_1 (by omega) (fun w12 ew12 => ?_)
  refine y_iald (v := xs (l3.toNatClampNeg + 1)) (N := L) (l3.toNatClampNeg + 1) rfl I.2.2.2.1 (vpi (by omega)) (jcl_j (by omega) y.1) (I.2.2.2.2.1 _) ?_
  refine x_aloadn (x := 0) rfl rfl ?_
  refine x_iloadn (x := l3) rfl rfl ?_
  refine x_iconst (v := 2) rfl ki_2 ?_
  refine z_iadd rfl rfl jk_2 (by omega) (fun w13 ew13 => ?_)
  refine y_iald (v := xs (l3.toNatClampNeg + 2)) (N := L) (l3.toNatClampNeg + 2) rfl I.2.2.2.1 (vpi (by omega)) (jcl_j (by omega) y.1) (I.2.2.2.2.1 _) ?_
  refine x_aloadn (x := 0) rfl rfl ?_
  refine x_iloadn (x := l3) rfl rfl ?_
  refine x_iconst (v := 3) rfl ki_3 ?_
  refine z_iadd rfl rfl jk_3 (by omega) (fun w14 ew14 => ?_)
  refine y_iald (v := xs (l3.toNatClampNeg + 3)) (N := L) (l3.toNatClampNeg + 3) rfl I.2.2.2.1 (vpi (by omega)) (jcl_j (by omega) y.1) (I.2.2.2.2.1 _) ?_
  refine x_inv (N := m_X12_seat) (As := [.int (xs (l3.toNatClampNeg + 1)), .int (xs (l3.toNatClampNeg + 2)), .int (xs (l3.toNatClampNeg + 3))]) (b := 125) (st := [.int v5]) (dx9 := 12) (mc := 0) (ms := 0) (host := "") 12 rfl t_X12_seat ⟨Or.inl q_13_221, i_X12_seat.1, i_X12_seat.2⟩ ⟨by decide, rfl⟩ (congrArg Prod.fst (I.1.1.1 125 (12, 92) rfl)) rfl (by decide) rfl rfl ⟨by omega, by omega⟩ (sf_X12_seat_r125d dy_k (li_jm I) rfl (fun v16 h15 p17 J18 S19 p20 p21 => ?_))
  obtain ⟨I, r22⟩ := li_m I J18 S19 rfl (rr_m I.2.2.1 S19 rfl)
  have cr22 := cn_e r22
  have g := g_seat (xs (l3.toNatClampNeg + 1)).toInt (xs (l3.toNatClampNeg + 2)).toInt (xs (l3.toNatClampNeg + 3)).toInt V
  rw [p10] at g
  have ee : (v5 : Int32).toInt = (v16 : Int32).toInt := p9.symm.trans (g.1.trans p20)
  have V : pR ((it : Int) + 1 + 1) (vw h15) (vw h15) := by rw [← p21]; exact g.2
  show jX m_L_law 1300 600000 7302250 2515 [(3, .int l3), (2, .ref 125), (1, .ref 31), (0, .ref 0)] [.int v16, .int v5] h15 (k + 0 + 0) (n + 0 + 0) Q
  refine x_iceq (tgt := 2887) rfl rfl (br_t (Int32.toInt_inj.mp ee) ?_)
  exact law_next (it := it) (by omega) ⟨I, by rw [show (((it + 1 : Nat) : Int) + 1) = (it : Int) + 1 + 1 from by omega]; exact V⟩ ⟨by omega, by have := R.2.1; omega, by have := R.2.2; omega⟩ kk
set_option maxRecDepth 100000 in
set_option maxHeartbeats 4000000 in
theorem cs_fee {L it : Nat} {xs : Nat → Int32} {h : jH} {k n : Nat} {l3 : Int32} {Q : Option Value → jH → Prop} (hL : L ≤ 3584) (y : 0 ≤ l3.toInt ∧ l3.toInt + 7 ≤ (L : Int)) (hit : it < 512) (I : jLi L xs h) (V : pR ((it : Int) + 1) (vw h) (vw h)) (R : jRoom it h k n) (kk : ∀ (l : Int32) h k n, l.toInt = l3.toInt + 7 → jLw L xs (it + 1) h → jRoom (it + 1) h k n → jX m_L_law 1300 600000 7302250 18 [(3, .int l), (2, .ref 125), (1, .ref 31), (0, .ref 0)] [] h k n Q) : jX m_L_law 1300 600000 7302250 2520 [(3, .int l3), (2, .ref 125), (1, .ref 31), (0, .ref 0)] [] h k n Q := by
  refine x_aloadn (x := 31) rfl rfl ?_
  refine x_aloadn (x := 0) rfl rfl ?_
  refine x_iloadn (x := l3) rfl rfl ?_
  refine x_iconst (v := 1) rfl ki_1 ?_
  refine z_iadd rfl rfl jk_1 (by omega) (fun w1 ew1 => ?_)
  refine y_iald (v := xs (l3.toNatClampNeg + 1)) (N := L) (l3.toNatClampNeg + 1) rfl I.2.2.2.1 (vpi (by omega)) (jcl_j (by omega) y.1) (I.2.2.2.2.1 _) ?_
  refine x_aloadn (x := 0) rfl rfl ?_
  refine x_iloadn (x := l3) rfl rfl ?_
  refine x_iconst (v := 2) rfl ki_2 ?_
  refine z_iadd rfl rfl jk_2 (by omega) (fun w2 ew2 => ?_)
  refine y_iald (v := xs (l3.toNatClampNeg + 2)) (N := L) (l3.toNatClampNeg + 2) rfl I.2.2.2.1 (vpi (by omega)) (jcl_j (by omega) y.1) (I.2.2.2.2.1 _) ?_
  have rm := rm_0 R
  have D := I.1.2.2.2.1
  refine x_inv (N := m_X11_fee) (As := [.int (xs (l3.toNatClampNeg + 1)), .int (xs (l3.toNatClampNeg + 2))]) (b := 31) (st := []) (dx9 := 8) (mc := 0) (ms := 0) (host := "") 11 rfl t_X11_fee ⟨Or.inl q_13_222, i_X11_fee.1, i_X11_fee.2⟩ ⟨by decide, rfl⟩ (congrArg Prod.fst (I.1.1.1 31 (11, 13) rfl)) rfl (by decide) rfl rfl ⟨by omega, by omega⟩ (sf_X11_fee_r31d dy_k I.1 rfl (fun v4 h3 J5 S6 p7 p8 => ?_))
  obtain ⟨I, r9⟩ := li_x I J5 S6 rfl (rx_m I.2.2.2.2.2 S6 rfl)
  have cr9 := cn_e r9
  show jX m_L_law 1300 600000 7302250 2534 [(3, .int l3), (2, .ref 125), (1, .ref 31), (0, .ref 0)] [.long v4] h3 (k + 0) (n + 0) Q
  refine x_aloadn (x := 125) rfl rfl ?_
  refine x_aloadn (x := 0) rfl rfl ?_
  refine x_iloadn (x := l3) rfl rfl ?_
  refine x_iconst (v := 1) rfl ki_1 ?_
  refine z_iadd rfl rfl jk_1 (by omega) (fun w10 ew10 => ?_)
  refine y_iald (v := xs (l3.toNatClampNeg + 1)) (N := L) (l3.toNatClampNeg + 1) rfl I.2.2.2.1 (vpi (by omega)) (jcl_j (by omega) y.1) (I.2.2.2.2.1 _) ?_
  refine x_aloadn (x := 0) rfl rfl ?_
  refine x_iloadn (x := l3) rfl rfl ?_
  refine x_iconst (v := 2) rfl ki_2 ?_
  refine z_iadd rfl rfl jk_2 (by omega) (fun w11 ew11 => ?_)
  refine y_iald (v := xs (l3.toNatClampNeg + 2)) (N := L) (l3.toNatClampNeg + 2) rfl I.2.2.2.1 (vpi (by omega)) (jcl_j (by omega) y.1) (I.2.2.2.2.1 _) ?_
  refine x_inv (N := m_X12_fee) (As := [.int (xs (l3.toNatClampNeg + 1)), .int (xs (l3.toNatClampNeg + 2))]) (b := 125) (st := [.long v4]) (dx9 := 13) (mc := 0) (ms := 0) (host := "") 12 rfl t_X12_fee ⟨Or.inl q_13_226, i_X12_fee.1, i_X12_fee.2⟩ ⟨by decide, rfl⟩ (congrArg Prod.fst (I.1.1.1 125 (12, 92) rfl)) rfl (by decide) rfl rfl ⟨by omega, by omega⟩ (sf_X12_fee_r125d dy_k (li_jm I) rfl (fun v13 h12 J14 S15 p16 p17 => ?_))
  obtain ⟨I, r18⟩ := li_m I J14 S15 rfl (rr_m I.2.2.1 S15 rfl)
  have cr18 := cn_e r18
  have g := g_fee (xs (l3.toNatClampNeg + 1)).toInt (xs (l3.toNatClampNeg + 2)).toInt V
  rw [p8] at g
  have ee : (v4 : Int64).toInt = (v13 : Int64).toInt := p7.symm.trans (g.1.trans p16)
  have V : pR ((it : Int) + 1 + 1) (vw h12) (vw h12) := by rw [← p17]; exact g.2
  show jX m_L_law 1300 600000 7302250 2548 [(3, .int l3), (2, .ref 125), (1, .ref 31), (0, .ref 0)] [.long v13, .long v4] h12 (k + 0 + 0) (n + 0 + 0) Q
  refine z_lcmp rfl rfl rfl (fun vc evc => ?_)
  have vz : vc.toInt = 0 := by omega
  refine x_ifeq (tgt := 2887) rfl rfl (br_t (Int32.toInt_inj.mp (vz.trans jk_0.symm)) ?_)
  exact law_next (it := it) (by omega) ⟨I, by rw [show (((it + 1 : Nat) : Int) + 1) = (it : Int) + 1 + 1 from by omega]; exact V⟩ ⟨by omega, by have := R.2.1; omega, by have := R.2.2; omega⟩ kk
set_option maxRecDepth 100000 in
set_option maxHeartbeats 4000000 in
theorem cs_acres {L it : Nat} {xs : Nat → Int32} {h : jH} {k n : Nat} {l3 : Int32} {Q : Option Value → jH → Prop} (hL : L ≤ 3584) (y : 0 ≤ l3.toInt ∧ l3.toInt + 7 ≤ (L : Int)) (hit : it < 512) (I : jLi L xs h) (V : pR ((it : Int) + 1) (vw h) (vw h)) (R : jRoom it h k n) (kk : ∀ (l : Int32) h k n, l.toInt = l3.toInt + 7 → jLw L xs (it + 1) h → jRoom (it + 1) h k n → jX m_L_law 1300 600000 7302250 18 [(3, .int l), (2, .ref 125), (1, .ref 31), (0, .ref 0)] [] h k n Q) : jX m_L_law 1300 600000 7302250 2554 [(3, .int l3), (2, .ref 125), (1, .ref 31), (0, .ref 0)] [] h k n Q := by
  refine x_aloadn (x := 31) rfl rfl ?_
  refine x_aloadn (x := 0) rfl rfl ?_
  refine x_iloadn (x := l3) rfl rfl ?_
  refine x_iconst (v := 1) rfl ki_1 ?_
  refine z_iadd rfl rfl jk_1 (by omega) (fun w1 ew1 => ?_)
  refine y_iald (v := xs (l3.toNatClampNeg + 1)) (N := L) (l3.toNatClampNeg + 1) rfl I.2.2.2.1 (vpi (by omega)) (jcl_j (by omega) y.1) (I.2.2.2.2.1 _) ?_
  refine x_aloadn (x := 0) rfl rfl ?_
  refine x_iloadn (x := l3) rfl rfl ?_
  refine x_iconst (v := 2) rfl ki_2 ?_
  refine z_iadd rfl rfl jk_2 (by omega) (fun w2 ew2 => ?_)
  refine y_iald (v := xs (l3.toNatClampNeg + 2)) (N := L) (l3.toNatClampNeg + 2) rfl I.2.2.2.1 (vpi (by omega)) (jcl_j (by omega) y.1) (I.2.2.2.2.1 _) ?_
  refine x_aloadn (x := 0) rfl rfl ?_
  refine x_iloadn (x := l3) rfl rfl ?_
  refine x_iconst (v := 3) rfl ki_3 ?_
  refine z_iadd rfl rfl jk_3 (by omega) (fun w3 ew3 => ?_)
  refine y_iald (v := xs (l3.toNatClampNeg + 3)) (N := L) (l3.toNatClampNeg + 3) rfl I.2.2.2.1 (vpi (by omega)) (jcl_j (by omega) y.1) (I.2.2.2.2.1 _) ?_
  have rm := rm_0 R
  have D := I.1.2.2.2.1
  refine x_inv (N := m_X11_acres) (As := [.int (xs (l3.toNatClampNeg + 1)), .int (xs (l3.toNatClampNeg + 2)), .int (xs (l3.toNatClampNeg + 3))]) (b := 31) (st := []) (dx9 := 2) (mc := 0) (ms := 0) (host := "") 11 rfl t_X11_acres ⟨Or.inl q_13_227, i_X11_acres.1, i_X11_acres.2⟩ ⟨by decide, rfl⟩ (congrArg Prod.fst (I.1.1.1 31 (11, 13) rfl)) rfl (by decide) rfl rfl ⟨by omega, by omega⟩ (sf_X11_acres_r31d dy_k I.1 rfl (fun v5 h4 p6 J7 S8 p9 p10 => ?_))
  obtain ⟨I, r11⟩ := li_x I J7 S8 rfl (rx_m I.2.2.2.2.2 S8 rfl)
  have cr11 := cn_e r11
  show jX m_L_law 1300 600000 7302250 2573 [(3, .int l3), (2, .ref 125), (1, .ref 31), (0, .ref 0)] [.int v5] h4 (k + 0) (n + 0) Q
  refine x_aloadn (x := 125) rfl rfl ?_
  refine x_aloadn (x := 0) rfl rfl ?_
  refine x_iloadn (x := l3) rfl rfl ?_
  refine x_iconst (v := 1) rfl ki_1 ?_
  refine z_iadd rfl rfl jk_1 (by omega) (fun w12 ew12 => ?_)
  refine y_iald (v := xs (l3.toNatClampNeg + 1)) (N := L) (l3.toNatClampNeg + 1) rfl I.2.2.2.1 (vpi (by omega)) (jcl_j (by omega) y.1) (I.2.2.2.2.1 _) ?_
  refine x_aloadn (x := 0) rfl rfl ?_
  refine x_iloadn (x := l3) rfl rfl ?_
  refine x_iconst (v := 2) rfl ki_2 ?_
  refine z_iadd rfl rfl jk_2 (by omega) (fun w13 ew13 => ?_)
  refine y_iald (v := xs (l3.toNatClampNeg + 2)) (N := L) (l3.toNatClampNeg + 2) rfl I.2.2.2.1 (vpi (by omega)) (jcl_j (by omega) y.1) (I.2.2.2.2.1 _) ?_
  refine x_aloadn (x := 0) rfl rfl ?_
  refine x_iloadn (x := l3) rfl rfl ?_
  refine x_iconst (v := 3) rfl ki_3 ?_
  refine z_iadd rfl rfl jk_3 (by omega) (fun w14 ew14 => ?_)
  refine y_iald (v := xs (l3.toNatClampNeg + 3)) (N := L) (l3.toNatClampNeg + 3) rfl I.2.2.2.1 (vpi (by omega)) (jcl_j (by omega) y.1) (I.2.2.2.2.1 _) ?_
  refine x_inv (N := m_X12_acres) (As := [.int (xs (l3.toNatClampNeg + 1)), .int (xs (l3.toNatClampNeg + 2)), .int (xs (l3.toNatClampNeg + 3))]) (b := 125) (st := [.int v5]) (dx9 := 3) (mc := 0) (ms := 0) (host := "") 12 rfl t_X12_acres ⟨Or.inl q_13_230, i_X12_acres.1, i_X12_acres.2⟩ ⟨by decide, rfl⟩ (congrArg Prod.fst (I.1.1.1 125 (12, 92) rfl)) rfl (by decide) rfl rfl ⟨by omega, by omega⟩ (sf_X12_acres_r125d dy_k (li_jm I) rfl (fun v16 h15 J17 S18 p19 p20 => ?_))
  obtain ⟨I, r21⟩ := li_m I J17 S18 rfl (rr_m I.2.2.1 S18 rfl)
  have cr21 := cn_e r21
  have g := g_acres (xs (l3.toNatClampNeg + 1)).toInt (xs (l3.toNatClampNeg + 2)).toInt (xs (l3.toNatClampNeg + 3)).toInt V (by omega)
  rw [p10] at g
  have ee : (v5 : Int32).toInt = (v16 : Int32).toInt := p9.symm.trans (g.1.trans p19)
  have V : pR ((it : Int) + 1 + 1) (vw h15) (vw h15) := by rw [← p20]; exact g.2
  show jX m_L_law 1300 600000 7302250 2592 [(3, .int l3), (2, .ref 125), (1, .ref 31), (0, .ref 0)] [.int v16, .int v5] h15 (k + 0 + 0) (n + 0 + 0) Q
  refine x_iceq (tgt := 2887) rfl rfl (br_t (Int32.toInt_inj.mp ee) ?_)
  exact law_next (it := it) (by omega) ⟨I, by rw [show (((it + 1 : Nat) : Int) + 1) = (it : Int) + 1 + 1 from by omega]; exact V⟩ ⟨by omega, by have := R.2.1; omega, by have := R.2.2; omega⟩ kk
set_option maxRecDepth 100000 in
set_option maxHeartbeats 4000000 in
theorem cs_price {L it : Nat} {xs : Nat → Int32} {h : jH} {k n : Nat} {l3 : Int32} {Q : Option Value → jH → Prop} (hL : L ≤ 3584) (y : 0 ≤ l3.toInt ∧ l3.toInt + 7 ≤ (L : Int)) (hit : it < 512) (I : jLi L xs h) (V : pR ((it : Int) + 1) (vw h) (vw h)) (R : jRoom it h k n) (kk : ∀ (l : Int32) h k n, l.toInt = l3.toInt + 7 → jLw L xs (it + 1) h → jRoom (it + 1) h k n → jX m_L_law 1300 600000 7302250 18 [(3, .int l), (2, .ref 125), (1, .ref 31), (0, .ref 0)] [] h k n Q) : jX m_L_law 1300 600000 7302250 2597 [(3, .int l3), (2, .ref 125), (1, .ref 31), (0, .ref 0)] [] h k n Q := by
  refine x_aloadn (x := 31) rfl rfl ?_
  refine x_aloadn (x := 0) rfl rfl ?_
  refine x_iloadn (x := l3) rfl rfl ?_
  refine x_iconst (v := 1) rfl ki_1 ?_
  refine z_iadd rfl rfl jk_1 (by omega) (fun w1 ew1 => ?_)
  refine y_iald (v := xs (l3.toNatClampNeg + 1)) (N := L) (l3.toNatClampNeg + 1) rfl I.2.2.2.1 (vpi (by omega)) (jcl_j (by omega) y.1) (I.2.2.2.2.1 _) ?_
  refine x_aloadn (x := 0) rfl rfl ?_
  refine x_iloadn (x := l3) rfl rfl ?_
  refine x_iconst (v := 2) rfl ki_2 ?_
  refine z_iadd rfl rfl jk_2 (by omega) (fun w2 ew2 => ?_)
  refine y_iald (v := xs (l3.toNatClampNeg + 2)) (N := L) (l3.toNatClampNeg + 2) rfl I.2.2.2.1 (vpi (by omega)) (jcl_j (by omega) y.1) (I.2.2.2.2.1 _) ?_
  refine x_aloadn (x := 0) rfl rfl ?_
  refine x_iloadn (x := l3) rfl rfl ?_
  refine x_iconst (v := 3) rfl ki_3 ?_
  refine z_iadd rfl rfl jk_3 (by omega) (fun w3 ew3 => ?_)
  refine y_iald (v := xs (l3.toNatClampNeg + 3)) (N := L) (l3.toNatClampNeg + 3) rfl I.2.2.2.1 (vpi (by omega)) (jcl_j (by omega) y.1) (I.2.2.2.2.1 _) ?_
  refine x_aloadn (x := 0) rfl rfl ?_
  refine x_iloadn (x := l3) rfl rfl ?_
  refine x_iconst (v := 4) rfl ki_4 ?_
  refine z_iadd rfl rfl jk_4 (by omega) (fun w4 ew4 => ?_)
  refine y_iald (v := xs (l3.toNatClampNeg + 4)) (N := L) (l3.toNatClampNeg + 4) rfl I.2.2.2.1 (vpi (by omega)) (jcl_j (by omega) y.1) (I.2.2.2.2.1 _) ?_
  have rm := rm_0 R
  have D := I.1.2.2.2.1
  refine x_inv (N := m_X11_price) (As := [.int (xs (l3.toNatClampNeg + 1)), .int (xs (l3.toNatClampNeg + 2)), .int (xs (l3.toNatClampNeg + 3)), .int (xs (l3.toNatClampNeg + 4))]) (b := 31) (st := []) (dx9 := 3) (mc := 0) (ms := 0) (host := "") 11 rfl t_X11_price ⟨Or.inl q_13_231, i_X11_price.1, i_X11_price.2⟩ ⟨by decide, rfl⟩ (congrArg Prod.fst (I.1.1.1 31 (11, 13) rfl)) rfl (by decide) rfl rfl ⟨by omega, by omega⟩ (sf_X11_price_r31d dy_k I.1 rfl (fun v6 h5 p7 J8 S9 p10 p11 => ?_))
  obtain ⟨I, r12⟩ := li_x I J8 S9 rfl (rx_m I.2.2.2.2.2 S9 rfl)
  have cr12 := cn_e r12
  show jX m_L_law 1300 600000 7302250 2621 [(3, .int l3), (2, .ref 125), (1, .ref 31), (0, .ref 0)] [.int v6] h5 (k + 0) (n + 0) Q
  refine x_aloadn (x := 125) rfl rfl ?_
  refine x_aloadn (x := 0) rfl rfl ?_
  refine x_iloadn (x := l3) rfl rfl ?_
  refine x_iconst (v := 1) rfl ki_1 ?_
  refine z_iadd rfl rfl jk_1 (by omega) (fun w13 ew13 => ?_)
  refine y_iald (v := xs (l3.toNatClampNeg + 1)) (N := L) (l3.toNatClampNeg + 1) rfl I.2.2.2.1 (vpi (by omega)) (jcl_j (by omega) y.1) (I.2.2.2.2.1 _) ?_
  refine x_aloadn (x := 0) rfl rfl ?_
  refine x_iloadn (x := l3) rfl rfl ?_
  refine x_iconst (v := 2) rfl ki_2 ?_
  refine z_iadd rfl rfl jk_2 (by omega) (fun w14 ew14 => ?_)
  refine y_iald (v := xs (l3.toNatClampNeg + 2)) (N := L) (l3.toNatClampNeg + 2) rfl I.2.2.2.1 (vpi (by omega)) (jcl_j (by omega) y.1) (I.2.2.2.2.1 _) ?_
  refine x_aloadn (x := 0) rfl rfl ?_
  refine x_iloadn (x := l3) rfl rfl ?_
  refine x_iconst (v := 3) rfl ki_3 ?_
  refine z_iadd rfl rfl jk_3 (by omega) (fun w15 ew15 => ?_)
  refine y_iald (v := xs (l3.toNatClampNeg + 3)) (N := L) (l3.toNatClampNeg + 3) rfl I.2.2.2.1 (vpi (by omega)) (jcl_j (by omega) y.1) (I.2.2.2.2.1 _) ?_
  refine x_aloadn (x := 0) rfl rfl ?_
  refine x_iloadn (x := l3) rfl rfl ?_
  refine x_iconst (v := 4) rfl ki_4 ?_
  refine z_iadd rfl rfl jk_4 (by omega) (fun w16 ew16 => ?_)
  refine y_iald (v := xs (l3.toNatClampNeg + 4)) (N := L) (l3.toNatClampNeg + 4) rfl I.2.2.2.1 (vpi (by omega)) (jcl_j (by omega) y.1) (I.2.2.2.2.1 _) ?_
  refine x_inv (N := m_X12_price) (As := [.int (xs (l3.toNatClampNeg + 1)), .int (xs (l3.toNatClampNeg + 2)), .int (xs (l3.toNatClampNeg + 3)), .int (xs (l3.toNatClampNeg + 4))]) (b := 125) (st := [.int v6]) (dx9 := 3) (mc := 0) (ms := 0) (host := "") 12 rfl t_X12_price ⟨Or.inl q_13_234, i_X12_price.1, i_X12_price.2⟩ ⟨by decide, rfl⟩ (congrArg Prod.fst (I.1.1.1 125 (12, 92) rfl)) rfl (by decide) rfl rfl ⟨by omega, by omega⟩ (sf_X12_price_r125d dy_k (li_jm I) rfl (fun v18 h17 J19 S20 p21 p22 => ?_))
  obtain ⟨I, r23⟩ := li_m I J19 S20 rfl (rr_m I.2.2.1 S20 rfl)
  have cr23 := cn_e r23
  have g := g_price (xs (l3.toNatClampNeg + 1)).toInt (xs (l3.toNatClampNeg + 2)).toInt (xs (l3.toNatClampNeg + 3)).toInt (xs (l3.toNatClampNeg + 4)).toInt V (by omega)
  rw [p11] at g
  have ee : (v6 : Int32).toInt = (v18 : Int32).toInt := p10.symm.trans (g.1.trans p21)
  have V : pR ((it : Int) + 1 + 1) (vw h17) (vw h17) := by rw [← p22]; exact g.2
  show jX m_L_law 1300 600000 7302250 2645 [(3, .int l3), (2, .ref 125), (1, .ref 31), (0, .ref 0)] [.int v18, .int v6] h17 (k + 0 + 0) (n + 0 + 0) Q
  refine x_iceq (tgt := 2887) rfl rfl (br_t (Int32.toInt_inj.mp ee) ?_)
  exact law_next (it := it) (by omega) ⟨I, by rw [show (((it + 1 : Nat) : Int) + 1) = (it : Int) + 1 + 1 from by omega]; exact V⟩ ⟨by omega, by have := R.2.1; omega, by have := R.2.2; omega⟩ kk
set_option maxRecDepth 100000 in
set_option maxHeartbeats 4000000 in
theorem cs_coin {L it : Nat} {xs : Nat → Int32} {h : jH} {k n : Nat} {l3 : Int32} {Q : Option Value → jH → Prop} (hL : L ≤ 3584) (y : 0 ≤ l3.toInt ∧ l3.toInt + 7 ≤ (L : Int)) (hit : it < 512) (I : jLi L xs h) (V : pR ((it : Int) + 1) (vw h) (vw h)) (R : jRoom it h k n) (kk : ∀ (l : Int32) h k n, l.toInt = l3.toInt + 7 → jLw L xs (it + 1) h → jRoom (it + 1) h k n → jX m_L_law 1300 600000 7302250 18 [(3, .int l), (2, .ref 125), (1, .ref 31), (0, .ref 0)] [] h k n Q) : jX m_L_law 1300 600000 7302250 2650 [(3, .int l3), (2, .ref 125), (1, .ref 31), (0, .ref 0)] [] h k n Q := by
  refine x_aloadn (x := 31) rfl rfl ?_
  refine x_aloadn (x := 0) rfl rfl ?_
  refine x_iloadn (x := l3) rfl rfl ?_
  refine x_iconst (v := 1) rfl ki_1 ?_
  refine z_iadd rfl rfl jk_1 (by omega) (fun w1 ew1 => ?_)
  refine y_iald (v := xs (l3.toNatClampNeg + 1)) (N := L) (l3.toNatClampNeg + 1) rfl I.2.2.2.1 (vpi (by omega)) (jcl_j (by omega) y.1) (I.2.2.2.2.1 _) ?_
  refine x_aloadn (x := 0) rfl rfl ?_
  refine x_iloadn (x := l3) rfl rfl ?_
  refine x_iconst (v := 2) rfl ki_2 ?_
  refine z_iadd rfl rfl jk_2 (by omega) (fun w2 ew2 => ?_)
  refine y_iald (v := xs (l3.toNatClampNeg + 2)) (N := L) (l3.toNatClampNeg + 2) rfl I.2.2.2.1 (vpi (by omega)) (jcl_j (by omega) y.1) (I.2.2.2.2.1 _) ?_
  refine x_aloadn (x := 0) rfl rfl ?_
  refine x_iloadn (x := l3) rfl rfl ?_
  refine x_iconst (v := 3) rfl ki_3 ?_
  refine z_iadd rfl rfl jk_3 (by omega) (fun w3 ew3 => ?_)
  refine y_iald (v := xs (l3.toNatClampNeg + 3)) (N := L) (l3.toNatClampNeg + 3) rfl I.2.2.2.1 (vpi (by omega)) (jcl_j (by omega) y.1) (I.2.2.2.2.1 _) ?_
  have rm := rm_0 R
  have D := I.1.2.2.2.1
  refine x_inv (N := m_X11_coin) (As := [.int (xs (l3.toNatClampNeg + 1)), .int (xs (l3.toNatClampNeg + 2)), .int (xs (l3.toNatClampNeg + 3))]) (b := 31) (st := []) (dx9 := 3) (mc := 0) (ms := 0) (host := "") 11 rfl t_X11_coin ⟨Or.inl q_13_235, i_X11_coin.1, i_X11_coin.2⟩ ⟨by decide, rfl⟩ (congrArg Prod.fst (I.1.1.1 31 (11, 13) rfl)) rfl (by decide) rfl rfl ⟨by omega, by omega⟩ (sf_X11_coin_r31d dy_k I.1 rfl (fun v5 h4 J6 S7 p8 p9 => ?_))
  obtain ⟨I, r10⟩ := li_x I J6 S7 rfl (rx_m I.2.2.2.2.2 S7 rfl)
  have cr10 := cn_e r10
  show jX m_L_law 1300 600000 7302250 2669 [(3, .int l3), (2, .ref 125), (1, .ref 31), (0, .ref 0)] [.int v5] h4 (k + 0) (n + 0) Q
  refine x_aloadn (x := 125) rfl rfl ?_
  refine x_aloadn (x := 0) rfl rfl ?_
  refine x_iloadn (x := l3) rfl rfl ?_
  refine x_iconst (v := 1) rfl ki_1 ?_
  refine z_iadd rfl rfl jk_1 (by omega) (fun w11 ew11 => ?_)
  refine y_iald (v := xs (l3.toNatClampNeg + 1)) (N := L) (l3.toNatClampNeg + 1) rfl I.2.2.2.1 (vpi (by omega)) (jcl_j (by omega) y.1) (I.2.2.2.2.1 _) ?_
  refine x_aloadn (x := 0) rfl rfl ?_
  refine x_iloadn (x := l3) rfl rfl ?_
  refine x_iconst (v := 2) rfl ki_2 ?_
  refine z_iadd rfl rfl jk_2 (by omega) (fun w12 ew12 => ?_)
  refine y_iald (v := xs (l3.toNatClampNeg + 2)) (N := L) (l3.toNatClampNeg + 2) rfl I.2.2.2.1 (vpi (by omega)) (jcl_j (by omega) y.1) (I.2.2.2.2.1 _) ?_
  refine x_aloadn (x := 0) rfl rfl ?_
  refine x_iloadn (x := l3) rfl rfl ?_
  refine x_iconst (v := 3) rfl ki_3 ?_
  refine z_iadd rfl rfl jk_3 (by omega) (fun w13 ew13 => ?_)
  refine y_iald (v := xs (l3.toNatClampNeg + 3)) (N := L) (l3.toNatClampNeg + 3) rfl I.2.2.2.1 (vpi (by omega)) (jcl_j (by omega) y.1) (I.2.2.2.2.1 _) ?_
  refine x_inv (N := m_X12_coin) (As := [.int (xs (l3.toNatClampNeg + 1)), .int (xs (l3.toNatClampNeg + 2)), .int (xs (l3.toNatClampNeg + 3))]) (b := 125) (st := [.int v5]) (dx9 := 3) (mc := 0) (ms := 0) (host := "") 12 rfl t_X12_coin ⟨Or.inl q_13_238, i_X12_coin.1, i_X12_coin.2⟩ ⟨by decide, rfl⟩ (congrArg Prod.fst (I.1.1.1 125 (12, 92) rfl)) rfl (by decide) rfl rfl ⟨by omega, by omega⟩ (sf_X12_coin_r125d dy_k (li_jm I) rfl (fun v15 h14 J16 S17 p18 p19 => ?_))
  obtain ⟨I, r20⟩ := li_m I J16 S17 rfl (rr_m I.2.2.1 S17 rfl)
  have cr20 := cn_e r20
  have g := g_coin (xs (l3.toNatClampNeg + 1)).toInt (xs (l3.toNatClampNeg + 2)).toInt (xs (l3.toNatClampNeg + 3)).toInt V
  rw [p9] at p18 p19
  have ee : (v5 : Int32).toInt = (v15 : Int32).toInt := p8.symm.trans (g.1.trans p18)
  have V : pR ((it : Int) + 1 + 1) (vw h14) (vw h14) := by rw [← p19]; exact g.2
  show jX m_L_law 1300 600000 7302250 2688 [(3, .int l3), (2, .ref 125), (1, .ref 31), (0, .ref 0)] [.int v15, .int v5] h14 (k + 0 + 0) (n + 0 + 0) Q
  refine x_iceq (tgt := 2887) rfl rfl (br_t (Int32.toInt_inj.mp ee) ?_)
  exact law_next (it := it) (by omega) ⟨I, by rw [show (((it + 1 : Nat) : Int) + 1) = (it : Int) + 1 + 1 from by omega]; exact V⟩ ⟨by omega, by have := R.2.1; omega, by have := R.2.2; omega⟩ kk
set_option maxRecDepth 100000 in
set_option maxHeartbeats 4000000 in
theorem cs_seal {L it : Nat} {xs : Nat → Int32} {h : jH} {k n : Nat} {l3 : Int32} {Q : Option Value → jH → Prop} (hL : L ≤ 3584) (y : 0 ≤ l3.toInt ∧ l3.toInt + 7 ≤ (L : Int)) (hit : it < 512) (I : jLi L xs h) (V : pR ((it : Int) + 1) (vw h) (vw h)) (R : jRoom it h k n) (kk : ∀ (l : Int32) h k n, l.toInt = l3.toInt + 7 → jLw L xs (it + 1) h → jRoom (it + 1) h k n → jX m_L_law 1300 600000 7302250 18 [(3, .int l), (2, .ref 125), (1, .ref 31), (0, .ref 0)] [] h k n Q) : jX m_L_law 1300 600000 7302250 2693 [(3, .int l3), (2, .ref 125), (1, .ref 31), (0, .ref 0)] [] h k n Q := by
  refine x_aloadn (x := 31) rfl rfl ?_
  refine x_aloadn (x := 0) rfl rfl ?_
  refine x_iloadn (x := l3) rfl rfl ?_
  refine x_iconst (v := 1) rfl ki_1 ?_
  refine z_iadd rfl rfl jk_1 (by omega) (fun w1 ew1 => ?_)
  refine y_iald (v := xs (l3.toNatClampNeg + 1)) (N := L) (l3.toNatClampNeg + 1) rfl I.2.2.2.1 (vpi (by omega)) (jcl_j (by omega) y.1) (I.2.2.2.2.1 _) ?_
  have rm := rm_0 R
  have D := I.1.2.2.2.1
  refine x_inv (N := m_X11_seal) (As := [.int (xs (l3.toNatClampNeg + 1))]) (b := 31) (st := []) (dx9 := 4) (mc := 0) (ms := 0) (host := "") 11 rfl t_X11_seal ⟨Or.inl q_13_239, i_X11_seal.1, i_X11_seal.2⟩ ⟨by decide, rfl⟩ (congrArg Prod.fst (I.1.1.1 31 (11, 13) rfl)) rfl (by decide) rfl rfl ⟨by omega, by omega⟩ (sf_X11_seal_r31d dy_k I.1 rfl (fun v3 h2 J4 S5 p6 p7 => ?_))
  obtain ⟨I, r8⟩ := li_x I J4 S5 rfl (rx_m I.2.2.2.2.2 S5 rfl)
  have cr8 := cn_e r8
  show jX m_L_law 1300 600000 7302250 2702 [(3, .int l3), (2, .ref 125), (1, .ref 31), (0, .ref 0)] [.int v3] h2 (k + 0) (n + 0) Q
  refine x_aloadn (x := 125) rfl rfl ?_
  refine x_aloadn (x := 0) rfl rfl ?_
  refine x_iloadn (x := l3) rfl rfl ?_
  refine x_iconst (v := 1) rfl ki_1 ?_
  refine z_iadd rfl rfl jk_1 (by omega) (fun w9 ew9 => ?_)
  refine y_iald (v := xs (l3.toNatClampNeg + 1)) (N := L) (l3.toNatClampNeg + 1) rfl I.2.2.2.1 (vpi (by omega)) (jcl_j (by omega) y.1) (I.2.2.2.2.1 _) ?_
  refine x_inv (N := m_X12_seal) (As := [.int (xs (l3.toNatClampNeg + 1))]) (b := 125) (st := [.int v3]) (dx9 := 4) (mc := 0) (ms := 0) (host := "") 12 rfl t_X12_seal ⟨Or.inl q_13_242, i_X12_seal.1, i_X12_seal.2⟩ ⟨by decide, rfl⟩ (congrArg Prod.fst (I.1.1.1 125 (12, 92) rfl)) rfl (by decide) rfl rfl ⟨by omega, by omega⟩ (sf_X12_seal_r125d dy_k (li_jm I) rfl (fun v11 h10 J12 S13 p14 p15 => ?_))
  obtain ⟨I, r16⟩ := li_m I J12 S13 rfl (rr_m I.2.2.1 S13 rfl)
  have cr16 := cn_e r16
  have g := g_seal (xs (l3.toNatClampNeg + 1)).toInt V (by omega)
  rw [p7] at g
  have ee : (v3 : Int32).toInt = (v11 : Int32).toInt := p6.symm.trans (g.1.trans p14)
  have V : pR ((it : Int) + 1 + 1) (vw h10) (vw h10) := by rw [← p15]; exact g.2
  show jX m_L_law 1300 600000 7302250 2711 [(3, .int l3), (2, .ref 125), (1, .ref 31), (0, .ref 0)] [.int v11, .int v3] h10 (k + 0 + 0) (n + 0 + 0) Q
  refine x_iceq (tgt := 2887) rfl rfl (br_t (Int32.toInt_inj.mp ee) ?_)
  exact law_next (it := it) (by omega) ⟨I, by rw [show (((it + 1 : Nat) : Int) + 1) = (it : Int) + 1 + 1 from by omega]; exact V⟩ ⟨by omega, by have := R.2.1; omega, by have := R.2.2; omega⟩ kk
set_option maxRecDepth 100000 in
set_option maxHeartbeats 4000000 in
theorem cs_alter {L it : Nat} {xs : Nat → Int32} {h : jH} {k n : Nat} {l3 : Int32} {Q : Option Value → jH → Prop} (hL : L ≤ 3584) (y : 0 ≤ l3.toInt ∧ l3.toInt + 7 ≤ (L : Int)) (hit : it < 512) (I : jLi L xs h) (V : pR ((it : Int) + 1) (vw h) (vw h)) (R : jRoom it h k n) (kk : ∀ (l : Int32) h k n, l.toInt = l3.toInt + 7 → jLw L xs (it + 1) h → jRoom (it + 1) h k n → jX m_L_law 1300 600000 7302250 18 [(3, .int l), (2, .ref 125), (1, .ref 31), (0, .ref 0)] [] h k n Q) : jX m_L_law 1300 600000 7302250 2716 [(3, .int l3), (2, .ref 125), (1, .ref 31), (0, .ref 0)] [] h k n Q := by
  refine x_aloadn (x := 31) rfl rfl ?_
  refine x_aloadn (x := 0) rfl rfl ?_
  refine x_iloadn (x := l3) rfl rfl ?_
  refine x_iconst (v := 1) rfl ki_1 ?_
  refine z_iadd rfl rfl jk_1 (by omega) (fun w1 ew1 => ?_)
  refine y_iald (v := xs (l3.toNatClampNeg + 1)) (N := L) (l3.toNatClampNeg + 1) rfl I.2.2.2.1 (vpi (by omega)) (jcl_j (by omega) y.1) (I.2.2.2.2.1 _) ?_
  refine x_aloadn (x := 0) rfl rfl ?_
  refine x_iloadn (x := l3) rfl rfl ?_
  refine x_iconst (v := 2) rfl ki_2 ?_
  refine z_iadd rfl rfl jk_2 (by omega) (fun w2 ew2 => ?_)
  refine y_iald (v := xs (l3.toNatClampNeg + 2)) (N := L) (l3.toNatClampNeg + 2) rfl I.2.2.2.1 (vpi (by omega)) (jcl_j (by omega) y.1) (I.2.2.2.2.1 _) ?_
  have rm := rm_0 R
  have D := I.1.2.2.2.1
  refine x_inv (N := m_X11_alter) (As := [.int (xs (l3.toNatClampNeg + 1)), .int (xs (l3.toNatClampNeg + 2))]) (b := 31) (st := []) (dx9 := 3) (mc := 0) (ms := 0) (host := "") 11 rfl t_X11_alter ⟨Or.inl q_13_243, i_X11_alter.1, i_X11_alter.2⟩ ⟨by decide, rfl⟩ (congrArg Prod.fst (I.1.1.1 31 (11, 13) rfl)) rfl (by decide) rfl rfl ⟨by omega, by omega⟩ (sf_X11_alter_r31d dy_k I.1 rfl (fun v4 h3 J5 S6 p7 p8 => ?_))
  obtain ⟨I, r9⟩ := li_x I J5 S6 rfl (rx_m I.2.2.2.2.2 S6 rfl)
  have cr9 := cn_e r9
  show jX m_L_law 1300 600000 7302250 2730 [(3, .int l3), (2, .ref 125), (1, .ref 31), (0, .ref 0)] [.int v4] h3 (k + 0) (n + 0) Q
  refine x_aloadn (x := 125) rfl rfl ?_
  refine x_aloadn (x := 0) rfl rfl ?_
  refine x_iloadn (x := l3) rfl rfl ?_
  refine x_iconst (v := 1) rfl ki_1 ?_
  refine z_iadd rfl rfl jk_1 (by omega) (fun w10 ew10 => ?_)
  refine y_iald (v := xs (l3.toNatClampNeg + 1)) (N := L) (l3.toNatClampNeg + 1) rfl I.2.2.2.1 (vpi (by omega)) (jcl_j (by omega) y.1) (I.2.2.2.2.1 _) ?_
  refine x_aloadn (x := 0) rfl rfl ?_
  refine x_iloadn (x := l3) rfl rfl ?_
  refine x_iconst (v := 2) rfl ki_2 ?_
  refine z_iadd rfl rfl jk_2 (by omega) (fun w11 ew11 => ?_)
  refine y_iald (v := xs (l3.toNatClampNeg + 2)) (N := L) (l3.toNatClampNeg + 2) rfl I.2.2.2.1 (vpi (by omega)) (jcl_j (by omega) y.1) (I.2.2.2.2.1 _) ?_
  refine x_inv (N := m_X12_alter) (As := [.int (xs (l3.toNatClampNeg + 1)), .int (xs (l3.toNatClampNeg + 2))]) (b := 125) (st := [.int v4]) (dx9 := 3) (mc := 0) (ms := 0) (host := "") 12 rfl t_X12_alter ⟨Or.inl q_13_246, i_X12_alter.1, i_X12_alter.2⟩ ⟨by decide, rfl⟩ (congrArg Prod.fst (I.1.1.1 125 (12, 92) rfl)) rfl (by decide) rfl rfl ⟨by omega, by omega⟩ (sf_X12_alter_r125d dy_k (li_jm I) rfl (fun v13 h12 J14 S15 p16 p17 => ?_))
  obtain ⟨I, r18⟩ := li_m I J14 S15 rfl (rr_m I.2.2.1 S15 rfl)
  have cr18 := cn_e r18
  have g := g_alter (xs (l3.toNatClampNeg + 1)).toInt (xs (l3.toNatClampNeg + 2)).toInt V (by omega)
  rw [p8] at g
  have ee : (v4 : Int32).toInt = (v13 : Int32).toInt := p7.symm.trans (g.1.trans p16)
  have V : pR ((it : Int) + 1 + 1) (vw h12) (vw h12) := by rw [← p17]; exact g.2
  show jX m_L_law 1300 600000 7302250 2744 [(3, .int l3), (2, .ref 125), (1, .ref 31), (0, .ref 0)] [.int v13, .int v4] h12 (k + 0 + 0) (n + 0 + 0) Q
  refine x_iceq (tgt := 2887) rfl rfl (br_t (Int32.toInt_inj.mp ee) ?_)
  exact law_next (it := it) (by omega) ⟨I, by rw [show (((it + 1 : Nat) : Int) + 1) = (it : Int) + 1 + 1 from by omega]; exact V⟩ ⟨by omega, by have := R.2.1; omega, by have := R.2.2; omega⟩ kk
set_option maxRecDepth 100000 in
set_option maxHeartbeats 4000000 in
theorem cs_found {L it : Nat} {xs : Nat → Int32} {h : jH} {k n : Nat} {l3 : Int32} {Q : Option Value → jH → Prop} (hL : L ≤ 3584) (y : 0 ≤ l3.toInt ∧ l3.toInt + 7 ≤ (L : Int)) (hit : it < 512) (I : jLi L xs h) (V : pR ((it : Int) + 1) (vw h) (vw h)) (R : jRoom it h k n) (kk : ∀ (l : Int32) h k n, l.toInt = l3.toInt + 7 → jLw L xs (it + 1) h → jRoom (it + 1) h k n → jX m_L_law 1300 600000 7302250 18 [(3, .int l), (2, .ref 125), (1, .ref 31), (0, .ref 0)] [] h k n Q) : jX m_L_law 1300 600000 7302250 2749 [(3, .int l3), (2, .ref 125), (1, .ref 31), (0, .ref 0)] [] h k n Q := by
  refine x_aloadn (x := 31) rfl rfl ?_
  refine x_aloadn (x := 0) rfl rfl ?_
  refine x_iloadn (x := l3) rfl rfl ?_
  refine x_iconst (v := 1) rfl ki_1 ?_
  refine z_iadd rfl rfl jk_1 (by omega) (fun w1 ew1 => ?_)
  refine y_iald (v := xs (l3.toNatClampNeg + 1)) (N := L) (l3.toNatClampNeg + 1) rfl I.2.2.2.1 (vpi (by omega)) (jcl_j (by omega) y.1) (I.2.2.2.2.1 _) ?_
  have rm := rm_0 R
  have D := I.1.2.2.2.1
  refine x_inv (N := m_X11_found) (As := [.int (xs (l3.toNatClampNeg + 1))]) (b := 31) (st := []) (dx9 := 4) (mc := 0) (ms := 0) (host := "") 11 rfl t_X11_found ⟨Or.inl q_13_247, i_X11_found.1, i_X11_found.2⟩ ⟨by decide, rfl⟩ (congrArg Prod.fst (I.1.1.1 31 (11, 13) rfl)) rfl (by decide) rfl rfl ⟨by omega, by omega⟩ (sf_X11_found_r31d dy_k I.1 rfl (fun v3 h2 p4 J5 S6 p7 p8 => ?_))
  obtain ⟨I, r9⟩ := li_x I J5 S6 rfl (rx_m I.2.2.2.2.2 S6 rfl)
  have cr9 := cn_e r9
  show jX m_L_law 1300 600000 7302250 2758 [(3, .int l3), (2, .ref 125), (1, .ref 31), (0, .ref 0)] [.int v3] h2 (k + 0) (n + 0) Q
  refine x_aloadn (x := 125) rfl rfl ?_
  refine x_aloadn (x := 0) rfl rfl ?_
  refine x_iloadn (x := l3) rfl rfl ?_
  refine x_iconst (v := 1) rfl ki_1 ?_
  refine z_iadd rfl rfl jk_1 (by omega) (fun w10 ew10 => ?_)
  refine y_iald (v := xs (l3.toNatClampNeg + 1)) (N := L) (l3.toNatClampNeg + 1) rfl I.2.2.2.1 (vpi (by omega)) (jcl_j (by omega) y.1) (I.2.2.2.2.1 _) ?_
  refine x_inv (N := m_X12_found) (As := [.int (xs (l3.toNatClampNeg + 1))]) (b := 125) (st := [.int v3]) (dx9 := 4) (mc := 0) (ms := 0) (host := "") 12 rfl t_X12_found ⟨Or.inl q_13_250, i_X12_found.1, i_X12_found.2⟩ ⟨by decide, rfl⟩ (congrArg Prod.fst (I.1.1.1 125 (12, 92) rfl)) rfl (by decide) rfl rfl ⟨by omega, by omega⟩ (sf_X12_found_r125d dy_k (li_jm I) rfl (fun v12 h11 p13 J14 S15 p16 p17 => ?_))
  obtain ⟨I, r18⟩ := li_m I J14 S15 rfl (rr_m I.2.2.1 S15 rfl)
  have cr18 := cn_e r18
  have g := g_found (xs (l3.toNatClampNeg + 1)).toInt V
  rw [p8] at g
  have ee : (v3 : Int32).toInt = (v12 : Int32).toInt := p7.symm.trans (g.1.trans p16)
  have V : pR ((it : Int) + 1 + 1) (vw h11) (vw h11) := by rw [← p17]; exact g.2
  show jX m_L_law 1300 600000 7302250 2767 [(3, .int l3), (2, .ref 125), (1, .ref 31), (0, .ref 0)] [.int v12, .int v3] h11 (k + 0 + 0) (n + 0 + 0) Q
  refine x_iceq (tgt := 2887) rfl rfl (br_t (Int32.toInt_inj.mp ee) ?_)
  exact law_next (it := it) (by omega) ⟨I, by rw [show (((it + 1 : Nat) : Int) + 1) = (it : Int) + 1 + 1 from by omega]; exact V⟩ ⟨by omega, by have := R.2.1; omega, by have := R.2.2; omega⟩ kk
set_option maxRecDepth 100000 in
set_option maxHeartbeats 4000000 in
theorem cs_image {L it : Nat} {xs : Nat → Int32} {h : jH} {k n : Nat} {l3 : Int32} {Q : Option Value → jH → Prop} (hL : L ≤ 3584) (y : 0 ≤ l3.toInt ∧ l3.toInt + 7 ≤ (L : Int)) (hit : it < 512) (I : jLi L xs h) (V : pR ((it : Int) + 1) (vw h) (vw h)) (R : jRoom it h k n) (kk : ∀ (l : Int32) h k n, l.toInt = l3.toInt + 7 → jLw L xs (it + 1) h → jRoom (it + 1) h k n → jX m_L_law 1300 600000 7302250 18 [(3, .int l), (2, .ref 125), (1, .ref 31), (0, .ref 0)] [] h k n Q) : jX m_L_law 1300 600000 7302250 2772 [(3, .int l3), (2, .ref 125), (1, .ref 31), (0, .ref 0)] [] h k n Q := by
  refine x_aloadn (x := 31) rfl rfl ?_
  refine x_aloadn (x := 0) rfl rfl ?_
  refine x_iloadn (x := l3) rfl rfl ?_
  refine x_iconst (v := 1) rfl ki_1 ?_
  refine z_iadd rfl rfl jk_1 (by omega) (fun w1 ew1 => ?_)
  refine y_iald (v := xs (l3.toNatClampNeg + 1)) (N := L) (l3.toNatClampNeg + 1) rfl I.2.2.2.1 (vpi (by omega)) (jcl_j (by omega) y.1) (I.2.2.2.2.1 _) ?_
  have rm := rm_0 R
  have D := I.1.2.2.2.1
  by_cases g : 0 ≤ (xs (l3.toNatClampNeg + 1)).toInt ∧ (xs (l3.toNatClampNeg + 1)).toInt ≤ 3
  · cases qi : jrv h 67 (xs (l3.toNatClampNeg + 1)).toNatClampNeg with
    | none =>
      refine x_inv (N := m_X11_image) (As := [.int (xs (l3.toNatClampNeg + 1))]) (b := 31) (st := []) (dx9 := 4) (mc := 35) (ms := 24594) (host := "") 11 rfl t_X11_image ⟨Or.inl q_13_251, i_X11_image.1, i_X11_image.2⟩ ⟨by decide, rfl⟩ (congrArg Prod.fst (I.1.1.1 31 (11, 13) rfl)) rfl (by decide) rfl rfl ⟨by omega, by omega⟩ (sf_X11_imageD_new I.1 g qi (pR_nx V) (fun h2 J3 S4 p6 => ?_))
      have I := li_i I J3 S4
      have kx := jcl_of g.1
      have cr := (cn_i (by omega) (fun k hk => S4.2.2.2.2.1 67 (by decide) k (Or.inr hk)) S4.2.2.2.2.2.choose_spec).1 qi
      show jX m_L_law 1300 600000 7302250 2781 [(3, .int l3), (2, .ref 125), (1, .ref 31), (0, .ref 0)] [.int 0] h2 (k + 35) (n + 24594) Q
      refine x_aloadn (x := 125) rfl rfl ?_
      refine x_aloadn (x := 0) rfl rfl ?_
      refine x_iloadn (x := l3) rfl rfl ?_
      refine x_iconst (v := 1) rfl ki_1 ?_
      refine z_iadd rfl rfl jk_1 (by omega) (fun w7 ew7 => ?_)
      refine y_iald (v := xs (l3.toNatClampNeg + 1)) (N := L) (l3.toNatClampNeg + 1) rfl I.2.2.2.1 (vpi (by omega)) (jcl_j (by omega) y.1) (I.2.2.2.2.1 _) ?_
      refine x_inv (N := m_X12_image) (As := [.int (xs (l3.toNatClampNeg + 1))]) (b := 125) (st := [.int 0]) (dx9 := 2) (mc := 0) (ms := 0) (host := "") 12 rfl t_X12_image ⟨Or.inl q_13_254, i_X12_image.1, i_X12_image.2⟩ ⟨by decide, rfl⟩ (congrArg Prod.fst (I.1.1.1 125 (12, 92) rfl)) rfl (by decide) rfl rfl ⟨by omega, by omega⟩ (sf_X12_image_r125d dy_i dy_k (li_jm I) rfl rfl rfl rfl rfl I.2.2.1.1 rfl rfl I.2.2.1.2 rfl (fun v9 h8 J10 S11 u12 u13 u14 u15 u16 p17 p18 p19 p20 p21 p22 u23 u24 p25 p26 p27 p28 p29 => ?_))
      obtain ⟨I, r30⟩ := li_m I J10 S11 rfl (rr_m I.2.2.1 S11 rfl)
      have cr30 := cn_e r30
      have g := h_image (xs (l3.toNatClampNeg + 1)).toInt V (by omega) p6 (ecl_i S4)
      have ee : (0 : Int32).toInt = (v9 : Int32).toInt := g.1.trans p28
      have V : pR ((it : Int) + 1 + 1) (vw h8) (vw h8) := by rw [← p29]; exact g.2
      show jX m_L_law 1300 600000 7302250 2790 [(3, .int l3), (2, .ref 125), (1, .ref 31), (0, .ref 0)] [.int v9, .int 0] h8 (k + 35 + 0) (n + 24594 + 0) Q
      refine x_iceq (tgt := 2887) rfl rfl (br_t (Int32.toInt_inj.mp ee) ?_)
      exact law_next (it := it) (by omega) ⟨I, by rw [show (((it + 1 : Nat) : Int) + 1) = (it : Int) + 1 + 1 from by omega]; exact V⟩ ⟨by omega, by have := R.2.1; omega, by have := R.2.2; omega⟩ kk
    | some a5 =>
      refine x_inv (N := m_X11_image) (As := [.int (xs (l3.toNatClampNeg + 1))]) (b := 31) (st := []) (dx9 := 4) (mc := 0) (ms := 0) (host := "") 11 rfl t_X11_image ⟨Or.inl q_13_251, i_X11_image.1, i_X11_image.2⟩ ⟨by decide, rfl⟩ (congrArg Prod.fst (I.1.1.1 31 (11, 13) rfl)) rfl (by decide) rfl rfl ⟨by omega, by omega⟩ (sf_X11_imageD_old I.1 g qi (pR_nx V) (fun h2 J3 S4 p6 => ?_))
      have I := li_i I J3 S4
      have kx := jcl_of g.1
      have cr := (cn_i (by omega) (fun k hk => S4.2.2.2.2.1 67 (by decide) k (Or.inr hk)) S4.2.2.2.2.2.choose_spec).2 (by rw [qi]; rfl)
      show jX m_L_law 1300 600000 7302250 2781 [(3, .int l3), (2, .ref 125), (1, .ref 31), (0, .ref 0)] [.int 0] h2 (k + 0) (n + 0) Q
      refine x_aloadn (x := 125) rfl rfl ?_
      refine x_aloadn (x := 0) rfl rfl ?_
      refine x_iloadn (x := l3) rfl rfl ?_
      refine x_iconst (v := 1) rfl ki_1 ?_
      refine z_iadd rfl rfl jk_1 (by omega) (fun w7 ew7 => ?_)
      refine y_iald (v := xs (l3.toNatClampNeg + 1)) (N := L) (l3.toNatClampNeg + 1) rfl I.2.2.2.1 (vpi (by omega)) (jcl_j (by omega) y.1) (I.2.2.2.2.1 _) ?_
      refine x_inv (N := m_X12_image) (As := [.int (xs (l3.toNatClampNeg + 1))]) (b := 125) (st := [.int 0]) (dx9 := 2) (mc := 0) (ms := 0) (host := "") 12 rfl t_X12_image ⟨Or.inl q_13_254, i_X12_image.1, i_X12_image.2⟩ ⟨by decide, rfl⟩ (congrArg Prod.fst (I.1.1.1 125 (12, 92) rfl)) rfl (by decide) rfl rfl ⟨by omega, by omega⟩ (sf_X12_image_r125d dy_i dy_k (li_jm I) rfl rfl rfl rfl rfl I.2.2.1.1 rfl rfl I.2.2.1.2 rfl (fun v9 h8 J10 S11 u12 u13 u14 u15 u16 p17 p18 p19 p20 p21 p22 u23 u24 p25 p26 p27 p28 p29 => ?_))
      obtain ⟨I, r30⟩ := li_m I J10 S11 rfl (rr_m I.2.2.1 S11 rfl)
      have cr30 := cn_e r30
      have g := h_image (xs (l3.toNatClampNeg + 1)).toInt V (by omega) p6 (ecl_i S4)
      have ee : (0 : Int32).toInt = (v9 : Int32).toInt := g.1.trans p28
      have V : pR ((it : Int) + 1 + 1) (vw h8) (vw h8) := by rw [← p29]; exact g.2
      show jX m_L_law 1300 600000 7302250 2790 [(3, .int l3), (2, .ref 125), (1, .ref 31), (0, .ref 0)] [.int v9, .int 0] h8 (k + 0 + 0) (n + 0 + 0) Q
      refine x_iceq (tgt := 2887) rfl rfl (br_t (Int32.toInt_inj.mp ee) ?_)
      exact law_next (it := it) (by omega) ⟨I, by rw [show (((it + 1 : Nat) : Int) + 1) = (it : Int) + 1 + 1 from by omega]; exact V⟩ ⟨by omega, by have := R.2.1; omega, by have := R.2.2; omega⟩ kk
  ·
    refine x_inv (N := m_X11_image) (As := [.int (xs (l3.toNatClampNeg + 1))]) (b := 31) (st := []) (dx9 := 4) (mc := 0) (ms := 0) (host := "") 11 rfl t_X11_image ⟨Or.inl q_13_251, i_X11_image.1, i_X11_image.2⟩ ⟨by decide, rfl⟩ (congrArg Prod.fst (I.1.1.1 31 (11, 13) rfl)) rfl (by decide) rfl rfl ⟨by omega, by omega⟩ (sf_X11_imageD_bad I.1 (by omega) (fun h2 J3 S4 L9 p6 => ?_))
    obtain ⟨I, r5⟩ := li_x I J3 S4 rfl (rx_m I.2.2.2.2.2 S4 rfl)
    have cr := cn_e r5
    show jX m_L_law 1300 600000 7302250 2781 [(3, .int l3), (2, .ref 125), (1, .ref 31), (0, .ref 0)] [.int (-1)] h2 (k + 0) (n + 0) Q
    refine x_aloadn (x := 125) rfl rfl ?_
    refine x_aloadn (x := 0) rfl rfl ?_
    refine x_iloadn (x := l3) rfl rfl ?_
    refine x_iconst (v := 1) rfl ki_1 ?_
    refine z_iadd rfl rfl jk_1 (by omega) (fun w7 ew7 => ?_)
    refine y_iald (v := xs (l3.toNatClampNeg + 1)) (N := L) (l3.toNatClampNeg + 1) rfl I.2.2.2.1 (vpi (by omega)) (jcl_j (by omega) y.1) (I.2.2.2.2.1 _) ?_
    refine x_inv (N := m_X12_image) (As := [.int (xs (l3.toNatClampNeg + 1))]) (b := 125) (st := [.int (-1)]) (dx9 := 2) (mc := 0) (ms := 0) (host := "") 12 rfl t_X12_image ⟨Or.inl q_13_254, i_X12_image.1, i_X12_image.2⟩ ⟨by decide, rfl⟩ (congrArg Prod.fst (I.1.1.1 125 (12, 92) rfl)) rfl (by decide) rfl rfl ⟨by omega, by omega⟩ (sf_X12_image_r125d dy_i dy_k (li_jm I) rfl rfl rfl rfl rfl I.2.2.1.1 rfl rfl I.2.2.1.2 rfl (fun v9 h8 J10 S11 u12 u13 u14 u15 u16 p17 p18 p19 p20 p21 p22 u23 u24 p25 p26 p27 p28 p29 => ?_))
    obtain ⟨I, r30⟩ := li_m I J10 S11 rfl (rr_m I.2.2.1 S11 rfl)
    have cr30 := cn_e r30
    have g := h_image (xs (l3.toNatClampNeg + 1)).toInt V (by omega) p6 (ecl_s S4 rfl)
    have ee : ((-1) : Int32).toInt = (v9 : Int32).toInt := g.1.trans p28
    have V : pR ((it : Int) + 1 + 1) (vw h8) (vw h8) := by rw [← p29]; exact g.2
    show jX m_L_law 1300 600000 7302250 2790 [(3, .int l3), (2, .ref 125), (1, .ref 31), (0, .ref 0)] [.int v9, .int (-1)] h8 (k + 0 + 0) (n + 0 + 0) Q
    refine x_iceq (tgt := 2887) rfl rfl (br_t (Int32.toInt_inj.mp ee) ?_)
    exact law_next (it := it) (by omega) ⟨I, by rw [show (((it + 1 : Nat) : Int) + 1) = (it : Int) + 1 + 1 from by omega]; exact V⟩ ⟨by omega, by have := R.2.1; omega, by have := R.2.2; omega⟩ kk
set_option maxRecDepth 100000 in
set_option maxHeartbeats 4000000 in
theorem cs_back {L it : Nat} {xs : Nat → Int32} {h : jH} {k n : Nat} {l3 : Int32} {Q : Option Value → jH → Prop} (hL : L ≤ 3584) (y : 0 ≤ l3.toInt ∧ l3.toInt + 7 ≤ (L : Int)) (hit : it < 512) (I : jLi L xs h) (V : pR ((it : Int) + 1) (vw h) (vw h)) (R : jRoom it h k n) (kk : ∀ (l : Int32) h k n, l.toInt = l3.toInt + 7 → jLw L xs (it + 1) h → jRoom (it + 1) h k n → jX m_L_law 1300 600000 7302250 18 [(3, .int l), (2, .ref 125), (1, .ref 31), (0, .ref 0)] [] h k n Q) : jX m_L_law 1300 600000 7302250 2795 [(3, .int l3), (2, .ref 125), (1, .ref 31), (0, .ref 0)] [] h k n Q := by
  refine x_aloadn (x := 31) rfl rfl ?_
  refine x_aloadn (x := 0) rfl rfl ?_
  refine x_iloadn (x := l3) rfl rfl ?_
  refine x_iconst (v := 1) rfl ki_1 ?_
  refine z_iadd rfl rfl jk_1 (by omega) (fun w1 ew1 => ?_)
  refine y_iald (v := xs (l3.toNatClampNeg + 1)) (N := L) (l3.toNatClampNeg + 1) rfl I.2.2.2.1 (vpi (by omega)) (jcl_j (by omega) y.1) (I.2.2.2.2.1 _) ?_
  have rm := rm_0 R
  have D := I.1.2.2.2.1
  have hA := bk_rg (x := xs (l3.toNatClampNeg + 1)) I.1
  refine x_inv (N := m_X11_back) (As := [.int (xs (l3.toNatClampNeg + 1))]) (b := 31) (st := []) (dx9 := 6) (mc := 0) (ms := 0) (host := "") 11 rfl t_X11_back ⟨Or.inl q_13_255, i_X11_back.1, i_X11_back.2⟩ ⟨by decide, rfl⟩ (congrArg Prod.fst (I.1.1.1 31 (11, 13) rfl)) rfl (by decide) rfl rfl ⟨by omega, by omega⟩ (sf_X11_back_r31d rfl dy_k I.1 rfl (fun v3 h2 p4 J5 S6 p7 p8 => ?_))
  obtain ⟨I, r9⟩ := li_x I J5 S6 rfl (rx_m I.2.2.2.2.2 S6 rfl)
  have cr9 := cn_e r9
  show jX m_L_law 1300 600000 7302250 2804 [(3, .int l3), (2, .ref 125), (1, .ref 31), (0, .ref 0)] [.int v3] h2 (k + 0) (n + 0) Q
  refine x_aloadn (x := 125) rfl rfl ?_
  refine x_aloadn (x := 0) rfl rfl ?_
  refine x_iloadn (x := l3) rfl rfl ?_
  refine x_iconst (v := 1) rfl ki_1 ?_
  refine z_iadd rfl rfl jk_1 (by omega) (fun w10 ew10 => ?_)
  refine y_iald (v := xs (l3.toNatClampNeg + 1)) (N := L) (l3.toNatClampNeg + 1) rfl I.2.2.2.1 (vpi (by omega)) (jcl_j (by omega) y.1) (I.2.2.2.2.1 _) ?_
  refine x_inv (N := m_X12_back) (As := [.int (xs (l3.toNatClampNeg + 1))]) (b := 125) (st := [.int v3]) (dx9 := 2) (mc := 0) (ms := 0) (host := "") 12 rfl t_X12_back ⟨Or.inl q_13_258, i_X12_back.1, i_X12_back.2⟩ ⟨by decide, rfl⟩ (congrArg Prod.fst (I.1.1.1 125 (12, 92) rfl)) rfl (by decide) rfl rfl ⟨by omega, by omega⟩ (sf_X12_back_r125d dy_b dy_k (li_jm I) rfl rfl rfl rfl rfl I.2.2.1.1 rfl rfl I.2.2.1.2 rfl (fun v12 h11 J13 S14 u15 u16 u17 u18 u19 p20 p21 p22 p23 p24 p25 u26 u27 p28 p29 p30 p31 p32 => ?_))
  obtain ⟨I, r33⟩ := li_m I J13 S14 rfl (rr_3 p20 p21 p22 p23 p24 p25 p28 p29 p30)
  have cr33 := cn_e r33
  have g := h_back (xs (l3.toNatClampNeg + 1)).toInt V (by omega) hA
  rw [p8] at g
  have ee : (v3 : Int32).toInt = (v12 : Int32).toInt := p7.symm.trans (g.1.trans p31)
  have V : pR ((it : Int) + 1 + 1) (vw h11) (vw h11) := by rw [← p32]; exact g.2
  show jX m_L_law 1300 600000 7302250 2813 [(3, .int l3), (2, .ref 125), (1, .ref 31), (0, .ref 0)] [.int v12, .int v3] h11 (k + 0 + 0) (n + 0 + 0) Q
  refine x_iceq (tgt := 2887) rfl rfl (br_t (Int32.toInt_inj.mp ee) ?_)
  exact law_next (it := it) (by omega) ⟨I, by rw [show (((it + 1 : Nat) : Int) + 1) = (it : Int) + 1 + 1 from by omega]; exact V⟩ ⟨by omega, by have := R.2.1; omega, by have := R.2.2; omega⟩ kk
set_option maxRecDepth 100000 in
set_option maxHeartbeats 4000000 in
theorem cs_as {L it : Nat} {xs : Nat → Int32} {h : jH} {k n : Nat} {l3 : Int32} {Q : Option Value → jH → Prop} (hL : L ≤ 3584) (y : 0 ≤ l3.toInt ∧ l3.toInt + 7 ≤ (L : Int)) (hit : it < 512) (I : jLi L xs h) (V : pR ((it : Int) + 1) (vw h) (vw h)) (R : jRoom it h k n) (kk : ∀ (l : Int32) h k n, l.toInt = l3.toInt + 7 → jLw L xs (it + 1) h → jRoom (it + 1) h k n → jX m_L_law 1300 600000 7302250 18 [(3, .int l), (2, .ref 125), (1, .ref 31), (0, .ref 0)] [] h k n Q) : jX m_L_law 1300 600000 7302250 2818 [(3, .int l3), (2, .ref 125), (1, .ref 31), (0, .ref 0)] [] h k n Q := by
  refine x_aloadn (x := 31) rfl rfl ?_
  refine x_aloadn (x := 0) rfl rfl ?_
  refine x_iloadn (x := l3) rfl rfl ?_
  refine x_iconst (v := 1) rfl ki_1 ?_
  refine z_iadd rfl rfl jk_1 (by omega) (fun w1 ew1 => ?_)
  refine y_iald (v := xs (l3.toNatClampNeg + 1)) (N := L) (l3.toNatClampNeg + 1) rfl I.2.2.2.1 (vpi (by omega)) (jcl_j (by omega) y.1) (I.2.2.2.2.1 _) ?_
  refine x_aloadn (x := 0) rfl rfl ?_
  refine x_iloadn (x := l3) rfl rfl ?_
  refine x_iconst (v := 2) rfl ki_2 ?_
  refine z_iadd rfl rfl jk_2 (by omega) (fun w2 ew2 => ?_)
  refine y_iald (v := xs (l3.toNatClampNeg + 2)) (N := L) (l3.toNatClampNeg + 2) rfl I.2.2.2.1 (vpi (by omega)) (jcl_j (by omega) y.1) (I.2.2.2.2.1 _) ?_
  have rm := rm_0 R
  have D := I.1.2.2.2.1
  refine x_inv (N := m_X11_as) (As := [.int (xs (l3.toNatClampNeg + 1)), .int (xs (l3.toNatClampNeg + 2))]) (b := 31) (st := []) (dx9 := 2) (mc := 0) (ms := 0) (host := "") 11 rfl t_X11_as ⟨Or.inl q_13_259, i_X11_as.1, i_X11_as.2⟩ ⟨by decide, rfl⟩ (congrArg Prod.fst (I.1.1.1 31 (11, 13) rfl)) rfl (by decide) rfl rfl ⟨by omega, by omega⟩ (sf_X11_as_r31d dy_k I.1 rfl (fun v4 h3 p5 J6 S7 p8 p9 => ?_))
  obtain ⟨I, r10⟩ := li_x I J6 S7 rfl (rx_m I.2.2.2.2.2 S7 rfl)
  have cr10 := cn_e r10
  show jX m_L_law 1300 600000 7302250 2832 [(3, .int l3), (2, .ref 125), (1, .ref 31), (0, .ref 0)] [.int v4] h3 (k + 0) (n + 0) Q
  refine x_aloadn (x := 125) rfl rfl ?_
  refine x_aloadn (x := 0) rfl rfl ?_
  refine x_iloadn (x := l3) rfl rfl ?_
  refine x_iconst (v := 1) rfl ki_1 ?_
  refine z_iadd rfl rfl jk_1 (by omega) (fun w11 ew11 => ?_)
  refine y_iald (v := xs (l3.toNatClampNeg + 1)) (N := L) (l3.toNatClampNeg + 1) rfl I.2.2.2.1 (vpi (by omega)) (jcl_j (by omega) y.1) (I.2.2.2.2.1 _) ?_
  refine x_aloadn (x := 0) rfl rfl ?_
  refine x_iloadn (x := l3) rfl rfl ?_
  refine x_iconst (v := 2) rfl ki_2 ?_
  refine z_iadd rfl rfl jk_2 (by omega) (fun w12 ew12 => ?_)
  refine y_iald (v := xs (l3.toNatClampNeg + 2)) (N := L) (l3.toNatClampNeg + 2) rfl I.2.2.2.1 (vpi (by omega)) (jcl_j (by omega) y.1) (I.2.2.2.2.1 _) ?_
  refine x_inv (N := m_X12_as) (As := [.int (xs (l3.toNatClampNeg + 1)), .int (xs (l3.toNatClampNeg + 2))]) (b := 125) (st := [.int v4]) (dx9 := 3) (mc := 0) (ms := 0) (host := "") 12 rfl t_X12_as ⟨Or.inl q_13_262, i_X12_as.1, i_X12_as.2⟩ ⟨by decide, rfl⟩ (congrArg Prod.fst (I.1.1.1 125 (12, 92) rfl)) rfl (by decide) rfl rfl ⟨by omega, by omega⟩ (sf_X12_as_r125d dy_k (li_jm I) rfl (fun v14 h13 p15 J16 S17 p18 p19 => ?_))
  obtain ⟨I, r20⟩ := li_m I J16 S17 rfl (rr_m I.2.2.1 S17 rfl)
  have cr20 := cn_e r20
  have g := g_as (xs (l3.toNatClampNeg + 1)).toInt (xs (l3.toNatClampNeg + 2)).toInt V
  rw [p9] at p18 p19
  have ee : (v4 : Int32).toInt = (v14 : Int32).toInt := p8.symm.trans (g.1.trans p18)
  have V : pR ((it : Int) + 1 + 1) (vw h13) (vw h13) := by rw [← p19]; exact g.2
  show jX m_L_law 1300 600000 7302250 2846 [(3, .int l3), (2, .ref 125), (1, .ref 31), (0, .ref 0)] [.int v14, .int v4] h13 (k + 0 + 0) (n + 0 + 0) Q
  refine x_iceq (tgt := 2887) rfl rfl (br_t (Int32.toInt_inj.mp ee) ?_)
  exact law_next (it := it) (by omega) ⟨I, by rw [show (((it + 1 : Nat) : Int) + 1) = (it : Int) + 1 + 1 from by omega]; exact V⟩ ⟨by omega, by have := R.2.1; omega, by have := R.2.2; omega⟩ kk
set_option maxRecDepth 100000 in
set_option maxHeartbeats 4000000 in
theorem cs_count {L it : Nat} {xs : Nat → Int32} {h : jH} {k n : Nat} {l3 : Int32} {Q : Option Value → jH → Prop} (hL : L ≤ 3584) (y : 0 ≤ l3.toInt ∧ l3.toInt + 7 ≤ (L : Int)) (hit : it < 512) (I : jLi L xs h) (V : pR ((it : Int) + 1) (vw h) (vw h)) (R : jRoom it h k n) (kk : ∀ (l : Int32) h k n, l.toInt = l3.toInt + 7 → jLw L xs (it + 1) h → jRoom (it + 1) h k n → jX m_L_law 1300 600000 7302250 18 [(3, .int l), (2, .ref 125), (1, .ref 31), (0, .ref 0)] [] h k n Q) : jX m_L_law 1300 600000 7302250 2851 [(3, .int l3), (2, .ref 125), (1, .ref 31), (0, .ref 0)] [] h k n Q := by
  refine x_aloadn (x := 31) rfl rfl ?_
  refine x_aloadn (x := 0) rfl rfl ?_
  refine x_iloadn (x := l3) rfl rfl ?_
  refine x_iconst (v := 1) rfl ki_1 ?_
  refine z_iadd rfl rfl jk_1 (by omega) (fun w1 ew1 => ?_)
  refine y_iald (v := xs (l3.toNatClampNeg + 1)) (N := L) (l3.toNatClampNeg + 1) rfl I.2.2.2.1 (vpi (by omega)) (jcl_j (by omega) y.1) (I.2.2.2.2.1 _) ?_
  have rm := rm_0 R
  have D := I.1.2.2.2.1
  refine x_inv (N := m_X11_count) (As := [.int (xs (l3.toNatClampNeg + 1))]) (b := 31) (st := []) (dx9 := 1) (mc := 0) (ms := 0) (host := "") 11 rfl t_X11_count ⟨Or.inl q_13_263, i_X11_count.1, i_X11_count.2⟩ ⟨by decide, rfl⟩ (congrArg Prod.fst (I.1.1.1 31 (11, 13) rfl)) rfl (by decide) rfl rfl ⟨by omega, by omega⟩ (sf_X11_count_r31d dy_k I.1 rfl (fun v3 h2 p4 J5 S6 p7 p8 => ?_))
  obtain ⟨I, r9⟩ := li_x I J5 S6 rfl (rx_m I.2.2.2.2.2 S6 rfl)
  have cr9 := cn_e r9
  show jX m_L_law 1300 600000 7302250 2860 [(3, .int l3), (2, .ref 125), (1, .ref 31), (0, .ref 0)] [.int v3] h2 (k + 0) (n + 0) Q
  refine x_aloadn (x := 125) rfl rfl ?_
  refine x_aloadn (x := 0) rfl rfl ?_
  refine x_iloadn (x := l3) rfl rfl ?_
  refine x_iconst (v := 1) rfl ki_1 ?_
  refine z_iadd rfl rfl jk_1 (by omega) (fun w10 ew10 => ?_)
  refine y_iald (v := xs (l3.toNatClampNeg + 1)) (N := L) (l3.toNatClampNeg + 1) rfl I.2.2.2.1 (vpi (by omega)) (jcl_j (by omega) y.1) (I.2.2.2.2.1 _) ?_
  refine x_inv (N := m_X12_count) (As := [.int (xs (l3.toNatClampNeg + 1))]) (b := 125) (st := [.int v3]) (dx9 := 1) (mc := 0) (ms := 0) (host := "") 12 rfl t_X12_count ⟨Or.inl q_13_266, i_X12_count.1, i_X12_count.2⟩ ⟨by decide, rfl⟩ (congrArg Prod.fst (I.1.1.1 125 (12, 92) rfl)) rfl (by decide) rfl rfl ⟨by omega, by omega⟩ (sf_X12_count_r125d dy_k (li_jm I) rfl (fun v12 h11 p13 J14 S15 p16 p17 => ?_))
  obtain ⟨I, r18⟩ := li_m I J14 S15 rfl (rr_m I.2.2.1 S15 rfl)
  have cr18 := cn_e r18
  have g := g_count (xs (l3.toNatClampNeg + 1)).toInt V
  rw [p8] at p16 p17
  have ee : (v3 : Int32).toInt = (v12 : Int32).toInt := p7.symm.trans (g.1.trans p16)
  have V : pR ((it : Int) + 1 + 1) (vw h11) (vw h11) := by rw [← p17]; exact g.2
  show jX m_L_law 1300 600000 7302250 2869 [(3, .int l3), (2, .ref 125), (1, .ref 31), (0, .ref 0)] [.int v12, .int v3] h11 (k + 0 + 0) (n + 0 + 0) Q
  refine x_iceq (tgt := 2887) rfl rfl (br_t (Int32.toInt_inj.mp ee) ?_)
  exact law_next (it := it) (by omega) ⟨I, by rw [show (((it + 1 : Nat) : Int) + 1) = (it : Int) + 1 + 1 from by omega]; exact V⟩ ⟨by omega, by have := R.2.1; omega, by have := R.2.2; omega⟩ kk
set_option maxRecDepth 100000 in
set_option maxHeartbeats 4000000 in
theorem cs_status {L it : Nat} {xs : Nat → Int32} {h : jH} {k n : Nat} {l3 : Int32} {Q : Option Value → jH → Prop} (hL : L ≤ 3584) (y : 0 ≤ l3.toInt ∧ l3.toInt + 7 ≤ (L : Int)) (hit : it < 512) (I : jLi L xs h) (V : pR ((it : Int) + 1) (vw h) (vw h)) (R : jRoom it h k n) (kk : ∀ (l : Int32) h k n, l.toInt = l3.toInt + 7 → jLw L xs (it + 1) h → jRoom (it + 1) h k n → jX m_L_law 1300 600000 7302250 18 [(3, .int l), (2, .ref 125), (1, .ref 31), (0, .ref 0)] [] h k n Q) : jX m_L_law 1300 600000 7302250 2874 [(3, .int l3), (2, .ref 125), (1, .ref 31), (0, .ref 0)] [] h k n Q := by
  refine x_aloadn (x := 31) rfl rfl ?_
  have rm := rm_0 R
  have D := I.1.2.2.2.1
  refine x_inv (N := m_X11_status) (As := []) (b := 31) (st := []) (dx9 := 1) (mc := 0) (ms := 0) (host := "") 11 rfl t_X11_status ⟨Or.inl q_13_267, i_X11_status.1, i_X11_status.2⟩ ⟨by decide, rfl⟩ (congrArg Prod.fst (I.1.1.1 31 (11, 13) rfl)) rfl (by decide) rfl rfl ⟨by omega, by omega⟩ (sf_X11_status_r31d dy_k I.1 rfl (fun v2 h1 p3 J4 S5 p6 p7 => ?_))
  obtain ⟨I, r8⟩ := li_x I J4 S5 rfl (rx_m I.2.2.2.2.2 S5 rfl)
  have cr8 := cn_e r8
  show jX m_L_law 1300 600000 7302250 2878 [(3, .int l3), (2, .ref 125), (1, .ref 31), (0, .ref 0)] [.int v2] h1 (k + 0) (n + 0) Q
  refine x_aloadn (x := 125) rfl rfl ?_
  refine x_inv (N := m_X12_status) (As := []) (b := 125) (st := [.int v2]) (dx9 := 1) (mc := 0) (ms := 0) (host := "") 12 rfl t_X12_status ⟨Or.inl q_13_270, i_X12_status.1, i_X12_status.2⟩ ⟨by decide, rfl⟩ (congrArg Prod.fst (I.1.1.1 125 (12, 92) rfl)) rfl (by decide) rfl rfl ⟨by omega, by omega⟩ (sf_X12_status_r125d dy_k (li_jm I) rfl (fun v10 h9 p11 J12 S13 p14 p15 => ?_))
  obtain ⟨I, r16⟩ := li_m I J12 S13 rfl (rr_m I.2.2.1 S13 rfl)
  have cr16 := cn_e r16
  have g := g_status V
  rw [p7] at p14 p15
  have ee : (v2 : Int32).toInt = (v10 : Int32).toInt := p6.symm.trans (g.1.trans p14)
  have V : pR ((it : Int) + 1 + 1) (vw h9) (vw h9) := by rw [← p15]; exact g.2
  show jX m_L_law 1300 600000 7302250 2882 [(3, .int l3), (2, .ref 125), (1, .ref 31), (0, .ref 0)] [.int v10, .int v2] h9 (k + 0 + 0) (n + 0 + 0) Q
  refine x_iceq (tgt := 2887) rfl rfl (br_t (Int32.toInt_inj.mp ee) ?_)
  exact law_next (it := it) (by omega) ⟨I, by rw [show (((it + 1 : Nat) : Int) + 1) = (it : Int) + 1 + 1 from by omega]; exact V⟩ ⟨by omega, by have := R.2.1; omega, by have := R.2.2; omega⟩ kk
set_option maxRecDepth 100000 in
set_option maxHeartbeats 4000000 in
theorem law_loop {L : Nat} {xs : Nat → Int32} {Q : Option Value → jH → Prop} (hL : L ≤ 3584) (hQ : ∀ h, Q (some (.int 1)) h) : ∀ r : Nat, ∀ (l3 : Int32) (it : Nat) (h : jH) (k n : Nat), 3591 - l3.toInt < (r : Int) → 0 ≤ l3.toInt ∧ l3.toInt ≤ 3584 → l3.toInt = 7 * (it : Int) → jLw L xs it h ∧ jRoom it h k n → jX m_L_law 1300 600000 7302250 18 [(3, .int l3), (2, .ref 125), (1, .ref 31), (0, .ref 0)] [] h k n Q := by
  intro r
  induction r with
  | zero => intro l3 it h k n hm y; intros; exfalso; omega
  | succ r ih =>
    intro l3 it h k n hm y yi IR
    obtain ⟨⟨iI, iV⟩, hR⟩ := IR
    have y3 := jcl_of y.1
    refine x_iloadn (x := l3) rfl rfl ?_
    refine x_aloadn (x := 0) rfl rfl ?_
    have nL : (nI L).toInt = (L : Int) := by
      have h1 : (nI L).toNatClampNeg = L := nI_clamp (by omega)
      have h2 := jnn (nI_pos (n := L) (by omega))
      rw [h1] at h2
      exact h2
    refine x_alen rfl iI.2.2.2.1 (by decide) ?_
    refine x_bipush (v := 7) rfl kb_7 ?_
    refine z_isub rfl nL jk_7 (by omega) (fun v1 ev1 => ?_)
    refine x_icgt (tgt := 2893) rfl rfl (ti_gt rfl rfl ⟨fun c1 => ?_, fun c1 => ?_⟩)
    · refine x_iconst (v := 1) rfl ki_1 ?_
      refine x_zret rfl rfl (by decide) ?_
      exact hQ _
    · have hit : it < 512 := by omega
      refine x_aloadn (x := 0) rfl rfl ?_
      refine x_iloadn (x := l3) rfl rfl ?_
      refine x_iald rfl iI.2.2.2.1 (vpi (by omega)) ?_
      refine x_bipush (v := 63) rfl kb_63 ?_
      refine z_iand rfl jk_63 (by decide) (fun v2 ev2 => ?_)
      have kk : ∀ (l : Int32) h k n, l.toInt = l3.toInt + 7 → jLw L xs (it + 1) h → jRoom (it + 1) h k n → jX m_L_law 1300 600000 7302250 18 [(3, .int l), (2, .ref 125), (1, .ref 31), (0, .ref 0)] [] h k n Q := fun l h k n e I R => ih l (it + 1) h k n (by omega) (by omega) (by omega) ⟨I, R⟩
      by_cases d0 : v2.toInt = 0
      · refine x_tableIn (tgt := 296) 0 rfl d0 (by decide) (by decide) rfl rfl ?_
        exact cs_feed hL (by omega) hit iI iV hR kk
      by_cases d1 : v2.toInt = 1
      · refine x_tableIn (tgt := 359) 1 rfl d1 (by decide) (by decide) rfl rfl ?_
        exact cs_end hL (by omega) hit iI iV hR kk
      by_cases d2 : v2.toInt = 2
      · refine x_tableIn (tgt := 382) 2 rfl d2 (by decide) (by decide) rfl rfl ?_
        exact cs_fault hL (by omega) hit iI iV hR kk
      by_cases d3 : v2.toInt = 3
      · refine x_tableIn (tgt := 395) 3 rfl d3 (by decide) (by decide) rfl rfl ?_
        exact cs_line hL (by omega) hit iI iV hR kk
      by_cases d4 : v2.toInt = 4
      · refine x_tableIn (tgt := 458) 4 rfl d4 (by decide) (by decide) rfl rfl ?_
        exact cs_of hL (by omega) hit iI iV hR kk
      by_cases d5 : v2.toInt = 5
      · refine x_tableIn (tgt := 491) 5 rfl d5 (by decide) (by decide) rfl rfl ?_
        exact cs_spell hL (by omega) hit iI iV hR kk
      by_cases d6 : v2.toInt = 6
      · refine x_tableIn (tgt := 514) 6 rfl d6 (by decide) (by decide) rfl rfl ?_
        exact cs_name hL (by omega) hit iI iV hR kk
      by_cases d7 : v2.toInt = 7
      · refine x_tableIn (tgt := 557) 7 rfl d7 (by decide) (by decide) rfl rfl ?_
        exact cs_piece hL (by omega) hit iI iV hR kk
      by_cases d8 : v2.toInt = 8
      · refine x_tableIn (tgt := 610) 8 rfl d8 (by decide) (by decide) rfl rfl ?_
        exact cs_terms hL (by omega) hit iI iV hR kk
      by_cases d9 : v2.toInt = 9
      · refine x_tableIn (tgt := 673) 9 rfl d9 (by decide) (by decide) rfl rfl ?_
        exact cs_reason hL (by omega) hit iI iV hR kk
      by_cases d10 : v2.toInt = 10
      · refine x_tableIn (tgt := 706) 10 rfl d10 (by decide) (by decide) rfl rfl ?_
        exact cs_worth hL (by omega) hit iI iV hR kk
      by_cases d11 : v2.toInt = 11
      · refine x_tableIn (tgt := 739) 11 rfl d11 (by decide) (by decide) rfl rfl ?_
        exact cs_apart hL (by omega) hit iI iV hR kk
      by_cases d12 : v2.toInt = 12
      · refine x_tableIn (tgt := 772) 12 rfl d12 (by decide) (by decide) rfl rfl ?_
        exact cs_together hL (by omega) hit iI iV hR kk
      by_cases d13 : v2.toInt = 13
      · refine x_tableIn (tgt := 815) 13 rfl d13 (by decide) (by decide) rfl rfl ?_
        exact cs_waits hL (by omega) hit iI iV hR kk
      by_cases d14 : v2.toInt = 14
      · refine x_tableIn (tgt := 848) 14 rfl d14 (by decide) (by decide) rfl rfl ?_
        exact cs_soul hL (by omega) hit iI iV hR kk
      by_cases d15 : v2.toInt = 15
      · refine x_tableIn (tgt := 881) 15 rfl d15 (by decide) (by decide) rfl rfl ?_
        exact cs_mentions hL (by omega) hit iI iV hR kk
      by_cases d16 : v2.toInt = 16
      · refine x_tableIn (tgt := 934) 16 rfl d16 (by decide) (by decide) rfl rfl ?_
        exact cs_kin hL (by omega) hit iI iV hR kk
      by_cases d17 : v2.toInt = 17
      · refine x_tableIn (tgt := 987) 17 rfl d17 (by decide) (by decide) rfl rfl ?_
        exact cs_span hL (by omega) hit iI iV hR kk
      by_cases d18 : v2.toInt = 18
      · refine x_tableIn (tgt := 1030) 18 rfl d18 (by decide) (by decide) rfl rfl ?_
        exact cs_wish hL (by omega) hit iI iV hR kk
      by_cases d19 : v2.toInt = 19
      · refine x_tableIn (tgt := 1053) 19 rfl d19 (by decide) (by decide) rfl rfl ?_
        exact cs_clear hL (by omega) hit iI iV hR kk
      by_cases d20 : v2.toInt = 20
      · refine x_tableIn (tgt := 1066) 20 rfl d20 (by decide) (by decide) rfl rfl ?_
        exact cs_best hL (by omega) hit iI iV hR kk
      by_cases d21 : v2.toInt = 21
      · refine x_tableIn (tgt := 1099) 21 rfl d21 (by decide) (by decide) rfl rfl ?_
        exact cs_group hL (by omega) hit iI iV hR kk
      by_cases d22 : v2.toInt = 22
      · refine x_tableIn (tgt := 1122) 22 rfl d22 (by decide) (by decide) rfl rfl ?_
        exact cs_join hL (by omega) hit iI iV hR kk
      by_cases d23 : v2.toInt = 23
      · refine x_tableIn (tgt := 1145) 23 rfl d23 (by decide) (by decide) rfl rfl ?_
        exact cs_torn hL (by omega) hit iI iV hR kk
      by_cases d24 : v2.toInt = 24
      · refine x_tableIn (tgt := 1198) 24 rfl d24 (by decide) (by decide) rfl rfl ?_
        exact cs_fill hL (by omega) hit iI iV hR kk
      by_cases d25 : v2.toInt = 25
      · refine x_tableIn (tgt := 1261) 25 rfl d25 (by decide) (by decide) rfl rfl ?_
        exact cs_text hL (by omega) hit iI iV hR kk
      by_cases d26 : v2.toInt = 26
      · refine x_tableIn (tgt := 1304) 26 rfl d26 (by decide) (by decide) rfl rfl ?_
        exact cs_force hL (by omega) hit iI iV hR kk
      by_cases d27 : v2.toInt = 27
      · refine x_tableIn (tgt := 1357) 27 rfl d27 (by decide) (by decide) rfl rfl ?_
        exact cs_holds hL (by omega) hit iI iV hR kk
      by_cases d28 : v2.toInt = 28
      · refine x_tableIn (tgt := 1420) 28 rfl d28 (by decide) (by decide) rfl rfl ?_
        exact cs_counts hL (by omega) hit iI iV hR kk
      by_cases d29 : v2.toInt = 29
      · refine x_tableIn (tgt := 1484) 29 rfl d29 (by decide) (by decide) rfl rfl ?_
        exact cs_about hL (by omega) hit iI iV hR kk
      by_cases d30 : v2.toInt = 30
      · refine x_tableIn (tgt := 1538) 30 rfl d30 (by decide) (by decide) rfl rfl ?_
        exact cs_fact hL (by omega) hit iI iV hR kk
      by_cases d31 : v2.toInt = 31
      · refine x_tableIn (tgt := 1613) 31 rfl d31 (by decide) (by decide) rfl rfl ?_
        exact cs_belong hL (by omega) hit iI iV hR kk
      by_cases d32 : v2.toInt = 32
      · refine x_tableIn (tgt := 1666) 32 rfl d32 (by decide) (by decide) rfl rfl ?_
        exact cs_order hL (by omega) hit iI iV hR kk
      by_cases d33 : v2.toInt = 33
      · refine x_tableIn (tgt := 1709) 33 rfl d33 (by decide) (by decide) rfl rfl ?_
        exact cs_appeal hL (by omega) hit iI iV hR kk
      by_cases d34 : v2.toInt = 34
      · refine x_tableIn (tgt := 1752) 34 rfl d34 (by decide) (by decide) rfl rfl ?_
        exact cs_holding hL (by omega) hit iI iV hR kk
      by_cases d35 : v2.toInt = 35
      · refine x_tableIn (tgt := 1765) 35 rfl d35 (by decide) (by decide) rfl rfl ?_
        exact cs_value hL (by omega) hit iI iV hR kk
      by_cases d36 : v2.toInt = 36
      · refine x_tableIn (tgt := 1818) 36 rfl d36 (by decide) (by decide) rfl rfl ?_
        exact cs_split hL (by omega) hit iI iV hR kk
      by_cases d37 : v2.toInt = 37
      · refine x_tableIn (tgt := 1881) 37 rfl d37 (by decide) (by decide) rfl rfl ?_
        exact cs_hold hL (by omega) hit iI iV hR kk
      by_cases d38 : v2.toInt = 38
      · refine x_tableIn (tgt := 1934) 38 rfl d38 (by decide) (by decide) rfl rfl ?_
        exact cs_house hL (by omega) hit iI iV hR kk
      by_cases d39 : v2.toInt = 39
      · refine x_tableIn (tgt := 1987) 39 rfl d39 (by decide) (by decide) rfl rfl ?_
        exact cs_levy hL (by omega) hit iI iV hR kk
      by_cases d40 : v2.toInt = 40
      · refine x_tableIn (tgt := 2040) 40 rfl d40 (by decide) (by decide) rfl rfl ?_
        exact cs_owe hL (by omega) hit iI iV hR kk
      by_cases d41 : v2.toInt = 41
      · refine x_tableIn (tgt := 2083) 41 rfl d41 (by decide) (by decide) rfl rfl ?_
        exact cs_pay hL (by omega) hit iI iV hR kk
      by_cases d42 : v2.toInt = 42
      · refine x_tableIn (tgt := 2146) 42 rfl d42 (by decide) (by decide) rfl rfl ?_
        exact cs_arrear hL (by omega) hit iI iV hR kk
      by_cases d43 : v2.toInt = 43
      · refine x_tableIn (tgt := 2199) 43 rfl d43 (by decide) (by decide) rfl rfl ?_
        exact cs_turn hL (by omega) hit iI iV hR kk
      by_cases d44 : v2.toInt = 44
      · refine x_tableIn (tgt := 2252) 44 rfl d44 (by decide) (by decide) rfl rfl ?_
        exact cs_entry hL (by omega) hit iI iV hR kk
      by_cases d45 : v2.toInt = 45
      · refine x_tableIn (tgt := 2305) 45 rfl d45 (by decide) (by decide) rfl rfl ?_
        exact cs_close hL (by omega) hit iI iV hR kk
      by_cases d46 : v2.toInt = 46
      · refine x_tableIn (tgt := 2358) 46 rfl d46 (by decide) (by decide) rfl rfl ?_
        exact cs_balance hL (by omega) hit iI iV hR kk
      by_cases d47 : v2.toInt = 47
      · refine x_tableIn (tgt := 2401) 47 rfl d47 (by decide) (by decide) rfl rfl ?_
        exact cs_beyond hL (by omega) hit iI iV hR kk
      by_cases d48 : v2.toInt = 48
      · refine x_tableIn (tgt := 2434) 48 rfl d48 (by decide) (by decide) rfl rfl ?_
        exact cs_badge hL (by omega) hit iI iV hR kk
      by_cases d49 : v2.toInt = 49
      · refine x_tableIn (tgt := 2477) 49 rfl d49 (by decide) (by decide) rfl rfl ?_
        exact cs_seat hL (by omega) hit iI iV hR kk
      by_cases d50 : v2.toInt = 50
      · refine x_tableIn (tgt := 2520) 50 rfl d50 (by decide) (by decide) rfl rfl ?_
        exact cs_fee hL (by omega) hit iI iV hR kk
      by_cases d51 : v2.toInt = 51
      · refine x_tableIn (tgt := 2554) 51 rfl d51 (by decide) (by decide) rfl rfl ?_
        exact cs_acres hL (by omega) hit iI iV hR kk
      by_cases d52 : v2.toInt = 52
      · refine x_tableIn (tgt := 2597) 52 rfl d52 (by decide) (by decide) rfl rfl ?_
        exact cs_price hL (by omega) hit iI iV hR kk
      by_cases d53 : v2.toInt = 53
      · refine x_tableIn (tgt := 2650) 53 rfl d53 (by decide) (by decide) rfl rfl ?_
        exact cs_coin hL (by omega) hit iI iV hR kk
      by_cases d54 : v2.toInt = 54
      · refine x_tableIn (tgt := 2693) 54 rfl d54 (by decide) (by decide) rfl rfl ?_
        exact cs_seal hL (by omega) hit iI iV hR kk
      by_cases d55 : v2.toInt = 55
      · refine x_tableIn (tgt := 2716) 55 rfl d55 (by decide) (by decide) rfl rfl ?_
        exact cs_alter hL (by omega) hit iI iV hR kk
      by_cases d56 : v2.toInt = 56
      · refine x_tableIn (tgt := 2749) 56 rfl d56 (by decide) (by decide) rfl rfl ?_
        exact cs_found hL (by omega) hit iI iV hR kk
      by_cases d57 : v2.toInt = 57
      · refine x_tableIn (tgt := 2772) 57 rfl d57 (by decide) (by decide) rfl rfl ?_
        exact cs_image hL (by omega) hit iI iV hR kk
      by_cases d58 : v2.toInt = 58
      · refine x_tableIn (tgt := 2795) 58 rfl d58 (by decide) (by decide) rfl rfl ?_
        exact cs_back hL (by omega) hit iI iV hR kk
      by_cases d59 : v2.toInt = 59
      · refine x_tableIn (tgt := 2818) 59 rfl d59 (by decide) (by decide) rfl rfl ?_
        exact cs_as hL (by omega) hit iI iV hR kk
      by_cases d60 : v2.toInt = 60
      · refine x_tableIn (tgt := 2851) 60 rfl d60 (by decide) (by decide) rfl rfl ?_
        exact cs_count hL (by omega) hit iI iV hR kk
      by_cases d61 : v2.toInt = 61
      · refine x_tableIn (tgt := 2874) 61 rfl d61 (by decide) (by decide) rfl rfl ?_
        exact cs_status hL (by omega) hit iI iV hR kk
      refine x_tableOut (tgt := 2887) rfl (by omega) rfl ?_
      exact law_next (it := it) (by omega) ⟨iI, pR_v iV (by omega)⟩ ⟨by omega, by have := hR.2.1; omega, by have := hR.2.2; omega⟩ kk
/-! from the start -/
theorem jto_31 : jtO.all (fun e => Nat.blt e.1 31) = true := by decide
theorem jto_ck {L : Nat} {xs : Nat → Int32} : jtO.map (fun q => jsh (jhZ L xs) q.1) = jtO.map (fun q => q.2) := rfl
theorem ol_o {L : Nat} {xs : Nat → Int32} {h : jH} (O : jOlZ L xs h) : ∀ a s, jtO.lookup a = some s → jsh h a = s := fun a s q => by
  have ha : a < 31 := Nat.blt_eq.mp (List.all_eq_true.mp jto_31 (a, s) (jlk_mem q))
  exact (O a ha).1.trans (jall_map (jto_ck (L := L) (xs := xs)) a s q)
theorem jh0_ne {L : Nat} {xs : Nat → Int32} {a k : Nat} (h : a ≠ 0) : jiv (jhZ L xs) a k = jiv (jhZ 0 (fun _ => 0)) a k := by
  show (if a = 0 then xs k else _) = (if a = 0 then _ else _)
  rw [if_neg h, if_neg h]
def jck1 (s : jSg) : Bool := if s.1 < 31 then Nat.ble 1 s.1 && (List.range s.2.2.1).all (fun k => decide (s.2.2.2.2.2.2.1 ≤ (jiv (jhZ 0 (fun _ => 0)) s.1 k).toInt) && decide ((jiv (jhZ 0 (fun _ => 0)) s.1 k).toInt ≤ s.2.2.2.2.2.2.2)) else true
theorem jck1_x : jSgX.all jck1 = true := by decide +kernel
theorem ol_st {L : Nat} {xs : Nat → Int32} {h : jH} (O : jOlZ L xs h) : ∀ s ∈ jSgX, s.1 < 31 → ∀ k, jin s k → s.2.2.2.2.2.2.1 ≤ (jiv h s.1 k).toInt ∧ (jiv h s.1 k).toInt ≤ s.2.2.2.2.2.2.2 := fun s hs h31 k hk => by
  have q := List.all_eq_true.mp jck1_x s hs
  unfold jck1 at q
  rw [if_pos h31, Bool.and_eq_true] at q
  have a1 := Nat.ble_eq.mp q.1
  have q2 := List.all_eq_true.mp q.2 k (List.mem_range.mpr hk.2.1)
  rw [Bool.and_eq_true] at q2
  rw [(O s.1 h31).2 k, jh0_ne (by omega)]
  exact ⟨of_decide_eq_true q2.1, of_decide_eq_true q2.2⟩
theorem law_all {L : Nat} {xs : Nat → Int32} {Q : Option Value → jH → Prop} (hL : L ≤ 3584) (hQ : ∀ h, Q (some (.int 1)) h) : jX m_L_law 1300 600000 7302250 0 [(0, .ref 0)] [] (jhZ L xs) 0 0 Q :=
  law_startZ (fun h F O => by
    have i0 := li_0 F (ol_o O) (ol_st O) ((O 0 (by decide)).1.trans rfl) (fun k => ((O 0 (by decide)).2 k).trans rfl)
    exact law_loop hL hQ 4000 0 0 h 143 360892 (by decide) (by decide) (by decide) ⟨⟨i0.1, st_0 (s0_F F O)⟩, i0.2⟩)
