/-! image and back of the reference: the row is copied -/
def jpi (a : Nat) : Bool := Nat.beq a 127
def jpb (a : Nat) : Bool := Nat.beq a 126
theorem jpi_hi : ∀ b, 174 ≤ b → jpi b = false := fun b hb => jbne (a := b) (b := 127) (by omega)
theorem jpb_hi : ∀ b, 174 ≤ b → jpb b = false := fun b hb => jbne (a := b) (b := 126) (by omega)
def jIm (h1 h : jH) (x : Int32) (n : Int) : Prop := (∀ j : Nat, (j : Int) < n → jiv h 127 (50660 * x.toNatClampNeg + j) = jiv h1 126 j) ∧ ∀ i : Nat, (i < 50660 * x.toNatClampNeg ∨ 50660 * x.toNatClampNeg + 50660 ≤ i) → jiv h 127 i = jiv h1 127 i
theorem jIm_0 {h : jH} {x l : Int32} (e : l.toInt = 0) : jIm h h x l.toInt := ⟨fun j hj => by omega, fun _ _ => rfl⟩
theorem jIm_s {h1 h hx9 : jH} {x l i y v : Int32} (T : jIm h1 h x l.toInt) (hx : 0 ≤ x.toInt) (hl : 0 ≤ l.toInt ∧ l.toInt < 50660) (hi : i.toInt = 50660 * x.toInt + l.toInt) (e : ∀ j, jiv h 126 j = jiv h1 126 j) (q : jiv h 126 l.toNatClampNeg = y) (w : hx9 = jsi h 127 i.toNatClampNeg y) (ev : v.toInt = l.toInt + 1) : jIm h1 hx9 x v.toInt := by
  have a := jcl_of hx
  have b := jcl_of hl.1
  have c := jcl_of (d := i) (by omega)
  refine ⟨fun j hj => ?_, fun j hj => ?_⟩
  · by_cases z : j = l.toNatClampNeg
    · rw [z, show 50660 * x.toNatClampNeg + l.toNatClampNeg = i.toNatClampNeg from by omega, jmw w, ← q, e]
    · exact jmo w (by rw [jbne (a := 50660 * x.toNatClampNeg + j) (b := i.toNatClampNeg) (by omega), Bool.and_false]) (T.1 j (by omega))
  · exact jmo w (by rw [jbne (a := j) (b := i.toNatClampNeg) (by omega), Bool.and_false]) (T.2 j hj)
def jRw (f : Nat → Int32) : Prop := (∀ s ∈ jSgM, s.1 = 126 → ∀ j, jin s j → s.2.2.2.2.2.2.1 ≤ (f j).toInt ∧ (f j).toInt ≤ s.2.2.2.2.2.2.2) ∧ (f 16).toInt = (f 0).toInt + (f 4).toInt + (f 5).toInt + (f 7).toInt ∧ (f 9).toInt ≤ (f 7).toInt
def jRr (h : jH) : Prop := (jiv h 126 (16 : Int32).toNatClampNeg).toInt = (jiv h 126 (0 : Int32).toNatClampNeg).toInt + (jiv h 126 (4 : Int32).toNatClampNeg).toInt + (jiv h 126 (5 : Int32).toNatClampNeg).toInt + (jiv h 126 (7 : Int32).toNatClampNeg).toInt ∧ (jiv h 126 (9 : Int32).toNatClampNeg).toInt ≤ (jiv h 126 (7 : Int32).toNatClampNeg).toInt
theorem jRr_of {h : jH} (a : (jiv h 126 16).toInt = (jiv h 126 0).toInt + (jiv h 126 4).toInt + (jiv h 126 5).toInt + (jiv h 126 7).toInt) (b : (jiv h 126 9).toInt ≤ (jiv h 126 7).toInt) : jRr h := by
  unfold jRr
  rw [show (16 : Int32).toNatClampNeg = 16 from by decide, show (0 : Int32).toNatClampNeg = 0 from by decide, show (4 : Int32).toNatClampNeg = 4 from by decide, show (5 : Int32).toNatClampNeg = 5 from by decide, show (7 : Int32).toNatClampNeg = 7 from by decide, show (9 : Int32).toNatClampNeg = 9 from by decide]
  exact ⟨a, b⟩
/-- what Dy must bear: an image is the row; what it must say: an image could be the row -/
def jDi (Dy : jH → Prop) : Prop := ∀ (h hx9 : jH) (x : Int32), 0 ≤ x.toInt ∧ x.toInt ≤ 3 → jRg jSgM h → jRr h → Dy h → jWk jpi h hx9 → jIm h hx9 x 50660 → Dy hx9
def jDb (Dy : jH → Prop) : Prop := ∀ h, Dy h → ∀ k, k < 4 → jRw (fun i => jiv h 127 (50660 * k + i))
set_option maxRecDepth 100000 in
set_option maxHeartbeats 4000000 in
theorem im_25 {h0 h1 : jH} {Q : Option Value → jH → Prop} {FP : jFp} {l1 : Int32} (hf : FP.contains (127, 0, 202640) = true) (hl : 0 ≤ l1.toInt ∧ l1.toInt ≤ 3) (hK : ∀ (l2 : Int32) (h : jH), jIm h1 h l1 50660 → jJ jSgM (jWk jpi h1) h → jSm FP h0 h → jX m_X12_image 2 0 0 54 [(0, .ref 125), (1, .int l1), (2, .int l2)] [] h 0 0 Q) : ∀ r : Nat, ∀ (l2 : Int32) (h : jH), 50660 - l2.toInt < (r : Int) → 0 ≤ l2.toInt ∧ l2.toInt ≤ 50660 → jIm h1 h l1 l2.toInt → jJ jSgM (jWk jpi h1) h → jSm FP h0 h → jX m_X12_image 2 0 0 25 [(0, .ref 125), (1, .int l1), (2, .int l2)] [] h 0 0 Q := by
  intro r
  induction r with
  | zero =>
    intro l2 h hm y1 T J Sm
    exfalso
    omega
  | succ r ih =>
    intro l2 h hm y1 T J Sm
    refine x_iloadn (x := l2) rfl rfl ?_
    refine x_ldc (v := 50660) rfl z_12_7 ?_
    refine x_icge (tgt := 54) rfl rfl (ti_ge rfl jk_50660 ⟨fun c1 => ?_, fun c1 => ?_⟩)
    ·
      exact hK l2 h (by rw [show (50660 : Int) = l2.toInt from by omega]; exact T) J Sm
    ·
      refine x_aloadn (x := 125) rfl rfl ?_
      refine z_getR (N := 92) (b := 127) 12 3 rfl f_12_15 rfl J rfl 16003 ⟨rfl, rfl⟩ rfl ?_
      refine x_ldc (v := 50660) rfl z_12_7 ?_
      refine x_iloadn (x := l1) rfl rfl ?_
      refine z_imul rfl jk_50660 rfl (by omega) (fun v2 ev2 => ?_)
      refine x_iloadn (x := l2) rfl rfl ?_
      refine z_iadd rfl rfl rfl (by omega) (fun v3 ev3 => ?_)
      refine x_aloadn (x := 125) rfl rfl ?_
      refine z_getR (N := 92) (b := 126) 12 2 rfl f_12_8 rfl J rfl 16002 ⟨rfl, rfl⟩ rfl ?_
      refine x_iloadn (x := l2) rfl rfl ?_
      refine z_iald0 (N := 50660) rfl J rfl rfl (by omega) (fun v4 qv4 => ?_)
      have e := fun j => J.2.2.2.2.2.1 126 j rfl
      refine zw_iast (N := 202640) (l := 0) (u := 202640) (w := v4.toInt) rfl jWk_d J Sm rfl rfl rfl rfl (by omega) rfl (wr_127) hf (fun h w5 J Sm => ?_)
      refine z_iinc (x := l2) (lsx9 := fun v6 => [(2, .int v6), (0, .ref 125), (1, .int l1)]) rfl rfl rfl jko_1 (by omega) rfl (fun _ => rfl) (fun v6 ev6 => ?_)
      refine x_goto (tgt := 25) rfl rfl ?_
      exact jX.sub (jsb_c rfl (jsb_c rfl (jsb_c rfl jsb_n))) (ih v6 h (by omega) (jr_of rfl (by omega)) (jIm_s (l := l2) T hl.1 (by omega) (by omega) e qv4 w5 ev6) J Sm)
theorem im_loop {Dy : jH → Prop} {h0 h : jH} {Q : Option Value → jH → Prop} {FP : jFp} {l1 l2 : Int32} (hI : jDi Dy) (hR : jRr h) (J : jJ jSgM Dy h) (Sm : jSm FP h0 h) (hf : jfs [(127, 0, 202640)] FP = true) (hl : 0 ≤ l1.toInt ∧ l1.toInt ≤ 3) (h2 : l2.toInt = 0) (hK : ∀ (v : Int32) hx9, jJ jSgM Dy hx9 → jSm FP h0 hx9 → jSm [(127, 0, 202640)] h hx9 → jX m_X12_image 2 0 0 54 [(0, .ref 125), (1, .int l1), (2, .int v)] [] hx9 0 0 Q) : jX m_X12_image 2 0 0 25 [(0, .ref 125), (1, .int l1), (2, .int l2)] [] h 0 0 Q :=
  im_25 (h1 := h) (h0 := h) (FP := [(127, 0, 202640)]) rfl hl (fun v hx9 T J' S' => hK v hx9 ⟨J'.1, J'.2.1, hI h hx9 l1 hl J.2.1 hR J.2.2 J'.2.2 T⟩ (jSm_tr hf Sm S') S') 50661 l2 h (by omega) (by omega) (jIm_0 h2) (jWk_in J) (jSm_rf _ h)
def jBm (h1 h : jH) (x : Int32) (n : Int) : Prop := ∀ j : Nat, (j : Int) < n → jiv h 126 j = jiv h1 127 (50660 * x.toNatClampNeg + j)
theorem jBm_s {h1 h hx9 : jH} {x l i y v : Int32} (T : jBm h1 h x l.toInt) (hx : 0 ≤ x.toInt) (hl : 0 ≤ l.toInt) (hi : i.toInt = 50660 * x.toInt + l.toInt) (e : ∀ j, jiv h 127 j = jiv h1 127 j) (q : jiv h 127 i.toNatClampNeg = y) (w : hx9 = jsi h 126 l.toNatClampNeg y) (ev : v.toInt = l.toInt + 1) : jBm h1 hx9 x v.toInt := by
  have a := jcl_of hx
  have b := jcl_of hl
  have c := jcl_of (d := i) (by omega)
  intro j hj
  by_cases z : j = l.toNatClampNeg
  · rw [z, show 50660 * x.toNatClampNeg + l.toNatClampNeg = i.toNatClampNeg from by omega, jmw w, ← q, e]
  · exact jmo w (by rw [jbne z, Bool.and_false]) (T j (by omega))
theorem bk_wr {h1 h : jH} {x l i y : Int32} (R : jRw (fun i => jiv h1 127 (50660 * x.toNatClampNeg + i))) (hx : 0 ≤ x.toInt) (hl : 0 ≤ l.toInt) (hi : i.toInt = 50660 * x.toInt + l.toInt) (e : ∀ j, jiv h 127 j = jiv h1 127 j) (q : jiv h 127 i.toNatClampNeg = y) : jwr jSgM 126 l.toInt y.toInt := by
  have a := jcl_of hx
  have b := jcl_of hl
  have c := jcl_of (d := i) (by omega)
  intro s hs ha c1 c2 c3 c4
  have e2 : ((l.toNatClampNeg - s.2.1 : Nat) : Int) = l.toInt - s.2.1 := by omega
  have e3 : (((l.toNatClampNeg - s.2.1) % s.2.2.2.1 : Nat) : Int) = (l.toInt - s.2.1) % s.2.2.2.1 := by rw [Int.natCast_emod, e2]
  have r := R.1 s hs ha l.toNatClampNeg ⟨by omega, by omega, Int.ofNat_le.mp (by rw [e3]; exact c3), Int.ofNat_lt.mp (by rw [e3]; exact c4)⟩
  have g : jiv h1 127 (50660 * x.toNatClampNeg + l.toNatClampNeg) = y := by rw [show 50660 * x.toNatClampNeg + l.toNatClampNeg = i.toNatClampNeg from by omega, ← e, q]
  simp only [g] at r
  exact r
set_option maxRecDepth 100000 in
set_option maxHeartbeats 4000000 in
theorem bk_41 {h0 h1 : jH} {Q : Option Value → jH → Prop} {FP : jFp} {l1 : Int32} (hf : FP.contains (126, 0, 50660) = true) (hl : 0 ≤ l1.toInt ∧ l1.toInt ≤ 3) (R : jRw (fun i => jiv h1 127 (50660 * l1.toNatClampNeg + i))) (hK : ∀ (l2 : Int32) (h : jH), jBm h1 h l1 50660 → jJ jSgM (jWk jpb h1) h → jSm FP h0 h → jX m_X12_back 2 0 0 70 [(0, .ref 125), (1, .int l1), (2, .int l2)] [] h 0 0 Q) : ∀ r : Nat, ∀ (l2 : Int32) (h : jH), 50660 - l2.toInt < (r : Int) → 0 ≤ l2.toInt ∧ l2.toInt ≤ 50660 → jBm h1 h l1 l2.toInt → jJ jSgM (jWk jpb h1) h → jSm FP h0 h → jX m_X12_back 2 0 0 41 [(0, .ref 125), (1, .int l1), (2, .int l2)] [] h 0 0 Q := by
  intro r
  induction r with
  | zero =>
    intro l2 h hm y1 T J Sm
    exfalso
    omega
  | succ r ih =>
    intro l2 h hm y1 T J Sm
    refine x_iloadn (x := l2) rfl rfl ?_
    refine x_ldc (v := 50660) rfl z_12_7 ?_
    refine x_icge (tgt := 70) rfl rfl (ti_ge rfl jk_50660 ⟨fun c1 => ?_, fun c1 => ?_⟩)
    ·
      exact hK l2 h (by rw [show (50660 : Int) = l2.toInt from by omega]; exact T) J Sm
    ·
      refine x_aloadn (x := 125) rfl rfl ?_
      refine z_getR (N := 92) (b := 126) 12 2 rfl f_12_8 rfl J rfl 16002 ⟨rfl, rfl⟩ rfl ?_
      refine x_iloadn (x := l2) rfl rfl ?_
      refine x_aloadn (x := 125) rfl rfl ?_
      refine z_getR (N := 92) (b := 127) 12 3 rfl f_12_15 rfl J rfl 16003 ⟨rfl, rfl⟩ rfl ?_
      refine x_ldc (v := 50660) rfl z_12_7 ?_
      refine x_iloadn (x := l1) rfl rfl ?_
      refine z_imul rfl jk_50660 rfl (by omega) (fun v2 ev2 => ?_)
      refine x_iloadn (x := l2) rfl rfl ?_
      refine z_iadd rfl rfl rfl (by omega) (fun v3 ev3 => ?_)
      refine z_iald0 (N := 202640) rfl J rfl rfl (by omega) (fun v4 qv4 => ?_)
      have e := fun j => J.2.2.2.2.2.1 127 j rfl
      refine zw_iast (N := 50660) (l := 0) (u := 50660) (w := v4.toInt) rfl jWk_d J Sm rfl rfl rfl rfl (by omega) rfl (bk_wr R hl.1 (by omega) (by omega) e qv4) hf (fun h w5 J Sm => ?_)
      refine z_iinc (x := l2) (lsx9 := fun v6 => [(2, .int v6), (0, .ref 125), (1, .int l1)]) rfl rfl rfl jko_1 (by omega) rfl (fun _ => rfl) (fun v6 ev6 => ?_)
      refine x_goto (tgt := 41) rfl rfl ?_
      exact jX.sub (jsb_c rfl (jsb_c rfl (jsb_c rfl jsb_n))) (ih v6 h (by omega) (jr_of rfl (by omega)) (jBm_s (l := l2) T hl.1 (by omega) (by omega) e qv4 w5 ev6) J Sm)
theorem jBm_B {h1 h : jH} {x : Int32} (B : jB h1) (R : jRw (fun i => jiv h1 127 (50660 * x.toNatClampNeg + i))) (hx : 0 ≤ x.toInt ∧ x.toInt ≤ 3) (W : jWk jpb h1 h) (T : jBm h1 h x 50660) : jB h := by
  obtain ⟨b1, b2, b3, b4, b5, b6, b7⟩ := B
  have e7 : jiv h 127 = jiv h1 127 := funext fun i => W.2.2.2.1 127 i rfl
  have a := jcl_of hx.1
  have k4 : x.toNatClampNeg < 4 := by omega
  refine ⟨by rw [W.1]; exact b1, fun t c ht q => jWk_tx jpb_hi W (b2 t c ht (by rw [← W.2.2.1]; exact q)), jWv_c (fun i i1 i2 => (T i (by omega)).symm) (b4 _ k4), by rw [e7]; exact b4, fun s p hs hp q => ?_, fun k k4o hk => ?_, by rw [e7]; exact b7⟩
  · rw [W.2.2.2.1 132 s rfl] at q
    rw [W.2.2.2.1 133 _ rfl]
    exact b5 s p hs hp q
  · have r9 := R.1 _ sg_126_9_10_1_0_1 rfl 9 ⟨Nat.le_refl _, Nat.lt_succ_self _, Nat.zero_le _, by decide⟩
    rw [T 9 (by omega)] at hk
    have k40 : (k : Int) < 40 := by simp only at r9; omega
    rw [T (47660 + 6 * k + 3) (by omega)]
    exact b7 _ k4 k k4o hk
theorem bk_loop {Dy : jH → Prop} {h0 h : jH} {Q : Option Value → jH → Prop} {FP : jFp} {l1 l2 : Int32} (hD : jDk Dy) (hB : jDb Dy) (J : jJ jSgM Dy h) (Sm : jSm FP h0 h) (hf : jfs [(126, 0, 50660)] FP = true) (hl : 0 ≤ l1.toInt ∧ l1.toInt ≤ 3) (h2 : l2.toInt = 0) (hK : ∀ (v : Int32) hx9, jJ jSgM Dy hx9 → jSm FP h0 hx9 → jSm [(126, 0, 50660)] h hx9 → jRr hx9 → jX m_X12_back 2 0 0 70 [(0, .ref 125), (1, .int l1), (2, .int v)] [] hx9 0 0 Q) : jX m_X12_back 2 0 0 41 [(0, .ref 125), (1, .int l1), (2, .int l2)] [] h 0 0 Q := by
  have a := jcl_of hl.1
  have R := hB h J.2.2 l1.toNatClampNeg (by omega)
  refine bk_41 (h1 := h) (h0 := h) (FP := [(126, 0, 50660)]) rfl hl R (fun v hx9 T J' S' => ?_) 50661 l2 h (by omega) (by omega) (fun j hj => by omega) (jWk_in J) (jSm_rf _ h)
  have B := jBm_B (hD.2.2.2.1 h J.2.2) R hl J'.2.2 T
  refine hK v hx9 (jWk_back hD J jpb_hi rfl J' B) (jSm_tr hf Sm S') S' (jRr_of ?_ ?_)
  · have r := R.2.1
    simp only at r
    rw [T 16 (by omega), T 0 (by omega), T 4 (by omega), T 5 (by omega), T 7 (by omega)]
    exact r
  · have r := R.2.2
    simp only at r
    rw [T 9 (by omega), T 7 (by omega)]
    exact r
