/-! what a call writes, exactly: a cell as a function of its places -/
def jov (f : Nat → Int32) (k : Nat) (v : Int32) : Nat → Int32 := fun j => if j = k then v else f j
theorem ov_p {f : Nat → Int32} {k j : Nat} {v : Int32} (e : j = k) : jov f k v j = v := if_pos e
theorem ov_q {f : Nat → Int32} {k j : Nat} {v : Int32} (e : j ≠ k) : jov f k v j = f j := if_neg e
theorem ov_w {h hx9 : jH} {a k : Nat} {x : Int32} {f : Nat → Int32} (w : hx9 = jsi h a k x) (E : jiv h a = f) : jiv hx9 a = jov f k x := by
  funext j
  by_cases e : j = k
  · rw [ov_p e, e]
    exact jmw w
  · rw [ov_q e, ← E]
    exact jmo w (by rw [jbne e, Bool.and_false]) rfl
theorem ov_o {h hx9 : jH} {a b k : Nat} {x : Int32} {f : Nat → Int32} (w : hx9 = jsi h b k x) (e : Nat.beq a b = false) (E : jiv h a = f) : jiv hx9 a = f := by
  rw [← E]
  funext j
  exact jmo w (by rw [e]; rfl) rfl
theorem ov_c {F : jFp} {h hx9 : jH} {a : Nat} {f : Nat → Int32} (S : jSm F h hx9) (e : (Nat.blt a 174 && (F.all fun q => !Nat.beq q.1 a)) = true) (E : jiv h a = f) : jiv hx9 a = f := by
  rw [← E]
  funext j
  exact jeq_c (P := fun _ => True) S e jeq_0 j trivial
theorem ov_l {h hx9 : jH} {a b k : Nat} {x : Int64} {f : Nat → Int32} (w : hx9 = jsl h b k x) (E : jiv h a = f) : jiv hx9 a = f := by
  rw [← E]
  funext j
  exact jml w rfl
theorem ov_r {h hx9 : jH} {a k : Nat} {o : Option Nat} {f : Nat → Int32} (w : hx9 = jsr h 66 k o) (E : jiv h a = f) : jiv hx9 a = f := by
  rw [← E]
  funext j
  exact jmr w rfl
theorem ov_k {h hx9 : jH} {a b c i j l : Nat} {f : Nat → Int32} (w : hx9 = jci h b c i j l) (e : Nat.beq a c = false) (E : jiv h a = f) : jiv hx9 a = f := by
  rw [← E]
  funext j
  exact jmk w e rfl
theorem ov_e {h h0 : jH} {a : Nat} (e : h = h0) : jiv h a = jiv h0 a := by rw [e]
theorem ov_e1 {h h0 : jH} {a b k : Nat} {x : Int32} (C : h = jsi h0 b k x) (e : Nat.beq a b = false) : jiv h a = jiv h0 a := ov_o C e rfl
theorem ov_n {h : jH} {a n : Nat} {i u : Int32} (e : i.toNatClampNeg = n) (q : jiv h a i.toNatClampNeg = u) : (jiv h a n).toInt = u.toInt := by rw [← e, q]
theorem jix {i : Int32} {m : Int} (h0 : 0 ≤ i.toInt) (e : i.toInt = m) : ((i.toNatClampNeg : Nat) : Int) = m := by rw [← e]; exact (jcl_of h0).symm
theorem ac_1 {f g : Nat → Int32} {i a1 a2 v : Int32} (E : g = jov f i.toNatClampNeg v) (h1 : 0 ≤ a1.toInt) (h2 : 0 ≤ a2.toInt) (h3 : 0 ≤ i.toInt) (e : i.toInt = 3 * a1.toInt + a2.toInt) : g = jov f (3 * a1.toNatClampNeg + a2.toNatClampNeg) v := by
  have b1 := jcl_of h1
  have b2 := jcl_of h2
  have b3 := jcl_of h3
  rw [E, show i.toNatClampNeg = 3 * a1.toNatClampNeg + a2.toNatClampNeg from by omega]
/-- a block of numbers at u -/
def jwb (f : Nat → Int32) (u : Nat) (vs : List Int32) : Nat → Int32 := fun j => if u ≤ j ∧ j < u + vs.length then vs.getD (j - u) 0 else f j
theorem wb_q {f : Nat → Int32} {u j : Nat} {vs : List Int32} (e : j < u ∨ u + vs.length ≤ j) : jwb f u vs j = f j := if_neg (by omega)
theorem wb_p {f : Nat → Int32} {u c : Nat} {vs : List Int32} (e : c < vs.length) : jwb f u vs (u + c) = vs.getD c 0 := by
  show (if u ≤ u + c ∧ u + c < u + vs.length then vs.getD (u + c - u) 0 else f (u + c)) = vs.getD c 0
  rw [if_pos (by omega), Nat.add_sub_cancel_left]
/-- a table of the class: as it was; a row more -/
def jTe (C : Nat) (h0 h : jH) : Prop := jiv h C 3 = jiv h0 C 3 ∧ jiv h (C + 1) = jiv h0 (C + 1)
def jTwr (C w : Nat) (vs : List Int32) (h0 h : jH) : Prop := (jiv h C 3).toInt = (jiv h0 C 3).toInt + 1 ∧ jiv h (C + 1) = jwb (jiv h0 (C + 1)) (w * (jiv h0 C 3).toNatClampNeg) vs
/-- the reference's row: a block more, and its counter -/
def jMw (N B W : Nat) (vs : List Int32) (h0 h : jH) : Prop := (jiv h 126 N).toInt = (jiv h0 126 N).toInt + 1 ∧ ∀ j, j ≠ N → jiv h 126 j = jwb (jiv h0 126) (B + W * (jiv h0 126 N).toNatClampNeg) vs j
theorem wb_4 {f : Nat → Int32} {k0 k1 k2 k3 u : Nat} {v0 v1 v2 v3 : Int32} (i0 : k0 = u + 0) (i1 : k1 = u + 1) (i2 : k2 = u + 2) (i3 : k3 = u + 3) : (jov (jov (jov (jov f k0 v0) k1 v1) k2 v2) k3 v3) = jwb f u [v0, v1, v2, v3] := by
  funext j
  by_cases c3 : j = k3
  · rw [ov_p c3, show j = u + 3 from by omega, wb_p (by show 3 < 4; decide)]
    rfl
  rw [ov_q c3]
  by_cases c2 : j = k2
  · rw [ov_p c2, show j = u + 2 from by omega, wb_p (by show 2 < 4; decide)]
    rfl
  rw [ov_q c2]
  by_cases c1 : j = k1
  · rw [ov_p c1, show j = u + 1 from by omega, wb_p (by show 1 < 4; decide)]
    rfl
  rw [ov_q c1]
  by_cases c0 : j = k0
  · rw [ov_p c0, show j = u + 0 from by omega, wb_p (by show 0 < 4; decide)]
    rfl
  rw [ov_q c0]
  rw [wb_q (by show j < u ∨ u + 4 ≤ j; omega)]
theorem tw_4 {h h0 : jH} {C w : Nat} {k0 k1 k2 k3 : Nat} {v0 v1 v2 v3 x y : Int32} (e1 : jiv h C 3 = y) (e0 : jiv h0 C 3 = x) (x0 : 0 ≤ x.toInt) (hy : y.toInt = x.toInt + 1) (E : jiv h (C + 1) = (jov (jov (jov (jov (jiv h0 (C + 1)) k0 v0) k1 v1) k2 v2) k3 v3)) (i0 : ((k0 : Nat) : Int) = (w : Int) * x.toInt + 0) (i1 : ((k1 : Nat) : Int) = (w : Int) * x.toInt + 1) (i2 : ((k2 : Nat) : Int) = (w : Int) * x.toInt + 2) (i3 : ((k3 : Nat) : Int) = (w : Int) * x.toInt + 3) : jTwr C w [v0, v1, v2, v3] h0 h := by
  have b := jcl_of x0
  refine ⟨by rw [e1, e0]; exact hy, ?_⟩
  rw [E, e0]
  have m : ((w * x.toNatClampNeg : Nat) : Int) = (w : Int) * x.toInt := by rw [Int.natCast_mul, ← b]
  exact wb_4 (by omega) (by omega) (by omega) (by omega)
theorem mw_4 {h h0 : jH} {N B W : Nat} {k0 k1 k2 k3 kN : Nat} {v0 v1 v2 v3 x y : Int32} (zx : (jiv h0 126 N).toInt = x.toInt) (x0 : 0 ≤ x.toInt) (hy : y.toInt = x.toInt + 1) (E : jiv h 126 = jov (jov (jov (jov (jov (jiv h0 126) k0 v0) k1 v1) k2 v2) k3 v3) kN y) (eN : kN = N) (i0 : ((k0 : Nat) : Int) = (B : Int) + (W : Int) * x.toInt + 0) (i1 : ((k1 : Nat) : Int) = (B : Int) + (W : Int) * x.toInt + 1) (i2 : ((k2 : Nat) : Int) = (B : Int) + (W : Int) * x.toInt + 2) (i3 : ((k3 : Nat) : Int) = (B : Int) + (W : Int) * x.toInt + 3) : jMw N B W [v0, v1, v2, v3] h0 h := by
  have b := jcl_of (d := jiv h0 126 N) (by omega)
  refine ⟨by rw [E, ov_p eN.symm, zx]; exact hy, fun j hj => ?_⟩
  rw [E, ov_q (fun z => hj (z.trans eN))]
  have m : ((B + W * (jiv h0 126 N).toNatClampNeg : Nat) : Int) = (B : Int) + (W : Int) * x.toInt := by rw [Int.natCast_add, Int.natCast_mul, ← b, zx]
  exact congrFun (wb_4 (by omega) (by omega) (by omega) (by omega)) j
theorem wb_5 {f : Nat → Int32} {k0 k1 k2 k3 k4 u : Nat} {v0 v1 v2 v3 v4 : Int32} (i0 : k0 = u + 0) (i1 : k1 = u + 1) (i2 : k2 = u + 2) (i3 : k3 = u + 3) (i4 : k4 = u + 4) : (jov (jov (jov (jov (jov f k0 v0) k1 v1) k2 v2) k3 v3) k4 v4) = jwb f u [v0, v1, v2, v3, v4] := by
  funext j
  by_cases c4 : j = k4
  · rw [ov_p c4, show j = u + 4 from by omega, wb_p (by show 4 < 5; decide)]
    rfl
  rw [ov_q c4]
  by_cases c3 : j = k3
  · rw [ov_p c3, show j = u + 3 from by omega, wb_p (by show 3 < 5; decide)]
    rfl
  rw [ov_q c3]
  by_cases c2 : j = k2
  · rw [ov_p c2, show j = u + 2 from by omega, wb_p (by show 2 < 5; decide)]
    rfl
  rw [ov_q c2]
  by_cases c1 : j = k1
  · rw [ov_p c1, show j = u + 1 from by omega, wb_p (by show 1 < 5; decide)]
    rfl
  rw [ov_q c1]
  by_cases c0 : j = k0
  · rw [ov_p c0, show j = u + 0 from by omega, wb_p (by show 0 < 5; decide)]
    rfl
  rw [ov_q c0]
  rw [wb_q (by show j < u ∨ u + 5 ≤ j; omega)]
theorem tw_5 {h h0 : jH} {C w : Nat} {k0 k1 k2 k3 k4 : Nat} {v0 v1 v2 v3 v4 x y : Int32} (e1 : jiv h C 3 = y) (e0 : jiv h0 C 3 = x) (x0 : 0 ≤ x.toInt) (hy : y.toInt = x.toInt + 1) (E : jiv h (C + 1) = (jov (jov (jov (jov (jov (jiv h0 (C + 1)) k0 v0) k1 v1) k2 v2) k3 v3) k4 v4)) (i0 : ((k0 : Nat) : Int) = (w : Int) * x.toInt + 0) (i1 : ((k1 : Nat) : Int) = (w : Int) * x.toInt + 1) (i2 : ((k2 : Nat) : Int) = (w : Int) * x.toInt + 2) (i3 : ((k3 : Nat) : Int) = (w : Int) * x.toInt + 3) (i4 : ((k4 : Nat) : Int) = (w : Int) * x.toInt + 4) : jTwr C w [v0, v1, v2, v3, v4] h0 h := by
  have b := jcl_of x0
  refine ⟨by rw [e1, e0]; exact hy, ?_⟩
  rw [E, e0]
  have m : ((w * x.toNatClampNeg : Nat) : Int) = (w : Int) * x.toInt := by rw [Int.natCast_mul, ← b]
  exact wb_5 (by omega) (by omega) (by omega) (by omega) (by omega)
theorem mw_5 {h h0 : jH} {N B W : Nat} {k0 k1 k2 k3 k4 kN : Nat} {v0 v1 v2 v3 v4 x y : Int32} (zx : (jiv h0 126 N).toInt = x.toInt) (x0 : 0 ≤ x.toInt) (hy : y.toInt = x.toInt + 1) (E : jiv h 126 = jov (jov (jov (jov (jov (jov (jiv h0 126) k0 v0) k1 v1) k2 v2) k3 v3) k4 v4) kN y) (eN : kN = N) (i0 : ((k0 : Nat) : Int) = (B : Int) + (W : Int) * x.toInt + 0) (i1 : ((k1 : Nat) : Int) = (B : Int) + (W : Int) * x.toInt + 1) (i2 : ((k2 : Nat) : Int) = (B : Int) + (W : Int) * x.toInt + 2) (i3 : ((k3 : Nat) : Int) = (B : Int) + (W : Int) * x.toInt + 3) (i4 : ((k4 : Nat) : Int) = (B : Int) + (W : Int) * x.toInt + 4) : jMw N B W [v0, v1, v2, v3, v4] h0 h := by
  have b := jcl_of (d := jiv h0 126 N) (by omega)
  refine ⟨by rw [E, ov_p eN.symm, zx]; exact hy, fun j hj => ?_⟩
  rw [E, ov_q (fun z => hj (z.trans eN))]
  have m : ((B + W * (jiv h0 126 N).toNatClampNeg : Nat) : Int) = (B : Int) + (W : Int) * x.toInt := by rw [Int.natCast_add, Int.natCast_mul, ← b, zx]
  exact congrFun (wb_5 (by omega) (by omega) (by omega) (by omega) (by omega)) j
/-- a write within a footprint -/
theorem sm_w {F : jFp} {h0 h hx9 : jH} {a k : Nat} {x : Int32} (S : jSm F h0 h) (w : hx9 = jsi h a k x) (e : jfo F a k = true) : jSm F h0 hx9 := by
  subst w
  refine ⟨S.1, fun b hb => S.2.1 b hb, fun b j hb g => ?_⟩
  have s := S.2.2 b j hb g
  refine ⟨(iv_si ?_ rfl).trans s.1, s.2.1, s.2.2⟩
  cases z : (Nat.beq b a && Nat.beq j k)
  · rfl
  · rw [Bool.and_eq_true] at z
    have e1 := Nat.eq_of_beq_eq_true z.1
    have e2 := Nat.eq_of_beq_eq_true z.2
    subst e1
    subst e2
    rw [e] at g
    cases g
/-- image and back of the reference: the row, exactly -/
theorem im_loopP {Dy : jH → Prop} {h0 h : jH} {Q : Option Value → jH → Prop} {FP : jFp} {l1 l2 : Int32} (hI : jDi Dy) (hR : jRr h) (J : jJ jSgM Dy h) (Sm : jSm FP h0 h) (hf : jfs [(127, 0, 202640)] FP = true) (hl : 0 ≤ l1.toInt ∧ l1.toInt ≤ 3) (h2 : l2.toInt = 0) (hK : ∀ (v : Int32) hx9, jJ jSgM Dy hx9 → jSm FP h0 hx9 → jSm [(127, 0, 202640)] h hx9 → jIm h hx9 l1 50660 → jX m_X12_image 2 0 0 54 [(0, .ref 125), (1, .int l1), (2, .int v)] [] hx9 0 0 Q) : jX m_X12_image 2 0 0 25 [(0, .ref 125), (1, .int l1), (2, .int l2)] [] h 0 0 Q :=
  im_25 (h1 := h) (h0 := h) (FP := [(127, 0, 202640)]) rfl hl (fun v hx9 T J' S' => hK v hx9 ⟨J'.1, J'.2.1, hI h hx9 l1 hl J.2.1 hR J.2.2 J'.2.2 T⟩ (jSm_tr hf Sm S') S' T) 50661 l2 h (by omega) (by omega) (jIm_0 h2) (jWk_in J) (jSm_rf _ h)
theorem im_e {h h1 h0 : jH} {x : Int32} {n : Int} {b k : Nat} {y : Int32} (T : jIm h1 h x n) (C : h1 = jsi h0 b k y) (e6 : Nat.beq 126 b = false) (e7 : Nat.beq 127 b = false) : jIm h0 h x n :=
  ⟨fun j hj => (T.1 j hj).trans (congrFun (ov_e1 C e6) j), fun i hi => (T.2 i hi).trans (congrFun (ov_e1 C e7) i)⟩
theorem im_m {h hx9 h0 : jH} {x : Int32} {n : Int} (T : jIm h0 h x n) (E : jiv hx9 127 = jiv h 127) : jIm h0 hx9 x n := by
  unfold jIm
  rw [E]
  exact T
theorem bk_loopP {Dy : jH → Prop} {h0 h : jH} {Q : Option Value → jH → Prop} {FP : jFp} {l1 l2 : Int32} (hD : jDk Dy) (hB : jDb Dy) (J : jJ jSgM Dy h) (Sm : jSm FP h0 h) (hf : jfs [(126, 0, 50660)] FP = true) (hl : 0 ≤ l1.toInt ∧ l1.toInt ≤ 3) (h2 : l2.toInt = 0) (hK : ∀ (v : Int32) hx9, jJ jSgM Dy hx9 → jSm FP h0 hx9 → jSm [(126, 0, 50660)] h hx9 → jRr hx9 → jBm h hx9 l1 50660 → jX m_X12_back 2 0 0 70 [(0, .ref 125), (1, .int l1), (2, .int v)] [] hx9 0 0 Q) : jX m_X12_back 2 0 0 41 [(0, .ref 125), (1, .int l1), (2, .int l2)] [] h 0 0 Q := by
  have a := jcl_of hl.1
  have R := hB h J.2.2 l1.toNatClampNeg (by omega)
  refine bk_41 (h1 := h) (h0 := h) (FP := [(126, 0, 50660)]) rfl hl R (fun v hx9 T J' S' => ?_) 50661 l2 h (by omega) (by omega) (fun j hj => by omega) (jWk_in J) (jSm_rf _ h)
  have B := jBm_B (hD.2.2.2.1 h J.2.2) R hl J'.2.2 T
  refine hK v hx9 (jWk_back hD J jpb_hi rfl J' B) (jSm_tr hf Sm S') S' (jRr_of ?_ ?_) T
  · have r := R.2.1
    simp only at r
    rw [T 16 (by omega), T 0 (by omega), T 4 (by omega), T 5 (by omega), T 7 (by omega)]
    exact r
  · have r := R.2.2
    simp only at r
    rw [T 9 (by omega), T 7 (by omega)]
    exact r
theorem bm_e {h h1 h0 : jH} {x : Int32} {n : Int} {b k : Nat} {y : Int32} (T : jBm h1 h x n) (C : h1 = jsi h0 b k y) (e7 : Nat.beq 127 b = false) : jBm h0 h x n := fun j hj => (T j hj).trans (congrFun (ov_e1 C e7) _)
theorem bm_m {h hx9 h0 : jH} {x : Int32} {n : Int} (T : jBm h0 h x n) (E : jiv hx9 126 = jiv h 126) : jBm h0 hx9 x n := by
  unfold jBm
  rw [E]
  exact T
/-- a chest at X as the one at Y was -/
def jCpy (X Y : Nat) (h0 h : jH) : Prop := ∀ f, f < 16 → jiv h (X + 1 + 2 * f) 3 = jiv h0 (Y + 1 + 2 * f) 3 ∧ ∀ k, k < ju8 h0 Y f → jiv h (X + 2 + 2 * f) k = jiv h0 (Y + 2 + 2 * f) k
theorem cp_0 {X Y : Nat} {h0 h : jH} (C : jCd X Y h0 h) : jCpy X Y h0 h := by
  obtain ⟨c1, c2, c3, c4, c5, c6, c7, c8, c9, c10, c11⟩ := C
  exact fun f hf => ⟨(c11 f hf).1, fun k hk => by rw [(c11 f hf).2.2 k, if_pos hk]⟩
theorem cp_m {X Y : Nat} {h0 h hx9 : jH} (C : jCpy X Y h0 h) (E : ∀ b, X < b → b ≤ X + 32 → jiv hx9 b = jiv h b) : jCpy X Y h0 hx9 := fun f hf => by
  have c := C f hf
  rw [E _ (by omega) (by omega), E _ (by omega) (by omega)]
  exact c
def jBx (x : Int32) (h0 h : jH) : Prop := ∃ a, jrv h0 67 x.toNatClampNeg = some a ∧ jCpy 32 a h0 h
theorem bx_0 {x : Int32} {a : Nat} {h0 h : jH} (q : jrv h0 67 x.toNatClampNeg = some a) (C : jCd 32 a h0 h) : jBx x h0 h := ⟨a, q, cp_0 C⟩
theorem bx_c {x : Int32} {F : jFp} {h0 h hx9 : jH} (S : jSm F h hx9) (e : (F.all fun q => Nat.blt q.1 33 || Nat.blt 64 q.1) = true) (B : jBx x h0 h) : jBx x h0 hx9 := by
  obtain ⟨a, q, C⟩ := B
  refine ⟨a, q, cp_m C (fun b b1 b2 => ?_)⟩
  refine ov_c S ?_ rfl
  rw [Bool.and_eq_true]
  refine ⟨Nat.blt_eq.mpr (by omega), List.all_eq_true.mpr (fun p hp => ?_)⟩
  have z := List.all_eq_true.mp e p hp
  rw [Bool.or_eq_true, Nat.blt_eq, Nat.blt_eq] at z
  rw [jbne (a := p.1) (b := b) (by omega)]
  rfl
theorem bx_w {x : Int32} {h0 h hx9 : jH} {b k : Nat} {y : Int32} (w : hx9 = jsi h b k y) (e : (Nat.blt b 33 || Nat.blt 64 b) = true) (B : jBx x h0 h) : jBx x h0 hx9 := by
  obtain ⟨a, q, C⟩ := B
  rw [Bool.or_eq_true, Nat.blt_eq, Nat.blt_eq] at e
  exact ⟨a, q, cp_m C (fun c c1 c2 => ov_o w (jbne (by omega)) rfl)⟩
