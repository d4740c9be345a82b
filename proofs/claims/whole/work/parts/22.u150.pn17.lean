/-! pure: image, back: both answers by what they leave -/
def wdl : List Nat := [6, 14, 2, 3, 4, 6, 3, 4, 5, 4, 4, 5, 4, 4, 4, 2]
/-- the chest A of X is copied to the chest B of Z: rows, and what they hold -/
def pCpy (X Z : jW) (A B : Nat) : Prop := (∀ f : Nat, f < 16 → Z.1 (B + 1 + 2 * f) 3 = X.1 (A + 1 + 2 * f) 3 ∧ ∀ j : Nat, (j : Int) < (wdl.getD f 0 : Nat) * X.1 (A + 1 + 2 * f) 3 → Z.1 (B + 2 + 2 * f) j = X.1 (A + 2 + 2 * f) j) ∧ (∀ j : Nat, j < 1600 → Z.2.1 (B + 33) j = X.2.1 (A + 33) j) ∧ (∀ j : Nat, j < 30 → Z.2.2.1 (B + 34) j = X.2.2.1 (A + 34) j) ∧ Z.1 B 18 = X.1 A 18
section
variable {X Y Z M N : jW} {A B : Nat} {r s : Nat → Int}
theorem cpy_D (C : pCpy X Z A B) (D : pD X A r) : pD Z B r := by
  obtain ⟨c, _⟩ := C
  obtain ⟨d1, d2, d3, d4⟩ := D
  refine ⟨fun t ht => ?_, ?_, ?_, ?_⟩
  · have k1 : (pTs.all fun t => Nat.ble t.1 15 && Nat.beq (wdl.getD t.1 0) t.2.1) = true := by decide
    have k2 := List.all_eq_true.1 k1 t ht
    rw [Bool.and_eq_true] at k2
    have l := Nat.le_of_ble_eq_true k2.1
    have wd := Nat.eq_of_beq_eq_true k2.2
    obtain ⟨t1, t2, t3⟩ := d1 t ht
    obtain ⟨e1, e2⟩ := c t.1 (by omega)
    rw [wd, t1] at e2
    refine ⟨e1.trans t1, t2, fun i k hi hk => ?_⟩
    rw [e2 (t.2.1 * i + k) ?_]
    · exact t3 i k hi hk
    · have hm : t.2.1 * i + k < t.2.1 * (i + 1) := by rw [Nat.mul_add, Nat.mul_one]; omega
      have hle : t.2.1 * (i + 1) ≤ t.2.1 * (r t.2.2.1).toNat := Nat.mul_le_mul_left _ (by omega)
      have hc : ((t.2.1 * (r t.2.2.1).toNat : Nat) : Int) = (t.2.1 : Int) * r t.2.2.1 := by rw [Int.natCast_mul, Int.toNat_of_nonneg t2.1]
      omega
  · obtain ⟨n0, n1, n2⟩ := d2
    obtain ⟨e1, e2⟩ := c 1 (by decide)
    have w : (wdl.getD 1 0 : Nat) = 14 := rfl
    rw [w, show A + 1 + 2 * 1 = A + 3 from rfl, n1] at e2
    refine ⟨n0, e1.trans n1, fun l j hl hj => ?_⟩
    rw [show B + 4 = B + 2 + 2 * 1 from rfl, e2 (84 * l + j) (by omega)]
    exact n2 l j hl hj
  · obtain ⟨n0, n1, n2⟩ := d3
    obtain ⟨e1, e2⟩ := c 3 (by decide)
    have w : (wdl.getD 3 0 : Nat) = 3 := rfl
    rw [w, show A + 1 + 2 * 3 = A + 7 from rfl, n1] at e2
    refine ⟨n0, e1.trans n1, fun i hi => ?_⟩
    rw [show B + 8 = B + 2 + 2 * 3 from rfl, e2 (3 * i) (by omega), e2 (3 * i + 1) (by omega), e2 (3 * i + 2) (by omega)]
    exact n2 i hi
  · obtain ⟨n0, n1, n2, n3, n4⟩ := d4
    obtain ⟨e1, e2⟩ := c 8 (by decide)
    have w : (wdl.getD 8 0 : Nat) = 5 := rfl
    rw [w, show A + 1 + 2 * 8 = A + 17 from rfl, n1] at e2
    refine ⟨n0, e1.trans n1, n2, n3, fun h hh => ?_⟩
    unfold pHs
    rw [show B + 18 = B + 2 + 2 * 8 from rfl, e2 (5 * h) (by omega), e2 (5 * h + 1) (by omega), e2 (5 * h + 2) (by omega), e2 (5 * h + 3) (by omega), e2 (5 * h + 4) (by omega)]
    exact n4 h hh
/-- rows that are the same as far as they reach -/
def rAl (r s : Nat → Int) : Prop := ∀ j : Nat, j < 50660 → s j = r j
theorem al_D (a : rAl r s) (D : pD X A r) : pD X A s := by
  refine ⟨fun t ht => ?_, pNm_e rfl rfl (fun j hj => a j (by omega)) D.2.1, pBo_e rfl rfl (fun j hj => a j (by omega)) D.2.2.1, pHo_e rfl rfl (fun j hj => a j (by omega)) D.2.2.2⟩
  have k1 : (pTs.all fun t => (Nat.ble (t.2.2.2.1 + t.2.2.2.2.1 * t.2.2.2.2.2.1) 50660 && Nat.ble t.2.2.1 16) && pok t) = true := by decide
  have k2 := List.all_eq_true.1 k1 t ht
  rw [Bool.and_eq_true, Bool.and_eq_true] at k2
  have l1 := Nat.le_of_ble_eq_true k2.1.1
  have l2 := Nat.le_of_ble_eq_true k2.1.2
  obtain ⟨t1, t2, t3⟩ := D.1 t ht
  have e := a t.2.2.1 (by omega)
  refine ⟨by rw [e]; exact t1, by rw [e]; exact t2, fun i c hi hc => ?_⟩
  rw [e] at hi
  have po := k2.2
  unfold pok at po
  rw [List.all_eq_true] at po
  have lo := Nat.le_of_ble_eq_true (po c (List.mem_range.mpr hc))
  rw [t3 i c hi hc]
  refine (a _ ?_).symm
  have hle : t.2.2.2.2.1 * (i + 1) ≤ t.2.2.2.2.1 * t.2.2.2.2.2.1 := Nat.mul_le_mul_left _ (by omega)
  rw [Nat.mul_add, Nat.mul_one] at hle
  omega
theorem al_w (a : rAl r s) (W : pIw r) : pIw s := by
  refine ⟨fun q t wm ht => ?_, fun i hi => ?_⟩
  · have I := W.1 q t wm ht
    obtain ⟨V, Ew, Ir, In, Bd⟩ := id I
    obtain ⟨j0, f0, g0, s0, tx0, t0, e0, p0, _, _, _, b0⟩ := pEv_i.mp V
    change 0 ≤ r 0 ∧ r 0 ≤ 200 at b0
    change pBnd r at Bd
    unfold pBnd at Bd
    have bs1 : 0 ≤ r 7 ∧ r 7 ≤ 40 := s0.1
    have bf : 0 ≤ r 5 ∧ r 5 ≤ 100 := f0.1
    have bx : 0 ≤ r 4 ∧ r 4 ≤ 30 := ⟨tx0.1.1, tx0.1.2.1⟩
    have k0 := a 0 (by omega)
    refine iv_lines I (by omega) (fun j _ _ _ h => a j (by omega)) (fun j _ h => a j (by omega)) (sa_t (by omega) (a 16 (by omega)) (by omega) (fun j j1 j2 => a j (by omega)) t0) (by rw [a 16 (by omega), k0, a 4 (by omega), a 5 (by omega), a 7 (by omega)]; exact Bd.2.2.2.2) (tr_r k0 (by omega) (fun j j1 j2 => a j (by omega)) Ir) (tr_n k0 (by omega) (fun j j1 j2 => a j (by omega)) In) (fun l hl => ?_)
    rw [k0] at hl
    rw [a (20 + 90 * l) (by omega), a (24 + 90 * l) (by omega)]
    exact Ew.2.1 l hl
  · have z : 0 ≤ r 14 ∧ r 14 ≤ 40 := by
      have Bd := (W.1 (fun _ => 0, fun _ => 0, fun _ => 0, 0) (0, 0, 0, 0) (fun _ => 0) ⟨by decide, by decide, by decide, by decide⟩).2.2.2.2
      change pBnd r at Bd
      unfold pBnd at Bd
      exact Bd.2.2.1
    rw [a 14 (by omega)] at hi
    rw [a (49361 + 4 * i) (by omega)]
    exact W.2 i hi
theorem al_s (a : rAl r s) : rAl s r := fun j hj => (a j hj).symm
theorem iw_l (W : pIw r) : pIl r := (W.1 (fun _ => 0, fun _ => 0, fun _ => 0, 0) (0, 0, 0, 0) (fun _ => 0) ⟨by decide, by decide, by decide, by decide⟩).1.2.2.2.2.1
end
/-! image -/
def imS (k : Nat) (X Z : jW) : Prop := ∃ A : Nat, (174 ≤ A ∧ A + 35 ≤ Z.2.2.2.2) ∧ (X.2.2.1 67 k = some A ∨ (X.2.2.1 67 k = none ∧ X.2.2.2.2 ≤ A)) ∧ (Z.2.2.1 67 k = some A ∧ ∀ j : Nat, j ≠ k → Z.2.2.1 67 j = X.2.2.1 67 j) ∧ pCpy X Z 32 A ∧ (∀ c : Nat, c < 174 → Z.1 c = X.1 c ∧ Z.2.1 c = X.2.1 c ∧ (c ≠ 67 → Z.2.2.1 c = X.2.2.1 c)) ∧ (∀ c : Nat, 174 ≤ c → c < X.2.2.2.2 → (c < A ∨ A + 35 ≤ c) → Z.1 c = X.1 c ∧ Z.2.1 c = X.2.1 c ∧ Z.2.2.1 c = X.2.2.1 c) ∧ (∀ c : Nat, c < X.2.2.2.2 → Z.2.2.2.1 c = X.2.2.2.1 c) ∧ X.2.2.2.2 ≤ Z.2.2.2.2 ∧ (∀ c j U : Nat, (A ≤ c ∧ c < A + 34) ∨ (X.2.2.2.2 ≤ c ∧ c ≠ A + 34) → c < Z.2.2.2.2 → Z.2.2.1 c j = some U → U < Z.2.2.2.2) ∧ ∀ j : Nat, 30 ≤ j → Z.2.2.1 (A + 34) j = none ∨ (X.2.2.1 67 k = some A ∧ Z.2.2.1 (A + 34) j = X.2.2.1 (A + 34) j)
def imX (k : Int) (X : jW) (x : Int × jW) : Prop := (¬ (0 ≤ k ∧ k ≤ 3) ∧ x = (-1, vu X 31 12 (-1))) ∨ ((0 ≤ k ∧ k ≤ 3) ∧ ∃ Z : jW, imS k.toNat X Z ∧ x = (0, pAx X Z))
def imT (k : Nat) (M V : jW) : Prop := (V.1 125 1 = 0 ∧ ∀ j : Nat, j ≠ 0 → j ≠ 1 → V.1 125 j = M.1 125 j) ∧ (∀ c : Nat, c ≠ 125 → c ≠ 127 → c ≠ 128 → V.1 c = M.1 c) ∧ (∀ i : Nat, i < 50660 → V.1 127 (50660 * k + i) = M.1 126 i) ∧ (∀ j : Nat, j < 50660 * k ∨ 50660 * k + 50660 ≤ j → V.1 127 j = M.1 127 j) ∧ (V.1 128 k ≠ 0 ∧ ∀ j : Nat, j ≠ k → V.1 128 j = M.1 128 j) ∧ V.2.1 129 = M.2.1 129 ∧ (∀ i : Nat, i < 1600 → V.2.1 130 (1600 * k + i) = M.2.1 129 i) ∧ ∀ j : Nat, j < 1600 * k ∨ 1600 * k + 1600 ≤ j → V.2.1 130 j = M.2.1 130 j
def imM (k : Int) (M : jW) (m : Int × jW) : Prop := (¬ (0 ≤ k ∧ k ≤ 3) ∧ m = (-1, vu (vu M 125 0 0) 125 1 (-1))) ∨ ((0 ≤ k ∧ k ≤ 3) ∧ m.1 = 0 ∧ imT k.toNat M m.2)
section
variable {v : Int} {X Y Z M N : jW} {E : pE} {t : jT} {w : Nat} {wm : Nat → Nat} {S : Nat → Int}
theorem q_image {k : Int} {x m : Int × jW} (H : pR v X M) (hv : v < 2147483646) (hx : imX k X x) (hm : imM k M m) : x.1 = m.1 ∧ pR (v + 1) x.2 m.2 := by
  obtain ⟨E, t, w, wm, S, H⟩ := H
  have bb := rb_b H.1
  have e := cm_126 H.1.2.1
  obtain ⟨h1, h3, h4, h5, h6, h8, h9, h10, h11, h12, h14, h17⟩ := id H.1
  rcases hx with ⟨gx, rfl⟩ | ⟨gx, Z, hS, rfl⟩
  · rcases hm with ⟨_, rfl⟩ | ⟨gm, _⟩
    · exact ⟨rfl, E, t, w, wm, S, ra_v (ra_s H) (by omega)⟩
    · exact absurd gm gx
  rcases hm with ⟨gm, _⟩ | ⟨_, m1, mT⟩
  · exact absurd gx gm
  obtain ⟨K, hK⟩ : ∃ K : Nat, k = (K : Int) := ⟨k.toNat, by omega⟩
  have hK4 : K < 4 := by omega
  rw [show k.toNat = K from by omega] at hS mT
  obtain ⟨A, ⟨a1, a2⟩, a3, ⟨a4, a5⟩, C, zl, zu, zs, zn, znx, z30⟩ := hS
  obtain ⟨⟨t1, t2⟩, t3, t4, t5, ⟨t6, t7⟩, t8, t9, t10⟩ := mT
  have z66 : Z.2.2.1 66 = X.2.2.1 66 := (zl 66 (by decide)).2.2 (by decide)
  -- the told TEXTS' cells are not the IMAGE's
  have ow : (∀ j T : Nat, X.2.2.1 66 j = some T → (T < A ∨ A + 35 ≤ T) ∧ (174 ≤ T → ∀ i U : Nat, X.2.2.1 T i = some U → U < A ∨ A + 35 ≤ U)) ∧ (∀ k2 A2 j T : Nat, k2 < 4 → X.2.2.1 67 k2 = some A2 → X.2.2.1 (A2 + 34) j = some T → (T < A ∨ A + 35 ≤ T) ∧ (174 ≤ T → ∀ i U : Nat, X.2.2.1 T i = some U → U < A ∨ A + 35 ≤ U)) ∧ ∀ k2 A2 : Nat, k2 < 4 → k2 ≠ K → X.2.2.1 67 k2 = some A2 → A2 + 35 ≤ A ∨ A + 35 ≤ A2 := by
    rcases a3 with q | ⟨_, q⟩
    · obtain ⟨d1, d2, d3⟩ := h17.2 K A hK4 q
      exact ⟨d2, d3, d1⟩
    · refine ⟨fun j T hT => ⟨Or.inl (by have := h8 66 j T (Or.inl rfl) hT; omega), fun hT2 i U hU => Or.inl (by have lt := h8 66 j T (Or.inl rfl) hT; have := h8 T i U (Or.inr ⟨hT2, lt⟩) hU; omega)⟩, fun k2 A2 j T hk hA hT => ?_, fun k2 A2 hk _ hA => Or.inl (by have := ri_a h17.1 hk hA; omega)⟩
      have b := ri_a h17.1 hk hA
      exact ⟨Or.inl (by have := h8 (A2 + 34) j T (Or.inr (by omega)) hT; omega), fun hT2 i U hU => Or.inl (by have lt := h8 (A2 + 34) j T (Or.inr (by omega)) hT; have := h8 T i U (Or.inr ⟨hT2, lt⟩) hU; omega)⟩
  have tx : ∀ (B D : Nat) (r : Nat → Int), (B = 32 ∨ (174 ≤ B ∧ B + 34 < X.2.2.2.2)) → pIl r → (∀ j T : Nat, X.2.2.1 (B + 34) j = some T → (T < A ∨ A + 35 ≤ T) ∧ (174 ≤ T → ∀ i U : Nat, X.2.2.1 T i = some U → U < A ∨ A + 35 ≤ U)) → Z.1 D 18 = X.1 B 18 → (∀ j : Nat, j < 30 → Z.2.2.1 (D + 34) j = X.2.2.1 (B + 34) j) → pTq X B r → pTq Z D r := fun B D r hB L o e18 e34 q => by
    refine ⟨e18.trans q.1, fun u u0 u1 => ?_⟩
    obtain ⟨T, hd, cd, q1, ⟨r1, r2, r3, r4, r5, r6, r7, r8⟩, q3, q4, q5⟩ := q.2 u u0 u1
    have l30 := L.2.1
    obtain ⟨o1, o2⟩ := o _ _ q1
    have lT := h8 _ _ _ (by omega) q1
    have cT := zu T r1 lT o1
    have ch := zu hd r2 (h8 _ _ _ (Or.inr ⟨r1, lT⟩) r7) (o2 r1 4 hd r7)
    have cc := zu cd q3 (h8 _ _ _ (Or.inr ⟨r1, lT⟩) q4) (o2 r1 5 cd q4)
    have cs := zs cd (h8 _ _ _ (Or.inr ⟨r1, lT⟩) q4)
    refine ⟨T, hd, cd, by rw [e34 _ (by omega)]; exact q1, ⟨r1, r2, by rw [cT.1]; exact r3, by rw [cT.1]; exact r4, by rw [cT.1]; exact r5, by rw [cT.1]; exact r6, by rw [cT.2.2]; exact r7, fun c ca cb => by rw [ch.1]; exact r8 c ca cb⟩, q3, by rw [cT.2.2]; exact q4, fun c ca cb cn => ?_⟩
    rw [ch.1, cc.1, cs]
    exact q5 c ca cb cn
  have TQ : pTq Z 32 E.1 := tx 32 32 E.1 (Or.inl rfl) h4.1.2.2.2.2.1 ow.1 (by rw [(zl 32 (by decide)).1]) (fun j _ => by rw [show 32 + 34 = 66 from rfl, z66]) h9
  have NX : pNxt Z := fun c j U hc hU => by
    rcases hc with rfl | ⟨hc, hc2⟩
    · rw [z66] at hU
      have := h8 66 j U (Or.inl rfl) hU
      omega
    · by_cases q : c = A + 34
      · rw [q] at hU
        by_cases q2 : j < 30
        · rw [C.2.2.1 j q2] at hU
          have := h8 66 j U (Or.inl rfl) hU
          omega
        · rcases z30 j (by omega) with y | ⟨y1, y2⟩
          · rw [y] at hU
            cases hU
          · rw [y2] at hU
            have b := ri_a h17.1 hK4 y1
            have := h8 (A + 34) j U (Or.inr (by omega)) hU
            omega
      · by_cases q2 : c < X.2.2.2.2 ∧ (c < A ∨ A + 35 ≤ c)
        · rw [(zu c hc q2.1 q2.2).2.2] at hU
          have := h8 c j U (Or.inr ⟨hc, q2.1⟩) hU
          omega
        · exact znx c j U (by omega) hc2 hU
  have P : pCp Z E t w wm := by
    obtain ⟨p1, p2, p3, p4, p5, p6, p7, p8, p9⟩ := h1
    have zc : ∀ b : Nat, b < 174 → Z.1 b = X.1 b := fun b hb => (zl b hb).1
    have D : pD Z 32 E.1 := pD_A (fun c c1 c2 => zc c (by omega)) p2
    refine ⟨?_, D, pTq_t TQ, ?_, ?_, by rw [zc 78 (by decide)]; exact p6, by rw [zc 87 (by decide)]; exact p7, fun i hi => by rw [zc 88 (by decide)]; exact p8 i hi, by rw [zc 32 (by decide)]; exact p9⟩
    · obtain ⟨q1, q2, q3, q4, q5, q6, q7, q8⟩ := p1
      refine ⟨q1, q2, q3, q4, by rw [zc 78 (by decide)]; exact q5, D.1 pt_2 (by decide), fun q hq => ?_, fun n hn => ?_⟩
      · unfold pFc
        rw [zc 75 (by decide), zc 76 (by decide), zc 77 (by decide)]
        exact q7 q hq
      · unfold pSl
        rw [zc 79 (by decide), zc 80 (by decide), zc 81 (by decide)]
        exact q8 n hn
    · unfold pSu pSt
      rw [zc 1 (by decide), zc 2 (by decide)]
      exact p4
    · unfold pSp
      rw [zc 73 (by decide), zc 74 (by decide)]
      exact p5
  have Q : pCm m.2 E t w wm := by
    obtain ⟨p1, p2, p3, p4⟩ := h3
    refine ⟨?_, ?_, by rw [t2 36 (by decide) (by decide)]; exact p3, fun i hi => by rw [t3 141 (by decide) (by decide) (by decide)]; exact p4 i hi⟩
    · unfold eOf at *
      rw [t3 126 (by decide) (by decide) (by decide), t3 132 (by decide) (by decide) (by decide), t3 133 (by decide) (by decide) (by decide), t3 134 (by decide) (by decide) (by decide), t2 27 (by decide) (by decide)]
      exact p1
    · rw [t2 23 (by decide) (by decide), t2 24 (by decide) (by decide), t2 25 (by decide) (by decide), t2 26 (by decide) (by decide)]
      exact p2
  have rk : rAl E.1 (imr m.2 K) := fun j hj => by
    unfold imr
    rw [if_pos hj, t4 j hj, e]
  have RI : pRi Z m.2 := by
    refine ⟨fun k2 hk2 => ?_, fun k2 A2 hk2 hA2 => ?_⟩
    · by_cases q : k2 = K
      · rw [q]
        refine Or.inr ⟨A, a4, a1, a2, t6, al_D rk (cpy_D C h1.2.1), ?_, fun j hj => ?_, al_w rk (iw_e h4 h5)⟩
        · have z := tx 32 A E.1 (Or.inl rfl) h4.1.2.2.2.2.1 ow.1 C.2.2.2 C.2.2.1 h9
          exact pTq_c NX (Or.inr ⟨a1, by omega⟩) rfl (fun _ _ => rfl) (fun _ _ _ => ⟨rfl, rfl, rfl⟩) (rk 4 (by decide)) (fun j j1 j2 => rk j (by omega)) h4.1.2.2.2.2.1 z
        · rw [C.2.1 j hj, t9 j hj]
          exact (h10 j).trans (h11 j).symm
      · have im : imr m.2 k2 = imr M k2 := by
          funext i
          unfold imr
          by_cases i5 : i < 50660
          · rw [if_pos i5, if_pos i5, t5 _ (by omega)]
          · rw [if_neg i5, if_neg i5]
        rcases h17.1 k2 hk2 with ⟨b1, b2⟩ | ⟨A2, b1, b2, b3, b4, b5, b6, b7, b8⟩
        · exact Or.inl ⟨by rw [a5 k2 q]; exact b1, by rw [t7 k2 q]; exact b2⟩
        · have dj := ow.2.2 k2 A2 hk2 q b1
          have cz : ∀ c : Nat, A2 ≤ c → c < A2 + 35 → Z.1 c = X.1 c ∧ Z.2.1 c = X.2.1 c ∧ Z.2.2.1 c = X.2.2.1 c := fun c c1 c2 => zu c (by omega) (by omega) (by omega)
          refine Or.inr ⟨A2, by rw [a5 k2 q]; exact b1, b2, by omega, by rw [t7 k2 q]; exact b4, ?_, ?_, fun j hj => ?_, by rw [im]; exact b8⟩
          · rw [im]
            exact pD_A (fun c c1 c2 => (cz c (by omega) (by omega)).1) b5
          · rw [im]
            exact tx A2 A2 _ (Or.inr ⟨b2, by omega⟩) (iw_l b8) (fun j T hT => ow.2.1 k2 A2 j T hk2 b1 hT) (by rw [(cz A2 (by omega) (by omega)).1]) (fun j _ => by rw [(cz (A2 + 34) (by omega) (by omega)).2.2]) b6
          · rw [(cz (A2 + 33) (by omega) (by omega)).2.1, t10 _ (by omega)]
            exact b7 j hj
    · -- cells are their own
      have old : ∀ T : Nat, 174 ≤ T → T < X.2.2.2.2 → (T < A ∨ A + 35 ≤ T) → ∀ i : Nat, Z.2.2.1 T i = X.2.2.1 T i := fun T h1 h2 h3 i => by rw [(zu T h1 h2 h3).2.2]
      have img : ∀ k3 A3 : Nat, k3 < 4 → Z.2.2.1 67 k3 = some A3 → (k3 = K ∧ A3 = A) ∨ (k3 ≠ K ∧ X.2.2.1 67 k3 = some A3) := fun k3 A3 h1 h2 => by
        by_cases q : k3 = K
        · rw [q, a4] at h2
          exact Or.inl ⟨q, (Option.some.inj h2).symm⟩
        · rw [a5 k3 q] at h2
          exact Or.inr ⟨q, h2⟩
      -- what a told TEXT is not, for each IMAGE
      have g66 : ∀ j T : Nat, X.2.2.1 66 j = some T → (T < A2 ∨ A2 + 35 ≤ T) ∧ (174 ≤ T → ∀ i U : Nat, Z.2.2.1 T i = some U → U < A2 ∨ A2 + 35 ≤ U) := fun j T hT => by
        have lt := h8 66 j T (Or.inl rfl) hT
        have o := ow.1 j T hT
        rcases img k2 A2 hk2 hA2 with ⟨q1, q2⟩ | ⟨q1, q2⟩
        · rw [q2]
          exact ⟨o.1, fun hT2 i U hU => o.2 hT2 i U (by rw [← old T hT2 lt o.1 i]; exact hU)⟩
        · have d := (h17.2 k2 A2 hk2 q2).2.1 j T hT
          exact ⟨d.1, fun hT2 i U hU => d.2 hT2 i U (by rw [← old T hT2 lt o.1 i]; exact hU)⟩
      refine ⟨fun k3 A3 h1 h2 h3' => ?_, fun j T hT => by rw [z66] at hT; exact g66 j T hT, fun k3 A3 j T h1 h2 hT => ?_⟩
      · rcases img k2 A2 hk2 hA2 with ⟨q1, q2⟩ | ⟨q1, q2⟩
        · rcases img k3 A3 h1 h3' with ⟨q3, q4⟩ | ⟨q3, q4⟩
          · omega
          · have := ow.2.2 k3 A3 h1 q3 q4
            omega
        · rcases img k3 A3 h1 h3' with ⟨q3, q4⟩ | ⟨q3, q4⟩
          · have := ow.2.2 k2 A2 hk2 q1 q2
            omega
          · exact (h17.2 k2 A2 hk2 q2).1 k3 A3 h1 h2 q4
      · rcases img k3 A3 h1 h2 with ⟨q3, q4⟩ | ⟨q3, q4⟩
        · rw [q4] at hT
          by_cases q5 : j < 30
          · rw [C.2.2.1 j q5] at hT
            exact g66 j T hT
          · rcases z30 j (by omega) with y | ⟨y1, y2⟩
            · rw [y] at hT
              cases hT
            · rw [y2] at hT
              have b := ri_a h17.1 hK4 y1
              have lt := h8 (A + 34) j T (Or.inr (by omega)) hT
              have o := ow.2.1 K A j T hK4 y1 hT
              rcases img k2 A2 hk2 hA2 with ⟨q1, q2⟩ | ⟨q1, q2⟩
              · rw [q2]
                exact ⟨o.1, fun hT2 i U hU => o.2 hT2 i U (by rw [← old T hT2 lt o.1 i]; exact hU)⟩
              · have d := (h17.2 k2 A2 hk2 q2).2.2 K A j T hK4 y1 hT
                exact ⟨d.1, fun hT2 i U hU => d.2 hT2 i U (by rw [← old T hT2 lt o.1 i]; exact hU)⟩
        · have b := ri_a h17.1 h1 q4
          have dj := ow.2.2 k3 A3 h1 q3 q4
          rw [(zu (A3 + 34) (by omega) (by omega) (by omega)).2.2] at hT
          have lt := h8 (A3 + 34) j T (Or.inr (by omega)) hT
          have o := ow.2.1 k3 A3 j T h1 q4 hT
          rcases img k2 A2 hk2 hA2 with ⟨q1, q2⟩ | ⟨q1, q2⟩
          · rw [q2]
            exact ⟨o.1, fun hT2 i U hU => o.2 hT2 i U (by rw [← old T hT2 lt o.1 i]; exact hU)⟩
          · have d := (h17.2 k2 A2 hk2 q2).2.2 k3 A3 j T h1 q4 hT
            exact ⟨d.1, fun hT2 i U hU => d.2 hT2 i U (by rw [← old T hT2 lt o.1 i]; exact hU)⟩
  have T2 : pTp Z m.2 ∧ Z.1 68 2 = m.2.1 125 13 := ⟨tp_c (by rw [(zl 68 (by decide)).1]) (zl 69 (by decide)).1 (t2 8 (by decide) (by decide)) (t3 131 (by decide) (by decide) (by decide)) h14.1, by rw [(zl 68 (by decide)).1, t2 13 (by decide) (by decide)]; exact h14.2⟩
  have BB : pRb Z m.2 E t w wm S := ⟨P, Q, h4, h5, ws_f (fun b hb => (zl b (by omega)).1) h6, NX, TQ, fun j => by rw [(zl 65 (by decide)).2.1]; exact h10 j, fun j => by rw [t8]; exact h11 j, by rw [(zl 123 (by decide)).1, t3 173 (by decide) (by decide) (by decide)]; exact h12, T2, RI⟩
  have A2 := ra_a (X1 := Z) (M1 := m.2) H hv BB (fun z hz => by
    have := kyl_c hz
    rw [(zl z.1 (by omega)).1]
    exact H.2.2.2.2 z hz)
  rw [vu_id t1] at A2
  exact ⟨m1.symm, _, t, w, wm, S, A2⟩
end
