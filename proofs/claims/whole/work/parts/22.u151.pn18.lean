/-! pure: back -/
def lrL : Nat → Nat → jW → jW
  | 0, _, W => W
  | c + 1, l, W => lrL c (l + 1) (d_X7_learn_r78d (l : Int) (d_X5_learn_r70d (l : Int) W))
def bkS (A : Nat) (X Z : jW) : Prop := pCpy X Z A 32 ∧ (∀ j : Nat, j ≠ 18 → Z.1 32 j = X.1 32 j) ∧ (∀ c : Nat, c < 32 ∨ 65 ≤ c → Z.1 c = X.1 c) ∧ (∀ c : Nat, c ≠ 65 → Z.2.1 c = X.2.1 c) ∧ (∀ j : Nat, 1600 ≤ j → Z.2.1 65 j = X.2.1 65 j) ∧ (∀ c : Nat, c ≠ 66 → Z.2.2.1 c = X.2.2.1 c) ∧ (∀ j : Nat, 30 ≤ j → Z.2.2.1 66 j = X.2.2.1 66 j) ∧ Z.2.2.2 = X.2.2.2
def bkX (k : Int) (X : jW) (x : Int × jW) : Prop := (¬ (0 ≤ k ∧ k ≤ 3) ∧ x = (-1, vu X 31 12 (-1))) ∨ ((0 ≤ k ∧ k ≤ 3) ∧ ((X.2.2.1 67 k.toNat = none ∧ x = (-2, vu X 31 12 (-2))) ∨ ∃ (A : Nat) (Z : jW), X.2.2.1 67 k.toNat = some A ∧ bkS A X Z ∧ x = (0, pAx X (vu (vu (vu (lrL (Z.1 33 3).toNat 0 Z) 68 1 0) 87 3 0) 87 13 0))))
def bkT (k : Nat) (M V : jW) : Prop := (V.1 125 1 = 0 ∧ V.1 125 8 = 0 ∧ V.1 125 36 = 0 ∧ ∀ j : Nat, j ≠ 0 → j ≠ 1 → j ≠ 8 → j ≠ 36 → V.1 125 j = M.1 125 j) ∧ (∀ c : Nat, c ≠ 125 → c ≠ 126 → V.1 c = M.1 c) ∧ (∀ i : Nat, i < 50660 → V.1 126 i = M.1 127 (50660 * k + i)) ∧ (∀ i : Nat, i < 1600 → V.2.1 129 i = M.2.1 130 (1600 * k + i)) ∧ (∀ i : Nat, 1600 ≤ i → V.2.1 129 i = M.2.1 129 i) ∧ V.2.1 130 = M.2.1 130
def bkM (k : Int) (M : jW) (m : Int × jW) : Prop := (¬ (0 ≤ k ∧ k ≤ 3) ∧ m = (-1, vu (vu M 125 0 0) 125 1 (-1))) ∨ ((0 ≤ k ∧ k ≤ 3) ∧ ((M.1 128 k.toNat = 0 ∧ m = (-2, vu (vu M 125 0 0) 125 1 (-2))) ∨ (M.1 128 k.toNat ≠ 0 ∧ m.1 = 0 ∧ bkT k.toNat M m.2)))
/-- all LINES are learned anew -/
theorem lr_e {F : pE} (Sr : pSr F) (I : pIr F) (h2 : 0 ≤ F.1 0 ∧ F.1 0 ≤ 200) : ∀ (c l : Nat) (W : jW), (l : Int) + (c : Int) = F.1 0 → pSp W F → pSu W → pD W 32 F.1 → (∀ q : Nat, q / 6 < l → pFc W F q) → (∀ m : Nat, m / 3 < l → pSl W F m) → (∀ b : Nat, b ≠ 75 → b ≠ 76 → b ≠ 77 → b ≠ 79 → b ≠ 80 → b ≠ 81 → (lrL c l W).1 b = W.1 b) ∧ (lrL c l W).2 = W.2 ∧ (∀ q : Nat, ((q / 6 : Nat) : Int) < F.1 0 → pFc (lrL c l W) F q) ∧ ∀ m : Nat, ((m / 3 : Nat) : Int) < F.1 0 → pSl (lrL c l W) F m := by
  intro c
  induction c with
  | zero =>
    intro l W e _ _ _ f1 f2
    exact ⟨fun _ _ _ _ _ _ _ => rfl, rfl, fun q hq => f1 q (by omega), fun m hm => f2 m (by omega)⟩
  | succ c ih =>
    intro l W e P U D f1 f2
    have hl : (l : Int) < F.1 0 := by omega
    obtain ⟨g1, g2, g3, g4, g5⟩ := xln Sr I hl h2.2 P (D.1 pt_0 (by decide)) D.2.1
    show (∀ b : Nat, b ≠ 75 → b ≠ 76 → b ≠ 77 → b ≠ 79 → b ≠ 80 → b ≠ 81 → (lrL c (l + 1) (d_X7_learn_r78d (l : Int) (d_X5_learn_r70d (l : Int) W))).1 b = W.1 b) ∧ (lrL c (l + 1) (d_X7_learn_r78d (l : Int) (d_X5_learn_r70d (l : Int) W))).2 = W.2 ∧ (∀ q : Nat, ((q / 6 : Nat) : Int) < F.1 0 → pFc (lrL c (l + 1) (d_X7_learn_r78d (l : Int) (d_X5_learn_r70d (l : Int) W))) F q) ∧ ∀ m : Nat, ((m / 3 : Nat) : Int) < F.1 0 → pSl (lrL c (l + 1) (d_X7_learn_r78d (l : Int) (d_X5_learn_r70d (l : Int) W))) F m
    generalize d_X5_learn_r70d (l : Int) W = W1 at *
    have c1 : ∀ b : Nat, b ≠ 75 → b ≠ 76 → b ≠ 77 → W1.1 b = W.1 b := fun b b1 b2 b3 => funext fun j => g1 b j b1 b2 b3
    have U1 : pSu W1 := by
      unfold pSu pSt
      rw [c1 1 (by decide) (by decide) (by decide), c1 2 (by decide) (by decide) (by decide)]
      exact U
    have D1 : pD W1 32 F.1 := pD_A (fun b b1 b2 => c1 b (by omega) (by omega) (by omega)) D
    obtain ⟨k1, k2, k3, k4⟩ := xls I hl h2.2 U1 (D1.1 pt_0 (by decide))
    generalize d_X7_learn_r78d (l : Int) W1 = W2 at *
    have c2 : ∀ b : Nat, b ≠ 79 → b ≠ 80 → b ≠ 81 → W2.1 b = W1.1 b := fun b b1 b2 b3 => funext fun j => k1 b j b1 b2 b3
    have cc : ∀ b : Nat, b ≠ 75 → b ≠ 76 → b ≠ 77 → b ≠ 79 → b ≠ 80 → b ≠ 81 → W2.1 b = W.1 b := fun b b1 b2 b3 b4 b5 b6 => (c2 b b4 b5 b6).trans (c1 b b1 b2 b3)
    have U2 : pSu W2 := by
      unfold pSu pSt
      rw [cc 1 (by decide) (by decide) (by decide) (by decide) (by decide) (by decide), cc 2 (by decide) (by decide) (by decide) (by decide) (by decide) (by decide)]
      exact U
    have D2 : pD W2 32 F.1 := pD_A (fun b b1 b2 => cc b (by omega) (by omega) (by omega) (by omega) (by omega) (by omega)) D
    obtain ⟨i1, i2, i3, i4⟩ := ih (l + 1) W2 (by omega) (pSp_n P (cc 73 (by decide) (by decide) (by decide) (by decide) (by decide) (by decide)) (cc 74 (by decide) (by decide) (by decide) (by decide) (by decide) (by decide))) U2 D2 (fun q hq => by
        have u : pFc W1 F q := by
          by_cases z : q / 6 = l
          · exact g5 q (by omega) (by omega)
          · have y := g3 q (by omega)
            exact pFc_x (f1 q (by omega)) y.1 y.2 (fun j j1 j2 => g4 j (by omega)) (fcL_l Sr I (by omega))
        unfold pFc at *
        rw [c2 75 (by decide) (by decide) (by decide), c2 76 (by decide) (by decide) (by decide), c2 77 (by decide) (by decide) (by decide)]
        exact u) (fun m hm => by
        by_cases z : m / 3 = l
        · exact k4 m (by omega) (by omega)
        · have u := f2 m (by omega)
          have y := k3 m (by omega)
          unfold pSl at *
          rw [y.1, y.2.1, y.2.2, c1 79 (by decide) (by decide) (by decide), c1 80 (by decide) (by decide) (by decide), c1 81 (by decide) (by decide) (by decide)]
          exact u)
    exact ⟨fun b b1 b2 b3 b4 b5 b6 => (i1 b b1 b2 b3 b4 b5 b6).trans (cc b b1 b2 b3 b4 b5 b6), i2.trans (k2.trans g2), i3, i4⟩
section
variable {v : Int} {X M : jW}
theorem q_back {k : Int} {x m : Int × jW} (H : pR v X M) (hv : v < 2147483646) (hx : bkX k X x) (hm : bkM k M m) : x.1 = m.1 ∧ pR (v + 1) x.2 m.2 := by
  obtain ⟨E, t, w, wm, S, H⟩ := H
  obtain ⟨h1, h3, h4, h5, h6, h8, h9, h10, h11, h12, h14, h17⟩ := id H.1
  rcases hx with ⟨gx, rfl⟩ | ⟨gx, hx⟩
  · rcases hm with ⟨_, rfl⟩ | ⟨gm, _⟩
    · exact ⟨rfl, E, t, w, wm, S, ra_v (ra_s H) (by omega)⟩
    · exact absurd gm gx
  rcases hm with ⟨gm, _⟩ | ⟨_, hm⟩
  · exact absurd gx gm
  obtain ⟨K, hK⟩ : ∃ K : Nat, k = (K : Int) := ⟨k.toNat, by omega⟩
  have hK4 : K < 4 := by omega
  rw [show k.toNat = K from by omega] at hx hm
  rcases h17.1 K hK4 with ⟨b1, b2⟩ | ⟨A, b1, b2, b3, b4, b5, b6, b7, b8⟩
  · rcases hx with ⟨_, rfl⟩ | ⟨A, Z, q, _⟩
    · rcases hm with ⟨_, rfl⟩ | ⟨q, _⟩
      · exact ⟨rfl, E, t, w, wm, S, ra_v (ra_s H) (by omega)⟩
      · exact absurd b2 q
    · rw [b1] at q; cases q
  rcases hx with ⟨q, _⟩ | ⟨A', Z, q, hS, rfl⟩
  · rw [b1] at q; cases q
  rw [b1] at q
  obtain rfl := Option.some.inj q
  rcases hm with ⟨q, _⟩ | ⟨_, m1, mT⟩
  · exact absurd q b4
  obtain ⟨C, s32, sc, sL, sL2, sR, sR2, s4⟩ := hS
  obtain ⟨⟨t1, t2, t3, t4⟩, t5, t6, t7, t8, t9⟩ := mT
  have rk : rAl (imr M K) (m.2.1 126) := fun j hj => by
    rw [t6 j hj]
    unfold imr
    rw [if_pos hj]
  have W := al_w rk b8
  have I : pIv (m.2.1 126, E.2) t 0 wm := W.1 E.2 t wm (pEv_i.mp h4.1).2.2.2.2.2.2.2.2.1
  have DZ : pD Z 32 (m.2.1 126) := al_D rk (cpy_D C b5)
  have b0 : 0 ≤ m.2.1 126 0 ∧ m.2.1 126 0 ≤ 200 := DZ.2.1.1
  have e33 : Z.1 33 3 = m.2.1 126 0 := (DZ.1 pt_0 (by decide)).1
  have SP : pSp Z (m.2.1 126, E.2) := by
    unfold pSp
    rw [sc 73 (by decide), sc 74 (by decide)]
    exact h1.2.2.2.2.1
  have SU : pSu Z := by
    unfold pSu pSt
    rw [sc 1 (by decide), sc 2 (by decide)]
    exact h1.2.2.2.1
  obtain ⟨l1, l2, l3, l4⟩ := lr_e (F := (m.2.1 126, E.2)) h1.1.1 I.2.2.1 b0 (Z.1 33 3).toNat 0 Z (by rw [e33]; show ((0 : Nat) : Int) + (((m.2.1 126 0).toNat : Nat) : Int) = m.2.1 126 0; omega) SP SU DZ (fun q hq => absurd hq (Nat.not_lt_zero _)) (fun q hq => absurd hq (Nat.not_lt_zero _))
  generalize lrL (Z.1 33 3).toNat 0 Z = V at *
  have vc : ∀ b : Nat, b ≠ 68 → b ≠ 87 → (vu (vu (vu V 68 1 0) 87 3 0) 87 13 0).1 b = V.1 b := fun b q1 q2 => (vu_c q2).trans ((vu_c q2).trans (vu_c q1))
  have v681 : (vu (vu (vu V 68 1 0) 87 3 0) 87 13 0).1 68 1 = 0 := (vu_n (by omega)).trans ((vu_n (by omega)).trans (vu_e rfl))
  have v682 : (vu (vu (vu V 68 1 0) 87 3 0) 87 13 0).1 68 2 = V.1 68 2 := (vu_n (by omega)).trans ((vu_n (by omega)).trans (vu_n (by omega)))
  have v873 : (vu (vu (vu V 68 1 0) 87 3 0) 87 13 0).1 87 3 = 0 := (vu_n (by omega)).trans (vu_e rfl)
  have v8713 : (vu (vu (vu V 68 1 0) 87 3 0) 87 13 0).1 87 13 = 0 := vu_e rfl
  have v2 : (vu (vu (vu V 68 1 0) 87 3 0) 87 13 0).2 = Z.2 := l2
  generalize vu (vu (vu V 68 1 0) 87 3 0) 87 13 0 = X1 at *
  have xc : ∀ b : Nat, b < 32 ∨ 82 ≤ b ∨ b = 73 ∨ b = 74 ∨ b = 78 ∨ b = 69 → b ≠ 87 → X1.1 b = X.1 b := fun b hb h87 => (vc b (by omega) h87).trans ((l1 b (by omega) (by omega) (by omega) (by omega) (by omega) (by omega)).trans (sc b (by omega)))
  have x32 : X1.1 32 = Z.1 32 := (vc 32 (by decide) (by decide)).trans (l1 32 (by decide) (by decide) (by decide) (by decide) (by decide) (by decide))
  have xL : ∀ b : Nat, b ≠ 65 → X1.2.1 b = X.2.1 b := fun b hb => by rw [v2]; exact sL b hb
  have xR : ∀ b : Nat, b ≠ 66 → X1.2.2.1 b = X.2.2.1 b := fun b hb => by rw [v2]; exact sR b hb
  have x4 : X1.2.2.2 = X.2.2.2 := by rw [v2]; exact s4
  have x66 : ∀ j T : Nat, X1.2.2.1 66 j = some T → X.2.2.1 66 j = some T ∨ X.2.2.1 (A + 34) j = some T := fun j T hT => by
    rw [v2] at hT
    by_cases q : j < 30
    · rw [show (66 : Nat) = 32 + 34 from rfl, C.2.2.1 j q] at hT
      exact Or.inr hT
    · rw [sR2 j (by omega)] at hT
      exact Or.inl hT
  have NX : pNxt X1 := fun c j U hc hU => by
    rw [x4] at hc ⊢
    rcases hc with rfl | hc
    · rcases x66 j U hU with q | q
      · exact h8 66 j U (Or.inl rfl) q
      · exact h8 (A + 34) j U (Or.inr (by omega)) q
    · rw [xR c (by omega)] at hU
      exact h8 c j U (Or.inr hc) hU
  have TQ : pTq X1 32 (m.2.1 126) := pTq_c h8 (Or.inr ⟨b2, by omega⟩) (by rw [x32]; exact C.2.2.2) (fun j hj => by rw [v2]; exact C.2.2.1 j hj) (fun c c1 _ => ⟨xc c (by omega) (by omega), xR c (by omega), by rw [x4]⟩) (rk 4 (by decide)) (fun j j1 j2 => rk j (by omega)) (iw_l b8) b6
  have D1 : pD X1 32 (m.2.1 126) := pD_A (fun b q1 q2 => (vc b (by omega) (by omega)).trans (l1 b (by omega) (by omega) (by omega) (by omega) (by omega) (by omega))) DZ
  have x19 : X1.1 32 19 = X.1 32 19 := by rw [x32]; exact s32 19 (by decide)
  have P : pCp X1 (m.2.1 126, E.2) t 0 wm := by
    obtain ⟨p1, p2, p3, p4, p5, p6, p7, p8, p9⟩ := h1
    refine ⟨?_, D1, pTq_t TQ, ?_, ?_, by rw [xc 78 (by decide) (by decide)]; exact p6, v873, fun i hi => absurd hi (Nat.not_lt_zero i), by rw [x19]; exact p9⟩
    · obtain ⟨q1, q2, q3, q4, q5, q6, q7, q8⟩ := p1
      refine ⟨q1, I.2.2.1, I.2.2.2.1, q4, by rw [xc 78 (by decide) (by decide)]; exact q5, D1.1 pt_2 (by decide), fun q hq => ?_, fun n hn => ?_⟩
      · have z := l3 q hq
        unfold pFc at *
        rw [vc 75 (by decide) (by decide), vc 76 (by decide) (by decide), vc 77 (by decide) (by decide)]
        exact z
      · have z := l4 n hn
        unfold pSl at *
        rw [vc 79 (by decide) (by decide), vc 80 (by decide) (by decide), vc 81 (by decide) (by decide)]
        exact z
    · unfold pSu pSt
      rw [xc 1 (by decide) (by decide), xc 2 (by decide) (by decide)]
      exact p4
    · unfold pSp
      rw [xc 73 (by decide) (by decide), xc 74 (by decide) (by decide)]
      exact p5
  have Q : pCm m.2 (m.2.1 126, E.2) t 0 wm := by
    obtain ⟨p1, p2, p3, p4⟩ := h3
    refine ⟨?_, ?_, t3, fun i hi => absurd hi (Nat.not_lt_zero i)⟩
    · unfold eOf at *
      rw [t5 132 (by decide) (by decide), t5 133 (by decide) (by decide), t5 134 (by decide) (by decide), t4 27 (by decide) (by decide) (by decide) (by decide), ← p1]
    · rw [t4 23 (by decide) (by decide) (by decide) (by decide), t4 24 (by decide) (by decide) (by decide) (by decide), t4 25 (by decide) (by decide) (by decide) (by decide), t4 26 (by decide) (by decide) (by decide) (by decide)]
      exact p2
  have T2 : pTp X1 m.2 ∧ X1.1 68 2 = m.2.1 125 13 := by
    refine ⟨⟨by rw [v681, t2], by rw [t2]; omega, fun i hi => ?_⟩, ?_⟩
    · rw [xc 69 (by decide) (by decide), t5 131 (by decide) (by decide)]
      exact h14.1.2.2 i hi
    · rw [v682, l1 68 (by decide) (by decide) (by decide) (by decide) (by decide) (by decide), sc 68 (by decide), t4 13 (by decide) (by decide) (by decide) (by decide)]
      exact h14.2
  have RI : pRi X1 m.2 := ri_g h17 h8 (fun c c1 _ => ⟨xc c (by omega) (by omega), xL c (by omega), xR c (by omega), by rw [x4]⟩) (xR 67 (by decide)) (fun j T hT => Or.inl (by
    rcases x66 j T hT with q | q
    · exact Or.inl q
    · exact Or.inr ⟨K, A, j, hK4, b1, q⟩)) (by rw [x4]; exact Nat.le_refl _) (t5 127 (by decide) (by decide)) (t5 128 (by decide) (by decide)) t9
  have BB : pRb X1 m.2 (m.2.1 126, E.2) t 0 wm (fun j => if j < 1600 then X.2.1 (A + 33) j else S j) := by
    refine ⟨P, Q, I, W.2, ws_f (fun b hb => xc b (by omega) (by omega)) h6, NX, TQ, fun j => ?_, fun j => ?_, by rw [xc 123 (by decide) (by decide), t5 173 (by decide) (by decide)]; exact h12, T2, RI⟩
    · show X1.2.1 65 j = if j < 1600 then X.2.1 (A + 33) j else S j
      by_cases q : j < 1600
      · rw [if_pos q, v2]
        exact C.2.1 j q
      · rw [if_neg q, v2, sL2 j (by omega)]
        exact h10 j
    · show m.2.2.1 129 j = if j < 1600 then X.2.1 (A + 33) j else S j
      by_cases q : j < 1600
      · rw [if_pos q, t7 j q]
        exact (b7 j q).symm
      · rw [if_neg q, t8 j (by omega)]
        exact h11 j
  have v1 := h1.2.2.2.2.2.2.2.2
  have A2 := ra_a (X1 := X1) (M1 := m.2) H hv BB (fun z hz => by
    have q := H.2.2.2.2 z hz
    unfold kyl at hz
    simp only [List.mem_cons, List.not_mem_nil, or_false] at hz
    rcases hz with rfl | rfl | rfl | rfl | rfl | rfl | rfl
    · rw [xc _ (by decide) (by decide)]; exact q
    · rw [xc _ (by decide) (by decide)]; exact q
    · rw [xc _ (by decide) (by decide)]; exact q
    · rw [xc _ (by decide) (by decide)]; exact q
    · rw [xc _ (by decide) (by decide)]; exact q
    · rw [xc _ (by decide) (by decide)]; exact q
    · show X1.1 87 13 ≤ _
      rw [v8713]
      omega)
  rw [vu_id t1] at A2
  exact ⟨m1.symm, _, t, 0, wm, _, A2⟩
end
