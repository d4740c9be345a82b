section jG139
/-! pure: line -/
section
variable {r s : Nat → Int} {q : (Nat → Int) × (Nat → Int) × (Nat → Int) × Int} {t : jT} {w : Nat} {wm : Nat → Nat}
/-- LINES change behind those that are told, a THING may come -/
theorem iv_lines (I : pIv (r, q) t w wm) (h0 : r 0 ≤ s 0 ∧ s 0 ≤ 200) (o : ∀ j : Nat, j ≠ 0 → j ≠ 16 → (j < 20 ∨ 18020 ≤ j) → j < 49920 → s j = r j) (l : ∀ j : Nat, 20 ≤ j → (j : Int) < 20 + 90 * r 0 → s j = r j) (T : pIt s) (c16 : s 16 = s 0 + s 4 + s 5 + s 7) (Ir : pIr (s, q)) (In : pIn (s, q)) (W : ∀ l : Nat, (l : Int) < s 0 → s (20 + 90 * l) = 5 → 0 ≤ s (24 + 90 * l)) : pIv (s, q) t w wm := by
  obtain ⟨V, Ew, _, _, Bd⟩ := I
  obtain ⟨j0, f0, g0, s0, tx0, t0, e0, p0, tm, w9, wi, b0⟩ := pEv_i.mp V
  have bs1 : 0 ≤ r 7 ∧ r 7 ≤ 40 := s0.1
  have bs2 : 0 ≤ r 9 ∧ r 9 ≤ r 7 := s0.2.1
  have bf : 0 ≤ r 5 ∧ r 5 ≤ 100 := f0.1
  have bx : 0 ≤ r 4 ∧ r 4 ≤ 30 := ⟨tx0.1.1, tx0.1.2.1⟩
  have bj : 0 ≤ r 2 ∧ r 2 ≤ 200 := j0.1
  change 0 ≤ r 0 ∧ r 0 ≤ 200 at b0
  change pBnd r at Bd
  unfold pBnd at Bd
  have w6 : 0 ≤ r 6 ∧ r 6 ≤ 40 := Ew.2.2.2.1
  have w11 : 0 ≤ r 11 ∧ r 11 ≤ 40 := Ew.2.2.2.2.1
  have R : ∀ j : Nat, j ≠ 0 → j ≠ 16 → (j < 20 ∨ 18020 ≤ j) → j < 49920 → s j = r j := o
  refine ⟨pEv_i.mpr ⟨tr_j (R 2 (by omega) (by omega) (by omega) (by omega)) h0.1 (fun j j1 j2 => R j (by omega) (by omega) (by omega) (by omega)) j0, tr_f (R 5 (by omega) (by omega) (by omega) (by omega)) h0.1 (fun j j1 j2 => R j (by omega) (by omega) (by omega) (by omega)) f0, sa_h (R 8 (by omega) (by omega) (by omega) (by omega)) (R 10 (by omega) (by omega) (by omega) (by omega)) h0.1 (by rw [R 7 (by omega) (by omega) (by omega) (by omega)]; omega) (R 9 (by omega) (by omega) (by omega) (by omega)) (by omega) (fun j j1 j2 => R j (by omega) (by omega) (by omega) (by omega)) g0, tr_s (by rw [R 7 (by omega) (by omega) (by omega) (by omega)]; omega) (R 9 (by omega) (by omega) (by omega) (by omega)) (fun j j1 j2 => R j (by omega) (by omega) (by omega) (by omega)) s0, tr_x (R 4 (by omega) (by omega) (by omega) (by omega)) (fun j j1 j2 => R j (by omega) (by omega) (by omega) (by omega)) tx0, T, tr_e ⟨R 13 (by omega) (by omega) (by omega) (by omega), by omega⟩ ⟨R 14 (by omega) (by omega) (by omega) (by omega), by omega⟩ (fun j j1 j2 => R j (by omega) (by omega) (by omega) (by omega)) e0, tr_p ⟨R 15 (by omega) (by omega) (by omega) (by omega), by omega⟩ (fun j j1 j2 => R j (by omega) (by omega) (by omega) (by omega)) p0, tm, w9, fun x hx => ?_, by show 0 ≤ s 0 ∧ s 0 ≤ 200; omega⟩, ?_, Ir, In, ?_⟩
  · obtain ⟨w1, w2, w3⟩ := wi x hx
    have w4 : ((wm x / 3 : Nat) : Int) < r 0 := w1.1
    refine ⟨⟨?_, ?_⟩, ?_, w3⟩
    · show ((wm x / 3 : Nat) : Int) < s 0
      omega
    · rw [sCo_c (E := (r, q)) (F := (s, q)) (l _ (by omega) (by omega))]
      exact w1.2
    · unfold sNl at *
      show wm x < 3 * (s 0).toNat
      change wm x < 3 * (r 0).toNat at w2
      omega
  · obtain ⟨a1, a2, a3, a4⟩ := Ew
    refine ⟨fun l hl => ?_, W, fun l hl => ?_, ?_⟩
    · change (l : Int) < s 11 at hl
      rw [R 11 (by omega) (by omega) (by omega) (by omega)] at hl
      show (0 ≤ s (48301 + 4 * l) ∧ s (48301 + 4 * l) ≤ 399) ∧ 0 ≤ s (48302 + 4 * l) ∧ s (48302 + 4 * l) ≤ 1000000
      rw [R _ (by omega) (by omega) (by omega) (by omega), R _ (by omega) (by omega) (by omega) (by omega)]
      exact a1 l hl
    · change (l : Int) < s 6 at hl
      rw [R 6 (by omega) (by omega) (by omega) (by omega)] at hl
      show 0 ≤ s (47141 + 3 * l)
      rw [R _ (by omega) (by omega) (by omega) (by omega)]
      exact a3 l hl
    · show (0 ≤ s 6 ∧ s 6 ≤ 40) ∧ (0 ≤ s 11 ∧ s 11 ≤ 40) ∧ (0 ≤ s 12 ∧ s 12 ≤ 100) ∧ (0 ≤ s 3 ∧ s 3 ≤ 20)
      rw [R 6 (by omega) (by omega) (by omega) (by omega), R 11 (by omega) (by omega) (by omega) (by omega), R 12 (by omega) (by omega) (by omega) (by omega), R 3 (by omega) (by omega) (by omega) (by omega)]
      exact a4
  · show pBnd s
    unfold pBnd
    rw [R 1 (by omega) (by omega) (by omega) (by omega), R 13 (by omega) (by omega) (by omega) (by omega), R 14 (by omega) (by omega) (by omega) (by omega), R 15 (by omega) (by omega) (by omega) (by omega)]
    exact ⟨Bd.1, Bd.2.1, Bd.2.2.1, Bd.2.2.2.1, c16⟩
end
section
variable {v : Int} {X Y M N : jW} {E : pE} {t : jT} {w : Nat} {wm : Nat → Nat} {S : Nat → Int}
/-- a row that is not told yet may hold anything -/
theorem pD_u {r s : Nat → Int} (D : pD X 32 r) (hr : r 0 < 200) (o : ∀ j : Nat, ((j : Int) < 20 + 90 * r 0 ∨ 20 + 90 * r 0 + 90 ≤ (j : Int)) → s j = r j) : pD X 32 s := by
  have b0 := D.2.1.1
  have s0 : s 0 = r 0 := o 0 (by omega)
  refine ⟨fun t ht => ?_, ?_, pBo_e rfl rfl (fun j hj => o j (by omega)) D.2.2.1, pHo_e rfl rfl (fun j hj => o j (by omega)) D.2.2.2⟩
  · by_cases z : t = pt_0
    · rw [z]
      obtain ⟨t1, t2, t3⟩ := D.1 pt_0 (by decide)
      change X.1 33 3 = r 0 at t1
      refine ⟨by show X.1 33 3 = s 0; rw [t1, s0], by show 0 ≤ s 0 ∧ s 0 ≤ 200; rw [s0]; exact b0, fun i c hi hc => ?_⟩
      change (i : Int) < s 0 at hi
      rw [s0] at hi
      have y := t3 i c hi hc
      change c < 6 at hc
      change X.1 34 (6 * i + c) = r (20 + 90 * i + [3, 2, 0, 1, 4, 5].getD c 0) at y
      show X.1 34 (6 * i + c) = s (20 + 90 * i + [3, 2, 0, 1, 4, 5].getD c 0)
      have g : [3, 2, 0, 1, 4, 5].getD c 0 < 6 := by
        have g : c = 0 ∨ c = 1 ∨ c = 2 ∨ c = 3 ∨ c = 4 ∨ c = 5 := by omega
        rcases g with rfl | rfl | rfl | rfl | rfl | rfl <;> decide
      generalize [3, 2, 0, 1, 4, 5].getD c 0 = k at *
      rw [o _ (by omega)]
      exact y
    · have k1 : (pTs.all fun t => decide (t = pt_0) || (rok 60000 20 18020 t && pok t)) = true := by decide
      have k2 := List.all_eq_true.1 k1 t ht
      simp only [Bool.or_eq_true, Bool.and_eq_true, decide_eq_true_eq] at k2
      rcases k2 with k2 | k2
      · exact absurd k2 z
      · exact pT_m (c := 60000) (lo := 20) (hi := 18020) (r := r) (fun j h1 h2 => o j (by omega)) k2.1 k2.2 (D.1 t ht)
  · obtain ⟨n0, n1, n2⟩ := D.2.1
    refine ⟨by rw [s0]; exact n0, by rw [s0]; exact n1, fun l j hl hj => ?_⟩
    rw [s0] at hl
    rw [o _ (by omega)]
    exact n2 l j hl hj
theorem cp_used {s : Nat → Int} (P : pCp X E t w wm) (xc : ∀ b : Nat, b = 1 ∨ b = 2 ∨ (73 ≤ b ∧ b ≤ 94) → Y.1 b = X.1 b) (v1 : 1 ≤ Y.1 32 19) (T : pTq Y 32 s) (c0 : s 0 = E.1 0) (g : ∀ j : Nat, 20 ≤ j → (j : Int) < 20 + 90 * E.1 0 → s j = E.1 j) (D : pD Y 32 s) (Ir : pIr (s, E.2)) (In : pIn (s, E.2)) : pCp Y (s, E.2) t w wm := by
  obtain ⟨p1, p2, p3, p4, p5, p6, p7, p8, p9⟩ := P
  refine ⟨?_, D, pTq_t T, ?_, ?_, ?_, by rw [xc 87 (by decide)]; exact p7, fun a ha => by rw [xc 88 (by decide)]; exact p8 a ha, v1⟩
  · obtain ⟨q1, q2, q3, q4, q5, q6, q7, q8⟩ := p1
    have lk : ∀ l : Nat, (l : Int) < E.1 0 → pLk E.1 (s, E.2).1 l := fun l hl j h1 h2 h3 => g j (by omega) (by omega)
    refine ⟨q1, Ir, In, q4, by rw [xc 78 (by decide)]; exact q5, D.1 pt_2 (by decide), fun q hq => ?_, fun m hm => ?_⟩
    · change ((q / 6 : Nat) : Int) < s 0 at hq
      rw [c0] at hq
      have z : pFc X (s, E.2) q := pFc_c q1 q2 hq (lk _ hq) (sh_r rfl) (q7 q hq)
      unfold pFc at *
      rw [xc 75 (by decide), xc 76 (by decide), xc 77 (by decide)]
      exact z
    · change ((m / 3 : Nat) : Int) < s 0 at hm
      rw [c0] at hm
      have z : pSl X (s, E.2) m := pSl_c (lk _ hm) (g _ (by omega) (by omega)) (q8 m hm)
      unfold pSl at *
      rw [xc 79 (by decide), xc 80 (by decide), xc 81 (by decide)]
      exact z
  · unfold pSu pSt
    rw [xc 1 (by decide), xc 2 (by decide)]
    exact p4
  · unfold pSp
    rw [xc 73 (by decide), xc 74 (by decide)]
    exact p5
  · rw [xc 78 (by decide)]
    exact p6
theorem vu_id {W : jW} {a k : Nat} {x : Int} (h : W.1 a k = x) : vu W a k x = W := by
  refine Prod.ext (funext fun b => funext fun j => ?_) rfl
  by_cases z : b = a ∧ j = k
  · rw [z.1, z.2, h]; exact if_pos ⟨rfl, rfl⟩
  · exact if_neg z
/-- no room for a LINE -/
theorem to_linf {a1 a2 a3 a4 a5 : Int} (e33 : X.1 33 3 = M.1 126 0) (c : M.1 126 0 = 200) : ∃ e : Int, (-6 ≤ e ∧ e < 0) ∧ d_X11_line_r31d a1 a2 a3 a4 a5 X = (e, vu (vu X 68 1 0) 31 12 e) ∧ d_X12_line_r125d a1 a2 a3 a4 a5 M = (e, vu (vu (vu M 125 0 0) 125 8 0) 125 1 e) := by
  by_cases g : lnG a1 a2 a3 a4 a5
  · refine ⟨-5, by decide, ?_, ?_⟩
    · rw [lnX_y g]
      unfold lnX
      rw [fu_33, if_neg (show ¬ (if X.1 33 3 < 200 then (0 : Int) else 1) = 0 from by rw [if_neg (by omega)]; decide)]
    · rw [lnM_y g]
      unfold d_X12_line_r125d_300058
      rw [if_pos (show (vu M 125 0 0).1 126 0 = 200 from (vu_n (by omega)).trans c)]
      exact told_n (e := -5) (by decide)
  · refine ⟨-1, by decide, ?_, ?_⟩
    · rw [lnX_n g]
    · rw [lnM_n g]
      exact told_n (e := -1) (by decide)
theorem q_line {a1 a2 a3 a4 a5 : Int} (H : pR v X M) (hv : v < 2147483646) : (d_X11_line_r31d a1 a2 a3 a4 a5 X).1 = (d_X12_line_r125d a1 a2 a3 a4 a5 M).1 ∧ pR (v + 1) (d_X11_line_r31d a1 a2 a3 a4 a5 X).2 (d_X12_line_r125d a1 a2 a3 a4 a5 M).2 := by
  obtain ⟨E, t, w, wm, S, H⟩ := H
  have bb := rb_b H.1
  have e := cm_126 H.1.2.1
  have D := rb_d H.1
  have e33 : X.1 33 3 = M.1 126 0 := (D.1 pt_0 (by decide)).1
  have e0 : M.1 126 0 = E.1 0 := by rw [e]
  obtain ⟨h1, h3, h4, h5, h6, h8, h9, h10, h11, h12, h14, h17⟩ := id H.1
  have G := fr_d_X12_line_r125d a1 a2 a3 a4 a5 M
  by_cases c : M.1 126 0 < 200
  · have e16 : M.1 126 16 < 370 := by rw [e]; omega
    have FX := fr_d_X11_line_r31d a1 a2 a3 a4 a5 X
    rcases to_line (a1 := a1) (a2 := a2) (a3 := a3) (a4 := a4) (a5 := a5) h14.1 h14.2 D h1.2.2.2.1.1 e16 with L | ⟨_, g, L⟩
    · obtain ⟨er, _, l1, l2, l3, l4, l5, l6, F, l8⟩ := L
      refine ⟨l1.trans l2.symm, ?_⟩
      generalize d_X11_line_r31d a1 a2 a3 a4 a5 X = x at *
      generalize d_X12_line_r125d a1 a2 a3 a4 a5 M = m at *
      rw [e] at l8
      have xc : ∀ b : Nat, b < 31 ∨ (32 ≤ b ∧ b ≤ 67) ∨ (73 ≤ b ∧ b ≤ 94) ∨ 99 ≤ b → x.2.1 b = X.1 b := fun b hb => funext fun k => F.1 b k (oktl_n rfl hb)
      have xL : ∀ b : Nat, b < 31 ∨ (32 ≤ b ∧ b ≤ 67) ∨ (73 ≤ b ∧ b ≤ 94) ∨ 99 ≤ b → x.2.2.1 b = X.2.1 b := fun b hb => funext fun k => F.2.1 b k (oktl_n rfl hb)
      have xR : ∀ b : Nat, b < 31 ∨ (32 ≤ b ∧ b ≤ 67) ∨ (73 ≤ b ∧ b ≤ 94) ∨ 99 ≤ b → x.2.2.2.1 b = X.2.2.1 b := fun b hb => funext fun k => F.2.2.1 b k (oktl_n rfl hb)
      have x4 : x.2.2.2.2 = X.2.2.2 := F.2.2.2
      have s0 : m.2.1 126 0 = E.1 0 := l8 0 (by omega)
      have used : ∀ j : Nat, 20 ≤ j → (j : Int) < 20 + 90 * E.1 0 → m.2.1 126 j = E.1 j := fun j j1 j2 => l8 j (by omega)
      have DX : pD x.2 32 (m.2.1 126) := pD_A (fun b b1 b2 => xc b (by omega)) (pD_u h1.2.1 (by omega) (fun j hj => l8 j (by omega)))
      have TQ : pTq x.2 32 (m.2.1 126) := pTq_c h8 (Or.inl rfl) (by rw [xc 32 (by decide)]) (fun k _ => by rw [xR 66 (by decide)]) (fun b b1 _ => ⟨xc b (by omega), xR b (by omega), by rw [x4]⟩) (l8 4 (by omega)) (fun j j1 j2 => l8 j (by omega)) h4.1.2.2.2.2.1 h9
      have Ir : pIr (m.2.1 126, E.2) := fun l hl => by
        change (l : Int) < m.2.1 126 0 at hl
        rw [s0] at hl
        have y := h4.2.2.1 l hl
        show (0 ≤ m.2.1 126 (20 + 90 * l) ∧ m.2.1 126 (20 + 90 * l) ≤ 5) ∧ (0 ≤ m.2.1 126 (21 + 90 * l) ∧ m.2.1 126 (21 + 90 * l) ≤ 15) ∧ (0 ≤ m.2.1 126 (22 + 90 * l) ∧ m.2.1 126 (22 + 90 * l) ≤ 146399) ∧ (0 ≤ m.2.1 126 (23 + 90 * l) ∧ m.2.1 126 (23 + 90 * l) ≤ 146399) ∧ ∀ k : Nat, k < 6 → (0 ≤ m.2.1 126 (26 + 90 * l + 14 * k) ∧ m.2.1 126 (26 + 90 * l + 14 * k) ≤ 12)
        rw [used (20 + 90 * l) (by omega) (by omega), used (21 + 90 * l) (by omega) (by omega), used (22 + 90 * l) (by omega) (by omega), used (23 + 90 * l) (by omega) (by omega)]
        refine ⟨y.1, y.2.1, y.2.2.1, y.2.2.2.1, fun k hk => ?_⟩
        rw [used (26 + 90 * l + 14 * k) (by omega) (by omega)]
        exact y.2.2.2.2 k hk
      have In : pIn (m.2.1 126, E.2) := fun l hl => by
        change (l : Int) < m.2.1 126 0 at hl
        rw [s0] at hl
        show -256 ≤ m.2.1 126 (24 + 90 * l) ∧ m.2.1 126 (24 + 90 * l) ≤ 100351
        rw [used _ (by omega) (by omega)]
        exact h4.2.2.2.1 l hl
      have I : pIv (m.2.1 126, E.2) t w wm := iv_lines (r := E.1) h4 (by omega) (fun j j0 j1 j2 j3 => l8 j (by omega)) used (sa_t (by omega) (l8 16 (by omega)) (by omega) (fun j j1 j2 => l8 j (by omega)) (pEv_i.mp h4.1).2.2.2.2.2.1) (by rw [l8 16 (by omega), s0, l8 4 (by omega), l8 5 (by omega), l8 7 (by omega)]; omega) Ir In (fun l hl => by
        rw [s0] at hl
        rw [used (20 + 90 * l) (by omega) (by omega), used (24 + 90 * l) (by omega) (by omega)]
        exact h4.2.1.2.1 l hl)
      have v1 : 1 ≤ x.2.1 32 19 := by rw [xc 32 (by decide)]; exact h1.2.2.2.2.2.2.2.2
      have P : pCp x.2 (m.2.1 126, E.2) t w wm := cp_used h1 (fun b hb => xc b (by omega)) v1 TQ s0 used DX Ir In
      have PE : pCp x.2 E t w wm := pCp_f h1 (fun b hb => xc b (by unfold xG at hb; omega)) (by rw [xc 32 (by decide)]) v1 (fun k _ => by rw [xc 78 (by decide)]) (by rw [xc 87 (by decide)]) (fun b hb => xR b (by omega)) x4
      have mc : ∀ b : Nat, b = 127 ∨ b = 128 ∨ b = 132 ∨ b = 133 ∨ b = 134 ∨ b = 141 ∨ b = 173 → m.2.1 b = M.1 b := fun b hb => by
        rcases hb with rfl | rfl | rfl | rfl | rfl | rfl | rfl <;> exact pF_c G rfl
      have mk : ∀ k : Nat, k = 23 ∨ k = 24 ∨ k = 25 ∨ k = 26 ∨ k = 27 ∨ k = 36 → m.2.1 125 k = M.1 125 k := fun k hk => by
        rcases hk with rfl | rfl | rfl | rfl | rfl | rfl <;> exact G.1 125 _ rfl
      have Q : pCm m.2 (m.2.1 126, E.2) t w wm := by
        obtain ⟨p1, p2, p3, p4⟩ := h3
        refine ⟨?_, ?_, by rw [mk 36 (by decide)]; exact p3, fun i hi => by rw [mc 141 (by decide)]; exact p4 i hi⟩
        · unfold eOf at *
          rw [mc 132 (by decide), mc 133 (by decide), mc 134 (by decide), mk 27 (by decide), ← p1]
        · rw [mk 23 (by decide), mk 24 (by decide), mk 25 (by decide), mk 26 (by decide)]
          exact p2
      have B : pRb x.2 m.2 (m.2.1 126, E.2) t w wm S := ⟨P, Q, I, tr_z ⟨l8 14 (by omega), by omega⟩ (fun j j1 j2 => l8 j (by omega)) h5, ws_f (fun b hb => xc b (Or.inl hb)) h6, fun b k T hb hT => by rw [xR b (by omega)] at hT; rw [x4] at hb ⊢; exact h8 b k T hb hT, TQ, fun k => by rw [xL 65 (by decide)]; exact h10 k, fun k => (G.2.1 129 k rfl).trans (h11 k), by rw [xc 123 (by decide), mc 173 (by decide)]; exact h12, ⟨l5, l6⟩, ri_f h17 h8 (fun b b1 _ => ⟨xc b (by omega), xL b (by omega), xR b (by omega), by rw [x4]⟩) (xR 67 (by decide)) (xR 66 (by decide)) (by rw [x4]; exact Nat.le_refl _) (mc 127 (by decide)) (mc 128 (by decide)) (funext fun k => G.2.1 130 k rfl)⟩
      refine ⟨(m.2.1 126, E.2), t, w, wm, S, ra_v (v := v) ⟨B, tk_all ⟨⟨PE, h4⟩, P, I⟩ (pCk_f (fun b hb => xc b (by omega)) H.2.1), l3.trans l4.symm, by rw [xc 32 (by decide)]; exact H.2.2.2.1, fun z hz => ?_⟩ (by omega)⟩
      have := kyl_c hz
      rw [xc 32 (by decide), xc z.1 (by omega)]
      exact H.2.2.2.2 z hz
    · have e35 : X.1 35 3 = 6 * M.1 126 0 := D.2.1.2.1
      have lq := fun hh => ln_q (X := X) (n := (M.1 126 0).toNat) (a1 := a1) (a2 := a2) (a3 := a3) (a4 := a4) (a5 := a5) (by have := h14.1.1; have := h14.1.2.1; omega) g (by omega) (by omega) (by omega) hh
      obtain ⟨ft, X1, t1, l1, l2, l3, l4, l5, F, l7, w1, w2, ⟨n0, n1, n2, n3, n4, n5⟩, ⟨n6, n7⟩, l8⟩ := L
      rw [l1] at lq
      rw [l1]
      refine ⟨l2.symm, ?_⟩
      have lq2 := lq (by show 0 ≤ M.1 126 0; omega)
      clear lq
      generalize d_X12_line_r125d a1 a2 a3 a4 a5 M = m at *
      rw [e] at l8 w1 w2 n0 n1 n2 n3 n4 n5 n6 n7 lq2
      obtain ⟨n, hn⟩ : ∃ n : Nat, E.1 0 = (n : Int) := ⟨(E.1 0).toNat, by omega⟩
      rw [e, hn]
      rw [hn] at w1 n0 n1 n2 n3 n4 n5 n7 lq2
      have hn2 : n < 200 := by omega
      rw [show ((n : Int)).toNat = n from by omega] at lq2
      have xc1 : ∀ b : Nat, b < 33 ∨ (37 ≤ b ∧ b ≤ 62) ∨ b = 65 ∨ b = 66 ∨ b = 67 ∨ (72 ≤ b) → X1.1 b = X.1 b ∧ X1.2.1 b = X.2.1 b ∧ X1.2.2.1 b = X.2.2.1 b := fun b hb => by
        have z : ∀ k : Nat, pc [(33, 4), (34, 0), (35, 4), (36, 0), (63, 4), (64, 0), (68, 0), (71, 0)] b k = false := fun k => pc_any (by
          cases g : ([(33, 4), (34, 0), (35, 4), (36, 0), (63, 4), (64, 0), (68, 0), (71, 0)].any fun q : Nat × Nat => Nat.beq q.1 b) with
          | false => rfl
          | true =>
            exfalso
            rw [List.any_eq_true] at g
            obtain ⟨p, p1, p2⟩ := g
            have z := Nat.eq_of_beq_eq_true p2
            simp only [List.mem_cons, List.not_mem_nil, or_false] at p1
            rcases p1 with rfl | rfl | rfl | rfl | rfl | rfl | rfl | rfl <;> (change _ = b at z; omega)) k
        exact ⟨funext fun k => F.1 b k (z k), funext fun k => F.2.1 b k (z k), funext fun k => F.2.2.1 b k (z k)⟩
      have x41 : X1.2.2.2 = X.2.2.2 := F.2.2.2
      have used : ∀ j : Nat, 20 ≤ j → (j : Int) < 20 + 90 * E.1 0 → m.2.1 126 j = E.1 j := fun j j1 j2 => l8 j (by omega) (by omega) (by omega) (by omega)
      have nm : ∀ k : Nat, k < 6 → 0 ≤ m.2.1 126 (26 + 90 * n + 14 * k) ∧ m.2.1 126 (26 + 90 * n + 14 * k) ≤ 12 := fun k hk => by
        have y : X1.1 36 (84 * n + 14 * k) = m.2.1 126 (26 + 90 * n + 14 * k) := l7.2.1.2.2 n (14 * k) (by rw [w1]; omega) (by omega)
        have z := lq2 k hk
        have u : (vu (vu (d_X7_learn_r78d (n : Int) (d_X5_learn_r70d (n : Int) X1)) 31 12 0) 32 19 (j_iadd (X.1 32 19) 1)).1 36 (84 * n + 14 * k) = X1.1 36 (84 * n + 14 * k) := by
          rw [vu_n (by omega), vu_n (by omega), (fr_d_X7_learn_r78d _ _).1 36 _ (pc_any rfl _), (fr_d_X5_learn_r70d _ _).1 36 _ (pc_any rfl _)]
        change 0 ≤ (vu (vu (d_X7_learn_r78d (n : Int) (d_X5_learn_r70d (n : Int) X1)) 31 12 0) 32 19 (j_iadd (X.1 32 19) 1)).1 36 (84 * n + 14 * k) ∧ (vu (vu (d_X7_learn_r78d (n : Int) (d_X5_learn_r70d (n : Int) X1)) 31 12 0) 32 19 (j_iadd (X.1 32 19) 1)).1 36 (84 * n + 14 * k) ≤ 12 at z
        rw [u, y] at z
        exact z
      obtain ⟨g1, g2, g3, g4, g5, g6, g7, g8⟩ := g
      rw [show (20 + 90 * (n : Int)).toNat = 20 + 90 * n from by omega] at n0
      rw [show (20 + 90 * (n : Int) + 1).toNat = 21 + 90 * n from by omega] at n1
      rw [show (20 + 90 * (n : Int) + 2).toNat = 22 + 90 * n from by omega] at n2
      rw [show (20 + 90 * (n : Int) + 3).toNat = 23 + 90 * n from by omega] at n3
      rw [show (20 + 90 * (n : Int) + 4).toNat = 24 + 90 * n from by omega] at n4
      have Ir : pIr (m.2.1 126, E.2) := fun l hl => by
        change (l : Int) < m.2.1 126 0 at hl
        rw [w1] at hl
        show (0 ≤ m.2.1 126 (20 + 90 * l) ∧ m.2.1 126 (20 + 90 * l) ≤ 5) ∧ (0 ≤ m.2.1 126 (21 + 90 * l) ∧ m.2.1 126 (21 + 90 * l) ≤ 15) ∧ (0 ≤ m.2.1 126 (22 + 90 * l) ∧ m.2.1 126 (22 + 90 * l) ≤ 146399) ∧ (0 ≤ m.2.1 126 (23 + 90 * l) ∧ m.2.1 126 (23 + 90 * l) ≤ 146399) ∧ ∀ k : Nat, k < 6 → (0 ≤ m.2.1 126 (26 + 90 * l + 14 * k) ∧ m.2.1 126 (26 + 90 * l + 14 * k) ≤ 12)
        by_cases z : l = n
        · rw [z, n0, n1, n2, n3]
          exact ⟨g1, g2, g3, g4, nm⟩
        · have y := h4.2.2.1 l (by omega)
          rw [used (20 + 90 * l) (by omega) (by omega), used (21 + 90 * l) (by omega) (by omega), used (22 + 90 * l) (by omega) (by omega), used (23 + 90 * l) (by omega) (by omega)]
          refine ⟨y.1, y.2.1, y.2.2.1, y.2.2.2.1, fun k hk => ?_⟩
          rw [used (26 + 90 * l + 14 * k) (by omega) (by omega)]
          exact y.2.2.2.2 k hk
      have In : pIn (m.2.1 126, E.2) := fun l hl => by
        change (l : Int) < m.2.1 126 0 at hl
        rw [w1] at hl
        show -256 ≤ m.2.1 126 (24 + 90 * l) ∧ m.2.1 126 (24 + 90 * l) ≤ 100351
        by_cases z : l = n
        · rw [z, n4]
          omega
        · rw [used _ (by omega) (by omega)]
          exact h4.2.2.2.1 l (by omega)
      have oo : ∀ j : Nat, j ≠ 0 → j ≠ 16 → (j < 20 ∨ 18020 ≤ j) → j < 49920 → m.2.1 126 j = E.1 j := fun j j0 j1 j2 j3 => l8 j j0 j1 (by omega) (by omega)
      have It : pIt (m.2.1 126) := by
        refine tr_t (r := E.1) (by omega) (by omega) (fun i hi => ?_) (pEv_i.mp h4.1).2.2.2.2.2.1
        rw [w2] at hi
        by_cases z : (i : Int) < E.1 16
        · exact Or.inl ⟨z, l8 _ (by omega) (by omega) (by omega) (by omega), l8 _ (by omega) (by omega) (by omega) (by omega)⟩
        · refine Or.inr (Or.inr ?_)
          rw [show 49921 + 2 * i = (49920 + 2 * E.1 16 + 1).toNat from by omega, n7, w1]
          omega
      have I : pIv (m.2.1 126, E.2) t w wm := iv_lines (r := E.1) h4 (by omega) oo used It (by rw [w1, w2, oo 4 (by omega) (by omega) (by omega) (by omega), oo 5 (by omega) (by omega) (by omega) (by omega), oo 7 (by omega) (by omega) (by omega) (by omega)]; omega) Ir In (fun l hl => by
        rw [w1] at hl
        by_cases z : l = n
        · rw [z, n0, n4]
          intro z5
          have := g7 z5
          omega
        · rw [used (20 + 90 * l) (by omega) (by omega), used (24 + 90 * l) (by omega) (by omega)]
          exact h4.2.1.2.1 l (by omega))
      have SP : pSp X1 (m.2.1 126, E.2) := by
        unfold pSp
        rw [(xc1 73 (by decide)).1, (xc1 74 (by decide)).1]
        exact h1.2.2.2.2.1
      have hl0 : (n : Int) < ((m.2.1 126, E.2) : pE).1 0 := by show (n : Int) < m.2.1 126 0; omega
      have hl2 : ((m.2.1 126, E.2) : pE).1 0 ≤ 200 := by show m.2.1 126 0 ≤ 200; omega
      obtain ⟨f1, f2, f3, f4, f5⟩ := xln (E := (m.2.1 126, E.2)) (X := X1) (l := n) h1.1.1 Ir hl0 hl2 SP (l7.1 pt_0 (by decide)) l7.2.1
      have SU : pSu (d_X5_learn_r70d (n : Int) X1) := by
        unfold pSu pSt
        rw [show (d_X5_learn_r70d (n : Int) X1).1 1 = X.1 1 from (funext fun j => f1 1 j (by decide) (by decide) (by decide)).trans (xc1 1 (by decide)).1, show (d_X5_learn_r70d (n : Int) X1).1 2 = X.1 2 from (funext fun j => f1 2 j (by decide) (by decide) (by decide)).trans (xc1 2 (by decide)).1]
        exact h1.2.2.2.1
      have D2 : pD (d_X5_learn_r70d (n : Int) X1) 32 (m.2.1 126) := pD_A (fun b b1 b2 => funext fun j => f1 b j (by omega) (by omega) (by omega)) l7
      generalize d_X5_learn_r70d (n : Int) X1 = Z1 at *
      obtain ⟨k1, k2, k3, k4⟩ := xls (E := (m.2.1 126, E.2)) (X := Z1) (l := n) Ir hl0 hl2 SU (D2.1 pt_0 (by decide))
      generalize d_X7_learn_r78d (n : Int) Z1 = Z at *
      have xz : ∀ b : Nat, b ≠ 75 → b ≠ 76 → b ≠ 77 → b ≠ 79 → b ≠ 80 → b ≠ 81 → Z.1 b = X1.1 b := fun b b1 b2 b3 b4 b5 b6 => (funext fun j => k1 b j b4 b5 b6).trans (funext fun j => f1 b j b1 b2 b3)
      have xz2 : Z.2 = X1.2 := k2.trans f2
      have DZ : pD Z 32 (m.2.1 126) := pD_A (fun b b1 b2 => xz b (by omega) (by omega) (by omega) (by omega) (by omega) (by omega)) l7
      have xc : ∀ b : Nat, b < 33 ∨ (82 ≤ b) ∨ b = 73 ∨ b = 74 ∨ b = 78 → Z.1 b = X.1 b := fun b hb => (xz b (by omega) (by omega) (by omega) (by omega) (by omega) (by omega)).trans (xc1 b (by omega)).1
      have TQ : pTq Z 32 (m.2.1 126) := pTq_c h8 (Or.inl rfl) (by rw [xc 32 (by decide)]) (fun k _ => by rw [xz2, (xc1 66 (by decide)).2.2]) (fun b b1 _ => ⟨xc b (by omega), by rw [xz2]; exact (xc1 b (by omega)).2.2, by rw [xz2, x41]⟩) (oo 4 (by omega) (by omega) (by omega) (by omega)) (fun j j1 j2 => oo j (by omega) (by omega) (by omega) (by omega)) h4.1.2.2.2.2.1 h9
      have lk : ∀ l : Nat, (l : Int) < E.1 0 → pLk E.1 (m.2.1 126) l := fun l hl j j1 j2 j3 => used j (by omega) (by omega)
      have P : pCp Z (m.2.1 126, E.2) t w wm := by
        obtain ⟨p1, p2, p3, p4, p5, p6, p7, p8, p9⟩ := h1
        refine ⟨?_, DZ, pTq_t TQ, ?_, ?_, by rw [xc 78 (by decide)]; exact p6, by rw [xc 87 (by decide)]; exact p7, fun i hi => by rw [xc 88 (by decide)]; exact p8 i hi, by rw [xc 32 (by decide)]; exact p9⟩
        · obtain ⟨q1, q2, q3, q4, q5, q6, q7, q8⟩ := p1
          refine ⟨q1, Ir, In, q4, by rw [xc 78 (by decide)]; exact q5, DZ.1 pt_2 (by decide), fun q hq => ?_, fun k hk => ?_⟩
          · have hq2 := hq
            change ((q / 6 : Nat) : Int) < m.2.1 126 0 at hq
            rw [w1] at hq
            have zz : ∀ b : Nat, b = 75 ∨ b = 76 ∨ b = 77 → Z.1 b = Z1.1 b := fun b hb => funext fun j => k1 b j (by omega) (by omega) (by omega)
            by_cases z : q / 6 = n
            · have u := f5 q (by omega) (by omega)
              unfold pFc at *
              rw [zz 75 (by decide), zz 76 (by decide), zz 77 (by decide)]
              exact u
            · have u : pFc X (m.2.1 126, E.2) q := pFc_c q1 q2 (by omega) (lk _ (by omega)) (sh_r rfl) (q7 q (by omega))
              have y := f3 q (by omega)
              refine pFc_x u ?_ ?_ (fun j j1 j2 => ?_) (fcL_l (E := (m.2.1 126, E.2)) q1 Ir hq2)
              · rw [zz 76 (by decide), y.1, (xc1 76 (by omega)).1]
              · rw [zz 77 (by decide), y.2, (xc1 77 (by omega)).1]
              · rw [zz 75 (by decide), f4 j (by omega), (xc1 75 (by omega)).1]
          · change ((k / 3 : Nat) : Int) < m.2.1 126 0 at hk
            rw [w1] at hk
            by_cases z : k / 3 = n
            · exact k4 k (by omega) (by omega)
            · have u : pSl X (m.2.1 126, E.2) k := pSl_c (lk _ (by omega)) (used _ (by omega) (by omega)) (q8 k (by omega))
              have y := k3 k (by omega)
              unfold pSl at *
              rw [y.1, y.2.1, y.2.2, f1 79 k (by decide) (by decide) (by decide), f1 80 k (by decide) (by decide) (by decide), f1 81 k (by decide) (by decide) (by decide), (xc1 79 (by omega)).1, (xc1 80 (by omega)).1, (xc1 81 (by omega)).1]
              exact u
        · unfold pSu pSt
          rw [xc 1 (by decide), xc 2 (by decide)]
          exact p4
        · unfold pSp
          rw [xc 73 (by decide), xc 74 (by decide)]
          exact p5
      have mc : ∀ b : Nat, b = 127 ∨ b = 128 ∨ b = 132 ∨ b = 133 ∨ b = 134 ∨ b = 141 ∨ b = 173 → m.2.1 b = M.1 b := fun b hb => by
        rcases hb with rfl | rfl | rfl | rfl | rfl | rfl | rfl <;> exact pF_c G rfl
      have mk : ∀ k : Nat, k = 23 ∨ k = 24 ∨ k = 25 ∨ k = 26 ∨ k = 27 ∨ k = 36 → m.2.1 125 k = M.1 125 k := fun k hk => by
        rcases hk with rfl | rfl | rfl | rfl | rfl | rfl <;> exact G.1 125 _ rfl
      have Q : pCm m.2 (m.2.1 126, E.2) t w wm := by
        obtain ⟨p1, p2, p3, p4⟩ := h3
        refine ⟨?_, ?_, by rw [mk 36 (by decide)]; exact p3, fun i hi => by rw [mc 141 (by decide)]; exact p4 i hi⟩
        · unfold eOf at *
          rw [mc 132 (by decide), mc 133 (by decide), mc 134 (by decide), mk 27 (by decide), ← p1]
        · rw [mk 23 (by decide), mk 24 (by decide), mk 25 (by decide), mk 26 (by decide)]
          exact p2
      have B : pRb Z m.2 (m.2.1 126, E.2) t w wm S := ⟨P, Q, I, tr_z ⟨oo 14 (by omega) (by omega) (by omega) (by omega), by omega⟩ (fun j j1 j2 => oo j (by omega) (by omega) (by omega) (by omega)) h5, ws_f (fun b hb => xc b (by omega)) h6, fun b k T hb hT => by rw [xz2, (xc1 b (by omega)).2.2] at hT; rw [xz2, x41] at hb ⊢; exact h8 b k T hb hT, TQ, fun k => by rw [xz2, (xc1 65 (by decide)).2.1]; exact h10 k, fun k => (G.2.1 129 k rfl).trans (h11 k), by rw [xc 123 (by decide), mc 173 (by decide)]; exact h12, ⟨tp_c (by rw [xz 68 (by decide) (by decide) (by decide) (by decide) (by decide) (by decide)]) (xz 69 (by decide) (by decide) (by decide) (by decide) (by decide) (by decide)) rfl rfl l4, by rw [xz 68 (by decide) (by decide) (by decide) (by decide) (by decide) (by decide)]; exact l5⟩, ri_f h17 h8 (fun b b1 _ => ⟨xc b (by omega), by rw [xz2]; exact (xc1 b (by omega)).2.1, by rw [xz2]; exact (xc1 b (by omega)).2.2, by rw [xz2, x41]⟩) (by rw [xz2]; exact (xc1 67 (by decide)).2.2) (by rw [xz2]; exact (xc1 66 (by decide)).2.2) (by rw [xz2, x41]; exact Nat.le_refl _) (mc 127 (by decide)) (mc 128 (by decide)) (funext fun k => G.2.1 130 k rfl)⟩
      have A := ra_a H hv B (fun z hz => by
        have := kyl_c hz
        rw [xc z.1 (by omega)]
        exact H.2.2.2.2 z hz)
      rw [vu_id l3] at A
      exact ⟨_, t, w, wm, S, A⟩
  · obtain ⟨er, _, ex, em⟩ := to_linf (a1 := a1) (a2 := a2) (a3 := a3) (a4 := a4) (a5 := a5) e33 (by omega)
    rw [ex, em]
    have T := tp_z (e := er) (f := er) (pTp_m (k := 0) (x := 0) h14.1 (by decide))
    refine ⟨rfl, E, t, w, wm, S, ra_v (v := v) (ra_t2 (l := [(31, 13), (68, 0)]) H (pF_u (pF_v pF_r rfl) rfl) rfl ⟨fun c hc => (vu_c (by omega)).trans ((vu_c (by omega)).trans (vu_c (by omega))), fun k hk => (vu_n (by omega)).trans ((vu_n (by omega)).trans (vu_n (by omega))), fun _ _ _ => rfl⟩ ⟨T, by rw [vu_n (by omega), vu_n (by omega), vu_n (by omega), vu_n (by omega), vu_n (by omega)]; exact h14.2⟩ (by rw [vu_e rfl, vu_e rfl])) (by omega)⟩
end
end jG139

section jG140
/-! pure: where nothing is found wrong the fault stays as it was -/
def pJk (W V : jW) : Prop := V.1 125 14 = 0 → W.1 125 14 = 0 ∧ V.1 125 13 = W.1 125 13
theorem jk_r {W : jW} : pJk W W := fun h => ⟨h, rfl⟩
theorem jk_t {W V U : jW} (h : pJk W V) (g : pJk V U) : pJk W U := fun z => ⟨(h (g z).1).1, (g z).2.trans (h (g z).1).2⟩
theorem jk_i {W A B : jW} {c : Prop} [Decidable c] (h : pJk W A) (g : pJk W B) : pJk W (if c then A else B) := by
  by_cases e : c
  · rw [if_pos e]; exact h
  · rw [if_neg e]; exact g
theorem jk_i2 {W : jW} {A B : Int × jW} {c : Prop} [Decidable c] (h : pJk W A.2) (g : pJk W B.2) : pJk W (if c then A else B).2 := by
  by_cases e : c
  · rw [if_pos e]; exact h
  · rw [if_neg e]; exact g
def njk (a k : Nat) : Bool := !(Nat.beq a 125 && Nat.beq k 13) && !(Nat.beq a 125 && Nat.beq k 14)
theorem jk_u {W V : jW} {a k : Nat} {x : Int} (h : pJk W V) (e : njk a k = true) : pJk W (vu V a k x) := by
  unfold njk at e
  rw [Bool.and_eq_true] at e
  intro z
  rw [vu_n (fun y => nb_n2 e.2 ⟨y.1.symm, y.2.symm⟩)] at z
  rw [vu_n (fun y => nb_n2 e.1 ⟨y.1.symm, y.2.symm⟩)]
  exact h z
theorem jk_v {W V : jW} {a k : Nat} {x : Int} (h : pJk W V) (e : (!(Nat.beq a 125)) = true) : pJk W (vu V a k x) := by
  have n := nb_n e
  intro z
  rw [vu_n (fun y => n y.1.symm)] at z
  rw [vu_n (fun y => n y.1.symm)]
  exact h z
theorem jk_L {W V : jW} {a k : Nat} {x : Int} (h : pJk W V) : pJk W (vuL V a k x) := h
theorem jk_bb {W V : jW} {x : Int} : pJk W (vu (vu V 125 14 1) 125 13 x) := fun z => by
  rw [vu_n (by omega), vu_e rfl] at z
  exact absurd z (by decide)
theorem jk_b {W V : jW} : pJk W (vu V 125 14 1) := fun z => by
  rw [vu_e rfl] at z
  exact absurd z (by decide)
theorem jk_F {l : List (Nat × Nat)} {W V : jW} (F : pF l W V) (e : (!(pc l 125 13) && !(pc l 125 14)) = true) : pJk W V := by
  rw [Bool.and_eq_true] at e
  intro z
  rw [F.1 125 14 (nb_f e.2)] at z
  exact ⟨z, F.1 125 13 (nb_f e.1)⟩
/-! the class -/
def pFk (W : jW) (x : Int × jW) : Prop := x.1 = 0 ∨ x.2.1 68 2 = W.1 68 2
theorem fv_r {W : jW} : W.1 68 2 = W.1 68 2 := rfl
theorem fv_t {W V U : jW} (h : V.1 68 2 = W.1 68 2) (g : U.1 68 2 = V.1 68 2) : U.1 68 2 = W.1 68 2 := g.trans h
theorem fv_u {W V : jW} {a k : Nat} {x : Int} (h : V.1 68 2 = W.1 68 2) (e : ¬ (68 = a ∧ 2 = k)) : (vu V a k x).1 68 2 = W.1 68 2 := (vu_n e).trans h
theorem fv_v {W V : jW} {a k : Nat} {x : Int} (h : V.1 68 2 = W.1 68 2) (e : 68 ≠ a) : (vu V a k x).1 68 2 = W.1 68 2 := (vu_n (fun z => e z.1)).trans h
theorem fv_L {W V : jW} {a k : Nat} {x : Int} (h : V.1 68 2 = W.1 68 2) : (vuL V a k x).1 68 2 = W.1 68 2 := h
theorem fk_0 {W V : jW} : pFk W (0, V) := Or.inl rfl
theorem fk_1 {W V : jW} {a : Int} (h : V.1 68 2 = W.1 68 2) : pFk W (a, V) := Or.inr h
theorem fk_t {W V : jW} {x : Int × jW} (h : V.1 68 2 = W.1 68 2) (g : pFk V x) : pFk W x := g.elim Or.inl (fun e => Or.inr (e.trans h))
theorem fk_i {W : jW} {A B : Int × jW} {c : Prop} [Decidable c] (h : c → pFk W A) (g : ¬ c → pFk W B) : pFk W (if c then A else B) := by
  by_cases e : c
  · rw [if_pos e]; exact h e
  · rw [if_neg e]; exact g e
theorem fk_F {l : List (Nat × Nat)} {W : jW} {x : Int × jW} (F : pF l W x.2) (e : pc l 68 2 = false) : pFk W x := Or.inr (F.1 68 2 e)
end jG140
