section jG66
/-! pure: all CLAUSES of a TEXT read by both -/
def gRd : Nat → Int → jW → Int × jW
  | 0, _, W => (0, W)
  | r + 1, n, W => if 12 ≤ n then (0, vu W 68 2 (W.1 68 3)) else if (d_X2_readClause_r95d (vu W 95 3 (n + 1))).1 = 0 then (0, (d_X2_readClause_r95d (vu W 95 3 (n + 1))).2) else if (d_X2_readClause_r95d (vu W 95 3 (n + 1))).2.1 68 5 = 0 then (1, (d_X2_readClause_r95d (vu W 95 3 (n + 1))).2) else if d_X9_isSign_r68d 59 (d_X2_readClause_r95d (vu W 95 3 (n + 1))).2 = 0 then (0, vu (d_X2_readClause_r95d (vu W 95 3 (n + 1))).2 68 2 ((d_X2_readClause_r95d (vu W 95 3 (n + 1))).2.1 68 3)) else gRd r (n + 1) (d_X9_step_r68d (d_X2_readClause_r95d (vu W 95 3 (n + 1))).2)
def mRd : Nat → jW → jW
  | 0, W => W
  | r + 1, W => if W.1 125 14 = 0 then (if W.1 125 11 = 3 then (if W.2.1 125 12 = 59 then mRd r (d_X12_readClause_r125d (d_X12_next_r125d W)) else W) else W) else W
def mRe (W : jW) : jW := if W.1 125 14 = 0 then (if W.1 125 11 = 0 then W else mBad W) else W
theorem cz_c {X M X2 M2 : jW} {c c2 : yC} {i j : Int} (hi : 0 ≤ i ∧ i < j) (P : pCz X M c i) (e1 : ∀ k : Nat, (k : Int) < j * 6 → X2.1 96 k = X.1 96 k) (e2 : ∀ k : Nat, (k : Int) < 10 * j → M2.1 147 k = M.1 147 k) (e3 : ∀ k : Nat, (k : Int) < X.1 95 4 → X2.1 97 k = X.1 97 k) (e4 : X.1 95 4 ≤ X2.1 95 4) (e5 : yUp c.1 c c2) (e6 : c.1 ≤ c2.1) : pCz X2 M2 c2 i := by
  obtain ⟨p1, p2⟩ := P
  refine ⟨pHn_c p1 hi.1 (fun k k1 k2 => e1 k (by omega)) (fun k k1 k2 => e2 k (by omega)), fun z => ?_⟩
  rw [e2 _ (by omega)] at z
  obtain ⟨q3, q4, q5⟩ := p2 z
  exact ⟨cq_c q3 (e1 _ (by omega)) e3 e4 (e2 _ (by omega)) (e2 _ (by omega)) e5 e6, cq_c q4 (e1 _ (by omega)) e3 e4 (e2 _ (by omega)) (e2 _ (by omega)) e5 e6, cq_c q5 (e1 _ (by omega)) e3 e4 (e2 _ (by omega)) (e2 _ (by omega)) e5 e6⟩
/-- how the reading of a TEXT ends -/
def pRe (xr : Int × jW) (W : jW) : Prop := (xr.1 = 0 ∧ pBd xr.2 W) ∨ (xr.1 = 1 ∧ ∃ (g : yC) (n : Int), pB xr.2 W g ∧ W.1 125 11 = 0 ∧ 1 ≤ n ∧ n ≤ 12 ∧ xr.2.1 95 3 = n ∧ W.1 125 47 = n ∧ ∀ i : Int, 0 ≤ i → i < n → pCz xr.2 W g i)
theorem rd_e : ∀ (j : Nat) (X M : jW) (c : yC) (n : Int) (q r : Nat), 12 - n < j → pB X M c → M.1 125 47 = n → 0 ≤ n ∧ n < 12 → 12 - n < q → 12 - n < r → (∀ i : Int, 0 ≤ i → i < n → pCz X M c i) → pRe (gRd q n X) (mRe (mRd r (d_X12_readClause_r125d M)))
  | 0, X, M, c, n, q, r, hj, _, _, hn, _, _, _ => absurd hj (by omega)
  | j + 1, X, M, c, n, q + 1, r + 1, hj, h, h47, hn, hq, hr, hc => by
    have B : pB (vu X 95 3 (n + 1)) M c := pB_x h (vu_c (by decide)) (vu_c (by decide)) (vu_n (by omega)) (vu_n (by omega)) (fun k h1 h2 => vu_c (by omega))
    have C := cz_e B (vu_e rfl) h47 hn
    have d96 : (vu X 95 3 (n + 1)).1 96 = X.1 96 := vu_c (by decide)
    have d97 : (vu X 95 3 (n + 1)).1 97 = X.1 97 := vu_c (by decide)
    have d954 : (vu X 95 3 (n + 1)).1 95 4 = X.1 95 4 := vu_n (by omega)
    unfold gRd
    rw [if_neg (show ¬ 12 ≤ n from by omega)]
    generalize d_X2_readClause_r95d (vu X 95 3 (n + 1)) = xr at *
    generalize d_X12_readClause_r125d M = W at *
    obtain ⟨x1, Y⟩ := xr
    rcases C with ⟨z, bd⟩ | ⟨z, g, R1, R2, R3, R4, R5, R6, R7, R8, R9, R10, R11⟩
    · have z2 : x1 = 0 := z
      have b : ¬ W.1 125 14 = 0 := by rw [bd.1]; decide
      have e : mRe (mRd (r + 1) W) = W := by
        have e1 : mRd (r + 1) W = W := if_neg b
        rw [e1]; exact if_neg b
      rw [e, if_pos z2]
      exact Or.inl ⟨rfl, bd⟩
    have z2 : x1 = 1 := z
    have bad := R1.2.2.1
    have s5 : Y.1 68 5 = W.1 125 11 := R1.1.2.2.2.1
    rw [d97] at R5
    rw [d954] at R5 R7
    rw [d96] at R9
    have all : ∀ i : Int, 0 ≤ i → i < n + 1 → pCz Y W g i := by
      intro i h1 h2
      by_cases e : i = n
      · rw [e]; exact R4
      · exact cz_c (j := n) ⟨h1, by omega⟩ (hc i h1 (by omega)) R9 R10 R5 R7 R6 R8
    rw [if_neg (show ¬ x1 = 0 from by omega)]
    show pRe (if Y.1 68 5 = 0 then (1, Y) else if d_X9_isSign_r68d 59 Y = 0 then (0, vu Y 68 2 (Y.1 68 3)) else gRd q (n + 1) (d_X9_step_r68d Y)) _
    rw [s5, sg_e R1.1]
    by_cases t0 : W.1 125 11 = 0
    · have e : mRe (mRd (r + 1) W) = W := by
        have e1 : mRd (r + 1) W = W := (if_pos bad).trans (if_neg (by omega))
        rw [e1]; exact (if_pos bad).trans (if_pos t0)
      rw [e, if_pos t0]
      exact Or.inr ⟨rfl, g, n + 1, R1, t0, by omega, by omega, R2, R3, all⟩
    rw [if_neg t0]
    by_cases t1 : W.1 125 11 = 3 ∧ W.2.1 125 12 = 59
    · rw [if_pos t1, if_neg (show ¬ (1 : Int) = 0 from by decide)]
      have e1 : mRd (r + 1) W = mRd r (d_X12_readClause_r125d (d_X12_next_r125d W)) := (if_pos bad).trans ((if_pos t1.1).trans (if_pos t1.2))
      rw [e1]
      obtain ⟨b1, b2, b3⟩ := pB_n R1 (by omega)
      have F := fr_d_X12_next_r125d W
      have G := fr_d_X9_step_r68d Y
      have f47 : (d_X12_next_r125d W).1 125 47 = n + 1 := (F.1 125 47 rfl).trans R3
      have e96 : (d_X9_step_r68d Y).1 96 = Y.1 96 := pF_c G rfl
      have e97 : (d_X9_step_r68d Y).1 97 = Y.1 97 := pF_c G rfl
      have e95 : (d_X9_step_r68d Y).1 95 = Y.1 95 := pF_c G rfl
      have e147 : (d_X12_next_r125d W).1 147 = W.1 147 := pF_c F rfl
      by_cases n12 : n + 1 < 12
      · refine rd_e j _ _ g (n + 1) q r (by omega) b1 f47 ⟨by omega, n12⟩ (by omega) (by omega) (fun i h1 h2 => ?_)
        have a := all i h1 h2
        unfold pCz at a ⊢
        rw [e96, e97, e95, e147]
        exact a
      · obtain ⟨q2, rfl⟩ : ∃ q2, q = q2 + 1 := ⟨q - 1, by omega⟩
        have e2 : gRd (q2 + 1) (n + 1) (d_X9_step_r68d Y) = (0, vu (d_X9_step_r68d Y) 68 2 ((d_X9_step_r68d Y).1 68 3)) := if_pos (by omega)
        have e3 : d_X12_readClause_r125d (d_X12_next_r125d W) = mBad (d_X12_next_r125d W) := by
          unfold d_X12_readClause_r125d
          have k : ∀ l : Int, d_X12_readClause_r125d_24 l (d_X12_next_r125d W) = mBad (d_X12_next_r125d W) := fun l => mu_0 b1.2.2.1
          by_cases c1 : d_X12_kindAt_r125d (d_X12_next_r125d W) = -1
          · rw [if_pos c1]; exact k _
          · rw [if_neg c1, if_pos (show 12 ≤ (d_X12_next_r125d W).1 125 47 from by omega)]; exact k _
        have b4 := bd_0 b1.1
        have nb : ¬ (mBad (d_X12_next_r125d W)).1 125 14 = 0 := by rw [b4.1]; decide
        obtain ⟨r2, rfl⟩ : ∃ r2, r = r2 + 1 := ⟨r - 1, by omega⟩
        have e4 : mRe (mRd (r2 + 1) (mBad (d_X12_next_r125d W))) = mBad (d_X12_next_r125d W) := by
          have e5 : mRd (r2 + 1) (mBad (d_X12_next_r125d W)) = mBad (d_X12_next_r125d W) := if_neg nb
          rw [e5]; exact if_neg nb
        rw [e2, e3, e4]
        exact Or.inl ⟨rfl, b4⟩
    · rw [if_neg t1, if_pos rfl]
      have e1 : mRd (r + 1) W = W := by
        refine (if_pos bad).trans ?_
        by_cases c1 : W.1 125 11 = 3
        · rw [if_pos c1]; exact if_neg (fun z => t1 ⟨c1, z⟩)
        · exact if_neg c1
      have e2 : mRe W = mBad W := (if_pos bad).trans (if_neg t0)
      rw [e1, e2]
      exact Or.inl ⟨rfl, bd_0 R1.1⟩
  | j + 1, X, M, c, n, 0, r, _, _, _, hn, hq, _, _ => absurd hq (by omega)
  | j + 1, X, M, c, n, q + 1, 0, _, _, _, hn, _, hr, _ => absurd hr (by omega)
end jG66

section jG67
/-! pure: SPELLINGS read by both -/
def sdB (s : Int) : Int := 8 * (s / 2) + 4 * (s % 2)
/-- side s in the class's draft and in the reference's -/
def pSd (X M : jW) (s : Int) : Prop := X.1 72 (sdB s).toNat = M.1 135 s.toNat ∧ (0 ≤ M.1 135 s.toNat ∧ M.1 135 s.toNat ≤ 3) ∧ ∀ k : Nat, (k : Int) < M.1 135 s.toNat → X.1 72 (sdB s + 1 + k).toNat = M.1 136 (3 * s + k).toNat
theorem xs_39 {b w : Int} (hb : 0 ≤ b) : ∀ (j r : Nat) (l3 : Int) (X : jW), 0 ≤ l3 → l3 + j = w → j < r → X.1 68 4 - X.1 68 3 = w → ∃ Y : jW, d_X5_readSide_r70d_39 r b w l3 X = (1, d_X9_step_r68d Y) ∧ (∀ c : Nat, c ≠ 72 → Y.1 c = X.1 c) ∧ (∀ i : Nat, (i : Int) < b + 1 + l3 ∨ b + 1 + w ≤ i → Y.1 72 i = X.1 72 i) ∧ ∀ k : Nat, l3 ≤ k → (k : Int) < w → Y.1 72 (b + 1 + k).toNat = X.1 69 (X.1 68 3 + k).toNat
  | 0, r + 1, l3, X, h0, h, hr, hw => by
    refine ⟨X, if_pos (by omega), fun _ _ => rfl, fun _ _ => rfl, fun k h1 h2 => ?_⟩
    exfalso
    omega
  | j + 1, r + 1, l3, X, h0, h, hr, hw => by
    have e68 : (vu X 72 (b + 1 + l3).toNat (X.1 69 (X.1 68 3 + l3).toNat)).1 68 = X.1 68 := vu_c (by decide)
    have e69 : (vu X 72 (b + 1 + l3).toNat (X.1 69 (X.1 68 3 + l3).toNat)).1 69 = X.1 69 := vu_c (by decide)
    obtain ⟨Y, y1, y2, y3, y4⟩ := xs_39 (w := w) hb j r (l3 + 1) (vu X 72 (b + 1 + l3).toNat (X.1 69 (X.1 68 3 + l3).toNat)) (by omega) (by omega) (by omega) (by rw [e68]; exact hw)
    refine ⟨Y, ?_, fun c hc => (y2 c hc).trans (vu_c hc), fun i hi => ?_, fun k h1 h2 => ?_⟩
    · exact (if_neg (by omega)).trans ((if_neg (by omega)).trans y1)
    · rw [y3 i (by omega)]; exact vu_n (by omega)
    · by_cases e : (k : Int) = l3
      · rw [y3 _ (by omega), e]; exact vu_e rfl
      · rw [y4 k (by omega) h2, e68, e69]
theorem ms_55 {s w f : Int} (hs : 0 ≤ s) : ∀ (j r : Nat) (l4 : Int) (M : jW), 0 ≤ l4 → l4 + j = w → j < r → ∃ N : jW, d_X12_readSide_r125d_55 r s w f l4 M = N ∧ (∀ c : Nat, c ≠ 136 → N.1 c = M.1 c) ∧ N.2 = M.2 ∧ (∀ i : Nat, (i : Int) < 3 * s + l4 ∨ 3 * s + w ≤ i → N.1 136 i = M.1 136 i) ∧ ∀ k : Nat, l4 ≤ k → (k : Int) < w → N.1 136 (3 * s + k).toNat = M.1 131 (f + k).toNat
  | 0, r + 1, l4, M, h0, h, hr => by
    refine ⟨M, if_pos (by omega), fun _ _ => rfl, rfl, fun _ _ => rfl, fun k h1 h2 => ?_⟩
    exfalso
    omega
  | j + 1, r + 1, l4, M, h0, h, hr => by
    have e131 : (vu M 136 (3 * s + l4).toNat (M.1 131 (f + l4).toNat)).1 131 = M.1 131 := vu_c (by decide)
    obtain ⟨N, y1, y2, y2b, y3, y4⟩ := ms_55 (w := w) (f := f) hs j r (l4 + 1) (vu M 136 (3 * s + l4).toNat (M.1 131 (f + l4).toNat)) (by omega) (by omega) (by omega)
    refine ⟨N, ?_, fun c hc => (y2 c hc).trans (vu_c hc), y2b, fun i hi => ?_, fun k h1 h2 => ?_⟩
    · exact (if_neg (by omega)).trans y1
    · rw [y3 i (by omega)]; exact vu_n (by omega)
    · by_cases e : (k : Int) = l4
      · rw [y3 _ (by omega), e]; exact vu_e rfl
      · rw [y4 k (by omega) h2, e131]
/-- one side -/
theorem rs_e {X M : jW} {s : Int} (T : pTk X M) (bad : M.1 125 14 = 0) (hs : 0 ≤ s) (ht : M.1 125 11 = 1) : (3 < M.1 125 10 - M.1 125 9 ∧ d_X5_readSide_r70d (sdB s) X = (0, X) ∧ d_X12_readSide_r125d s M = mBad M) ∨ (M.1 125 10 - M.1 125 9 ≤ 3 ∧ (d_X5_readSide_r70d (sdB s) X).1 = 1 ∧ pTk (d_X5_readSide_r70d (sdB s) X).2 (d_X12_readSide_r125d s M) ∧ (d_X12_readSide_r125d s M).1 125 14 = 0 ∧ (d_X12_readSide_r125d s M).1 125 18 = M.1 125 18 ∧ pSd (d_X5_readSide_r70d (sdB s) X).2 (d_X12_readSide_r125d s M) s ∧ 1 ≤ (d_X12_readSide_r125d s M).1 135 s.toNat ∧ (∀ i : Nat, (i : Int) < sdB s ∨ sdB s + 4 ≤ i → (d_X5_readSide_r70d (sdB s) X).2.1 72 i = X.1 72 i) ∧ (∀ i : Nat, i ≠ s.toNat → (d_X12_readSide_r125d s M).1 135 i = M.1 135 i) ∧ ∀ i : Nat, (i : Int) < 3 * s ∨ 3 * s + 3 ≤ i → (d_X12_readSide_r125d s M).1 136 i = M.1 136 i) := by
  obtain ⟨t1, t2, t3, t4, t5, t6⟩ := T
  have hb : 0 ≤ sdB s := by unfold sdB; omega
  have tp := t1.2.1
  have w1 : M.1 125 9 < M.1 125 10 := by
    rcases t6 with a | a | a | a
    · omega
    · omega
    · exact a.2.1
    · exact a.2.1
  by_cases c : 3 < M.1 125 10 - M.1 125 9
  · left
    refine ⟨c, ?_, ?_⟩
    · unfold d_X5_readSide_r70d
      rw [t2, t3, if_pos c]; rfl
    · exact (if_pos ht).trans ((if_pos c).trans (if_pos bad))
  · right
    have ex : d_X5_readSide_r70d (sdB s) X = d_X5_readSide_r70d_39 4 (sdB s) (M.1 125 10 - M.1 125 9) 0 (vu X 72 (sdB s).toNat (M.1 125 10 - M.1 125 9)) := by
      unfold d_X5_readSide_r70d
      rw [t2, t3, if_neg c]
    have em : d_X12_readSide_r125d s M = d_X12_readSide_r125d_55 4 s (M.1 125 10 - M.1 125 9) (M.1 125 9) 0 (vu (d_X12_next_r125d M) 135 s.toNat (M.1 125 10 - M.1 125 9)) := (if_pos ht).trans ((if_neg c).trans (if_pos bad))
    have v68 : (vu X 72 (sdB s).toNat (M.1 125 10 - M.1 125 9)).1 68 = X.1 68 := vu_c (by decide)
    have v69 : (vu X 72 (sdB s).toNat (M.1 125 10 - M.1 125 9)).1 69 = X.1 69 := vu_c (by decide)
    obtain ⟨Y, y1, y2, y3, y4⟩ := xs_39 hb (M.1 125 10 - M.1 125 9).toNat 4 0 (vu X 72 (sdB s).toNat (M.1 125 10 - M.1 125 9)) (w := M.1 125 10 - M.1 125 9) (by decide) (by omega) (by omega) (by rw [v68, t2, t3])
    obtain ⟨N, n1, n2, n2b, n3, n4⟩ := ms_55 hs (f := M.1 125 9) (M.1 125 10 - M.1 125 9).toNat 4 0 (vu (d_X12_next_r125d M) 135 s.toNat (M.1 125 10 - M.1 125 9)) (w := M.1 125 10 - M.1 125 9) (by decide) (by omega) (by omega)
    rw [ex, em, y1, n1]
    have F := fr_d_X12_next_r125d M
    have G := fr_d_X9_step_r68d Y
    have T1 : pTk Y M := pTk_x ⟨t1, t2, t3, t4, t5, t6⟩ ((y2 68 (by decide)).trans v68) ((y2 69 (by decide)).trans v69)
    have T2 := tk_n T1.1 T1.2.2.1 (by omega) (by omega)
    have cN : ∀ c : Nat, c ≠ 135 → c ≠ 136 → N.1 c = (d_X12_next_r125d M).1 c := fun c h1 h2 => (n2 c h2).trans (vu_c h1)
    have mt : pMt (d_X12_next_r125d M) N := ⟨by rw [cN 125 (by decide) (by decide)], by rw [cN 125 (by decide) (by decide)], by rw [cN 125 (by decide) (by decide)], by rw [cN 125 (by decide) (by decide)], by rw [n2b]; rfl, cN 131 (by decide) (by decide)⟩
    have g72 : (d_X9_step_r68d Y).1 72 = Y.1 72 := pF_c G rfl
    have f131 : (d_X12_next_r125d M).1 131 = M.1 131 := pF_c F rfl
    have f135 : (d_X12_next_r125d M).1 135 = M.1 135 := pF_c F rfl
    have f136 : (d_X12_next_r125d M).1 136 = M.1 136 := pF_c F rfl
    have k135 : N.1 135 s.toNat = M.1 125 10 - M.1 125 9 := by rw [n2 135 (by decide)]; exact vu_e rfl
    refine ⟨by omega, rfl, pTk_m T2 mt, by rw [cN 125 (by decide) (by decide), F.1 125 14 rfl]; exact bad, by rw [cN 125 (by decide) (by decide), F.1 125 18 rfl], ⟨?_, by rw [k135]; omega, fun k hk => ?_⟩, by rw [k135]; omega, fun i hi => ?_, fun i hi => ?_, fun i hi => ?_⟩
    · show (d_X9_step_r68d Y).1 72 _ = _
      rw [g72, y3 _ (by omega), k135]; exact vu_e rfl
    · show (d_X9_step_r68d Y).1 72 _ = _
      rw [k135] at hk
      rw [g72, y4 k (by omega) hk, n4 k (by omega) hk, v68, v69, t2]
      show X.1 69 _ = (vu (d_X12_next_r125d M) 135 s.toNat (M.1 125 10 - M.1 125 9)).1 131 _
      rw [vu_c (by decide), f131]
      exact t1.2.2 _ (by omega)
    · show (d_X9_step_r68d Y).1 72 i = _
      rw [g72, y3 i (by omega)]; exact vu_n (by omega)
    · rw [n2 135 (by decide), vu_n (by omega), f135]
    · rw [n3 i (by omega)]
      show (vu (d_X12_next_r125d M) 135 s.toNat (M.1 125 10 - M.1 125 9)).1 136 i = _
      rw [vu_c (by decide), f136]
def pSds (X M : jW) (n : Int) : Prop := ∀ s : Int, 0 ≤ s → s < 2 * n → pSd X M s ∧ (s % 2 = 0 → 1 ≤ M.1 135 s.toNat)
theorem sd_c {X M Y N : jW} {s : Int} (P : pSd X M s) (h1 : ∀ i : Nat, sdB s ≤ i → (i : Int) < sdB s + 4 → Y.1 72 i = X.1 72 i) (h2 : N.1 135 s.toNat = M.1 135 s.toNat) (h3 : ∀ i : Nat, 3 * s ≤ i → (i : Int) < 3 * s + 3 → N.1 136 i = M.1 136 i) (hs : 0 ≤ s) : pSd Y N s := by
  have hb : 0 ≤ sdB s := by unfold sdB; omega
  obtain ⟨p1, p2, p3⟩ := P
  refine ⟨by rw [h1 _ (by omega) (by omega), h2]; exact p1, by rw [h2]; exact p2, fun k hk => ?_⟩
  rw [h2] at hk
  rw [h1 _ (by omega) (by omega), h3 _ (by omega) (by omega)]
  exact p3 k hk
def m76 (W : jW) : jW := vu W 125 18 (W.1 125 18 + 1)
theorem rpm_e {M : jW} {p : Int} (hp : M.1 125 18 = p) (h8 : p ≠ 8) : d_X12_readPair_r125d M = if (d_X12_readSide_r125d (2 * p) M).1 125 14 = 0 then (if (d_X12_readSide_r125d (2 * p) M).1 125 11 = 3 ∧ (d_X12_readSide_r125d (2 * p) M).2.1 125 12 = 62 then (if (d_X12_next_r125d (d_X12_readSide_r125d (2 * p) M)).1 125 11 = 1 then m76 (d_X12_readSide_r125d (2 * p + 1) (vu (d_X12_next_r125d (d_X12_readSide_r125d (2 * p) M)) 135 (2 * p + 1).toNat 0)) else m76 (vu (d_X12_next_r125d (d_X12_readSide_r125d (2 * p) M)) 135 (2 * p + 1).toNat 0)) else m76 (vu (mBad (d_X12_readSide_r125d (2 * p) M)) 135 (2 * p + 1).toNat 0)) else m76 (vu (d_X12_readSide_r125d (2 * p) M) 135 (2 * p + 1).toNat 0) := by
  unfold d_X12_readPair_r125d
  rw [hp, if_neg h8]
  generalize d_X12_readSide_r125d (2 * p) M = S
  by_cases b : S.1 125 14 = 0
  · by_cases c3 : S.1 125 11 = 3
    · by_cases c4 : S.2.1 125 12 = 62
      · simp only [if_pos b, if_pos c3, if_pos c4, if_pos (And.intro c3 c4)]; rfl
      · simp only [if_pos b, if_pos c3, if_neg c4, if_neg (show ¬ (S.1 125 11 = 3 ∧ S.2.1 125 12 = 62) from fun z => c4 z.2)]; rfl
    · simp only [if_pos b, if_neg c3, if_neg (show ¬ (S.1 125 11 = 3 ∧ S.2.1 125 12 = 62) from fun z => c3 z.1)]; rfl
  · by_cases c3 : S.1 125 11 = 3
    · by_cases c4 : S.2.1 125 12 = 62
      · simp only [if_neg b, if_pos c3, if_pos c4]; rfl
      · simp only [if_neg b, if_pos c3, if_neg c4]; rfl
    · simp only [if_neg b, if_neg c3]; rfl
/-- one PAIR -/
theorem pr_e {X M : jW} {p : Int} (T : pTk X M) (bad : M.1 125 14 = 0) (hp : M.1 125 18 = p) (h8 : 0 ≤ p ∧ p < 8) (D : pSds X M p) : ((d_X5_readPair_r70d (p * 8) X).1 = 0 ∧ pBd (d_X5_readPair_r70d (p * 8) X).2 (d_X12_readPair_r125d M)) ∨ ((d_X5_readPair_r70d (p * 8) X).1 = 1 ∧ pTk (d_X5_readPair_r70d (p * 8) X).2 (d_X12_readPair_r125d M) ∧ (d_X12_readPair_r125d M).1 125 14 = 0 ∧ (d_X12_readPair_r125d M).1 125 18 = p + 1 ∧ pSds (d_X5_readPair_r70d (p * 8) X).2 (d_X12_readPair_r125d M) (p + 1)) := by
  have b0 : sdB (2 * p) = p * 8 := by unfold sdB; omega
  have b1 : sdB (2 * p + 1) = p * 8 + 4 := by unfold sdB; omega
  rw [rpm_e hp (by omega)]
  have t5 : X.1 68 5 = M.1 125 11 := T.2.2.2.1
  have fl : ∀ (Y N : jW), pBd Y N → pBd Y (m76 (vu N 135 (2 * p + 1).toNat 0)) := fun Y N b => ⟨(vu_n (by omega)).trans ((vu_n (by omega)).trans b.1), (vu_n (by omega)).trans ((vu_n (by omega)).trans b.2)⟩
  unfold d_X5_readPair_r70d
  rw [t5]
  by_cases ht : M.1 125 11 = 1
  · rw [if_pos ht]
    rcases rs_e (s := 2 * p) T bad (by omega) ht with ⟨_, r2, r3⟩ | ⟨_, r1, r2, r3, r4, r5, r6, r7, r8, r9⟩
    · rw [b0] at r2
      have q := bd_0 T
      rw [r2, r3, if_pos rfl, if_neg (show ¬ (mBad M).1 125 14 = 0 from by rw [q.1]; decide)]
      exact Or.inl ⟨rfl, fl _ _ q⟩
    · rw [b0] at r1 r2 r5 r7
      rw [if_neg (show ¬ (d_X5_readSide_r70d (p * 8) X).1 = 0 from by omega), if_pos r3]
      generalize (d_X5_readSide_r70d (p * 8) X).2 = Y at *
      generalize d_X12_readSide_r125d (2 * p) M = S at *
      have D1 : pSds Y S p ∧ pSd Y S (2 * p) := by
        refine ⟨fun s h1 h2 => ?_, r5⟩
        have q := D s h1 h2
        refine ⟨sd_c q.1 (fun i i1 i2 => r7 i (by unfold sdB at i2; omega)) (r8 _ (by omega)) (fun i i1 i2 => r9 i (by omega)) h1, fun e => by rw [r8 _ (by omega)]; exact q.2 e⟩
      rw [sg_e r2]
      by_cases t62 : S.1 125 11 = 3 ∧ S.2.1 125 12 = 62
      · rw [if_pos t62, if_pos t62, if_neg (show ¬ (1 : Int) = 0 from by decide)]
        have T2 := tk_n r2.1 r2.2.2.1 (by have := r2.2.2.2.2.1; omega) (by have := r2.2.2.2.2.1; omega)
        have F := fr_d_X12_next_r125d S
        have G := fr_d_X9_step_r68d Y
        have g72 : (d_X9_step_r68d Y).1 72 = Y.1 72 := pF_c G rfl
        have f135 : (d_X12_next_r125d S).1 135 = S.1 135 := pF_c F rfl
        have f136 : (d_X12_next_r125d S).1 136 = S.1 136 := pF_c F rfl
        have f14 := F.1 125 14 rfl
        have f18 := F.1 125 18 rfl
        have t52 : (d_X9_step_r68d Y).1 68 5 = (d_X12_next_r125d S).1 125 11 := T2.2.2.2.1
        rw [t52]
        generalize d_X9_step_r68d Y = Y2 at *
        generalize d_X12_next_r125d S = S2 at *
        have T3 : pTk Y2 (vu S2 135 (2 * p + 1).toNat 0) := pTk_m T2 (pMt_v (by omega))
        have v14 : (vu S2 135 (2 * p + 1).toNat 0).1 125 14 = 0 := (vu_n (by omega)).trans (f14.trans r3)
        have v18 : (vu S2 135 (2 * p + 1).toNat 0).1 125 18 = p := (vu_n (by omega)).trans (f18.trans (r4.trans hp))
        have v11 : (vu S2 135 (2 * p + 1).toNat 0).1 125 11 = S2.1 125 11 := vu_n (by omega)
        have mk : ∀ (Z N : jW), pTk Z N → N.1 125 14 = 0 → N.1 125 18 = p → pSd Z N (2 * p + 1) → (∀ i : Nat, (i : Int) < p * 8 + 4 → Z.1 72 i = Y2.1 72 i) → (∀ i : Nat, i ≠ (2 * p + 1).toNat → N.1 135 i = S2.1 135 i) → (∀ i : Nat, (i : Int) < 3 * (2 * p + 1) → N.1 136 i = S2.1 136 i) → pTk Z (m76 N) ∧ (m76 N).1 125 14 = 0 ∧ (m76 N).1 125 18 = p + 1 ∧ pSds Z (m76 N) (p + 1) := by
          intro Z N a1 a2 a3 a4 a5 a6 a7
          have m135 : (m76 N).1 135 = N.1 135 := vu_c (by decide)
          have m136 : (m76 N).1 136 = N.1 136 := vu_c (by decide)
          refine ⟨pTk_m a1 (pMt_u (by omega)), (vu_n (by omega)).trans a2, by unfold m76; rw [vu_e rfl, a3], fun s h1 h2 => ?_⟩
          by_cases e1 : s = 2 * p + 1
          · rw [e1]
            exact ⟨sd_c a4 (fun _ _ _ => rfl) (by rw [m135]) (fun _ _ _ => by rw [m136]) (by omega), fun z => absurd z (by omega)⟩
          · have q : pSd Y2 S2 s ∧ (s % 2 = 0 → 1 ≤ S2.1 135 s.toNat) := by
              by_cases e2 : s = 2 * p
              · rw [e2]
                exact ⟨sd_c D1.2 (fun i _ _ => by rw [g72]) (by rw [f135]) (fun i _ _ => by rw [f136]) (by omega), fun _ => by rw [f135]; exact r6⟩
              · have q := D1.1 s h1 (by omega)
                exact ⟨sd_c q.1 (fun i _ _ => by rw [g72]) (by rw [f135]) (fun i _ _ => by rw [f136]) h1, fun z => by rw [f135]; exact q.2 z⟩
            exact ⟨sd_c q.1 (fun i i1 i2 => a5 i (by unfold sdB at i2; omega)) (by rw [m135, a6 _ (by omega)]) (fun i i1 i2 => by rw [m136, a7 i (by omega)]) h1, fun z => by rw [m135, a6 _ (by omega)]; exact q.2 z⟩
        by_cases tw : S2.1 125 11 = 1
        · rw [if_pos tw, if_pos tw]
          rcases rs_e (s := 2 * p + 1) T3 v14 (by omega) (v11.trans tw) with ⟨_, u2, u3⟩ | ⟨_, u1, u2, u3, u4, u5, u6, u7, u8, u9⟩
          · rw [b1] at u2
            have q := bd_0 T3
            rw [u2, u3, if_pos rfl]
            exact Or.inl ⟨rfl, (vu_n (by omega)).trans q.1, (vu_n (by omega)).trans q.2⟩
          · rw [b1] at u1 u2 u5 u7
            rw [if_neg (show ¬ (d_X5_readSide_r70d (p * 8 + 4) Y2).1 = 0 from by omega)]
            exact Or.inr ⟨rfl, mk _ _ u2 u3 (u4.trans v18) u5 (fun i hi => u7 i (by omega)) (fun i hi => (u8 i hi).trans (vu_n (by omega))) (fun i hi => (u9 i (by omega)).trans (by rw [vu_c (by decide)]))⟩
        · rw [if_neg tw, if_neg tw]
          have z72 : ∀ i : Nat, (i : Int) < p * 8 + 4 → (vu Y2 72 (p * 8 + 4).toNat 0).1 72 i = Y2.1 72 i := fun i hi => vu_n (by omega)
          refine Or.inr ⟨rfl, mk _ _ (pTk_x T3 (vu_c (by decide)) (vu_c (by decide))) v14 v18 ⟨?_, ?_, fun k hk => ?_⟩ z72 (fun i hi => vu_n (by omega)) (fun i hi => by rw [vu_c (by decide)])⟩
          · rw [b1, vu_e rfl, vu_e rfl]
          · rw [vu_e rfl]; exact ⟨by decide, by decide⟩
          · rw [vu_e rfl] at hk; exact absurd hk (by omega)
      · rw [if_neg t62, if_neg t62, if_pos rfl]
        exact Or.inl ⟨rfl, fl _ _ (bd_0 r2)⟩
  · rw [if_neg ht]
    have e : d_X12_readSide_r125d (2 * p) M = mBad M := (if_neg ht).trans (if_pos bad)
    have q := bd_0 T
    rw [e, if_neg (show ¬ (mBad M).1 125 14 = 0 from by rw [q.1]; decide)]
    exact Or.inl ⟨rfl, fl _ _ q⟩
/-- all PAIRS -/
def mSp : Nat → jW → jW
  | 0, W => W
  | r + 1, W => if W.1 125 14 = 0 then (if W.1 125 11 = 3 then (if W.2.1 125 12 = 44 then mSp r (d_X12_readPair_r125d (d_X12_next_r125d W)) else W) else W) else W
theorem ps_21 : ∀ (j : Nat) (X M : jW) (p : Int) (q r : Nat), 8 - p < j → pTk X M → M.1 125 14 = 0 → M.1 125 18 = p → 0 ≤ p ∧ p < 8 → 9 - p ≤ q → 9 - p ≤ r → pSds X M p → ((d_X5_readPairs_r70d_21 q p X).1 = -1 ∧ pBd (d_X5_readPairs_r70d_21 q p X).2 (mRe (mSp r (d_X12_readPair_r125d M)))) ∨ (1 ≤ (d_X5_readPairs_r70d_21 q p X).1 ∧ (d_X5_readPairs_r70d_21 q p X).1 ≤ 8 ∧ (mRe (mSp r (d_X12_readPair_r125d M))).1 125 14 = 0 ∧ (mRe (mSp r (d_X12_readPair_r125d M))).1 125 18 = (d_X5_readPairs_r70d_21 q p X).1 ∧ pSds (d_X5_readPairs_r70d_21 q p X).2 (mRe (mSp r (d_X12_readPair_r125d M))) (d_X5_readPairs_r70d_21 q p X).1)
  | 0, X, M, p, q, r, hj, _, _, _, hn, _, _, _ => absurd hj (by omega)
  | j + 1, X, M, p, 0, r, _, _, _, _, hn, hq, _, _ => absurd hq (by omega)
  | j + 1, X, M, p, q + 1, 0, _, _, _, _, hn, _, hr, _ => absurd hr (by omega)
  | j + 1, X, M, p, q + 1, r + 1, hj, T, bad, hp, h8, hq, hr, D => by
    have C := pr_e T bad hp h8 D
    unfold d_X5_readPairs_r70d_21
    rw [if_neg (show ¬ 8 ≤ p from by omega)]
    generalize d_X5_readPair_r70d (p * 8) X = xr at *
    generalize d_X12_readPair_r125d M = W at *
    obtain ⟨x1, Y⟩ := xr
    rcases C with ⟨z, bd⟩ | ⟨z, R1, R2, R3, R4⟩
    · have z2 : x1 = 0 := z
      have b : ¬ W.1 125 14 = 0 := by rw [bd.1]; decide
      have e : mRe (mSp (r + 1) W) = W := by
        have e1 : mSp (r + 1) W = W := if_neg b
        rw [e1]; exact if_neg b
      rw [e, if_pos z2]
      exact Or.inl ⟨rfl, bd⟩
    have z2 : x1 = 1 := z
    have s5 : Y.1 68 5 = W.1 125 11 := R1.2.2.2.1
    rw [if_neg (show ¬ x1 = 0 from by omega)]
    show _ ∨ _
    have sh : ∀ (A : Int × jW), A = (if Y.1 68 5 = 0 then (p + 1, Y) else if d_X9_isSign_r68d 44 Y = 0 then (-1, vu Y 68 2 (Y.1 68 3)) else d_X5_readPairs_r70d_21 q (p + 1) (d_X9_step_r68d Y)) → ((A.1 = -1 ∧ pBd A.2 (mRe (mSp (r + 1) W))) ∨ (1 ≤ A.1 ∧ A.1 ≤ 8 ∧ (mRe (mSp (r + 1) W)).1 125 14 = 0 ∧ (mRe (mSp (r + 1) W)).1 125 18 = A.1 ∧ pSds A.2 (mRe (mSp (r + 1) W)) A.1)) := by
      intro A hA
      rw [s5, sg_e R1] at hA
      by_cases t0 : W.1 125 11 = 0
      · have e : mRe (mSp (r + 1) W) = W := by
          have e1 : mSp (r + 1) W = W := (if_pos R2).trans (if_neg (by omega))
          rw [e1]; exact (if_pos R2).trans (if_pos t0)
        rw [if_pos t0] at hA
        rw [e, hA]
        refine Or.inr ⟨?_, ?_, R2, R3, R4⟩
        · show 1 ≤ p + 1; omega
        · show p + 1 ≤ 8; omega
      rw [if_neg t0] at hA
      by_cases t1 : W.1 125 11 = 3 ∧ W.2.1 125 12 = 44
      · rw [if_pos t1, if_neg (show ¬ (1 : Int) = 0 from by decide)] at hA
        have e1 : mSp (r + 1) W = mSp r (d_X12_readPair_r125d (d_X12_next_r125d W)) := (if_pos R2).trans ((if_pos t1.1).trans (if_pos t1.2))
        have T2 := tk_n R1.1 R1.2.2.1 (by have := R1.2.2.2.2.1; omega) (by have := R1.2.2.2.2.1; omega)
        have F := fr_d_X12_next_r125d W
        have G := fr_d_X9_step_r68d Y
        have g72 : (d_X9_step_r68d Y).1 72 = Y.1 72 := pF_c G rfl
        have f135 : (d_X12_next_r125d W).1 135 = W.1 135 := pF_c F rfl
        have f136 : (d_X12_next_r125d W).1 136 = W.1 136 := pF_c F rfl
        have f14 := (F.1 125 14 rfl).trans R2
        have f18 := (F.1 125 18 rfl).trans R3
        rw [e1, hA]
        by_cases n8 : p + 1 < 8
        · refine ps_21 j _ _ (p + 1) q r (by omega) T2 f14 f18 ⟨by omega, n8⟩ (by omega) (by omega) (fun s h1 h2 => ?_)
          have a := R4 s h1 h2
          exact ⟨sd_c a.1 (fun i _ _ => by rw [g72]) (by rw [f135]) (fun i _ _ => by rw [f136]) h1, fun z => by rw [f135]; exact a.2 z⟩
        · obtain ⟨q2, rfl⟩ : ∃ q2, q = q2 + 1 := ⟨q - 1, by omega⟩
          obtain ⟨r2, rfl⟩ : ∃ r2, r = r2 + 1 := ⟨r - 1, by omega⟩
          have e2 : d_X5_readPairs_r70d_21 (q2 + 1) (p + 1) (d_X9_step_r68d Y) = (-1, vu (d_X9_step_r68d Y) 68 2 ((d_X9_step_r68d Y).1 68 3)) := if_pos (by omega)
          have e3 : d_X12_readPair_r125d (d_X12_next_r125d W) = mBad (d_X12_next_r125d W) := (if_pos (by omega)).trans (if_pos f14)
          have b4 := bd_0 T2
          have nb : ¬ (mBad (d_X12_next_r125d W)).1 125 14 = 0 := by rw [b4.1]; decide
          have e4 : mRe (mSp (r2 + 1) (mBad (d_X12_next_r125d W))) = mBad (d_X12_next_r125d W) := by
            have e5 : mSp (r2 + 1) (mBad (d_X12_next_r125d W)) = mBad (d_X12_next_r125d W) := if_neg nb
            rw [e5]; exact if_neg nb
          rw [e2, e3, e4]
          exact Or.inl ⟨rfl, b4⟩
      · rw [if_neg t1, if_pos rfl] at hA
        have e1 : mSp (r + 1) W = W := by
          refine (if_pos R2).trans ?_
          by_cases c1 : W.1 125 11 = 3
          · rw [if_pos c1]; exact if_neg (fun z => t1 ⟨c1, z⟩)
          · exact if_neg c1
        have e2 : mRe W = mBad W := (if_pos R2).trans (if_neg t0)
        rw [e1, e2, hA]
        exact Or.inl ⟨rfl, bd_0 R1⟩
    exact sh _ rfl
end jG67

section jG68
/-! pure: what calls of a MENTION begin with; mentions -/
theorem xM_i {α : Type} {X : jW} {E : pE} {a1 : Int} {B Z : α} (h0 : 0 ≤ E.1 0 ∧ E.1 0 ≤ 200) (e33 : X.1 33 3 = E.1 0) (L : ∀ m : Nat, ((m / 3 : Nat) : Int) < E.1 0 → pSl X E m) : (0 ≤ a1 ∧ sMn E a1.toNat → (if a1 < 0 then Z else if 600 ≤ a1 then Z else if X.1 33 3 ≤ a1 / 3 then Z else if X.1 79 a1.toNat = -1 then Z else B) = B) ∧ (¬ (0 ≤ a1 ∧ sMn E a1.toNat) → (if a1 < 0 then Z else if 600 ≤ a1 then Z else if X.1 33 3 ≤ a1 / 3 then Z else if X.1 79 a1.toNat = -1 then Z else B) = Z) := by
  constructor
  · intro ⟨a, m1, m2⟩
    have l := (L a1.toNat m1).1
    have e : ((a1.toNat / 3 : Nat) : Int) = a1 / 3 := by omega
    rw [if_neg (by omega), if_neg (by omega), if_neg (by omega), if_neg (by rw [l]; exact m2)]
  · intro n
    by_cases c1 : a1 < 0
    · rw [if_pos c1]
    rw [if_neg c1]
    by_cases c2 : 600 ≤ a1
    · rw [if_pos c2]
    rw [if_neg c2]
    by_cases c3 : X.1 33 3 ≤ a1 / 3
    · rw [if_pos c3]
    rw [if_neg c3]
    have m1 : ((a1.toNat / 3 : Nat) : Int) < E.1 0 := by omega
    have l := (L a1.toNat m1).1
    refine if_pos ?_
    rw [l]
    exact Decidable.byContradiction fun z => n ⟨by omega, m1, z⟩
theorem co_n {E : pE} {m : Nat} : sCo E m = -1 ↔ (sRo (E.1 (20 + 90 * (m / 3))) ≤ ((m % 3 : Nat) : Int) ∨ (¬ E.1 (20 + 90 * (m / 3)) = 0 ∧ ¬ E.1 (20 + 90 * (m / 3)) = 1 ∧ E.1 (20 + 90 * (m / 3)) = -4)) := by
  unfold sCo
  by_cases c1 : sRo (E.1 (20 + 90 * (m / 3))) ≤ ((m % 3 : Nat) : Int)
  · rw [if_pos c1]; exact ⟨fun _ => Or.inl c1, fun _ => rfl⟩
  rw [if_neg c1]
  by_cases c2 : E.1 (20 + 90 * (m / 3)) = 0
  · rw [if_pos c2]; omega
  rw [if_neg c2]
  by_cases c3 : E.1 (20 + 90 * (m / 3)) = 1
  · rw [if_pos c3]; omega
  · rw [if_neg c3]; omega
theorem mM_i {α : Type} {M : jW} {a1 : Int} {B Z : α} (I : pIr (eOf M)) : (0 ≤ a1 ∧ sMn (eOf M) a1.toNat → (if a1 < 0 then Z else (if 0 ≤ a1 / 3 ∧ a1 / 3 ≤ M.1 126 0 - 1 then (if M.1 126 (20 + 90 * (a1 / 3)).toNat = 0 then B else (if M.1 126 (20 + 90 * (a1 / 3)).toNat = 1 then (if 2 ≤ a1 % 3 then Z else B) else (if 1 ≤ a1 % 3 then Z else B))) else Z)) = B) ∧ (¬ (0 ≤ a1 ∧ sMn (eOf M) a1.toNat) → (if a1 < 0 then Z else (if 0 ≤ a1 / 3 ∧ a1 / 3 ≤ M.1 126 0 - 1 then (if M.1 126 (20 + 90 * (a1 / 3)).toNat = 0 then B else (if M.1 126 (20 + 90 * (a1 / 3)).toNat = 1 then (if 2 ≤ a1 % 3 then Z else B) else (if 1 ≤ a1 % 3 then Z else B))) else Z)) = Z) := by
  have key : 0 ≤ a1 → ((a1.toNat / 3 : Nat) : Int) < M.1 126 0 → (sCo (eOf M) a1.toNat = -1 ↔ ¬ (M.1 126 (20 + 90 * (a1 / 3)).toNat = 0 ∨ (M.1 126 (20 + 90 * (a1 / 3)).toNat = 1 ∧ ¬ 2 ≤ a1 % 3) ∨ (¬ M.1 126 (20 + 90 * (a1 / 3)).toNat = 1 ∧ ¬ 1 ≤ a1 % 3))) := by
    intro h hm
    have b := (I (a1.toNat / 3) hm).1
    have e : 20 + 90 * (a1.toNat / 3) = (20 + 90 * (a1 / 3)).toNat := by omega
    have e2 : (eOf M).1 (20 + 90 * (a1.toNat / 3)) = M.1 126 (20 + 90 * (a1 / 3)).toNat := by rw [e]; rfl
    rw [co_n]
    rw [e2] at b ⊢
    unfold sRo
    generalize M.1 126 (20 + 90 * (a1 / 3)).toNat = x at *
    by_cases c1 : x = 0
    · rw [if_pos c1]; omega
    rw [if_neg c1]
    by_cases c2 : x = 1
    · rw [if_pos c2]; omega
    · rw [if_neg c2]; omega
  constructor
  · intro ⟨a, m1, m2⟩
    have m1' : ((a1.toNat / 3 : Nat) : Int) < M.1 126 0 := m1
    have k := key a m1'
    rw [if_neg (by omega), if_pos (by omega)]
    by_cases c1 : M.1 126 (20 + 90 * (a1 / 3)).toNat = 0
    · rw [if_pos c1]
    rw [if_neg c1]
    by_cases c2 : M.1 126 (20 + 90 * (a1 / 3)).toNat = 1
    · rw [if_pos c2, if_neg (fun z => m2 (k.2 (by omega)))]
    · rw [if_neg c2, if_neg (fun z => m2 (k.2 (by omega)))]
  · intro n
    by_cases c0 : a1 < 0
    · rw [if_pos c0]
    rw [if_neg c0]
    by_cases c1 : 0 ≤ a1 / 3 ∧ a1 / 3 ≤ M.1 126 0 - 1
    · have m1' : ((a1.toNat / 3 : Nat) : Int) < M.1 126 0 := by omega
      have k := (key (by omega) m1').1 (Decidable.byContradiction fun z => n ⟨by omega, m1', z⟩)
      rw [if_pos c1, if_neg (by omega)]
      by_cases c2 : M.1 126 (20 + 90 * (a1 / 3)).toNat = 1
      · rw [if_pos c2, if_pos (by omega)]
      · rw [if_neg c2, if_pos (by omega)]
    · rw [if_neg c1]
/-! the MENTIONS of a SOUL in order -/
def sNt (g : Nat → Int) (s i : Int) : Nat → Nat → Int → Int
  | 0, _, _ => -1
  | c + 1, k, n => if g k = s then (if n = i then (k : Int) else sNt g s i c (k + 1) (n + 1)) else sNt g s i c (k + 1) n
def sCx (g : Nat → Int) (s : Int) : Nat → Nat → Int → Int
  | 0, _, n => n
  | c + 1, k, n => if g k = s then sCx g s c (k + 1) (n + 1) else sCx g s c (k + 1) n
section
variable {X M : jW} {E : pE} {g : Nat → Int} {s i : Int}
theorem xmn_e (P : pXs X E g) (hs : s ≠ -1) : ∀ (c k r n : Nat), sNl E - k = c → c < r → n ≤ k → d_X7_mentionOf_r78d_5 r i (n : Int) (ft g s (sNl E) k) X = sNt g s i c k (n : Int) := by
  intro c
  induction c with
  | zero =>
    intro k r n hc hr hk
    obtain ⟨r, rfl⟩ : ∃ q, r = q + 1 := ⟨r - 1, by omega⟩
    rw [ft_o (by omega)]
    rfl
  | succ c ih =>
    intro k r n hc hr hk
    have h6 := xs_6 P
    show _ = if g k = s then (if (n : Int) = i then (k : Int) else sNt g s i c (k + 1) ((n : Int) + 1)) else sNt g s i c (k + 1) (n : Int)
    by_cases z : g k = s
    · obtain ⟨r, rfl⟩ : ∃ q, r = q + 1 := ⟨r - 1, by omega⟩
      rw [ft_y (by omega) z, if_pos z]
      show (if (k : Int) = -1 then _ else (if 600 ≤ (n : Int) then _ else (if (n : Int) = i then (k : Int) else d_X7_mentionOf_r78d_5 r i ((n : Int) + 1) (X.1 83 (k : Int).toNat) X))) = _
      rw [if_neg (by omega), if_neg (by omega)]
      by_cases y : (n : Int) = i
      · rw [if_pos y, if_pos y]
      · rw [if_neg y, if_neg y, show (k : Int).toNat = k from by omega, xs_n P hs k (by omega) z]
        have q := ih (k + 1) r (n + 1) (by omega) (by omega) (by omega)
        rw [show ((n + 1 : Nat) : Int) = (n : Int) + 1 from by omega] at q
        exact q
    · rw [ft_n (by omega) z, if_neg z]
      exact ih (k + 1) r n (by omega) (by omega) (by omega)
theorem xsz_e (P : pXs X E g) (hs : s ≠ -1) : ∀ (c k r n : Nat), sNl E - k = c → c < r → n ≤ k → d_X7_sizeOf_r78d_4 r (n : Int) (ft g s (sNl E) k) X = sCx g s c k (n : Int) := by
  intro c
  induction c with
  | zero =>
    intro k r n hc hr hk
    obtain ⟨r, rfl⟩ : ∃ q, r = q + 1 := ⟨r - 1, by omega⟩
    rw [ft_o (by omega)]
    rfl
  | succ c ih =>
    intro k r n hc hr hk
    have h6 := xs_6 P
    show _ = if g k = s then sCx g s c (k + 1) ((n : Int) + 1) else sCx g s c (k + 1) (n : Int)
    by_cases z : g k = s
    · obtain ⟨r, rfl⟩ : ∃ q, r = q + 1 := ⟨r - 1, by omega⟩
      rw [ft_y (by omega) z, if_pos z]
      show (if (k : Int) = -1 then _ else (if 600 ≤ (n : Int) then _ else d_X7_sizeOf_r78d_4 r ((n : Int) + 1) (X.1 83 (k : Int).toNat) X)) = _
      rw [if_neg (by omega), if_neg (by omega), show (k : Int).toNat = k from by omega, xs_n P hs k (by omega) z]
      have q := ih (k + 1) r (n + 1) (by omega) (by omega) (by omega)
      rw [show ((n + 1 : Nat) : Int) = (n : Int) + 1 from by omega] at q
      exact q
    · rw [ft_n (by omega) z, if_neg z]
      exact ih (k + 1) r n (by omega) (by omega) (by omega)
theorem mmn_e (P : pMs M E g) {l3 : Int} (h3 : l3 = 0 ∨ l3 = 1) : ∀ (c k r n : Nat), sNl E - k = c → c < r → n ≤ k → d_X12_mentions_r125d_37 r l3 i s (n : Int) (k : Int) M = (if l3 = 0 then sCx g s c k (n : Int) else sNt g s i c k (n : Int), M) := by
  have e3 := ms_3 P
  have h2 := P.2.2.2.2.2.1
  intro c
  induction c with
  | zero =>
    intro k r n hc hr hk
    obtain ⟨r, rfl⟩ : ∃ q, r = q + 1 := ⟨r - 1, by omega⟩
    show (if 3 * M.1 126 0 ≤ (k : Int) then (if l3 = 0 then ((n : Int), M) else (-1, M)) else _) = _
    rw [if_pos (by omega)]
    rcases h3 with q | q
    · rw [if_pos q, if_pos q]; rfl
    · rw [if_neg (by omega), if_neg (by omega)]; rfl
  | succ c ih =>
    intro k r n hc hr hk
    obtain ⟨r, rfl⟩ : ∃ q, r = q + 1 := ⟨r - 1, by omega⟩
    have gk : M.1 139 (k : Int).toNat = g k := by rw [show (k : Int).toNat = k from by omega]; exact P.2.2.2.2.2.2 k (by omega)
    have q1 := ih (k + 1) r (n + 1) (by omega) (by omega) (by omega)
    have q0 := ih (k + 1) r n (by omega) (by omega) (by omega)
    rw [show ((k + 1 : Nat) : Int) = (k : Int) + 1 from by omega] at q0 q1
    rw [show ((n + 1 : Nat) : Int) = (n : Int) + 1 from by omega] at q1
    have kb : (n : Int) ≤ 600 := by unfold sNl at hc; omega
    show (if 3 * M.1 126 0 ≤ (k : Int) then _ else (if M.1 139 (k : Int).toNat = s then (if l3 = 1 then (if (n : Int) = i then ((k : Int), M) else d_X12_mentions_r125d_37 r l3 i s (j_iadd (n : Int) 1) ((k : Int) + 1) M) else d_X12_mentions_r125d_37 r l3 i s (j_iadd (n : Int) 1) ((k : Int) + 1) M) else d_X12_mentions_r125d_37 r l3 i s (n : Int) ((k : Int) + 1) M)) = (if l3 = 0 then (if g k = s then sCx g s c (k + 1) ((n : Int) + 1) else sCx g s c (k + 1) (n : Int)) else (if g k = s then (if (n : Int) = i then (k : Int) else sNt g s i c (k + 1) ((n : Int) + 1)) else sNt g s i c (k + 1) (n : Int)), M)
    rw [if_neg (by omega), gk, j_ia (by omega) (by omega) (by omega), q0, q1]
    by_cases z : g k = s
    · rw [if_pos z, if_pos z, if_pos z]
      rcases h3 with q | q
      · rw [if_neg (show ¬ l3 = 1 from by omega), if_pos q, if_pos q]
      · rw [if_pos q, if_neg (show ¬ l3 = 0 from by omega), if_neg (show ¬ l3 = 0 from by omega)]
        by_cases y : (n : Int) = i
        · rw [if_pos y, if_pos y]
        · rw [if_neg y, if_neg y]
    · rw [if_neg z, if_neg z, if_neg z]
end
end jG68

section jG69
/-! pure: the sums of a YEAR; seal, found, alter -/
def sYr (r : Nat → Int) (y : Int) : Nat → Int × Int × Int
  | 0 => (0, 0, 0)
  | l + 1 => if r (22 + 90 * l) / 366 = y then ((sYr r y l).1 + 1, (sYr r y l).2.1 + r (24 + 90 * l), (sYr r y l).2.2 + ((sYr r y l).1 + 1) * r (24 + 90 * l)) else sYr r y l
theorem sY_b {r : Nat → Int} {y : Int} : ∀ l : Nat, l ≤ 200 → (∀ k : Nat, k < l → -131072 ≤ r (24 + 90 * k) ∧ r (24 + 90 * k) ≤ 131072) → (0 ≤ (sYr r y l).1 ∧ (sYr r y l).1 ≤ l) ∧ (-(131072 * (l : Int)) ≤ (sYr r y l).2.1 ∧ (sYr r y l).2.1 ≤ 131072 * (l : Int)) ∧ (-(26214400 * (l : Int)) ≤ (sYr r y l).2.2 ∧ (sYr r y l).2.2 ≤ 26214400 * (l : Int))
  | 0, _, _ => ⟨⟨Int.le_refl 0, Int.le_refl 0⟩, ⟨by show -(131072 * ((0 : Nat) : Int)) ≤ 0; decide, by show (0 : Int) ≤ 131072 * ((0 : Nat) : Int); decide⟩, ⟨by show -(26214400 * ((0 : Nat) : Int)) ≤ 0; decide, by show (0 : Int) ≤ 26214400 * ((0 : Nat) : Int); decide⟩⟩
  | l + 1, h, hr => by
    obtain ⟨⟨a1, a2⟩, ⟨b1, b2⟩, ⟨c1, c2⟩⟩ := sY_b (r := r) (y := y) l (by omega) (fun k hk => hr k (by omega))
    have x := hr l (by omega)
    by_cases c : r (22 + 90 * l) / 366 = y
    · have e : sYr r y (l + 1) = ((sYr r y l).1 + 1, (sYr r y l).2.1 + r (24 + 90 * l), (sYr r y l).2.2 + ((sYr r y l).1 + 1) * r (24 + 90 * l)) := if_pos c
      rw [e]
      have m1 : ((sYr r y l).1 + 1) * r (24 + 90 * l) ≤ ((sYr r y l).1 + 1) * 131072 := Int.mul_le_mul_of_nonneg_left x.2 (by omega)
      have m2 : ((sYr r y l).1 + 1) * (-131072) ≤ ((sYr r y l).1 + 1) * r (24 + 90 * l) := Int.mul_le_mul_of_nonneg_left x.1 (by omega)
      generalize ((sYr r y l).1 + 1) * r (24 + 90 * l) = p at *
      show (0 ≤ (sYr r y l).1 + 1 ∧ (sYr r y l).1 + 1 ≤ ((l + 1 : Nat) : Int)) ∧ (-(131072 * ((l + 1 : Nat) : Int)) ≤ (sYr r y l).2.1 + r (24 + 90 * l) ∧ (sYr r y l).2.1 + r (24 + 90 * l) ≤ 131072 * ((l + 1 : Nat) : Int)) ∧ (-(26214400 * ((l + 1 : Nat) : Int)) ≤ (sYr r y l).2.2 + p ∧ (sYr r y l).2.2 + p ≤ 26214400 * ((l + 1 : Nat) : Int))
      omega
    · have e : sYr r y (l + 1) = sYr r y l := if_neg c
      rw [e]
      omega
def yrs (r : Nat → Int) : Prop := ∀ k : Nat, (k : Int) < r 0 → -131072 ≤ r (24 + 90 * k) ∧ r (24 + 90 * k) ≤ 131072
def vS (W : jW) (a : Nat) (l3 : Int) (t : Int × Int × Int) : jW := vuL (vuL (vuL (vuL W a l3.toNat 1) a (l3 + 1).toNat t.1) a (l3 + 2).toNat t.2.1) a (l3 + 3).toNat t.2.2
theorem xy_65 {X : jW} {r : Nat → Int} {y l3 : Int} (T : pT X 32 pt_0 r) (Y : yrs r) : ∀ (c l f : Nat), (r 0).toNat - l = c → c < f → (l : Int) ≤ r 0 → d_X11_sumYear_r31_r65d_25 f y l3 (sYr r y l).1 (sYr r y l).2.1 (sYr r y l).2.2 (l : Int) X = vS X 65 l3 (sYr r y (r 0).toNat) := by
  have e33 : X.1 33 3 = r 0 := T.1
  have b0 : 0 ≤ r 0 ∧ r 0 ≤ 200 := T.2.1
  intro c
  induction c with
  | zero =>
    intro l f h hf hl
    obtain ⟨f, rfl⟩ : ∃ q, f = q + 1 := ⟨f - 1, by omega⟩
    have el : l = (r 0).toNat := by omega
    rw [← el]
    exact if_pos (by rw [e33]; omega)
  | succ c ih =>
    intro l f h hf hl
    obtain ⟨f, rfl⟩ : ∃ q, f = q + 1 := ⟨f - 1, by omega⟩
    have q := ih (l + 1) f (by omega) (by omega) (by omega)
    rw [show ((l + 1 : Nat) : Int) = (l : Int) + 1 from by omega] at q
    have a1 := at_33_1 T (i := (l : Int)) (by omega) (by omega)
    have a4 := at_33_4 T (i := (l : Int)) (by omega) (by omega)
    rw [show (20 + 90 * (l : Int) + 2).toNat = 22 + 90 * l from by omega] at a1
    rw [show (20 + 90 * (l : Int) + 4).toNat = 24 + 90 * l from by omega] at a4
    have bb := sY_b (r := r) (y := y) l (by omega) (fun k hk => Y k (by omega))
    have bc := sY_b (r := r) (y := y) (l + 1) (by omega) (fun k hk => Y k (by omega))
    have xl := Y l (by omega)
    show (if X.1 33 3 ≤ (l : Int) then _ else (if d_X8_at_r33_c1d (l : Int) X / 366 = y then d_X11_sumYear_r31_r65d_25 f y l3 (j_ladd (sYr r y l).1 1) (j_ladd (sYr r y l).2.1 (d_X8_at_r33_c4d (l : Int) X)) (j_ladd (sYr r y l).2.2 (j_lmul (j_ladd (sYr r y l).1 1) (d_X8_at_r33_c4d (l : Int) X))) ((l : Int) + 1) X else d_X11_sumYear_r31_r65d_25 f y l3 (sYr r y l).1 (sYr r y l).2.1 (sYr r y l).2.2 ((l : Int) + 1) X)) = _
    rw [if_neg (by omega), a1, a4]
    by_cases z : r (22 + 90 * l) / 366 = y
    · have e : sYr r y (l + 1) = ((sYr r y l).1 + 1, (sYr r y l).2.1 + r (24 + 90 * l), (sYr r y l).2.2 + ((sYr r y l).1 + 1) * r (24 + 90 * l)) := if_pos z
      rw [e] at q bc
      have m1 : ((sYr r y l).1 + 1) * r (24 + 90 * l) ≤ ((sYr r y l).1 + 1) * 131072 := Int.mul_le_mul_of_nonneg_left xl.2 (by omega)
      have m2 : ((sYr r y l).1 + 1) * (-131072) ≤ ((sYr r y l).1 + 1) * r (24 + 90 * l) := Int.mul_le_mul_of_nonneg_left xl.1 (by omega)
      rw [if_pos z, l_a (x := (sYr r y l).1) (by omega) (by omega) (by omega), l_m (by omega) (by omega) (by omega), l_a (x := (sYr r y l).2.1) (by omega) (by omega) (by omega), l_a (x := (sYr r y l).2.2) (by omega) (by omega) (by omega)]
      exact q
    · have e : sYr r y (l + 1) = sYr r y l := if_neg z
      rw [e] at q
      rw [if_neg z]
      exact q
theorem xy_124 {X : jW} {r : Nat → Int} {y l3 : Int} (T : pT X 32 pt_0 r) (Y : yrs r) : ∀ (c l f : Nat), (r 0).toNat - l = c → c < f → (l : Int) ≤ r 0 → d_X11_sumYear_r31_r124d_25 f y l3 (sYr r y l).1 (sYr r y l).2.1 (sYr r y l).2.2 (l : Int) X = vS X 124 l3 (sYr r y (r 0).toNat) := by
  have e33 : X.1 33 3 = r 0 := T.1
  have b0 : 0 ≤ r 0 ∧ r 0 ≤ 200 := T.2.1
  intro c
  induction c with
  | zero =>
    intro l f h hf hl
    obtain ⟨f, rfl⟩ : ∃ q, f = q + 1 := ⟨f - 1, by omega⟩
    have el : l = (r 0).toNat := by omega
    rw [← el]
    exact if_pos (by rw [e33]; omega)
  | succ c ih =>
    intro l f h hf hl
    obtain ⟨f, rfl⟩ : ∃ q, f = q + 1 := ⟨f - 1, by omega⟩
    have q := ih (l + 1) f (by omega) (by omega) (by omega)
    rw [show ((l + 1 : Nat) : Int) = (l : Int) + 1 from by omega] at q
    have a1 := at_33_1 T (i := (l : Int)) (by omega) (by omega)
    have a4 := at_33_4 T (i := (l : Int)) (by omega) (by omega)
    rw [show (20 + 90 * (l : Int) + 2).toNat = 22 + 90 * l from by omega] at a1
    rw [show (20 + 90 * (l : Int) + 4).toNat = 24 + 90 * l from by omega] at a4
    have bb := sY_b (r := r) (y := y) l (by omega) (fun k hk => Y k (by omega))
    have bc := sY_b (r := r) (y := y) (l + 1) (by omega) (fun k hk => Y k (by omega))
    have xl := Y l (by omega)
    show (if X.1 33 3 ≤ (l : Int) then _ else (if d_X8_at_r33_c1d (l : Int) X / 366 = y then d_X11_sumYear_r31_r124d_25 f y l3 (j_ladd (sYr r y l).1 1) (j_ladd (sYr r y l).2.1 (d_X8_at_r33_c4d (l : Int) X)) (j_ladd (sYr r y l).2.2 (j_lmul (j_ladd (sYr r y l).1 1) (d_X8_at_r33_c4d (l : Int) X))) ((l : Int) + 1) X else d_X11_sumYear_r31_r124d_25 f y l3 (sYr r y l).1 (sYr r y l).2.1 (sYr r y l).2.2 ((l : Int) + 1) X)) = _
    rw [if_neg (by omega), a1, a4]
    by_cases z : r (22 + 90 * l) / 366 = y
    · have e : sYr r y (l + 1) = ((sYr r y l).1 + 1, (sYr r y l).2.1 + r (24 + 90 * l), (sYr r y l).2.2 + ((sYr r y l).1 + 1) * r (24 + 90 * l)) := if_pos z
      rw [e] at q bc
      have m1 : ((sYr r y l).1 + 1) * r (24 + 90 * l) ≤ ((sYr r y l).1 + 1) * 131072 := Int.mul_le_mul_of_nonneg_left xl.2 (by omega)
      have m2 : ((sYr r y l).1 + 1) * (-131072) ≤ ((sYr r y l).1 + 1) * r (24 + 90 * l) := Int.mul_le_mul_of_nonneg_left xl.1 (by omega)
      rw [if_pos z, l_a (x := (sYr r y l).1) (by omega) (by omega) (by omega), l_m (by omega) (by omega) (by omega), l_a (x := (sYr r y l).2.1) (by omega) (by omega) (by omega), l_a (x := (sYr r y l).2.2) (by omega) (by omega) (by omega)]
      exact q
    · have e : sYr r y (l + 1) = sYr r y l := if_neg z
      rw [e] at q
      rw [if_neg z]
      exact q
theorem vl_n {W : jW} {a k b j : Nat} {x : Int} (h : ¬ (b = a ∧ j = k)) : (vuL W a k x).2.1 b j = W.2.1 b j := if_neg h
def w3 (W : jW) (a b c : Int) : jW := vuL (vuL (vu W 125 89 a) 125 90 b) 125 91 c
theorem w3_e {W : jW} {a b c : Int} : (w3 W a b c).1 126 = W.1 126 ∧ (w3 W a b c).1 125 89 = a ∧ (w3 W a b c).2.1 125 90 = b ∧ (w3 W a b c).2.1 125 91 = c := by
  refine ⟨?_, ?_, ?_, vl_e⟩
  · show (vu W 125 89 a).1 126 = _
    exact vu_c (by decide)
  · show (vu W 125 89 a).1 125 89 = _
    exact vu_e rfl
  · exact (vl_n (by decide)).trans vl_e
theorem ms_17 {r : Nat → Int} {y : Int} (b0 : 0 ≤ r 0 ∧ r 0 ≤ 200) (Y : yrs r) : ∀ (c l f : Nat) (W : jW), W.1 126 = r → (r 0).toNat - l = c → c < f → (l : Int) ≤ r 0 → W.1 125 89 = (sYr r y l).1 → W.2.1 125 90 = (sYr r y l).2.1 → W.2.1 125 91 = (sYr r y l).2.2 → ∃ V : jW, d_X12_addYear_r125d_17 f y (l : Int) W = V ∧ V.1 125 89 = (sYr r y (r 0).toNat).1 ∧ V.2.1 125 90 = (sYr r y (r 0).toNat).2.1 ∧ V.2.1 125 91 = (sYr r y (r 0).toNat).2.2 := by
  intro c
  induction c with
  | zero =>
    intro l f W hw h hf hl e1 e2 e3
    obtain ⟨f, rfl⟩ : ∃ q, f = q + 1 := ⟨f - 1, by omega⟩
    have el : l = (r 0).toNat := by omega
    rw [← el]
    exact ⟨W, if_pos (by rw [hw]; omega), e1, e2, e3⟩
  | succ c ih =>
    intro l f W hw h hf hl e1 e2 e3
    obtain ⟨f, rfl⟩ : ∃ q, f = q + 1 := ⟨f - 1, by omega⟩
    have bb := sY_b (r := r) (y := y) l (by omega) (fun k hk => Y k (by omega))
    have bc := sY_b (r := r) (y := y) (l + 1) (by omega) (fun k hk => Y k (by omega))
    have xl := Y l (by omega)
    have i1 : (20 + 90 * (l : Int) + 2).toNat = 22 + 90 * l := by omega
    have i2 : (20 + 90 * (l : Int) + 4).toNat = 24 + 90 * l := by omega
    by_cases z : r (22 + 90 * l) / 366 = y
    · have e : sYr r y (l + 1) = ((sYr r y l).1 + 1, (sYr r y l).2.1 + r (24 + 90 * l), (sYr r y l).2.2 + ((sYr r y l).1 + 1) * r (24 + 90 * l)) := if_pos z
      rw [e] at bc
      have m1 : ((sYr r y l).1 + 1) * r (24 + 90 * l) ≤ ((sYr r y l).1 + 1) * 131072 := Int.mul_le_mul_of_nonneg_left xl.2 (by omega)
      have m2 : ((sYr r y l).1 + 1) * (-131072) ≤ ((sYr r y l).1 + 1) * r (24 + 90 * l) := Int.mul_le_mul_of_nonneg_left xl.1 (by omega)
      have mc : r (24 + 90 * l) * ((sYr r y l).1 + 1) = ((sYr r y l).1 + 1) * r (24 + 90 * l) := Int.mul_comm _ _
      have j1 : j_iadd (W.1 125 89) 1 = (sYr r y l).1 + 1 := by rw [e1]; exact j_ia (by omega) (by omega) (by omega)
      have j2 : j_ladd (W.2.1 125 90) (r (24 + 90 * l)) = (sYr r y l).2.1 + r (24 + 90 * l) := by rw [e2]; exact l_a (by omega) (by omega) (by omega)
      have j3 : j_ladd (W.2.1 125 91) (j_lmul (r (24 + 90 * l)) ((sYr r y l).1 + 1)) = (sYr r y l).2.2 + ((sYr r y l).1 + 1) * r (24 + 90 * l) := by
        rw [e3, l_m (by omega) (by omega) (by omega), mc]; exact l_a (by omega) (by omega) (by omega)
      obtain ⟨V, v1, v2, v3, v4⟩ := ih (l + 1) f (w3 W ((sYr r y l).1 + 1) ((sYr r y l).2.1 + r (24 + 90 * l)) ((sYr r y l).2.2 + ((sYr r y l).1 + 1) * r (24 + 90 * l))) (w3_e.1.trans hw) (by omega) (by omega) (by omega) (by rw [e]; exact w3_e.2.1) (by rw [e]; exact w3_e.2.2.1) (by rw [e]; exact w3_e.2.2.2)
      refine ⟨V, ?_, v2, v3, v4⟩
      rw [← v1, show ((l + 1 : Nat) : Int) = (l : Int) + 1 from by omega]
      show (if W.1 126 0 ≤ (l : Int) then _ else (if W.1 126 (20 + 90 * (l : Int) + 2).toNat / 366 = y then d_X12_addYear_r125d_17 f y ((l : Int) + 1) (vuL (vuL (vu W 125 89 (j_iadd (W.1 125 89) 1)) 125 90 (j_ladd (W.2.1 125 90) (W.1 126 (20 + 90 * (l : Int) + 4).toNat))) 125 91 (j_ladd ((vuL (vu W 125 89 (j_iadd (W.1 125 89) 1)) 125 90 (j_ladd (W.2.1 125 90) (W.1 126 (20 + 90 * (l : Int) + 4).toNat))).2.1 125 91) (j_lmul (W.1 126 (20 + 90 * (l : Int) + 4).toNat) (j_iadd (W.1 125 89) 1)))) else _)) = _
      rw [hw, i1, i2, if_neg (by omega), if_pos z, j1, j2]
      have k : (vuL (vu W 125 89 ((sYr r y l).1 + 1)) 125 90 ((sYr r y l).2.1 + r (24 + 90 * l))).2.1 125 91 = W.2.1 125 91 := vl_n (by decide)
      rw [k, j3]
      rfl
    · have e : sYr r y (l + 1) = sYr r y l := if_neg z
      obtain ⟨V, v1, v2, v3, v4⟩ := ih (l + 1) f W hw (by omega) (by omega) (by omega) (by rw [e]; exact e1) (by rw [e]; exact e2) (by rw [e]; exact e3)
      refine ⟨V, ?_, v2, v3, v4⟩
      rw [← v1, show ((l + 1 : Nat) : Int) = (l : Int) + 1 from by omega]
      show (if W.1 126 0 ≤ (l : Int) then _ else (if W.1 126 (20 + 90 * (l : Int) + 2).toNat / 366 = y then _ else d_X12_addYear_r125d_17 f y ((l : Int) + 1) W)) = _
      rw [hw, i1, if_neg (by omega), if_neg z]
theorem mad {M : jW} {y : Int} (b0 : 0 ≤ M.1 126 0 ∧ M.1 126 0 ≤ 200) (Y : yrs (M.1 126)) : (d_X12_addYear_r125d y M).1 125 89 = (sYr (M.1 126) y (M.1 126 0).toNat).1 ∧ (d_X12_addYear_r125d y M).2.1 125 90 = (sYr (M.1 126) y (M.1 126 0).toNat).2.1 ∧ (d_X12_addYear_r125d y M).2.1 125 91 = (sYr (M.1 126) y (M.1 126 0).toNat).2.2 := by
  obtain ⟨V, v1, v2, v3, v4⟩ := ms_17 (y := y) b0 Y (M.1 126 0).toNat 0 201 (w3 M 0 0 0) w3_e.1 (by omega) (by omega) (by omega) w3_e.2.1 w3_e.2.2.1 w3_e.2.2.2
  have e : d_X12_addYear_r125d y M = V := v1
  rw [e]
  exact ⟨v2, v3, v4⟩
theorem xsu {X : jW} {r : Nat → Int} {y l3 : Int} (T : pT X 32 pt_0 r) (Y : yrs r) : d_X11_sumYear_r31_r65d y l3 X = vS X 65 l3 (sYr r y (r 0).toNat) ∧ d_X11_sumYear_r31_r124d y l3 X = vS X 124 l3 (sYr r y (r 0).toNat) := by
  have b0 : 0 ≤ r 0 ∧ r 0 ≤ 200 := T.2.1
  exact ⟨xy_65 T Y (r 0).toNat 0 201 (by omega) (by omega) (by omega), xy_124 T Y (r 0).toNat 0 201 (by omega) (by omega) (by omega)⟩
end jG69

section jG70
/-! pure: a LEVY parted out: the rests -/
theorem vu_f {W : jW} {a k : Nat} {x : Int} : (vu W a k x).1 a = sU (W.1 a) k x := by
  funext i
  by_cases c : i = k
  · rw [vu_e c, sU_e c]
  · rw [vu_n (by omega), sU_n c]
theorem vl_f {W : jW} {a k : Nat} {x : Int} : (vuL W a k x).2.1 a = sU (W.2.1 a) k x := by
  funext i
  by_cases c : i = k
  · rw [c, vl_e, sU_e rfl]
  · rw [vl_n (by omega), sU_n c]
/-- the greatest rest, the first of alike ones -/
def gRs (rs : Nat → Int) : Nat → Int × Int
  | 0 => (-1, -1)
  | k + 1 => if rs k ≤ (gRs rs k).1 then gRs rs k else (rs k, (k : Int))
def rsC (rs : Nat → Int) : Nat → Int
  | 0 => 0
  | k + 1 => rsC rs k + if 0 ≤ rs k then 1 else 0
def rsO (rs : Nat → Int) (n : Nat) : Prop := ∀ h : Nat, h < n → -1 ≤ rs h
theorem gR_p {rs : Nat → Int} : ∀ n : Nat, rsO rs n → (gRs rs n = (-1, -1) ∧ ∀ h : Nat, h < n → rs h = -1) ∨ ∃ a : Nat, a < n ∧ gRs rs n = (rs a, (a : Int)) ∧ 0 ≤ rs a
  | 0, _ => Or.inl ⟨rfl, fun h hh => absurd hh (by omega)⟩
  | n + 1, o => by
    have ih := gR_p (rs := rs) n (fun h hh => o h (by omega))
    have on := o n (by omega)
    by_cases c : rs n ≤ (gRs rs n).1
    · have e : gRs rs (n + 1) = gRs rs n := if_pos c
      rw [e]
      rcases ih with ⟨i1, i2⟩ | ⟨a, i1, i2, i3⟩
      · left
        refine ⟨i1, fun h hh => ?_⟩
        rw [i1] at c
        have c2 : rs n ≤ -1 := c
        by_cases q : h = n
        · rw [q]; omega
        · exact i2 h (by omega)
      · exact Or.inr ⟨a, by omega, i2, i3⟩
    · have e : gRs rs (n + 1) = (rs n, (n : Int)) := if_neg c
      rw [e]
      right
      refine ⟨n, by omega, rfl, ?_⟩
      rcases ih with ⟨i1, i2⟩ | ⟨a, i1, i2, i3⟩
      · rw [i1] at c
        have c2 : ¬ rs n ≤ -1 := c
        omega
      · rw [i2] at c
        have c2 : ¬ rs n ≤ rs a := c
        omega
theorem rsC_0 {rs : Nat → Int} : ∀ n : Nat, (∀ h : Nat, h < n → rs h = -1) → rsC rs n = 0
  | 0, _ => rfl
  | n + 1, h => by
    have ih := rsC_0 (rs := rs) n (fun k hk => h k (by omega))
    have e := h n (by omega)
    show rsC rs n + (if 0 ≤ rs n then 1 else 0) = 0
    rw [ih, if_neg (by omega)]
    rfl
theorem rsC_u {rs : Nat → Int} {a : Nat} : ∀ n : Nat, 0 ≤ rs a → rsC (sU rs a (-1)) n = rsC rs n - if a < n then 1 else 0
  | 0, h => by
    rw [if_neg (by omega)]
    rfl
  | n + 1, h => by
    have ih := rsC_u (rs := rs) (a := a) n h
    show rsC (sU rs a (-1)) n + (if 0 ≤ sU rs a (-1) n then 1 else 0) = rsC rs n + (if 0 ≤ rs n then 1 else 0) - _
    rw [ih]
    by_cases e : n = a
    · rw [sU_e e, if_neg (show ¬ (0 : Int) ≤ -1 from by decide), e, if_neg (by omega), if_pos h, if_pos (by omega)]
      omega
    · rw [sU_n e]
      by_cases c : a < n
      · rw [if_pos c, if_pos (show a < n + 1 from by omega)]; omega
      · rw [if_neg c, if_neg (show ¬ a < n + 1 from by omega)]; omega
def sGv (n : Nat) : Nat → (Nat → Int) × (Nat → Int) → (Nat → Int) × (Nat → Int)
  | 0, s => s
  | k + 1, s => sGv n k (sU s.1 (gRs s.2 n).2.toNat (s.1 (gRs s.2 n).2.toNat + 1), sU s.2 (gRs s.2 n).2.toNat (-1))
/-- one step: there is one to give to -/
theorem sGv_o {n : Nat} {rs : Nat → Int} (o : rsO rs n) (hc : 1 ≤ rsC rs n) : ∃ a : Nat, a < n ∧ gRs rs n = (rs a, (a : Int)) ∧ 0 ≤ rs a ∧ rsO (sU rs a (-1)) n ∧ rsC (sU rs a (-1)) n = rsC rs n - 1 := by
  rcases gR_p n o with ⟨i1, i2⟩ | ⟨a, i1, i2, i3⟩
  · rw [rsC_0 n i2] at hc
    omega
  · refine ⟨a, i1, i2, i3, fun h hh => ?_, ?_⟩
    · by_cases e : h = a
      · rw [sU_e e]; omega
      · rw [sU_n e]; exact o h hh
    · rw [rsC_u n i3, if_pos i1]
/-- the class -/
theorem xgr {X : jW} {n : Nat} (hn : min 40 (X.1 49 3) = (n : Int)) : ∀ (c h r : Nat), n - h = c → c < r → h ≤ n → d_X4_greatestRest_r107d_9 r (gRs (X.2.1 110) h).1 (gRs (X.2.1 110) h).2 (h : Int) X = (gRs (X.2.1 110) n).2 := by
  intro c
  induction c with
  | zero =>
    intro h r e hr hh
    obtain ⟨r, rfl⟩ : ∃ q, r = q + 1 := ⟨r - 1, by omega⟩
    rw [show h = n from by omega]
    exact if_pos (by omega)
  | succ c ih =>
    intro h r e hr hh
    obtain ⟨r, rfl⟩ : ∃ q, r = q + 1 := ⟨r - 1, by omega⟩
    have q := ih (h + 1) r (by omega) (by omega) (by omega)
    rw [show ((h + 1 : Nat) : Int) = (h : Int) + 1 from by omega] at q
    show (if min 40 (X.1 49 3) ≤ (h : Int) then _ else (if X.2.1 110 (h : Int).toNat ≤ (gRs (X.2.1 110) h).1 then d_X4_greatestRest_r107d_9 r (gRs (X.2.1 110) h).1 (gRs (X.2.1 110) h).2 ((h : Int) + 1) X else d_X4_greatestRest_r107d_9 r (X.2.1 110 (h : Int).toNat) (h : Int) ((h : Int) + 1) X)) = _
    rw [if_neg (by omega), show (h : Int).toNat = h from by omega]
    by_cases z : X.2.1 110 h ≤ (gRs (X.2.1 110) h).1
    · have e2 : gRs (X.2.1 110) (h + 1) = gRs (X.2.1 110) h := if_pos z
      rw [e2] at q
      rw [if_pos z]; exact q
    · have e2 : gRs (X.2.1 110) (h + 1) = (X.2.1 110 h, (h : Int)) := if_neg z
      rw [e2] at q
      rw [if_neg z]; exact q
theorem xgr_e {X : jW} {n : Nat} (hn : min 40 (X.1 49 3) = (n : Int)) : d_X4_greatestRest_r107d X = (gRs (X.2.1 110) n).2 := xgr hn n 0 41 (by omega) (by omega) (by omega)
theorem xs116 {n : Nat} : ∀ (k r : Nat) (l6 : Int) (X : jW), min 40 (X.1 49 3) = (n : Int) → 0 ≤ l6 → l6 + k ≤ 40 → k < r → rsO (X.2.1 110) n → (k : Int) ≤ rsC (X.2.1 110) n → (∀ h : Nat, h < n → 0 ≤ X.1 108 h ∧ X.1 108 h + k ≤ 2000000) → ∃ V : jW, d_X4_share_r107d_116 r (k : Int) l6 X = V ∧ (V.1 108, V.2.1 110) = sGv n k (X.1 108, X.2.1 110) ∧ (∀ c : Nat, c ≠ 108 → V.1 c = X.1 c) ∧ (∀ c : Nat, c ≠ 110 → V.2.1 c = X.2.1 c) ∧ V.2.2 = X.2.2
  | 0, r + 1, l6, X, hn, h0, h1, hr, o, hc, hb => by
    refine ⟨X, ?_, rfl, fun _ _ => rfl, fun _ _ => rfl, rfl⟩
    show (if 40 ≤ l6 then X else (if ((0 : Nat) : Int) ≤ 0 then X else _)) = X
    by_cases c : 40 ≤ l6
    · rw [if_pos c]
    · rw [if_neg c, if_pos (by decide)]
  | k + 1, r + 1, l6, X, hn, h0, h1, hr, o, hc, hb => by
    obtain ⟨a, a1, a2, a3, a4, a5⟩ := sGv_o o (by omega)
    have ba := hb a a1
    have g : d_X4_greatestRest_r107d X = (a : Int) := by rw [xgr_e hn, a2]
    have ja : j_iadd (X.1 108 a) 1 = X.1 108 a + 1 := j_ia (by omega) (by omega) (by omega)
    have e49 : (vuL (vu X 108 a (X.1 108 a + 1)) 110 a (-1)).1 49 = X.1 49 := (show (vu X 108 a (X.1 108 a + 1)).1 49 = X.1 49 from vu_c (by decide))
    have e108 : (vuL (vu X 108 a (X.1 108 a + 1)) 110 a (-1)).1 108 = sU (X.1 108) a (X.1 108 a + 1) := (show (vu X 108 a (X.1 108 a + 1)).1 108 = _ from vu_f)
    have e110 : (vuL (vu X 108 a (X.1 108 a + 1)) 110 a (-1)).2.1 110 = sU (X.2.1 110) a (-1) := vl_f
    obtain ⟨V, v1, v2, v3, v4, v5⟩ := xs116 k r (l6 + 1) (vuL (vu X 108 a (X.1 108 a + 1)) 110 a (-1)) (by rw [e49]; exact hn) (by omega) (by omega) (by omega) (by rw [e110]; exact a4) (by rw [e110, a5]; omega) (fun h hh => by
      rw [e108]
      have b := hb h hh
      by_cases e : h = a
      · rw [sU_e e]; rw [e] at b; omega
      · rw [sU_n e]; omega)
    refine ⟨V, ?_, ?_, fun c hc => (v3 c hc).trans (show (vu X 108 a (X.1 108 a + 1)).1 c = X.1 c from vu_c hc), fun c hc => (v4 c hc).trans (funext fun j => vl_n (by omega)), v5⟩
    · rw [← v1]
      show (if 40 ≤ l6 then X else (if ((k + 1 : Nat) : Int) ≤ 0 then X else (if d_X4_greatestRest_r107d X = -1 then _ else d_X4_share_r107d_116 r (((k + 1 : Nat) : Int) - 1) (l6 + 1) (vuL (vu X 108 (d_X4_greatestRest_r107d X).toNat (j_iadd (X.1 108 (d_X4_greatestRest_r107d X).toNat) 1)) 110 (d_X4_greatestRest_r107d X).toNat (-1))))) = _
      rw [if_neg (by omega), if_neg (by omega), g, if_neg (by omega), show (a : Int).toNat = a from by omega, ja, show ((k + 1 : Nat) : Int) - 1 = (k : Int) from by omega]
    · rw [v2, e108, e110]
      show _ = sGv n k (sU (X.1 108) (gRs (X.2.1 110) n).2.toNat (X.1 108 (gRs (X.2.1 110) n).2.toNat + 1), sU (X.2.1 110) (gRs (X.2.1 110) n).2.toNat (-1))
      rw [a2]
      rfl
/-- the reference -/
theorem mgr {M : jW} {n : Nat} {K : Int → Int → Int → Int → jW → jW} {l3 l4 l8 : Int} : ∀ (c h r : Nat), n - h = c → c < r → h ≤ n → rsO (M.2.1 166) n → d_X12_partLevy_r125d_306 K r l3 l4 (n : Int) l8 (gRs (M.2.1 166) h).2 (h : Int) M = K l3 l4 (n : Int) (l8 - 1) (vuL (vuL M 165 (gRs (M.2.1 166) n).2.toNat (j_ladd (M.2.1 165 (gRs (M.2.1 166) n).2.toNat) 1)) 166 (gRs (M.2.1 166) n).2.toNat (-1)) := by
  intro c
  induction c with
  | zero =>
    intro h r e hr hh o
    obtain ⟨r, rfl⟩ : ∃ q, r = q + 1 := ⟨r - 1, by omega⟩
    rw [show h = n from by omega]
    exact if_pos (by omega)
  | succ c ih =>
    intro h r e hr hh o
    obtain ⟨r, rfl⟩ : ∃ q, r = q + 1 := ⟨r - 1, by omega⟩
    have q := ih (h + 1) r (by omega) (by omega) (by omega) o
    rw [show ((h + 1 : Nat) : Int) = (h : Int) + 1 from by omega] at q
    have P := gR_p (rs := M.2.1 166) h (fun k hk => o k (by omega))
    have oh := o h (by omega)
    show (if (n : Int) ≤ (h : Int) then _ else (if M.2.1 166 (h : Int).toNat < 0 then d_X12_partLevy_r125d_306 K r l3 l4 (n : Int) l8 (gRs (M.2.1 166) h).2 ((h : Int) + 1) M else (if (gRs (M.2.1 166) h).2 < 0 then d_X12_partLevy_r125d_306 K r l3 l4 (n : Int) l8 (h : Int) ((h : Int) + 1) M else (if M.2.1 166 (h : Int).toNat ≤ M.2.1 166 (gRs (M.2.1 166) h).2.toNat then d_X12_partLevy_r125d_306 K r l3 l4 (n : Int) l8 (gRs (M.2.1 166) h).2 ((h : Int) + 1) M else d_X12_partLevy_r125d_306 K r l3 l4 (n : Int) l8 (h : Int) ((h : Int) + 1) M)))) = _
    rw [if_neg (by omega), show (h : Int).toNat = h from by omega]
    by_cases z : M.2.1 166 h ≤ (gRs (M.2.1 166) h).1
    · have e2 : gRs (M.2.1 166) (h + 1) = gRs (M.2.1 166) h := if_pos z
      rw [e2] at q
      rcases P with ⟨i1, i2⟩ | ⟨a, i1, i2, i3⟩
      · rw [i1] at z
        have z2 : M.2.1 166 h ≤ -1 := z
        rw [if_pos (by omega)]; exact q
      · have y1 : (gRs (M.2.1 166) h).1 = M.2.1 166 a := by rw [i2]
        have y2 : (gRs (M.2.1 166) h).2 = (a : Int) := by rw [i2]
        by_cases b : M.2.1 166 h < 0
        · rw [if_pos b]; exact q
        · rw [if_neg b, y2, if_neg (by omega), show (a : Int).toNat = a from by omega, if_pos (by omega)]
          rw [y2] at q; exact q
    · have e2 : gRs (M.2.1 166) (h + 1) = (M.2.1 166 h, (h : Int)) := if_neg z
      rw [e2] at q
      rcases P with ⟨i1, i2⟩ | ⟨a, i1, i2, i3⟩
      · rw [i1] at z
        have z2 : ¬ M.2.1 166 h ≤ -1 := z
        have y2 : (gRs (M.2.1 166) h).2 = -1 := by rw [i1]
        rw [if_neg (by omega), y2, if_pos (by omega)]; exact q
      · have y1 : (gRs (M.2.1 166) h).1 = M.2.1 166 a := by rw [i2]
        have y2 : (gRs (M.2.1 166) h).2 = (a : Int) := by rw [i2]
        rw [if_neg (by omega), y2, if_neg (by omega), show (a : Int).toNat = a from by omega, if_neg (by omega)]; exact q
theorem ms293 {n : Nat} {l3 l4 : Int} (hn : n ≤ 40) : ∀ (k r : Nat) (M : jW), k < r → rsO (M.2.1 166) n → (k : Int) ≤ rsC (M.2.1 166) n → (∀ h : Nat, h < n → 0 ≤ M.2.1 165 h ∧ M.2.1 165 h + k ≤ 2000000) → ∃ V : jW, d_X12_partLevy_r125d_293 r l3 l4 (n : Int) (k : Int) M = d_X12_partLevy_r125d_396 41 l3 l4 (n : Int) 0 V ∧ (V.2.1 165, V.2.1 166) = sGv n k (M.2.1 165, M.2.1 166) ∧ V.1 = M.1 ∧ (∀ c : Nat, c ≠ 165 → c ≠ 166 → V.2.1 c = M.2.1 c) ∧ V.2.2 = M.2.2
  | 0, r + 1, M, hr, o, hc, hb => ⟨M, if_pos (by decide), rfl, rfl, fun _ _ _ => rfl, rfl⟩
  | k + 1, r + 1, M, hr, o, hc, hb => by
    obtain ⟨a, a1, a2, a3, a4, a5⟩ := sGv_o o (by omega)
    have ba := hb a a1
    have ja : j_ladd (M.2.1 165 a) 1 = M.2.1 165 a + 1 := l_a (by omega) (by omega) (by omega)
    have e166 : (vuL (vuL M 165 a (M.2.1 165 a + 1)) 166 a (-1)).2.1 166 = sU (M.2.1 166) a (-1) := by
      rw [vl_f]
      exact congrArg (fun x => sU x a (-1)) (funext fun j => vl_n (by omega))
    have e165 : (vuL (vuL M 165 a (M.2.1 165 a + 1)) 166 a (-1)).2.1 165 = sU (M.2.1 165) a (M.2.1 165 a + 1) := by
      rw [← vl_f]
      exact funext fun j => vl_n (by omega)
    obtain ⟨V, v1, v2, v3, v4, v5⟩ := ms293 (l3 := l3) (l4 := l4) hn k r (vuL (vuL M 165 a (M.2.1 165 a + 1)) 166 a (-1)) (by omega) (by rw [e166]; exact a4) (by rw [e166, a5]; omega) (fun h hh => by
      rw [e165]
      have b := hb h hh
      by_cases e : h = a
      · rw [sU_e e]; rw [e] at b; omega
      · rw [sU_n e]; omega)
    refine ⟨V, ?_, ?_, v3, fun c h1 h2 => (v4 c h1 h2).trans (funext fun j => (vl_n (by omega)).trans (vl_n (by omega))), v5⟩
    · rw [← v1]
      have q := mgr (M := M) (n := n) (K := fun l3 l4 l5 l8 W => d_X12_partLevy_r125d_293 r l3 l4 l5 l8 W) (l3 := l3) (l4 := l4) (l8 := ((k + 1 : Nat) : Int)) n 0 41 (by omega) (by omega) (by omega) o
      rw [a2] at q
      show (if ((k + 1 : Nat) : Int) ≤ 0 then _ else d_X12_partLevy_r125d_306 (fun l3 l4 l5 l8 W => d_X12_partLevy_r125d_293 r l3 l4 l5 l8 W) 41 l3 l4 (n : Int) ((k + 1 : Nat) : Int) (-1) 0 M) = _
      rw [if_neg (by omega)]
      refine Eq.trans q ?_
      show d_X12_partLevy_r125d_293 r l3 l4 (n : Int) (((k + 1 : Nat) : Int) - 1) (vuL (vuL M 165 (a : Int).toNat (j_ladd (M.2.1 165 (a : Int).toNat) 1)) 166 (a : Int).toNat (-1)) = _
      rw [show (a : Int).toNat = a from by omega, ja, show ((k + 1 : Nat) : Int) - 1 = (k : Int) from by omega]
    · rw [v2, e165, e166]
      show _ = sGv n k (sU (M.2.1 165) (gRs (M.2.1 166) n).2.toNat (M.2.1 165 (gRs (M.2.1 166) n).2.toNat + 1), sU (M.2.1 166) (gRs (M.2.1 166) n).2.toNat (-1))
      rw [a2]
      rfl
end jG70

section jG71
/-! pure: a LEVY parted out: shares and rests -/
theorem gR_c {rs rt : Nat → Int} : ∀ n : Nat, (∀ h : Nat, h < n → rs h = rt h) → gRs rs n = gRs rt n
  | 0, _ => rfl
  | n + 1, e => by
    have ih := gR_c n (fun h hh => e h (by omega))
    show (if rs n ≤ (gRs rs n).1 then gRs rs n else (rs n, (n : Int))) = (if rt n ≤ (gRs rt n).1 then gRs rt n else (rt n, (n : Int)))
    rw [ih, e n (by omega)]
theorem sGv_c {n : Nat} : ∀ (k : Nat) (s t : (Nat → Int) × (Nat → Int)), (∀ h : Nat, h < n → s.1 h = t.1 h ∧ s.2 h = t.2 h) → rsO s.2 n → (k : Int) ≤ rsC s.2 n → ∀ h : Nat, h < n → (sGv n k s).1 h = (sGv n k t).1 h ∧ (sGv n k s).2 h = (sGv n k t).2 h
  | 0, s, t, e, _, _, h, hh => e h hh
  | k + 1, s, t, e, o, hc, h, hh => by
    obtain ⟨a, a1, a2, a3, a4, a5⟩ := sGv_o o (by omega)
    have g : gRs t.2 n = (s.2 a, (a : Int)) := (gR_c n (fun j hj => (e j hj).2)).symm.trans a2
    have at_ : (a : Int).toNat = a := by omega
    show (sGv n k (sU s.1 (gRs s.2 n).2.toNat (s.1 (gRs s.2 n).2.toNat + 1), sU s.2 (gRs s.2 n).2.toNat (-1))).1 h = (sGv n k (sU t.1 (gRs t.2 n).2.toNat (t.1 (gRs t.2 n).2.toNat + 1), sU t.2 (gRs t.2 n).2.toNat (-1))).1 h ∧ (sGv n k (sU s.1 (gRs s.2 n).2.toNat (s.1 (gRs s.2 n).2.toNat + 1), sU s.2 (gRs s.2 n).2.toNat (-1))).2 h = (sGv n k (sU t.1 (gRs t.2 n).2.toNat (t.1 (gRs t.2 n).2.toNat + 1), sU t.2 (gRs t.2 n).2.toNat (-1))).2 h
    rw [a2, g]
    show (sGv n k (sU s.1 (a : Int).toNat (s.1 (a : Int).toNat + 1), sU s.2 (a : Int).toNat (-1))).1 h = (sGv n k (sU t.1 (a : Int).toNat (t.1 (a : Int).toNat + 1), sU t.2 (a : Int).toNat (-1))).1 h ∧ (sGv n k (sU s.1 (a : Int).toNat (s.1 (a : Int).toNat + 1), sU s.2 (a : Int).toNat (-1))).2 h = (sGv n k (sU t.1 (a : Int).toNat (t.1 (a : Int).toNat + 1), sU t.2 (a : Int).toNat (-1))).2 h
    rw [at_]
    refine sGv_c k _ _ (fun j hj => ?_) a4 (by show (k : Int) ≤ rsC (sU s.2 a (-1)) n; rw [a5]; omega) h hh
    show sU s.1 a (s.1 a + 1) j = sU t.1 a (t.1 a + 1) j ∧ sU s.2 a (-1) j = sU t.2 a (-1) j
    by_cases c : j = a
    · rw [sU_e c, sU_e c, sU_e c, sU_e c, (e a a1).1]; exact ⟨rfl, rfl⟩
    · rw [sU_n c, sU_n c, sU_n c, sU_n c]; exact e j hj
def sS1 (P A : Int) (w : Nat → Int) (h : Nat) : Int := if A = 0 then 0 else P * w h / A
def sR1 (P A : Int) (w : Nat → Int) (h : Nat) : Int := if A = 0 then -1 else if w h = 0 then -1 else P * w h % A
def sSx (f : Nat → Int) : Nat → Int
  | 0 => 0
  | k + 1 => sSx f k + f k
theorem rsC_p {rs : Nat → Int} : ∀ n : Nat, 0 ≤ rsC rs n ∧ rsC rs n ≤ n
  | 0 => ⟨Int.le_refl 0, Int.le_refl 0⟩
  | n + 1 => by
    have ih := rsC_p (rs := rs) n
    show 0 ≤ rsC rs n + (if 0 ≤ rs n then 1 else 0) ∧ rsC rs n + (if 0 ≤ rs n then 1 else 0) ≤ ((n + 1 : Nat) : Int)
    by_cases c : 0 ≤ rs n
    · rw [if_pos c]; omega
    · rw [if_neg c]; omega
theorem sR_o {P A : Int} {w : Nat → Int} {n : Nat} (hA : 0 ≤ A) : rsO (sR1 P A w) n := by
  intro h _
  unfold sR1
  by_cases c : A = 0
  · rw [if_pos c]; exact Int.le_refl _
  rw [if_neg c]
  by_cases d : w h = 0
  · rw [if_pos d]; exact Int.le_refl _
  · rw [if_neg d]
    have := Int.emod_nonneg (P * w h) c
    omega
theorem sh_k {P A : Int} {w : Nat → Int} (hA : 0 < A) : ∀ k : Nat, ∃ p : Int, P * sSx w k = A * sSx (sS1 P A w) k + p ∧ 0 ≤ p ∧ p ≤ rsC (sR1 P A w) k * (A - 1)
  | 0 => ⟨0, by show P * 0 = A * 0 + 0; omega, Int.le_refl 0, by show (0 : Int) ≤ 0 * (A - 1); omega⟩
  | k + 1 => by
    obtain ⟨p, p1, p2, p3⟩ := sh_k (P := P) (w := w) hA k
    have e1 : sS1 P A w k = P * w k / A := if_neg (by omega)
    have dm := Int.mul_ediv_add_emod (P * w k) A
    have m0 := Int.emod_nonneg (P * w k) (show A ≠ 0 from by omega)
    have m1 := Int.emod_lt_of_pos (P * w k) hA
    have l1 : P * sSx w (k + 1) = P * sSx w k + P * w k := Int.mul_add _ _ _
    have l2 : A * sSx (sS1 P A w) (k + 1) = A * sSx (sS1 P A w) k + A * (P * w k / A) := by
      show A * (sSx (sS1 P A w) k + sS1 P A w k) = _
      rw [e1, Int.mul_add]
    by_cases c : w k = 0
    · have e2 : sR1 P A w k = -1 := (if_neg (by omega)).trans (if_pos c)
      have e3 : rsC (sR1 P A w) (k + 1) = rsC (sR1 P A w) k := by
        show rsC (sR1 P A w) k + (if 0 ≤ sR1 P A w k then 1 else 0) = _
        rw [e2, if_neg (by decide)]; omega
      have z : P * w k = 0 := by rw [c]; exact Int.mul_zero P
      rw [z] at dm
      refine ⟨p, ?_, p2, by rw [e3]; exact p3⟩
      rw [l1, l2, z, p1]
      have zz : (0 : Int) / A = 0 := Int.zero_ediv A
      rw [zz]
      omega
    · have e2 : sR1 P A w k = P * w k % A := (if_neg (by omega)).trans (if_neg c)
      have e3 : rsC (sR1 P A w) (k + 1) = rsC (sR1 P A w) k + 1 := by
        show rsC (sR1 P A w) k + (if 0 ≤ sR1 P A w k then 1 else 0) = _
        rw [e2, if_pos m0]
      refine ⟨p + P * w k % A, ?_, by omega, ?_⟩
      · rw [l1, l2, p1]; omega
      · rw [e3, Int.add_mul]; omega
/-- fewer pence are left than there are rests -/
theorem sh_l {P A : Int} {w : Nat → Int} {n : Nat} (hA : 0 < A) (e : sSx w n = A) : 0 ≤ P - sSx (sS1 P A w) n ∧ P - sSx (sS1 P A w) n ≤ rsC (sR1 P A w) n := by
  obtain ⟨p, p1, p2, p3⟩ := sh_k (P := P) (w := w) hA n
  have c := (rsC_p (rs := sR1 P A w) n).1
  rw [e, Int.mul_comm P A] at p1
  have d : A * (P - sSx (sS1 P A w) n) = p := by rw [Int.mul_sub]; omega
  have q : rsC (sR1 P A w) n * (A - 1) = A * rsC (sR1 P A w) n - rsC (sR1 P A w) n := by
    rw [Int.mul_sub, Int.mul_comm]; omega
  constructor
  · exact Int.le_of_mul_le_mul_left (by rw [d]; show A * 0 ≤ p; omega) hA
  · exact Int.le_of_mul_le_mul_left (by rw [d]; omega) hA
theorem l_rm {x y : Int} (hx : 0 ≤ x ∧ x ≤ 1000000000000) (hy : 0 < y ∧ y ≤ 1000000000000) : j_lrem x y = x % y := by
  unfold j_lrem
  have d : (Int64.ofInt x / Int64.ofInt y).toInt = x / y := l_d ⟨hx.1, by omega⟩ ⟨hy.1, by omega⟩
  have h3 : x / y ≤ x := Int.ediv_le_self _ hx.1
  have h4 : 0 ≤ x / y := Int.ediv_nonneg hx.1 (by omega)
  have h5 := Int.mul_ediv_add_emod x y
  have h6 := Int.emod_nonneg x (show y ≠ 0 from by omega)
  have h7 := Int.emod_lt_of_pos x hy.1
  have e : x / y * y = y * (x / y) := Int.mul_comm _ _
  rw [Int64.toInt_sub, Int64.toInt_mul, d, l_of (x := x) (by omega), l_of (x := y) (by omega), e]
  have b : Int.bmod (y * (x / y)) (2 ^ 64) = y * (x / y) := Int.bmod_eq_of_le (by omega) (by omega)
  rw [b]
  have b2 : x - y * (x / y) = x % y := by omega
  rw [b2]
  exact Int.bmod_eq_of_le (by omega) (by omega)
theorem l2i_g {x : Int} (h : 0 ≤ x ∧ x ≤ 2147483647) : j_l2i x = x := by
  unfold j_l2i
  rw [Int64.toInt_toInt32, l_of (by omega)]
  exact Int.bmod_eq_of_le (by omega) (by omega)
/-- P and w as they may be -/
def sPw (P : Int) (w : Nat → Int) (n : Nat) : Prop := (0 ≤ P ∧ P ≤ 1000000) ∧ n ≤ 40 ∧ ∀ h : Nat, h < n → 0 ≤ w h ∧ w h ≤ 10000
theorem pw_m {P : Int} {w : Nat → Int} {n h : Nat} (H : sPw P w n) (hh : h < n) : 0 ≤ P * w h ∧ P * w h ≤ 10000000000 := by
  have b := H.2.2 h hh
  have p := H.1
  have m1 : P * w h ≤ P * 10000 := Int.mul_le_mul_of_nonneg_left b.2 p.1
  have m2 : 0 ≤ P * w h := Int.mul_nonneg p.1 b.1
  omega
theorem su_b {P : Int} {w : Nat → Int} {n : Nat} (H : sPw P w n) : ∀ k : Nat, k ≤ n → 0 ≤ sSx w k ∧ sSx w k ≤ 10000 * k
  | 0, _ => ⟨Int.le_refl 0, by show (0 : Int) ≤ 10000 * ((0 : Nat) : Int); decide⟩
  | k + 1, h => by
    have ih := su_b H k (by omega)
    have b := H.2.2 k (by omega)
    show 0 ≤ sSx w k + w k ∧ sSx w k + w k ≤ 10000 * ((k + 1 : Nat) : Int)
    omega
theorem s1_b {P A : Int} {w : Nat → Int} {n h : Nat} (H : sPw P w n) (hh : h < n) (hA : 0 ≤ A) (hw : w h ≤ A) : 0 ≤ sS1 P A w h ∧ sS1 P A w h ≤ 1000000 := by
  unfold sS1
  by_cases c : A = 0
  · rw [if_pos c]; exact ⟨by decide, by decide⟩
  · rw [if_neg c]
    have m := pw_m H hh
    have p := H.1
    have m1 : P * w h ≤ P * A := Int.mul_le_mul_of_nonneg_left hw p.1
    refine ⟨Int.ediv_nonneg m.1 hA, ?_⟩
    have d : P * w h / A ≤ P := Int.ediv_le_of_le_mul (by omega) m1
    omega
end jG71

section jG72
/-! pure: a LEVY parted out on both sides, up to the rates -/
def sL0 (P A : Int) : Int := if A = 0 then 0 else P
theorem sw_m {P : Int} {w : Nat → Int} {n : Nat} (H : sPw P w n) : ∀ k : Nat, k ≤ n → ∀ h : Nat, h < k → w h ≤ sSx w k
  | 0, _, h, hh => absurd hh (by omega)
  | k + 1, hk, h, hh => by
    have b := su_b H k (by omega)
    have q := H.2.2 k (by omega)
    show w h ≤ sSx w k + w k
    by_cases e : h = k
    · rw [e]; omega
    · have := sw_m H k (by omega) h (by omega)
      omega
theorem ss_b {P A : Int} {w : Nat → Int} {n : Nat} (H : sPw P w n) (eA : sSx w n = A) : ∀ k : Nat, k ≤ n → 0 ≤ sSx (sS1 P A w) k ∧ sSx (sS1 P A w) k ≤ 1000000 * k
  | 0, _ => ⟨Int.le_refl 0, by show (0 : Int) ≤ 1000000 * ((0 : Nat) : Int); decide⟩
  | k + 1, h => by
    have ih := ss_b H eA k (by omega)
    have b0 := su_b H n (Nat.le_refl n)
    have b := s1_b (A := A) H (show k < n from by omega) (by omega) (by rw [← eA]; exact sw_m H n (Nat.le_refl n) k (by omega))
    show 0 ≤ sSx (sS1 P A w) k + sS1 P A w k ∧ sSx (sS1 P A w) k + sS1 P A w k ≤ 1000000 * ((k + 1 : Nat) : Int)
    omega
theorem xs17 {P A : Int} {w : Nat → Int} {n : Nat} (H : sPw P w n) (eA : sSx w n = A) : ∀ (c h r : Nat) (l4 : Int) (X : jW), n - h = c → c < r → h ≤ n → min 40 (X.1 49 3) = (n : Int) → (∀ j : Nat, j < n → X.1 109 j = w j) → (∀ j : Nat, j < h → X.1 108 j = sS1 P A w j ∧ X.2.1 110 j = sR1 P A w j) → l4 = sL0 P A - sSx (sS1 P A w) h → ∃ Y : jW, d_X4_share_r107d_17 r P A l4 (h : Int) X = d_X4_share_r107d_116 41 (sL0 P A - sSx (sS1 P A w) n) 0 Y ∧ (∀ j : Nat, j < n → Y.1 108 j = sS1 P A w j ∧ Y.2.1 110 j = sR1 P A w j) ∧ (∀ c : Nat, c ≠ 108 → Y.1 c = X.1 c) ∧ (∀ c : Nat, c ≠ 110 → Y.2.1 c = X.2.1 c) ∧ Y.2.2 = X.2.2 := by
  have bA := su_b H n (Nat.le_refl n)
  have pP := H.1
  have n40 := H.2.1
  intro c
  induction c with
  | zero =>
    intro h r l4 X e hr hh hn h9 hp hl
    obtain ⟨r, rfl⟩ : ∃ q, r = q + 1 := ⟨r - 1, by omega⟩
    have eh : h = n := by omega
    rw [eh] at hl hp
    exact ⟨X, by rw [← hl, eh]; exact if_pos (by omega), hp, fun _ _ => rfl, fun _ _ => rfl, rfl⟩
  | succ c ih =>
    intro h r l4 X e hr hh hn h9 hp hl
    obtain ⟨r, rfl⟩ : ∃ q, r = q + 1 := ⟨r - 1, by omega⟩
    have w9 := h9 h (by omega)
    have wb := H.2.2 h (by omega)
    have hn' : (h : Int).toNat = h := by omega
    have m := pw_m H (show h < n from by omega)
    have bs := s1_b (A := A) H (show h < n from by omega) (by omega) (by rw [← eA]; exact sw_m H n (Nat.le_refl n) h (by omega))
    have sb := ss_b H eA h (by omega)
    have l0 : 0 ≤ sL0 P A ∧ sL0 P A ≤ 1000000 := by
      unfold sL0
      by_cases z : A = 0
      · rw [if_pos z]; exact ⟨by decide, by decide⟩
      · rw [if_neg z]; exact pP
    have go : ∀ (s1 r1 : Int), s1 = sS1 P A w h → r1 = sR1 P A w h → ∃ Y : jW, d_X4_share_r107d_17 r P A (j_lsub l4 ((vu X 108 h s1).1 108 h)) ((h : Int) + 1) (vuL (vu X 108 h s1) 110 h r1) = d_X4_share_r107d_116 41 (sL0 P A - sSx (sS1 P A w) n) 0 Y ∧ (∀ j : Nat, j < n → Y.1 108 j = sS1 P A w j ∧ Y.2.1 110 j = sR1 P A w j) ∧ (∀ c : Nat, c ≠ 108 → Y.1 c = X.1 c) ∧ (∀ c : Nat, c ≠ 110 → Y.2.1 c = X.2.1 c) ∧ Y.2.2 = X.2.2 := by
      intro s1 r1 es er
      have e8 : (vu X 108 h s1).1 108 h = s1 := vu_e rfl
      have f (c : Nat) (hc : c ≠ 108) : (vuL (vu X 108 h s1) 110 h r1).1 c = X.1 c := (show (vu X 108 h s1).1 c = X.1 c from vu_c hc)
      obtain ⟨Y, y1, y2, y3, y4, y5⟩ := ih (h + 1) r (l4 - s1) (vuL (vu X 108 h s1) 110 h r1) (by omega) (by omega) (by omega) (by rw [f 49 (by decide)]; exact hn) (fun j hj => by rw [f 109 (by decide)]; exact h9 j hj) (fun j hj => by
        by_cases q : j = h
        · rw [q]
          exact ⟨(show (vu X 108 h s1).1 108 h = _ from e8.trans es), vl_e.trans er⟩
        · exact ⟨(show (vu X 108 h s1).1 108 j = _ from (vu_n (by omega)).trans (hp j (by omega)).1), (vl_n (by omega)).trans (hp j (by omega)).2⟩) (by show l4 - s1 = sL0 P A - (sSx (sS1 P A w) h + sS1 P A w h); omega)
      rw [show ((h + 1 : Nat) : Int) = (h : Int) + 1 from by omega] at y1
      refine ⟨Y, ?_, y2, fun c hc => (y3 c hc).trans (f c hc), fun c hc => (y4 c hc).trans (funext fun j => vl_n (by omega)), y5⟩
      rw [e8, l_s (by omega) (by omega) (by omega)]
      exact y1
    have st : d_X4_share_r107d_17 (r + 1) P A l4 (h : Int) X = (if A = 0 then d_X4_share_r107d_17 r P A (j_lsub l4 ((vu X 108 h 0).1 108 h)) ((h : Int) + 1) (vuL (vu X 108 h 0) 110 h (-1)) else if w h = 0 then d_X4_share_r107d_17 r P A (j_lsub l4 ((vu X 108 h (j_l2i (j_ldiv (j_lmul P (w h)) A))).1 108 h)) ((h : Int) + 1) (vuL (vu X 108 h (j_l2i (j_ldiv (j_lmul P (w h)) A))) 110 h (-1)) else d_X4_share_r107d_17 r P A (j_lsub l4 ((vu X 108 h (j_l2i (j_ldiv (j_lmul P (w h)) A))).1 108 h)) ((h : Int) + 1) (vuL (vu X 108 h (j_l2i (j_ldiv (j_lmul P (w h)) A))) 110 h (j_lrem (j_lmul P (w h)) A))) := by
      rw [← w9]
      refine (if_neg (by omega)).trans ?_
      by_cases z : A = 0
      · rw [if_pos z, if_pos z]
        unfold d_X4_share_r107d_200060 d_X4_share_r107d_83 d_X4_share_r107d_5000093
        rw [hn']
      · rw [if_neg z, if_neg z]
        unfold d_X4_share_r107d_60 d_X4_share_r107d_83 d_X4_share_r107d_5000093 d_X4_share_r107d_93
        rw [if_neg z, hn']
    rw [st]
    by_cases z : A = 0
    · rw [if_pos z]
      exact go 0 (-1) (if_pos z).symm (if_pos z).symm
    · rw [if_neg z, l_m (by omega) (by omega) (by omega), l_d (by omega) (by omega)]
      have e1 : sS1 P A w h = P * w h / A := if_neg z
      rw [l2i_g (x := P * w h / A) (by omega)]
      by_cases y : w h = 0
      · rw [if_pos y]
        exact go _ _ e1.symm ((if_neg z).trans (if_pos y)).symm
      · rw [if_neg y, l_rm ⟨m.1, by omega⟩ (by omega)]
        exact go _ _ e1.symm ((if_neg z).trans (if_neg y)).symm
/-- what class and reference have parted out, up to the rates -/
def sOw (P A : Int) (w : Nat → Int) (n : Nat) : Nat → Int := (sGv n (sL0 P A - sSx (sS1 P A w) n).toNat (sS1 P A w, sR1 P A w)).1
theorem lf_b {P A : Int} {w : Nat → Int} {n : Nat} (H : sPw P w n) (eA : sSx w n = A) : 0 ≤ sL0 P A - sSx (sS1 P A w) n ∧ sL0 P A - sSx (sS1 P A w) n ≤ rsC (sR1 P A w) n := by
  have bA := su_b H n (Nat.le_refl n)
  have c := (rsC_p (rs := sR1 P A w) n).1
  by_cases z : A = 0
  · have e0 : ∀ k : Nat, sSx (sS1 P A w) k = 0 := by
      intro k
      induction k with
      | zero => rfl
      | succ k ih =>
        show sSx (sS1 P A w) k + sS1 P A w k = 0
        rw [ih, show sS1 P A w k = 0 from if_pos z]
        rfl
    rw [e0, show sL0 P A = 0 from if_pos z]
    omega
  · rw [show sL0 P A = P from if_neg z]
    exact sh_l (by omega) eA
theorem s1_2 {P A : Int} {w : Nat → Int} {n : Nat} (H : sPw P w n) (eA : sSx w n = A) {h : Nat} (hh : h < n) : 0 ≤ sS1 P A w h ∧ sS1 P A w h ≤ 1000000 := by
  have bA := su_b H n (Nat.le_refl n)
  exact s1_b H hh (by omega) (by rw [← eA]; exact sw_m H n (Nat.le_refl n) h hh)
theorem xsh {P A : Int} {w : Nat → Int} {n : Nat} (H : sPw P w n) (eA : sSx w n = A) {X : jW} (hn : min 40 (X.1 49 3) = (n : Int)) (h9 : ∀ j : Nat, j < n → X.1 109 j = w j) : (∀ j : Nat, j < n → (d_X4_share_r107d P A X).1 108 j = sOw P A w n j) ∧ (∀ c : Nat, c ≠ 108 → (d_X4_share_r107d P A X).1 c = X.1 c) ∧ (∀ c : Nat, c ≠ 110 → (d_X4_share_r107d P A X).2.1 c = X.2.1 c) ∧ (d_X4_share_r107d P A X).2.2 = X.2.2 := by
  have e : d_X4_share_r107d P A X = d_X4_share_r107d_17 41 P A (sL0 P A) 0 X := by
    unfold d_X4_share_r107d sL0
    by_cases z : A = 0
    · rw [if_pos z, if_pos z]; rfl
    · rw [if_neg z, if_neg z]; rfl
  obtain ⟨Y, y1, y2, y3, y4, y5⟩ := xs17 H eA n 0 41 (sL0 P A) X (by omega) (by have := H.2.1; omega) (by omega) hn h9 (fun j hj => absurd hj (by omega)) (by show sL0 P A = sL0 P A - 0; omega)
  have lb := lf_b H eA
  have n40 := H.2.1
  have bA := su_b H n (Nat.le_refl n)
  have rc := (rsC_p (rs := sR1 P A w) n).2
  have oc : rsO (Y.2.1 110) n ∧ rsC (Y.2.1 110) n = rsC (sR1 P A w) n := by
    refine ⟨fun h hh => by rw [(y2 h hh).2]; exact sR_o (n := n) (by omega) h hh, ?_⟩
    have k : ∀ m : Nat, m ≤ n → rsC (Y.2.1 110) m = rsC (sR1 P A w) m := by
      intro m
      induction m with
      | zero => intro _; rfl
      | succ m ih =>
        intro hm
        show rsC (Y.2.1 110) m + (if 0 ≤ Y.2.1 110 m then 1 else 0) = rsC (sR1 P A w) m + (if 0 ≤ sR1 P A w m then 1 else 0)
        rw [ih (by omega), (y2 m (by omega)).2]
    exact k n (Nat.le_refl n)
  have kt : (((sL0 P A - sSx (sS1 P A w) n).toNat : Nat) : Int) = sL0 P A - sSx (sS1 P A w) n := by omega
  obtain ⟨V, v1, v2, v3, v4, v5⟩ := xs116 (n := n) (sL0 P A - sSx (sS1 P A w) n).toNat 41 0 Y (by rw [y3 49 (by decide)]; exact hn) (by decide) (by omega) (by omega) oc.1 (by rw [oc.2]; omega) (fun h hh => by rw [(y2 h hh).1]; have := s1_2 H eA hh; omega)
  rw [kt] at v1
  have e2 : d_X4_share_r107d P A X = V := e.trans (y1.trans v1)
  rw [e2]
  refine ⟨fun j hj => ?_, fun c hc => (v3 c hc).trans (y3 c hc), fun c hc => (v4 c hc).trans (y4 c hc), v5.trans y5⟩
  have q := congrArg Prod.fst v2
  have q2 : V.1 108 = (sGv n (sL0 P A - sSx (sS1 P A w) n).toNat (Y.1 108, Y.2.1 110)).1 := q
  rw [q2]
  exact (sGv_c _ (Y.1 108, Y.2.1 110) (sS1 P A w, sR1 P A w) y2 oc.1 (by show _ ≤ rsC (Y.2.1 110) n; rw [oc.2]; omega) j hj).1
/-- the reference -/
theorem ms196 {P A : Int} {w : Nat → Int} {n : Nat} (H : sPw P w n) (eA : sSx w n = A) {l2 l3 l4 : Int} : ∀ (c h r : Nat) (l8 : Int) (M : jW), n - h = c → c < r → h ≤ n → M.1 126 (l2 + 2).toNat = P → (∀ j : Nat, j < n → w j = if M.1 167 j = 0 then 0 else M.1 162 (40 + j)) → (∀ j : Nat, j < n → M.1 167 j ≠ 0 → w j ≠ 0) → (∀ j : Nat, j < h → M.2.1 165 j = sS1 P A w j ∧ M.2.1 166 j = sR1 P A w j) → (∀ j : Nat, h ≤ j → j < n → M.2.1 165 j = 0 ∧ M.2.1 166 j = -1) → l8 = sL0 P A - sSx (sS1 P A w) h → ∃ Y : jW, d_X12_partLevy_r125d_196 r l2 l3 l4 (n : Int) A l8 (h : Int) M = d_X12_partLevy_r125d_293 1000001 l3 l4 (n : Int) (sL0 P A - sSx (sS1 P A w) n) Y ∧ (∀ j : Nat, j < n → Y.2.1 165 j = sS1 P A w j ∧ Y.2.1 166 j = sR1 P A w j) ∧ Y.1 = M.1 ∧ (∀ c : Nat, c ≠ 165 → c ≠ 166 → Y.2.1 c = M.2.1 c) ∧ Y.2.2 = M.2.2 := by
  have bA := su_b H n (Nat.le_refl n)
  intro c
  induction c with
  | zero =>
    intro h r l8 M e hr hh hP hw hz hp hs hl
    obtain ⟨r, rfl⟩ : ∃ q, r = q + 1 := ⟨r - 1, by omega⟩
    have eh : h = n := by omega
    rw [eh] at hl hp
    exact ⟨M, by rw [← hl, eh]; exact if_pos (by omega), hp, rfl, fun _ _ _ => rfl, rfl⟩
  | succ c ih =>
    intro h r l8 M e hr hh hP hw hz hp hs hl
    obtain ⟨r, rfl⟩ : ∃ q, r = q + 1 := ⟨r - 1, by omega⟩
    have hn' : (h : Int).toNat = h := by omega
    have h40 : (40 + (h : Int)).toNat = 40 + h := by omega
    have wh := hw h (by omega)
    by_cases z : M.1 167 h = 0
    · rw [if_pos z] at wh
      have e1 : sS1 P A w h = 0 := by
        unfold sS1
        by_cases y : A = 0
        · rw [if_pos y]
        · rw [if_neg y, wh, Int.mul_zero]; exact Int.zero_ediv A
      have e2 : sR1 P A w h = -1 := by
        unfold sR1
        by_cases y : A = 0
        · rw [if_pos y]
        · rw [if_neg y, if_pos wh]
      have s := hs h (Nat.le_refl h) (by omega)
      obtain ⟨Y, y1, y2⟩ := ih (h + 1) r l8 M (by omega) (by omega) (by omega) hP hw hz (fun j hj => by
        by_cases q : j = h
        · rw [q, e1, e2]; exact s
        · exact hp j (by omega)) (fun j h1 h2 => hs j (by omega) h2) (by rw [hl]; show _ = sL0 P A - (sSx (sS1 P A w) h + sS1 P A w h); rw [e1]; omega)
      rw [show ((h + 1 : Nat) : Int) = (h : Int) + 1 from by omega] at y1
      exact ⟨Y, (if_neg (by omega)).trans ((if_pos (by rw [hn']; exact z)).trans y1), y2⟩
    · rw [if_neg z] at wh
      have wz := hz h (by omega) z
      have wb := H.2.2 h (by omega)
      have wA : w h ≤ A := by rw [← eA]; exact sw_m H n (Nat.le_refl n) h (by omega)
      have e1 : sS1 P A w h = P * w h / A := if_neg (by omega)
      have e2 : sR1 P A w h = P * w h % A := (if_neg (by omega)).trans (if_neg wz)
      have k5 : (vuL (vuL M 165 h (P * w h / A)) 166 h (P * w h % A)).2.1 165 h = P * w h / A := (vl_n (by omega)).trans vl_e
      obtain ⟨Y, y1, y2, y3, y4, y5⟩ := ih (h + 1) r (l8 - P * w h / A) (vuL (vuL M 165 h (P * w h / A)) 166 h (P * w h % A)) (by omega) (by omega) (by omega) hP hw hz (fun j hj => by
        by_cases q : j = h
        · rw [q, e1, e2]; exact ⟨k5, vl_e⟩
        · exact ⟨(vl_n (by omega)).trans ((vl_n (by omega)).trans (hp j (by omega)).1), (vl_n (by omega)).trans ((vl_n (by omega)).trans (hp j (by omega)).2)⟩) (fun j h1 h2 => ⟨(vl_n (by omega)).trans ((vl_n (by omega)).trans (hs j (by omega) h2).1), (vl_n (by omega)).trans ((vl_n (by omega)).trans (hs j (by omega) h2).2)⟩) (by rw [hl]; show _ = sL0 P A - (sSx (sS1 P A w) h + sS1 P A w h); rw [e1]; omega)
      rw [show ((h + 1 : Nat) : Int) = (h : Int) + 1 from by omega] at y1
      refine ⟨Y, ?_, y2, y3, fun c h1 h2 => (y4 c h1 h2).trans (funext fun j => (vl_n (by omega)).trans (vl_n (by omega))), y5⟩
      rw [← y1]
      refine (if_neg (by omega)).trans ((if_neg (by rw [hn']; exact z)).trans ?_)
      unfold d_X12_partLevy_r125d_287
      rw [hn', h40, hP, ← wh, k5]
theorem msh {P A : Int} {w : Nat → Int} {n : Nat} (H : sPw P w n) (eA : sSx w n = A) {l2 l3 l4 : Int} {M : jW} (hP : M.1 126 (l2 + 2).toNat = P) (hw : ∀ j : Nat, j < n → w j = if M.1 167 j = 0 then 0 else M.1 162 (40 + j)) (hz : ∀ j : Nat, j < n → M.1 167 j ≠ 0 → w j ≠ 0) (hs : ∀ j : Nat, j < n → M.2.1 165 j = 0 ∧ M.2.1 166 j = -1) : ∃ V : jW, d_X12_partLevy_r125d_196 41 l2 l3 l4 (n : Int) A (sL0 P A) 0 M = d_X12_partLevy_r125d_396 41 l3 l4 (n : Int) 0 V ∧ (∀ j : Nat, j < n → V.2.1 165 j = sOw P A w n j) ∧ V.1 = M.1 ∧ (∀ c : Nat, c ≠ 165 → c ≠ 166 → V.2.1 c = M.2.1 c) ∧ V.2.2 = M.2.2 := by
  have n40 := H.2.1
  have bA := su_b H n (Nat.le_refl n)
  obtain ⟨Y, y1, y2, y3, y4, y5⟩ := ms196 H eA (l2 := l2) (l3 := l3) (l4 := l4) n 0 41 (sL0 P A) M (by omega) (by omega) (by omega) hP hw hz (fun j hj => absurd hj (by omega)) (fun j _ hj => hs j hj) (by show sL0 P A = sL0 P A - 0; omega)
  have lb := lf_b H eA
  have rc := (rsC_p (rs := sR1 P A w) n).2
  have oc : rsO (Y.2.1 166) n ∧ rsC (Y.2.1 166) n = rsC (sR1 P A w) n := by
    refine ⟨fun h hh => by rw [(y2 h hh).2]; exact sR_o (n := n) (by omega) h hh, ?_⟩
    have k : ∀ m : Nat, m ≤ n → rsC (Y.2.1 166) m = rsC (sR1 P A w) m := by
      intro m
      induction m with
      | zero => intro _; rfl
      | succ m ih =>
        intro hm
        show rsC (Y.2.1 166) m + (if 0 ≤ Y.2.1 166 m then 1 else 0) = rsC (sR1 P A w) m + (if 0 ≤ sR1 P A w m then 1 else 0)
        rw [ih (by omega), (y2 m (by omega)).2]
    exact k n (Nat.le_refl n)
  have kt : (((sL0 P A - sSx (sS1 P A w) n).toNat : Nat) : Int) = sL0 P A - sSx (sS1 P A w) n := by omega
  obtain ⟨V, v1, v2, v3, v4, v5⟩ := ms293 (n := n) (l3 := l3) (l4 := l4) n40 (sL0 P A - sSx (sS1 P A w) n).toNat 1000001 Y (by omega) oc.1 (by rw [oc.2]; omega) (fun h hh => by rw [(y2 h hh).1]; have := s1_2 H eA hh; omega)
  rw [kt] at v1
  refine ⟨V, y1.trans v1, fun j hj => ?_, v3.trans y3, fun c h1 h2 => (v4 c h1 h2).trans (y4 c h1 h2), v5.trans y5⟩
  have q2 : V.2.1 165 = (sGv n (sL0 P A - sSx (sS1 P A w) n).toNat (Y.2.1 165, Y.2.1 166)).1 := congrArg Prod.fst v2
  rw [q2]
  exact (sGv_c _ (Y.2.1 165, Y.2.1 166) (sS1 P A w, sR1 P A w) y2 oc.1 (by show _ ≤ rsC (Y.2.1 166) n; rw [oc.2]; omega) j hj).1
end jG72

section jG73
/-! pure: HOLDINGS worked out for a question leave those of a LEVY, a SEAT, a TURN as they are -/
def pGc (W V : jW) : Prop := V.1 126 = W.1 126 ∧ (W.1 126 7 ≤ 40 → ∀ i : Nat, 40 ≤ i → V.1 162 i = W.1 162 i ∧ V.1 163 i = W.1 163 i)
theorem pGc_r {W : jW} : pGc W W := ⟨rfl, fun _ _ _ => ⟨rfl, rfl⟩⟩
theorem pGc_t {W V U : jW} (h : pGc W V) (g : pGc V U) : pGc W U := ⟨g.1.trans h.1, fun b i hi => ⟨(g.2 (by rw [h.1]; exact b) i hi).1.trans (h.2 b i hi).1, (g.2 (by rw [h.1]; exact b) i hi).2.trans (h.2 b i hi).2⟩⟩
theorem pGc_i {W A B : jW} {c : Prop} [Decidable c] (h : pGc W A) (g : pGc W B) : pGc W (if c then A else B) := by
  by_cases e : c
  · rw [if_pos e]; exact h
  · rw [if_neg e]; exact g
theorem pGc_i2 {W : jW} {A B : Int × jW} {c : Prop} [Decidable c] (h : pGc W A.2) (g : pGc W B.2) : pGc W (if c then A else B).2 := by
  by_cases e : c
  · rw [if_pos e]; exact h
  · rw [if_neg e]; exact g
theorem pGc_u {W V : jW} {a k : Nat} {x : Int} (h : pGc W V) (e : a ≠ 126 ∧ a ≠ 162 ∧ a ≠ 163) : pGc W (vu V a k x) := ⟨(vu_c (by omega)).trans h.1, fun b i hi => ⟨(vu_n (by omega)).trans (h.2 b i hi).1, (vu_n (by omega)).trans (h.2 b i hi).2⟩⟩
theorem pGc_uL {W V : jW} {a k : Nat} {x : Int} (h : pGc W V) (e : a ≠ 1000000) : pGc W (vuL V a k x) := h
theorem pGc_uR {W V : jW} {a k : Nat} {x : Option Nat} (h : pGc W V) (e : a ≠ 1000000) : pGc W (vuR V a k x) := h
theorem gh_93 {K : Int → Int → Int → jW → jW} {l1 l3 l4 : Int} (h4 : 0 ≤ l4 ∧ l4 < 40) (hK : ∀ W : jW, pGc W (K l1 l3 (l4 + 1) W)) : ∀ (r : Nat) (l5 l6 : Int) (W : jW), pGc W (d_X12_findHouses_r125_c0d_93 K r l1 l3 l4 l5 l6 W) := by
  have w : ∀ (W : jW) (x : Int), pGc W (vu W 162 (0 + l4).toNat x) := fun W x => ⟨vu_c (by decide), fun _ i hi => ⟨vu_n (by omega), vu_n (by omega)⟩⟩
  have v : ∀ (W : jW) (x : Int), pGc W (vu W 163 (0 + l4).toNat x) := fun W x => ⟨vu_c (by decide), fun _ i hi => ⟨vu_n (by omega), vu_n (by omega)⟩⟩
  have k3 : ∀ (W : jW) (x y : Int), pGc W (d_X12_findHouses_r125_c0d_316 K l1 l3 l4 x (0 + l4) (vu W 162 (0 + l4).toNat y)) := fun W x y => pGc_t (w W y) (pGc_t (v _ x) (hK _))
  have k2 : ∀ (W : jW) (y : Int), pGc W (d_X12_findHouses_r125_c0d_293 K l1 l3 l4 (0 + l4) (vu W 162 (0 + l4).toNat y)) := fun W y => pGc_t (w W y) (pGc_t (v _ (-1)) (hK _))
  intro r
  induction r with
  | zero => exact fun _ _ _ => pGc_r
  | succ r ih =>
    intro l5 l6 W
    have i : ∀ (z u : Int) (V : jW), pGc V (d_X12_findHouses_r125_c0d_208 K (fun l1 l3 l4 l5 l6 W => d_X12_findHouses_r125_c0d_93 K r l1 l3 l4 l5 l6 W) l1 l3 l4 z u V) := fun z u V => ih z (u + 1) V
    unfold d_X12_findHouses_r125_c0d_93
    repeat' (first | apply pGc_i | exact k3 _ _ _ | exact k2 _ _ | exact i _ _ _ | exact pGc_t (pGc_u pGc_r (by decide)) (i _ _ _))
theorem gh_75 {l1 l3 : Int} (h3 : l3 ≤ 40) : ∀ (r : Nat) (l4 : Int) (W : jW), 0 ≤ l4 → pGc W (d_X12_findHouses_r125_c0d_75 r l1 l3 l4 W) := by
  intro r
  induction r with
  | zero => exact fun _ _ _ => pGc_r
  | succ r ih =>
    intro l4 W h0
    unfold d_X12_findHouses_r125_c0d_75
    by_cases c : l3 ≤ l4
    · rw [if_pos c]; exact pGc_r
    · rw [if_neg c]
      exact gh_93 ⟨h0, by omega⟩ (fun V => ih (l4 + 1) V (by omega)) 41 _ _ W
theorem gh_11 {l1 l3 : Int} (h3 : l3 ≤ 40) : ∀ (r : Nat) (l4 : Int) (W : jW), pGc W (d_X12_findHouses_r125_c0d_11 r l1 l3 l4 W) := by
  intro r
  induction r with
  | zero => exact fun _ _ => pGc_r
  | succ r ih =>
    intro l4 W
    have a : ∀ (x y : Int), pGc W (d_X12_findHouses_r125_c0d_65 (fun l1 l3 l4 W => d_X12_findHouses_r125_c0d_11 r l1 l3 l4 W) l1 l3 l4 x y W) := fun x y => pGc_t (pGc_u pGc_r (by decide)) (ih (l4 + 1) _)
    have b : ∀ y : Int, pGc W (d_X12_findHouses_r125_c0d_59 (fun l1 l3 l4 W => d_X12_findHouses_r125_c0d_11 r l1 l3 l4 W) l1 l3 l4 y W) := fun y => pGc_t (pGc_u pGc_r (by decide)) (ih (l4 + 1) _)
    unfold d_X12_findHouses_r125_c0d_11
    refine pGc_i (gh_75 h3 41 0 W (by decide)) (pGc_i (pGc_i (b _) (a _ _)) (b _))
theorem gr_d_X12_findHouses_r125_c0d (a1 : Int) (W : jW) : pGc W (d_X12_findHouses_r125_c0d a1 W) := by
  by_cases c : W.1 126 7 ≤ 40
  · exact gh_11 c 41 0 W
  · have F := fr_d_X12_findHouses_r125_c0d a1 W
    exact ⟨pF_c F rfl, fun h => absurd h c⟩
end jG73

section jG74
theorem gr_d_X12_addSpan_r125d_222 (W : jW) : pGc W (d_X12_addSpan_r125d_222 W) := pGc_r
theorem gr_d_X12_addSpan_r125d_195 (l2 : Int) (l3 : Int) (s0 : Int) (s1 : Int) (W : jW) : pGc W (d_X12_addSpan_r125d_195 l2 l3 s0 s1 W) := (pGc_i (pGc_i (pGc_i (pGc_t (pGc_u (pGc_u pGc_r (by decide)) (by decide)) (gr_d_X12_addSpan_r125d_222 _)) (pGc_t (pGc_u (pGc_u pGc_r (by decide)) (by decide)) (gr_d_X12_addSpan_r125d_222 _))) (pGc_t (pGc_u pGc_r (by decide)) (gr_d_X12_addSpan_r125d_222 _))) (pGc_i (pGc_i (pGc_t (pGc_u (pGc_u pGc_r (by decide)) (by decide)) (gr_d_X12_addSpan_r125d_222 _)) (pGc_t (pGc_u (pGc_u pGc_r (by decide)) (by decide)) (gr_d_X12_addSpan_r125d_222 _))) (pGc_t (pGc_u pGc_r (by decide)) (gr_d_X12_addSpan_r125d_222 _))))
theorem gr_d_X12_addSpan_r125d_170 (l2 : Int) (l3 : Int) (s0 : Int) (s1 : Int) (W : jW) : pGc W (d_X12_addSpan_r125d_170 l2 l3 s0 s1 W) := (pGc_i (pGc_i (pGc_t (pGc_u pGc_r (by decide)) (gr_d_X12_addSpan_r125d_195 _ _ _ _ _)) (pGc_t (pGc_u pGc_r (by decide)) (gr_d_X12_addSpan_r125d_195 _ _ _ _ _))) (pGc_i (pGc_t (pGc_u pGc_r (by decide)) (gr_d_X12_addSpan_r125d_195 _ _ _ _ _)) (pGc_t (pGc_u pGc_r (by decide)) (gr_d_X12_addSpan_r125d_195 _ _ _ _ _))))
theorem gr_d_X12_addSpan_r125d_161 (l2 : Int) (l3 : Int) (s0 : Int) (W : jW) : pGc W (d_X12_addSpan_r125d_161 l2 l3 s0 W) := (gr_d_X12_addSpan_r125d_170 _ _ _ _ _)
theorem gr_d_X12_addSpan_r125d_142 (l2 : Int) (l3 : Int) (W : jW) : pGc W (d_X12_addSpan_r125d_142 l2 l3 W) := (pGc_i (pGc_i (gr_d_X12_addSpan_r125d_170 _ _ _ _ _) (gr_d_X12_addSpan_r125d_161 _ _ _ _)) (gr_d_X12_addSpan_r125d_161 _ _ _ _))
theorem gr_d_X12_addSpan_r125d_40 (l1 : Int) (l2 : Int) (l3 : Int) (W : jW) : pGc W (d_X12_addSpan_r125d_40 l1 l2 l3 W) := (pGc_i (pGc_i (pGc_i (pGc_i (pGc_t (pGc_u (pGc_u pGc_r (by decide)) (by decide)) (gr_d_X12_addSpan_r125d_142 _ _ _)) (pGc_i (pGc_i (pGc_t (pGc_u (pGc_u (pGc_u (pGc_u pGc_r (by decide)) (by decide)) (by decide)) (by decide)) (gr_d_X12_addSpan_r125d_142 _ _ _)) (pGc_t (pGc_u (pGc_u (pGc_u (pGc_u pGc_r (by decide)) (by decide)) (by decide)) (by decide)) (gr_d_X12_addSpan_r125d_142 _ _ _))) (pGc_i (pGc_t (pGc_u (pGc_u (pGc_u (pGc_u pGc_r (by decide)) (by decide)) (by decide)) (by decide)) (gr_d_X12_addSpan_r125d_142 _ _ _)) (pGc_t (pGc_u (pGc_u (pGc_u (pGc_u pGc_r (by decide)) (by decide)) (by decide)) (by decide)) (gr_d_X12_addSpan_r125d_142 _ _ _))))) (pGc_i (pGc_t (pGc_u (pGc_u pGc_r (by decide)) (by decide)) (gr_d_X12_addSpan_r125d_142 _ _ _)) (pGc_i (pGc_i (pGc_t (pGc_u (pGc_u (pGc_u (pGc_u pGc_r (by decide)) (by decide)) (by decide)) (by decide)) (gr_d_X12_addSpan_r125d_142 _ _ _)) (pGc_t (pGc_u (pGc_u (pGc_u (pGc_u pGc_r (by decide)) (by decide)) (by decide)) (by decide)) (gr_d_X12_addSpan_r125d_142 _ _ _))) (pGc_i (pGc_t (pGc_u (pGc_u (pGc_u (pGc_u pGc_r (by decide)) (by decide)) (by decide)) (by decide)) (gr_d_X12_addSpan_r125d_142 _ _ _)) (pGc_t (pGc_u (pGc_u (pGc_u (pGc_u pGc_r (by decide)) (by decide)) (by decide)) (by decide)) (gr_d_X12_addSpan_r125d_142 _ _ _)))))) (pGc_i (pGc_i (pGc_t (pGc_u (pGc_u pGc_r (by decide)) (by decide)) (gr_d_X12_addSpan_r125d_142 _ _ _)) (pGc_i (pGc_i (pGc_t (pGc_u (pGc_u (pGc_u (pGc_u pGc_r (by decide)) (by decide)) (by decide)) (by decide)) (gr_d_X12_addSpan_r125d_142 _ _ _)) (pGc_t (pGc_u (pGc_u (pGc_u (pGc_u pGc_r (by decide)) (by decide)) (by decide)) (by decide)) (gr_d_X12_addSpan_r125d_142 _ _ _))) (pGc_i (pGc_t (pGc_u (pGc_u (pGc_u (pGc_u pGc_r (by decide)) (by decide)) (by decide)) (by decide)) (gr_d_X12_addSpan_r125d_142 _ _ _)) (pGc_t (pGc_u (pGc_u (pGc_u (pGc_u pGc_r (by decide)) (by decide)) (by decide)) (by decide)) (gr_d_X12_addSpan_r125d_142 _ _ _))))) (pGc_i (pGc_t (pGc_u (pGc_u pGc_r (by decide)) (by decide)) (gr_d_X12_addSpan_r125d_142 _ _ _)) (pGc_i (pGc_i (pGc_t (pGc_u (pGc_u (pGc_u (pGc_u pGc_r (by decide)) (by decide)) (by decide)) (by decide)) (gr_d_X12_addSpan_r125d_142 _ _ _)) (pGc_t (pGc_u (pGc_u (pGc_u (pGc_u pGc_r (by decide)) (by decide)) (by decide)) (by decide)) (gr_d_X12_addSpan_r125d_142 _ _ _))) (pGc_i (pGc_t (pGc_u (pGc_u (pGc_u (pGc_u pGc_r (by decide)) (by decide)) (by decide)) (by decide)) (gr_d_X12_addSpan_r125d_142 _ _ _)) (pGc_t (pGc_u (pGc_u (pGc_u (pGc_u pGc_r (by decide)) (by decide)) (by decide)) (by decide)) (gr_d_X12_addSpan_r125d_142 _ _ _))))))) (gr_d_X12_addSpan_r125d_142 _ _ _))
theorem gr_d_X12_addSpan_r125d (a1 : Int) (W : jW) : pGc W (d_X12_addSpan_r125d a1 W) := (pGc_i (pGc_i (pGc_i (pGc_t (pGc_u (pGc_u pGc_r (by decide)) (by decide)) (gr_d_X12_addSpan_r125d_40 _ _ _ _)) (pGc_t (pGc_u (pGc_u pGc_r (by decide)) (by decide)) (gr_d_X12_addSpan_r125d_40 _ _ _ _))) (pGc_i (pGc_t (pGc_u (pGc_u pGc_r (by decide)) (by decide)) (gr_d_X12_addSpan_r125d_40 _ _ _ _)) (pGc_t (pGc_u (pGc_u pGc_r (by decide)) (by decide)) (gr_d_X12_addSpan_r125d_40 _ _ _ _)))) (gr_d_X12_addSpan_r125d_40 _ _ _ _))
theorem gr_d_X12_findSpan_r125d_53 {K26 : Int → Int → jW → jW} (hK26 : ∀ (x0 : Int) (x1 : Int) (W : jW), pGc W (K26 x0 x1 W)) (l1 : Int) (l2 : Int) (W : jW) : pGc W (d_X12_findSpan_r125d_53 K26 l1 l2 W) := (hK26 _ _ _)
theorem gr_d_X12_findSpan_r125d_26 : ∀ (r : Nat) (l1 : Int) (l2 : Int) (W : jW), pGc W (d_X12_findSpan_r125d_26 r l1 l2 W) := by
  intro r
  induction r with
  | zero => exact fun _ _ _ => pGc_r
  | succ r ih => exact fun l1 l2 W => (pGc_i (pGc_i (pGc_i (pGc_i (pGc_u (pGc_u (pGc_u (pGc_u (pGc_u (pGc_u pGc_r (by decide)) (by decide)) (by decide)) (by decide)) (by decide)) (by decide)) (pGc_i (pGc_u (pGc_u (pGc_u (pGc_u (pGc_u (pGc_u pGc_r (by decide)) (by decide)) (by decide)) (by decide)) (by decide)) (by decide)) (pGc_u (pGc_u (pGc_u (pGc_u (pGc_u (pGc_u pGc_r (by decide)) (by decide)) (by decide)) (by decide)) (by decide)) (by decide)))) (pGc_i (pGc_i (pGc_u (pGc_u (pGc_u (pGc_u (pGc_u (pGc_u pGc_r (by decide)) (by decide)) (by decide)) (by decide)) (by decide)) (by decide)) (pGc_i (pGc_u (pGc_u (pGc_u (pGc_u (pGc_u (pGc_u pGc_r (by decide)) (by decide)) (by decide)) (by decide)) (by decide)) (by decide)) (pGc_u (pGc_u (pGc_u (pGc_u (pGc_u (pGc_u pGc_r (by decide)) (by decide)) (by decide)) (by decide)) (by decide)) (by decide)))) (pGc_i (pGc_u (pGc_u (pGc_u (pGc_u (pGc_u (pGc_u pGc_r (by decide)) (by decide)) (by decide)) (by decide)) (by decide)) (by decide)) (pGc_i (pGc_u (pGc_u (pGc_u (pGc_u (pGc_u (pGc_u pGc_r (by decide)) (by decide)) (by decide)) (by decide)) (by decide)) (by decide)) (pGc_u (pGc_u (pGc_u (pGc_u (pGc_u (pGc_u pGc_r (by decide)) (by decide)) (by decide)) (by decide)) (by decide)) (by decide)))))) (pGc_i (pGc_i (pGc_i (pGc_u (pGc_u (pGc_u (pGc_u (pGc_u (pGc_u pGc_r (by decide)) (by decide)) (by decide)) (by decide)) (by decide)) (by decide)) (pGc_u (pGc_u (pGc_u (pGc_u (pGc_u (pGc_u pGc_r (by decide)) (by decide)) (by decide)) (by decide)) (by decide)) (by decide))) (pGc_i (pGc_u (pGc_u (pGc_u (pGc_u (pGc_u (pGc_u pGc_r (by decide)) (by decide)) (by decide)) (by decide)) (by decide)) (by decide)) (pGc_u (pGc_u (pGc_u (pGc_u (pGc_u (pGc_u pGc_r (by decide)) (by decide)) (by decide)) (by decide)) (by decide)) (by decide)))) (pGc_i (pGc_i (pGc_i (pGc_u (pGc_u (pGc_u (pGc_u (pGc_u (pGc_u pGc_r (by decide)) (by decide)) (by decide)) (by decide)) (by decide)) (by decide)) (pGc_u (pGc_u (pGc_u (pGc_u (pGc_u (pGc_u pGc_r (by decide)) (by decide)) (by decide)) (by decide)) (by decide)) (by decide))) (pGc_i (pGc_u (pGc_u (pGc_u (pGc_u (pGc_u (pGc_u pGc_r (by decide)) (by decide)) (by decide)) (by decide)) (by decide)) (by decide)) (pGc_u (pGc_u (pGc_u (pGc_u (pGc_u (pGc_u pGc_r (by decide)) (by decide)) (by decide)) (by decide)) (by decide)) (by decide)))) (pGc_i (pGc_i (pGc_u (pGc_u (pGc_u (pGc_u (pGc_u (pGc_u pGc_r (by decide)) (by decide)) (by decide)) (by decide)) (by decide)) (by decide)) (pGc_u (pGc_u (pGc_u (pGc_u (pGc_u (pGc_u pGc_r (by decide)) (by decide)) (by decide)) (by decide)) (by decide)) (by decide))) (pGc_i (pGc_u (pGc_u (pGc_u (pGc_u (pGc_u (pGc_u pGc_r (by decide)) (by decide)) (by decide)) (by decide)) (by decide)) (by decide)) (pGc_u (pGc_u (pGc_u (pGc_u (pGc_u (pGc_u pGc_r (by decide)) (by decide)) (by decide)) (by decide)) (by decide)) (by decide))))))) (pGc_i (pGc_t (gr_d_X12_addSpan_r125d _ _) (gr_d_X12_findSpan_r125d_53 (fun l1 l2 W => (ih _ _ _)) _ _ _)) (gr_d_X12_findSpan_r125d_53 (fun l1 l2 W => (ih _ _ _)) _ _ _)))
theorem gr_d_X12_findSpan_r125d (a1 : Int) (W : jW) : pGc W (d_X12_findSpan_r125d a1 W) := (pGc_t (pGc_u (pGc_u (pGc_u (pGc_u pGc_r (by decide)) (by decide)) (by decide)) (by decide)) (gr_d_X12_findSpan_r125d_26 _ _ _ _))
theorem gr_d_X12_valueHeld_r125d_200046 {K11 : Int → Int → Int → jW → (Int × jW)} (hK11 : ∀ (x0 : Int) (x1 : Int) (x2 : Int) (W : jW), pGc W (K11 x0 x1 x2 W).2) (l1 : Int) (l4 : Int) (s1 : Int) (W : jW) : pGc W (d_X12_valueHeld_r125d_200046 K11 l1 l4 s1 W).2 := (hK11 _ _ _ _)
theorem gr_d_X12_valueHeld_r125d_46 {K11 : Int → Int → Int → jW → (Int × jW)} (hK11 : ∀ (x0 : Int) (x1 : Int) (x2 : Int) (W : jW), pGc W (K11 x0 x1 x2 W).2) (l1 : Int) (l4 : Int) (s0 : Int) (s1 : Int) (W : jW) : pGc W (d_X12_valueHeld_r125d_46 K11 l1 l4 s0 s1 W).2 := (hK11 _ _ _ _)
theorem gr_d_X12_valueHeld_r125d_11 : ∀ (r : Nat) (l1 : Int) (l3 : Int) (l4 : Int) (W : jW), pGc W (d_X12_valueHeld_r125d_11 r l1 l3 l4 W).2 := by
  intro r
  induction r with
  | zero => exact fun _ _ _ _ => pGc_r
  | succ r ih => exact fun l1 l3 l4 W => (pGc_i2 pGc_r (pGc_i2 (gr_d_X12_valueHeld_r125d_46 (fun l1 l3 l4 W => (ih _ _ _ _)) _ _ _ _ _) (gr_d_X12_valueHeld_r125d_200046 (fun l1 l3 l4 W => (ih _ _ _ _)) _ _ _ _)))
theorem gr_d_X12_valueHeld_r125d (a1 : Int) (a2 : Int) (W : jW) : pGc W (d_X12_valueHeld_r125d a1 a2 W).2 := (pGc_t (gr_d_X12_findHouses_r125_c0d _ _) (gr_d_X12_valueHeld_r125d_11 _ _ _ _ _))
theorem gr_d_X12_fact2_r125d_5000122 (s0 : Int) (W : jW) : pGc W (d_X12_fact2_r125d_5000122 s0 W).2 := pGc_r
theorem gr_d_X12_fact2_r125d_117 (W : jW) : pGc W (d_X12_fact2_r125d_117 W).2 := (gr_d_X12_fact2_r125d_5000122 _ _)
theorem gr_d_X12_fact2_r125d_5000138 (s0 : Int) (W : jW) : pGc W (d_X12_fact2_r125d_5000138 s0 W).2 := pGc_r
theorem gr_d_X12_fact2_r125d_5000153 (s0 : Int) (W : jW) : pGc W (d_X12_fact2_r125d_5000153 s0 W).2 := pGc_r
theorem gr_d_X12_fact2_r125d_5000168 (s0 : Int) (W : jW) : pGc W (d_X12_fact2_r125d_5000168 s0 W).2 := pGc_r
theorem gr_d_X12_fact2_r125d_5000184 (s0 : Int) (W : jW) : pGc W (d_X12_fact2_r125d_5000184 s0 W).2 := pGc_r
theorem gr_d_X12_fact2_r125d (a1 : Int) (a2 : Int) (a3 : Int) (W : jW) : pGc W (d_X12_fact2_r125d a1 a2 a3 W).2 := (pGc_i2 (pGc_i2 (gr_d_X12_findSpan_r125d _ _) (gr_d_X12_findSpan_r125d _ _)) (pGc_i2 pGc_r (pGc_i2 (gr_d_X12_valueHeld_r125d _ _ _) (pGc_i2 pGc_r (pGc_i2 pGc_r (pGc_i2 (pGc_i2 (pGc_i2 (gr_d_X12_fact2_r125d_5000122 _ _) (gr_d_X12_fact2_r125d_117 _)) (gr_d_X12_fact2_r125d_117 _)) (pGc_i2 (pGc_i2 (gr_d_X12_fact2_r125d_5000138 _ _) (gr_d_X12_fact2_r125d_5000138 _ _)) (pGc_i2 (pGc_i2 (gr_d_X12_fact2_r125d_5000153 _ _) (gr_d_X12_fact2_r125d_5000153 _ _)) (pGc_i2 (pGc_i2 (pGc_t (gr_d_X12_valueHeld_r125d _ _ _) (gr_d_X12_fact2_r125d_5000168 _ _)) (pGc_t (gr_d_X12_valueHeld_r125d _ _ _) (gr_d_X12_fact2_r125d_5000168 _ _))) (pGc_i2 (gr_d_X12_fact2_r125d_5000184 _ _) (gr_d_X12_fact2_r125d_5000184 _ _)))))))))))
theorem gr_d_X12_findForce_r125d_198 {K45 : Int → Int → jW → jW} (hK45 : ∀ (x0 : Int) (x1 : Int) (W : jW), pGc W (K45 x0 x1 W)) (l1 : Int) (l2 : Int) (W : jW) : pGc W (d_X12_findForce_r125d_198 K45 l1 l2 W) := (hK45 _ _ _)
theorem gr_d_X12_findForce_r125d_192 {K45 : Int → Int → jW → jW} (hK45 : ∀ (x0 : Int) (x1 : Int) (W : jW), pGc W (K45 x0 x1 W)) {K95 : Int → Int → Int → Int → jW → jW} (hK95 : ∀ (x0 : Int) (x1 : Int) (x2 : Int) (x3 : Int) (W : jW), pGc W (K95 x0 x1 x2 x3 W)) (l1 : Int) (l2 : Int) (l3 : Int) (l4 : Int) (W : jW) : pGc W (d_X12_findForce_r125d_192 K45 K95 l1 l2 l3 l4 W) := (hK95 _ _ _ _ _)
theorem gr_d_X12_findForce_r125d_95 {K45 : Int → Int → jW → jW} (hK45 : ∀ (x0 : Int) (x1 : Int) (W : jW), pGc W (K45 x0 x1 W)) : ∀ (r : Nat) (l1 : Int) (l2 : Int) (l3 : Int) (l4 : Int) (W : jW), pGc W (d_X12_findForce_r125d_95 K45 r l1 l2 l3 l4 W) := by
  intro r
  induction r with
  | zero => exact fun _ _ _ _ _ => pGc_r
  | succ r ih => exact fun l1 l2 l3 l4 W => (pGc_i (gr_d_X12_findForce_r125d_198 hK45 _ _ _) (pGc_i (gr_d_X12_findForce_r125d_198 hK45 _ _ _) (pGc_i (pGc_i (pGc_i (gr_d_X12_findForce_r125d_192 hK45 (fun l1 l2 l3 l4 W => (ih _ _ _ _ _)) _ _ _ _ _) (pGc_t (pGc_u pGc_r (by decide)) (gr_d_X12_findForce_r125d_192 hK45 (fun l1 l2 l3 l4 W => (ih _ _ _ _ _)) _ _ _ _ _))) (gr_d_X12_findForce_r125d_192 hK45 (fun l1 l2 l3 l4 W => (ih _ _ _ _ _)) _ _ _ _ _)) (gr_d_X12_findForce_r125d_192 hK45 (fun l1 l2 l3 l4 W => (ih _ _ _ _ _)) _ _ _ _ _))))
theorem gr_d_X12_findForce_r125d_300091 {K45 : Int → Int → jW → jW} (hK45 : ∀ (x0 : Int) (x1 : Int) (W : jW), pGc W (K45 x0 x1 W)) (l1 : Int) (l2 : Int) (l3 : Int) (s1 : Int) (W : jW) : pGc W (d_X12_findForce_r125d_300091 K45 l1 l2 l3 s1 W) := (pGc_t (pGc_u pGc_r (by decide)) (gr_d_X12_findForce_r125d_95 hK45 _ _ _ _ _ _))
theorem gr_d_X12_findForce_r125d_200091 {K45 : Int → Int → jW → jW} (hK45 : ∀ (x0 : Int) (x1 : Int) (W : jW), pGc W (K45 x0 x1 W)) (l1 : Int) (l2 : Int) (l3 : Int) (s1 : Int) (W : jW) : pGc W (d_X12_findForce_r125d_200091 K45 l1 l2 l3 s1 W) := (pGc_t (pGc_u pGc_r (by decide)) (gr_d_X12_findForce_r125d_95 hK45 _ _ _ _ _ _))
theorem gr_d_X12_findForce_r125d_90 {K45 : Int → Int → jW → jW} (hK45 : ∀ (x0 : Int) (x1 : Int) (W : jW), pGc W (K45 x0 x1 W)) (l1 : Int) (l2 : Int) (l3 : Int) (s0 : Int) (W : jW) : pGc W (d_X12_findForce_r125d_90 K45 l1 l2 l3 s0 W) := (gr_d_X12_findForce_r125d_200091 hK45 _ _ _ _ _)
theorem gr_d_X12_findForce_r125d_45 : ∀ (r : Nat) (l1 : Int) (l2 : Int) (W : jW), pGc W (d_X12_findForce_r125d_45 r l1 l2 W) := by
  intro r
  induction r with
  | zero => exact fun _ _ _ => pGc_r
  | succ r ih => exact fun l1 l2 W => (pGc_i pGc_r (pGc_i (gr_d_X12_findForce_r125d_90 (fun l1 l2 W => (ih _ _ _)) _ _ _ _ _) (pGc_i (gr_d_X12_findForce_r125d_90 (fun l1 l2 W => (ih _ _ _)) _ _ _ _ _) (gr_d_X12_findForce_r125d_300091 (fun l1 l2 W => (ih _ _ _)) _ _ _ _ _))))
theorem gr_d_X12_findForce_r125d_16 : ∀ (r : Nat) (l1 : Int) (l2 : Int) (W : jW), pGc W (d_X12_findForce_r125d_16 r l1 l2 W) := by
  intro r
  induction r with
  | zero => exact fun _ _ _ => pGc_r
  | succ r ih => exact fun l1 l2 W => (pGc_i (gr_d_X12_findForce_r125d_45 _ _ _ _) (pGc_t (pGc_u pGc_r (by decide)) (ih _ _ _)))
theorem gr_d_X12_findForce_r125d (a1 : Int) (W : jW) : pGc W (d_X12_findForce_r125d a1 W) := (pGc_i pGc_r (pGc_t (pGc_u pGc_r (by decide)) (gr_d_X12_findForce_r125d_16 _ _ _ _)))
theorem gr_d_X12_reckon_r125d_131 (s0 : Int) (W : jW) : pGc W (d_X12_reckon_r125d_131 s0 W).2 := pGc_r
theorem gr_d_X12_reckon_r125d_5000131 (W : jW) : pGc W (d_X12_reckon_r125d_5000131 W).2 := pGc_r
theorem gr_d_X12_reckon_r125d_127 (l2 : Int) (l4 : Int) (W : jW) : pGc W (d_X12_reckon_r125d_127 l2 l4 W).2 := (gr_d_X12_reckon_r125d_131 _ _)
theorem gr_d_X12_reckon_r125d_121 (W : jW) : pGc W (d_X12_reckon_r125d_121 W).2 := (gr_d_X12_reckon_r125d_5000131 _)
theorem gr_d_X12_reckon_r125d_116 (l2 : Int) (l4 : Int) (s0 : Int) (s2 : Int) (W : jW) : pGc W (d_X12_reckon_r125d_116 l2 l4 s0 s2 W).2 := (pGc_i2 (gr_d_X12_reckon_r125d_127 _ _ _) (gr_d_X12_reckon_r125d_121 _))
theorem gr_d_X12_reckon_r125d_93 (l2 : Int) (l4 : Int) (s0 : Int) (s2 : Int) (W : jW) : pGc W (d_X12_reckon_r125d_93 l2 l4 s0 s2 W).2 := (pGc_i2 (gr_d_X12_reckon_r125d_121 _) (pGc_i2 (gr_d_X12_reckon_r125d_116 _ _ _ _ _) (gr_d_X12_reckon_r125d_116 _ _ _ _ _)))
theorem gr_d_X12_reckon_r125d_5000149 (s0 : Int) (W : jW) : pGc W (d_X12_reckon_r125d_5000149 s0 W).2 := pGc_r
theorem gr_d_X12_reckon_r125d_5000162 (s0 : Int) (W : jW) : pGc W (d_X12_reckon_r125d_5000162 s0 W).2 := pGc_r
theorem gr_d_X12_reckon_r125d_5000175 (s0 : Int) (W : jW) : pGc W (d_X12_reckon_r125d_5000175 s0 W).2 := pGc_r
theorem gr_d_X12_reckon_r125d_20 (l1 : Int) (l2 : Int) (l4 : Int) (W : jW) : pGc W (d_X12_reckon_r125d_20 l1 l2 l4 W).2 := (pGc_i2 pGc_r (pGc_i2 pGc_r (pGc_i2 (pGc_i2 (gr_d_X12_reckon_r125d_127 _ _ _) (pGc_i2 (gr_d_X12_reckon_r125d_93 _ _ _ _ _) (gr_d_X12_reckon_r125d_93 _ _ _ _ _))) (pGc_i2 pGc_r (pGc_i2 (pGc_i2 (gr_d_X12_reckon_r125d_5000149 _ _) (gr_d_X12_reckon_r125d_5000149 _ _)) (pGc_i2 (pGc_i2 (gr_d_X12_reckon_r125d_5000162 _ _) (gr_d_X12_reckon_r125d_5000162 _ _)) (pGc_i2 (gr_d_X12_reckon_r125d_5000175 _ _) (gr_d_X12_reckon_r125d_5000175 _ _))))))))
theorem gr_d_X12_reckon_r125d (a1 : Int) (a2 : Int) (a3 : Int) (W : jW) : pGc W (d_X12_reckon_r125d a1 a2 a3 W).2 := (pGc_i2 (pGc_i2 (pGc_u pGc_r (by decide)) (gr_d_X12_reckon_r125d_20 _ _ _ _)) (gr_d_X12_reckon_r125d_20 _ _ _ _))
theorem gr_d_X12_run_r125d_5000320 (W : jW) : pGc W (d_X12_run_r125d_5000320 W) := (pGc_uL pGc_r (by decide))
theorem gr_d_X12_run_r125d_320 (s0 : Int) (W : jW) : pGc W (d_X12_run_r125d_320 s0 W) := (pGc_uL pGc_r (by decide))
theorem gr_d_X12_run_r125d_304 (l6 : Int) (W : jW) : pGc W (d_X12_run_r125d_304 l6 W) := (pGc_i (gr_d_X12_run_r125d_5000320 _) (gr_d_X12_run_r125d_320 _ _))
theorem gr_d_X12_run_r125d_301 {K11 : Int → Int → Int → Int → Int → Int → jW → jW} (hK11 : ∀ (x0 : Int) (x1 : Int) (x2 : Int) (x3 : Int) (x4 : Int) (x5 : Int) (W : jW), pGc W (K11 x0 x1 x2 x3 x4 x5 W)) (l1 : Int) (l3 : Int) (l4 : Int) (l5 : Int) (l6 : Int) (l7 : Int) (W : jW) : pGc W (d_X12_run_r125d_301 K11 l1 l3 l4 l5 l6 l7 W) := (hK11 _ _ _ _ _ _ _)
theorem gr_d_X12_run_r125d_5000287 {K11 : Int → Int → Int → Int → Int → Int → jW → jW} (hK11 : ∀ (x0 : Int) (x1 : Int) (x2 : Int) (x3 : Int) (x4 : Int) (x5 : Int) (W : jW), pGc W (K11 x0 x1 x2 x3 x4 x5 W)) (l1 : Int) (l3 : Int) (l4 : Int) (l5 : Int) (l6 : Int) (l7 : Int) (l9 : Int) (s0 : Int) (s1 : Int) (W : jW) : pGc W (d_X12_run_r125d_5000287 K11 l1 l3 l4 l5 l6 l7 l9 s0 s1 W) := (pGc_i (gr_d_X12_run_r125d_301 hK11 _ _ _ _ _ _ _) (gr_d_X12_run_r125d_301 hK11 _ _ _ _ _ _ _))
theorem gr_d_X12_run_r125d_200195 {K11 : Int → Int → Int → Int → Int → Int → jW → jW} (hK11 : ∀ (x0 : Int) (x1 : Int) (x2 : Int) (x3 : Int) (x4 : Int) (x5 : Int) (W : jW), pGc W (K11 x0 x1 x2 x3 x4 x5 W)) (l1 : Int) (l3 : Int) (l4 : Int) (l5 : Int) (l6 : Int) (l7 : Int) (W : jW) : pGc W (d_X12_run_r125d_200195 K11 l1 l3 l4 l5 l6 l7 W) := (pGc_t (pGc_u pGc_r (by decide)) (gr_d_X12_run_r125d_301 hK11 _ _ _ _ _ _ _))
theorem gr_d_X12_run_r125d_300195 {K11 : Int → Int → Int → Int → Int → Int → jW → jW} (hK11 : ∀ (x0 : Int) (x1 : Int) (x2 : Int) (x3 : Int) (x4 : Int) (x5 : Int) (W : jW), pGc W (K11 x0 x1 x2 x3 x4 x5 W)) (l1 : Int) (l3 : Int) (l4 : Int) (l5 : Int) (l6 : Int) (l7 : Int) (W : jW) : pGc W (d_X12_run_r125d_300195 K11 l1 l3 l4 l5 l6 l7 W) := (pGc_t (pGc_u pGc_r (by decide)) (gr_d_X12_run_r125d_301 hK11 _ _ _ _ _ _ _))
theorem gr_d_X12_run_r125d_190 {K11 : Int → Int → Int → Int → Int → Int → jW → jW} (hK11 : ∀ (x0 : Int) (x1 : Int) (x2 : Int) (x3 : Int) (x4 : Int) (x5 : Int) (W : jW), pGc W (K11 x0 x1 x2 x3 x4 x5 W)) (l1 : Int) (l3 : Int) (l4 : Int) (l5 : Int) (l6 : Int) (l7 : Int) (W : jW) : pGc W (d_X12_run_r125d_190 K11 l1 l3 l4 l5 l6 l7 W) := (gr_d_X12_run_r125d_300195 hK11 _ _ _ _ _ _ _)
theorem gr_d_X12_run_r125d_11 : ∀ (r : Nat) (l1 : Int) (l3 : Int) (l4 : Int) (l5 : Int) (l6 : Int) (l7 : Int) (W : jW), pGc W (d_X12_run_r125d_11 r l1 l3 l4 l5 l6 l7 W) := by
  intro r
  induction r with
  | zero => exact fun _ _ _ _ _ _ _ => pGc_r
  | succ r ih => exact fun l1 l3 l4 l5 l6 l7 W => (pGc_i (gr_d_X12_run_r125d_304 _ _) (pGc_i (pGc_i (pGc_t (pGc_uL pGc_r (by decide)) (gr_d_X12_run_r125d_301 (fun l1 l3 l4 l5 l6 l7 W => (ih _ _ _ _ _ _ _)) _ _ _ _ _ _ _)) (pGc_i (pGc_i (pGc_i (pGc_i (pGc_t (pGc_uL pGc_r (by decide)) (gr_d_X12_run_r125d_301 (fun l1 l3 l4 l5 l6 l7 W => (ih _ _ _ _ _ _ _)) _ _ _ _ _ _ _)) (pGc_i (gr_d_X12_run_r125d_5000287 (fun l1 l3 l4 l5 l6 l7 W => (ih _ _ _ _ _ _ _)) _ _ _ _ _ _ _ _ _ _) (gr_d_X12_run_r125d_5000287 (fun l1 l3 l4 l5 l6 l7 W => (ih _ _ _ _ _ _ _)) _ _ _ _ _ _ _ _ _ _))) (pGc_t (pGc_uL (gr_d_X12_fact2_r125d _ _ _ _) (by decide)) (gr_d_X12_run_r125d_301 (fun l1 l3 l4 l5 l6 l7 W => (ih _ _ _ _ _ _ _)) _ _ _ _ _ _ _))) (pGc_i (pGc_i (pGc_t (pGc_uL (gr_d_X12_reckon_r125d _ _ _ _) (by decide)) (gr_d_X12_run_r125d_200195 (fun l1 l3 l4 l5 l6 l7 W => (ih _ _ _ _ _ _ _)) _ _ _ _ _ _ _)) (pGc_t (pGc_uL (gr_d_X12_reckon_r125d _ _ _ _) (by decide)) (gr_d_X12_run_r125d_190 (fun l1 l3 l4 l5 l6 l7 W => (ih _ _ _ _ _ _ _)) _ _ _ _ _ _ _))) (pGc_t (pGc_uL (gr_d_X12_reckon_r125d _ _ _ _) (by decide)) (gr_d_X12_run_r125d_190 (fun l1 l3 l4 l5 l6 l7 W => (ih _ _ _ _ _ _ _)) _ _ _ _ _ _ _)))) (pGc_t (pGc_uL (gr_d_X12_fact2_r125d _ _ _ _) (by decide)) (gr_d_X12_run_r125d_301 (fun l1 l3 l4 l5 l6 l7 W => (ih _ _ _ _ _ _ _)) _ _ _ _ _ _ _)))) (gr_d_X12_run_r125d_304 _ _)))
theorem gr_d_X12_run_r125d (a1 : Int) (a2 : Int) (a3 : Int) (a4 : Int) (a5 : Int) (W : jW) : pGc W (d_X12_run_r125d a1 a2 a3 a4 a5 W) := (pGc_t (pGc_u pGc_r (by decide)) (gr_d_X12_run_r125d_11 _ _ _ _ _ _ _ _))
theorem gr_d_X12_holdsFor_r125d_29 (W : jW) : pGc W (d_X12_holdsFor_r125d_29 W).2 := pGc_r
theorem gr_d_X12_holdsFor_r125d_200241 (W : jW) : pGc W (d_X12_holdsFor_r125d_200241 W).2 := pGc_r
theorem gr_d_X12_holdsFor_r125d_300241 (W : jW) : pGc W (d_X12_holdsFor_r125d_300241 W).2 := pGc_r
theorem gr_d_X12_holdsFor_r125d_169 (a1 : Int) (l3 : Int) (l4 : Int) (l5 : Int) (W : jW) : pGc W (d_X12_holdsFor_r125d_169 a1 l3 l4 l5 W).2 := (pGc_i2 (pGc_uL pGc_r (by decide)) (pGc_i2 (pGc_t (pGc_uL (pGc_t (pGc_uL pGc_r (by decide)) (gr_d_X12_run_r125d _ _ _ _ _ _)) (by decide)) (gr_d_X12_holdsFor_r125d_300241 _)) (pGc_t (pGc_uL (pGc_t (pGc_uL pGc_r (by decide)) (gr_d_X12_run_r125d _ _ _ _ _ _)) (by decide)) (gr_d_X12_holdsFor_r125d_200241 _))))
theorem gr_d_X12_holdsFor_r125d_167 (W : jW) : pGc W (d_X12_holdsFor_r125d_167 W).2 := pGc_r
theorem gr_d_X12_holdsFor_r125d_100 (a1 : Int) (l3 : Int) (l4 : Int) (l5 : Int) (W : jW) : pGc W (d_X12_holdsFor_r125d_100 a1 l3 l4 l5 W).2 := (pGc_i2 (gr_d_X12_holdsFor_r125d_169 _ _ _ _ _) (pGc_i2 (pGc_i2 (pGc_t (gr_d_X12_run_r125d _ _ _ _ _ _) (gr_d_X12_holdsFor_r125d_169 _ _ _ _ _)) (pGc_t (gr_d_X12_run_r125d _ _ _ _ _ _) (gr_d_X12_holdsFor_r125d_167 _))) (pGc_t (gr_d_X12_run_r125d _ _ _ _ _ _) (gr_d_X12_holdsFor_r125d_167 _))))
theorem gr_d_X12_holdsFor_r125d_98 (W : jW) : pGc W (d_X12_holdsFor_r125d_98 W).2 := pGc_r
theorem gr_d_X12_holdsFor_r125d (a1 : Int) (a2 : Int) (a3 : Int) (a4 : Int) (W : jW) : pGc W (d_X12_holdsFor_r125d a1 a2 a3 a4 W).2 := (pGc_i2 (gr_d_X12_holdsFor_r125d_29 _) (pGc_i2 (pGc_t (gr_d_X12_findForce_r125d _ _) (gr_d_X12_holdsFor_r125d_29 _)) (pGc_i2 (pGc_i2 (pGc_t (gr_d_X12_findForce_r125d _ _) (gr_d_X12_holdsFor_r125d_100 _ _ _ _ _)) (pGc_i2 (pGc_i2 (pGc_t (pGc_t (gr_d_X12_findForce_r125d _ _) (gr_d_X12_run_r125d _ _ _ _ _ _)) (gr_d_X12_holdsFor_r125d_98 _)) (pGc_t (pGc_t (gr_d_X12_findForce_r125d _ _) (gr_d_X12_run_r125d _ _ _ _ _ _)) (gr_d_X12_holdsFor_r125d_100 _ _ _ _ _))) (pGc_t (pGc_t (gr_d_X12_findForce_r125d _ _) (gr_d_X12_run_r125d _ _ _ _ _ _)) (gr_d_X12_holdsFor_r125d_98 _)))) (pGc_t (gr_d_X12_findForce_r125d _ _) (gr_d_X12_holdsFor_r125d_29 _)))))
theorem gr_d_X12_findCount_r125d_200202 {K170 : Int → Int → jW → jW} (hK170 : ∀ (x0 : Int) (x1 : Int) (W : jW), pGc W (K170 x0 x1 W)) (l5 : Int) (l6 : Int) (s1 : Int) (W : jW) : pGc W (d_X12_findCount_r125d_200202 K170 l5 l6 s1 W) := (pGc_t (pGc_u pGc_r (by decide)) (hK170 _ _ _))
theorem gr_d_X12_findCount_r125d_300202 {K170 : Int → Int → jW → jW} (hK170 : ∀ (x0 : Int) (x1 : Int) (W : jW), pGc W (K170 x0 x1 W)) (l5 : Int) (l6 : Int) (s1 : Int) (W : jW) : pGc W (d_X12_findCount_r125d_300202 K170 l5 l6 s1 W) := (pGc_t (pGc_u pGc_r (by decide)) (hK170 _ _ _))
theorem gr_d_X12_findCount_r125d_170 : ∀ (r : Nat) (l5 : Int) (l6 : Int) (W : jW), pGc W (d_X12_findCount_r125d_170 r l5 l6 W) := by
  intro r
  induction r with
  | zero => exact fun _ _ _ => pGc_r
  | succ r ih => exact fun l5 l6 W => (pGc_i pGc_r (pGc_i (gr_d_X12_findCount_r125d_200202 (fun l5 l6 W => (ih _ _ _)) _ _ _ _) (gr_d_X12_findCount_r125d_300202 (fun l5 l6 W => (ih _ _ _)) _ _ _ _)))
theorem gr_d_X12_findCount_r125d_161 {K21 : Int → Int → Int → Int → Int → Int → jW → jW} (hK21 : ∀ (x0 : Int) (x1 : Int) (x2 : Int) (x3 : Int) (x4 : Int) (x5 : Int) (W : jW), pGc W (K21 x0 x1 x2 x3 x4 x5 W)) (l1 : Int) (l2 : Int) (l3 : Int) (l4 : Int) (l5 : Int) (l6 : Int) (W : jW) : pGc W (d_X12_findCount_r125d_161 K21 l1 l2 l3 l4 l5 l6 W) := (hK21 _ _ _ _ _ _ _)
theorem gr_d_X12_findCount_r125d_21 : ∀ (r : Nat) (l1 : Int) (l2 : Int) (l3 : Int) (l4 : Int) (l5 : Int) (l6 : Int) (W : jW), pGc W (d_X12_findCount_r125d_21 r l1 l2 l3 l4 l5 l6 W) := by
  intro r
  induction r with
  | zero => exact fun _ _ _ _ _ _ _ => pGc_r
  | succ r ih => exact fun l1 l2 l3 l4 l5 l6 W => (pGc_i (gr_d_X12_findCount_r125d_170 _ _ _ _) (pGc_i (pGc_i (pGc_i (pGc_i (pGc_i (pGc_i (pGc_t (gr_d_X12_holdsFor_r125d _ _ _ _ _) (gr_d_X12_findCount_r125d_161 (fun l1 l2 l3 l4 l5 l6 W => (ih _ _ _ _ _ _ _)) _ _ _ _ _ _ _)) (pGc_t (pGc_uL (pGc_uL (pGc_u (gr_d_X12_holdsFor_r125d _ _ _ _ _) (by decide)) (by decide)) (by decide)) (gr_d_X12_findCount_r125d_161 (fun l1 l2 l3 l4 l5 l6 W => (ih _ _ _ _ _ _ _)) _ _ _ _ _ _ _))) (gr_d_X12_findCount_r125d_161 (fun l1 l2 l3 l4 l5 l6 W => (ih _ _ _ _ _ _ _)) _ _ _ _ _ _ _)) (gr_d_X12_findCount_r125d_161 (fun l1 l2 l3 l4 l5 l6 W => (ih _ _ _ _ _ _ _)) _ _ _ _ _ _ _)) (gr_d_X12_findCount_r125d_161 (fun l1 l2 l3 l4 l5 l6 W => (ih _ _ _ _ _ _ _)) _ _ _ _ _ _ _)) (gr_d_X12_findCount_r125d_161 (fun l1 l2 l3 l4 l5 l6 W => (ih _ _ _ _ _ _ _)) _ _ _ _ _ _ _)) (gr_d_X12_findCount_r125d_161 (fun l1 l2 l3 l4 l5 l6 W => (ih _ _ _ _ _ _ _)) _ _ _ _ _ _ _)))
theorem gr_d_X12_findCount_r125d (a1 : Int) (a2 : Int) (a3 : Int) (a4 : Int) (W : jW) : pGc W (d_X12_findCount_r125d a1 a2 a3 a4 W) := (pGc_t (pGc_u (pGc_uL (pGc_u pGc_r (by decide)) (by decide)) (by decide)) (gr_d_X12_findCount_r125d_21 _ _ _ _ _ _ _ _))
theorem gr_d_X12_isExempt_r125d_83 {K3 : Int → Int → Int → Int → jW → (Int × jW)} (hK3 : ∀ (x0 : Int) (x1 : Int) (x2 : Int) (x3 : Int) (W : jW), pGc W (K3 x0 x1 x2 x3 W).2) {K17 : Int → Int → Int → Int → Int → jW → (Int × jW)} (hK17 : ∀ (x0 : Int) (x1 : Int) (x2 : Int) (x3 : Int) (x4 : Int) (W : jW), pGc W (K17 x0 x1 x2 x3 x4 W).2) (l1 : Int) (l2 : Int) (l3 : Int) (l4 : Int) (l5 : Int) (W : jW) : pGc W (d_X12_isExempt_r125d_83 K3 K17 l1 l2 l3 l4 l5 W).2 := (hK17 _ _ _ _ _ _)
theorem gr_d_X12_isExempt_r125d_17 {K3 : Int → Int → Int → Int → jW → (Int × jW)} (hK3 : ∀ (x0 : Int) (x1 : Int) (x2 : Int) (x3 : Int) (W : jW), pGc W (K3 x0 x1 x2 x3 W).2) : ∀ (r : Nat) (l1 : Int) (l2 : Int) (l3 : Int) (l4 : Int) (l5 : Int) (W : jW), pGc W (d_X12_isExempt_r125d_17 K3 r l1 l2 l3 l4 l5 W).2 := by
  intro r
  induction r with
  | zero => exact fun _ _ _ _ _ _ => pGc_r
  | succ r ih => exact fun l1 l2 l3 l4 l5 W => (pGc_i2 (hK3 _ _ _ _ _) (pGc_i2 (pGc_i2 (pGc_i2 (pGc_t (gr_d_X12_holdsFor_r125d _ _ _ _ _) (gr_d_X12_isExempt_r125d_83 hK3 (fun l1 l2 l3 l4 l5 W => (ih _ _ _ _ _ _)) _ _ _ _ _ _)) (gr_d_X12_holdsFor_r125d _ _ _ _ _)) (gr_d_X12_isExempt_r125d_83 hK3 (fun l1 l2 l3 l4 l5 W => (ih _ _ _ _ _ _)) _ _ _ _ _ _)) (gr_d_X12_isExempt_r125d_83 hK3 (fun l1 l2 l3 l4 l5 W => (ih _ _ _ _ _ _)) _ _ _ _ _ _)))
theorem gr_d_X12_isExempt_r125d_3 : ∀ (r : Nat) (l1 : Int) (l2 : Int) (l3 : Int) (l4 : Int) (W : jW), pGc W (d_X12_isExempt_r125d_3 r l1 l2 l3 l4 W).2 := by
  intro r
  induction r with
  | zero => exact fun _ _ _ _ _ => pGc_r
  | succ r ih => exact fun l1 l2 l3 l4 W => (pGc_i2 pGc_r (gr_d_X12_isExempt_r125d_17 (fun l1 l2 l3 l4 W => (ih _ _ _ _ _)) _ _ _ _ _ _ _))
theorem gr_d_X12_isExempt_r125d (a1 : Int) (a2 : Int) (a3 : Int) (W : jW) : pGc W (d_X12_isExempt_r125d a1 a2 a3 W).2 := (gr_d_X12_isExempt_r125d_3 _ _ _ _ _ _)
theorem gr_d_X12_askOn_r125d_187 (W : jW) : pGc W (d_X12_askOn_r125d_187 W) := pGc_r
theorem gr_d_X12_askOn_r125d_80 (W : jW) : pGc W (d_X12_askOn_r125d_80 W) := pGc_r
theorem gr_d_X12_askOn_r125d_53 (l2 : Int) (s0 : Int) (W : jW) : pGc W (d_X12_askOn_r125d_53 l2 s0 W) := (pGc_i (gr_d_X12_askOn_r125d_80 _) (pGc_t (pGc_u (pGc_u (pGc_u (pGc_u (pGc_u (pGc_u (pGc_u pGc_r (by decide)) (by decide)) (by decide)) (by decide)) (by decide)) (by decide)) (by decide)) (gr_d_X12_askOn_r125d_80 _)))
theorem gr_d_X12_askOn_r125d_100053 (l2 : Int) (W : jW) : pGc W (d_X12_askOn_r125d_100053 l2 W) := (gr_d_X12_askOn_r125d_80 _)
theorem gr_d_X12_askOn_r125d (a1 : Int) (W : jW) : pGc W (d_X12_askOn_r125d a1 W) := (pGc_i pGc_r (pGc_i (pGc_i (gr_d_X12_askOn_r125d_100053 _ _) (gr_d_X12_askOn_r125d_53 _ _ _)) (pGc_i pGc_r (pGc_i (pGc_i (pGc_t (pGc_u pGc_r (by decide)) (gr_d_X12_askOn_r125d_187 _)) (pGc_t (pGc_u (pGc_u (pGc_u (pGc_u (pGc_u (pGc_u (pGc_u (pGc_u pGc_r (by decide)) (by decide)) (by decide)) (by decide)) (by decide)) (by decide)) (by decide)) (by decide)) (gr_d_X12_askOn_r125d_187 _))) (pGc_t (pGc_u (pGc_u (pGc_u (pGc_u (pGc_u (pGc_u (pGc_u (pGc_u pGc_r (by decide)) (by decide)) (by decide)) (by decide)) (by decide)) (by decide)) (by decide)) (by decide)) (gr_d_X12_askOn_r125d_187 _))))))
theorem gr_d_X12_nextGround_r125d_188 {K5 : Int → jW → (Int × jW)} (hK5 : ∀ (x0 : Int) (W : jW), pGc W (K5 x0 W).2) (l1 : Int) (W : jW) : pGc W (d_X12_nextGround_r125d_188 K5 l1 W).2 := (hK5 _ _)
theorem gr_d_X12_nextGround_r125d_185 (l5 : Int) (W : jW) : pGc W (d_X12_nextGround_r125d_185 l5 W).2 := pGc_r
theorem gr_d_X12_nextGround_r125d_5 : ∀ (r : Nat) (l1 : Int) (W : jW), pGc W (d_X12_nextGround_r125d_5 r l1 W).2 := by
  intro r
  induction r with
  | zero => exact fun _ _ => pGc_r
  | succ r ih => exact fun l1 W => (pGc_i2 pGc_r (pGc_i2 (pGc_i2 (pGc_i2 (pGc_i2 (pGc_i2 (pGc_t (pGc_t (pGc_u pGc_r (by decide)) (gr_d_X12_holdsFor_r125d _ _ _ _ _)) (gr_d_X12_nextGround_r125d_188 (fun l1 W => (ih _ _)) _ _)) (pGc_i2 (pGc_i2 (pGc_t (pGc_u (pGc_u (pGc_u (pGc_t (pGc_u pGc_r (by decide)) (gr_d_X12_holdsFor_r125d _ _ _ _ _)) (by decide)) (by decide)) (by decide)) (gr_d_X12_nextGround_r125d_185 _ _)) (pGc_t (pGc_u (pGc_t (pGc_u pGc_r (by decide)) (gr_d_X12_holdsFor_r125d _ _ _ _ _)) (by decide)) (gr_d_X12_nextGround_r125d_185 _ _))) (pGc_t (pGc_t (pGc_u pGc_r (by decide)) (gr_d_X12_holdsFor_r125d _ _ _ _ _)) (gr_d_X12_nextGround_r125d_188 (fun l1 W => (ih _ _)) _ _)))) (pGc_t (pGc_u pGc_r (by decide)) (gr_d_X12_nextGround_r125d_188 (fun l1 W => (ih _ _)) _ _))) (pGc_t (pGc_u pGc_r (by decide)) (gr_d_X12_nextGround_r125d_188 (fun l1 W => (ih _ _)) _ _))) (pGc_t (pGc_u pGc_r (by decide)) (gr_d_X12_nextGround_r125d_188 (fun l1 W => (ih _ _)) _ _))) (pGc_t (pGc_u pGc_r (by decide)) (gr_d_X12_nextGround_r125d_188 (fun l1 W => (ih _ _)) _ _))))
theorem gr_d_X12_nextGround_r125d (W : jW) : pGc W (d_X12_nextGround_r125d W).2 := (gr_d_X12_nextGround_r125d_5 _ _ _)
theorem gr_d_X12_belongs_r125d_186 {K26 : Int → Int → jW → (Int × jW)} (hK26 : ∀ (x0 : Int) (x1 : Int) (W : jW), pGc W (K26 x0 x1 W).2) (l3 : Int) (l4 : Int) (W : jW) : pGc W (d_X12_belongs_r125d_186 K26 l3 l4 W).2 := (hK26 _ _ _)
theorem gr_d_X12_belongs_r125d_126 {K26 : Int → Int → jW → (Int × jW)} (hK26 : ∀ (x0 : Int) (x1 : Int) (W : jW), pGc W (K26 x0 x1 W).2) (l3 : Int) (l4 : Int) (l5 : Int) (s0 : Int) (W : jW) : pGc W (d_X12_belongs_r125d_126 K26 l3 l4 l5 s0 W).2 := (pGc_i2 (pGc_t (pGc_u pGc_r (by decide)) (gr_d_X12_belongs_r125d_186 hK26 _ _ _)) (pGc_i2 (pGc_t (gr_d_X12_askOn_r125d _ _) (gr_d_X12_belongs_r125d_186 hK26 _ _ _)) (gr_d_X12_belongs_r125d_186 hK26 _ _ _)))
theorem gr_d_X12_belongs_r125d_100126 {K26 : Int → Int → jW → (Int × jW)} (hK26 : ∀ (x0 : Int) (x1 : Int) (W : jW), pGc W (K26 x0 x1 W).2) (l3 : Int) (l4 : Int) (l5 : Int) (W : jW) : pGc W (d_X12_belongs_r125d_100126 K26 l3 l4 l5 W).2 := (pGc_t (pGc_u pGc_r (by decide)) (gr_d_X12_belongs_r125d_186 hK26 _ _ _))
theorem gr_d_X12_belongs_r125d_113 {K26 : Int → Int → jW → (Int × jW)} (hK26 : ∀ (x0 : Int) (x1 : Int) (W : jW), pGc W (K26 x0 x1 W).2) (l3 : Int) (l4 : Int) (l5 : Int) (W : jW) : pGc W (d_X12_belongs_r125d_113 K26 l3 l4 l5 W).2 := (pGc_i2 (pGc_t (gr_d_X12_nextGround_r125d _) (gr_d_X12_belongs_r125d_126 hK26 _ _ _ _ _)) (gr_d_X12_belongs_r125d_100126 hK26 _ _ _ _))
theorem gr_d_X12_belongs_r125d_105 {K26 : Int → Int → jW → (Int × jW)} (hK26 : ∀ (x0 : Int) (x1 : Int) (W : jW), pGc W (K26 x0 x1 W).2) (l3 : Int) (l5 : Int) (W : jW) : pGc W (d_X12_belongs_r125d_105 K26 l3 l5 W).2 := (pGc_t (pGc_u pGc_r (by decide)) (gr_d_X12_belongs_r125d_113 hK26 _ _ _ _))
theorem gr_d_X12_belongs_r125d_26 : ∀ (r : Nat) (l3 : Int) (l4 : Int) (W : jW), pGc W (d_X12_belongs_r125d_26 r l3 l4 W).2 := by
  intro r
  induction r with
  | zero => exact fun _ _ _ => pGc_r
  | succ r ih => exact fun l3 l4 W => (pGc_i2 pGc_r (pGc_i2 (gr_d_X12_belongs_r125d_113 (fun l3 l4 W => (ih _ _ _)) _ _ _ _) (pGc_i2 (pGc_i2 (pGc_i2 (gr_d_X12_belongs_r125d_105 (fun l3 l4 W => (ih _ _ _)) _ _ _) (pGc_t (pGc_u (pGc_u (pGc_u (pGc_u (pGc_u (pGc_u (pGc_u pGc_r (by decide)) (by decide)) (by decide)) (by decide)) (by decide)) (by decide)) (by decide)) (ih _ _ _))) (gr_d_X12_belongs_r125d_105 (fun l3 l4 W => (ih _ _ _)) _ _ _)) (gr_d_X12_belongs_r125d_105 (fun l3 l4 W => (ih _ _ _)) _ _ _))))
theorem gr_d_X12_belongs_r125d (a1 : Int) (a2 : Int) (W : jW) : pGc W (d_X12_belongs_r125d a1 a2 W).2 := (pGc_t (pGc_u (pGc_u (pGc_u (pGc_u (pGc_u (pGc_u (pGc_u (pGc_u (pGc_u pGc_r (by decide)) (by decide)) (by decide)) (by decide)) (by decide)) (by decide)) (by decide)) (by decide)) (by decide)) (gr_d_X12_belongs_r125d_26 _ _ _ _))
end jG74

section jG75
/-! pure: CLAUSES weighed while other things of LEVIES, SEATS, TURNS change -/
def pV (X : jW) (E : pE) (g : Nat → Int) (d kn : Int) : Prop := pXq X E g d kn ∧ pTc X E.1 ∧ pXl X E.1 d kn
theorem pV_c {X Y : jW} {E : pE} {g : Nat → Int} {d kn : Int} (e : ∀ c : Nat, c < 107 ∨ 122 < c → Y.1 c = X.1 c) (e2 : Y.2.2 = X.2.2) (h : pV X E g d kn) : pV Y E g d kn := by
  obtain ⟨⟨⟨s1, s2, s3, s4, s5, s6, s7, s8⟩, ⟨h1, h2⟩, d1, d2, t5⟩, ⟨c1, c2⟩, l⟩ := h
  refine ⟨⟨⟨s1, s2, by rw [e 33 (by omega)]; exact s3, by rw [e 78 (by omega)]; exact s4, fun m hm => by rw [e 82 (by omega)]; exact s5 m hm, fun m hm => by rw [e 83 (by omega)]; exact s6 m hm, fun m hm => by unfold pSl; rw [e 79 (by omega), e 80 (by omega), e 81 (by omega)]; exact s7 m hm, s8⟩, ⟨by rw [e 49 (by omega)]; exact h1, fun q hq => by rw [e 102 (by omega), e 103 (by omega)]; exact h2 q hq⟩, by rw [e 98 (by omega)]; exact d1, by rw [e 98 (by omega)]; exact d2, ?_⟩, ⟨by rw [e 32 (by omega)]; exact c1, fun t a b => ?_⟩, fun t c ht hc => by rw [e 99 (by omega)]; exact l t c ht hc⟩
  · unfold pT
    rw [e (32 + 1 + 2 * pt_5.1) (by decide), e (32 + 2 + 2 * pt_5.1) (by decide)]
    exact t5
  · obtain ⟨T, hd, q1, ⟨r1, r2, r3, r4, r5, r6, r7, r8⟩, ⟨cd, u1, u2, u3⟩⟩ := c2 t a b
    refine ⟨T, hd, by rw [e2]; exact q1, ⟨r1, r2, by rw [e T (by omega)]; exact r3, by rw [e T (by omega)]; exact r4, by rw [e T (by omega)]; exact r5, by rw [e T (by omega)]; exact r6, by rw [e2]; exact r7, fun c ca cb => by rw [e hd (by omega)]; exact r8 c ca cb⟩, ⟨cd, u1, by rw [e2]; exact u2, fun c ca cb cc => by rw [e hd (by omega), e cd (by omega), e2]; exact u3 c ca cb cc⟩⟩
theorem fwx_r {c k : Nat} (h : 107 ≤ c) : pc fw_X0_weigh_r98d c k = false := by
  cases e : pc fw_X0_weigh_r98d c k with
  | false => rfl
  | true =>
    exfalso
    unfold pc at e
    rw [List.any_eq_true] at e
    obtain ⟨q, q1, q2⟩ := e
    rw [Bool.and_eq_true] at q2
    have z := Nat.eq_of_beq_eq_true q2.1
    have a : (fw_X0_weigh_r98d.all fun q => Nat.ble q.1 106) = true := rfl
    rw [List.all_eq_true] at a
    have b := Nat.le_of_ble_eq_true (a q q1)
    omega
/-- W is as X, but for what weighing changes and for what is worked out of LEVIES, SEATS, TURNS -/
def pZ (X W : jW) : Prop := (∀ c k : Nat, c < 107 ∨ 122 < c → pc fw_X0_weigh_r98d c k = false → W.1 c k = X.1 c k) ∧ (∀ c k : Nat, c < 107 ∨ 122 < c → pc fw_X0_weigh_r98d c k = false → W.2.1 c k = X.2.1 c k) ∧ (∀ c k : Nat, pc fw_X0_weigh_r98d c k = false → W.2.2.1 c k = X.2.2.1 c k) ∧ W.2.2.2 = X.2.2.2
theorem pZ_r {X : jW} : pZ X X := ⟨fun _ _ _ _ => rfl, fun _ _ _ _ => rfl, fun _ _ _ => rfl, rfl⟩
theorem pZ_u {X W : jW} {a k : Nat} {x : Int} (h : pZ X W) (ha : 107 ≤ a ∧ a ≤ 122) : pZ X (vu W a k x) := ⟨fun c j h1 h2 => (vu_n (by omega)).trans (h.1 c j h1 h2), h.2.1, h.2.2⟩
theorem pZ_l {X W : jW} {a k : Nat} {x : Int} (h : pZ X W) (ha : 107 ≤ a ∧ a ≤ 122) : pZ X (vuL W a k x) := ⟨h.1, fun c j h1 h2 => (vl_n (by omega)).trans (h.2.1 c j h1 h2), h.2.2⟩
theorem pZ_c {X W : jW} (h : pZ X W) {c : Nat} (h1 : c < 107 ∨ 122 < c) (h2 : (fw_X0_weigh_r98d.any fun q => Nat.beq q.1 c) = false) : W.1 c = X.1 c := by
  funext k
  refine h.1 c k h1 ?_
  cases e : pc fw_X0_weigh_r98d c k with
  | false => rfl
  | true =>
    exfalso
    unfold pc at e
    rw [List.any_eq_true] at e
    obtain ⟨q, q1, q2⟩ := e
    rw [Bool.and_eq_true] at q2
    have z : (fw_X0_weigh_r98d.any fun q => Nat.beq q.1 c) = true := by
      rw [List.any_eq_true]
      exact ⟨q, q1, q2.1⟩
    rw [z] at h2
    exact absurd h2 (by decide)
def bsX (X W : jW) : jW := (fun c k => if 107 ≤ c ∧ c ≤ 122 then W.1 c k else X.1 c k, fun c k => if 107 ≤ c ∧ c ≤ 122 then W.2.1 c k else X.2.1 c k, X.2.2)
theorem bs_v {X W : jW} {E : pE} {g : Nat → Int} {d kn : Int} (h : pV X E g d kn) : pV (bsX X W) E g d kn := pV_c (fun c hc => funext fun k => if_neg (by omega)) rfl h
theorem bs_f {X W : jW} (h : pZ X W) : pF fw_X0_weigh_r98d (bsX X W) W := by
  refine ⟨fun c k e => ?_, fun c k e => ?_, fun c k e => ?_, ?_⟩
  · show W.1 c k = if 107 ≤ c ∧ c ≤ 122 then W.1 c k else X.1 c k
    by_cases z : 107 ≤ c ∧ c ≤ 122
    · rw [if_pos z]
    · rw [if_neg z]; exact h.1 c k (by omega) e
  · show W.2.1 c k = if 107 ≤ c ∧ c ≤ 122 then W.2.1 c k else X.2.1 c k
    by_cases z : 107 ≤ c ∧ c ≤ 122
    · rw [if_pos z]
    · rw [if_neg z]; exact h.2.1 c k (by omega) e
  · exact h.2.2.1 c k e
  · exact h.2.2.2
theorem f_bs {X W V : jW} (h : pF fw_X0_weigh_r98d (bsX X W) V) : pZ X V ∧ ∀ c : Nat, 107 ≤ c → c ≤ 122 → V.1 c = W.1 c ∧ V.2.1 c = W.2.1 c := by
  obtain ⟨h1, h2, h3, h4⟩ := h
  refine ⟨⟨fun c k a b => (h1 c k b).trans (if_neg (by omega)), fun c k a b => (h2 c k b).trans (if_neg (by omega)), h3, h4⟩, fun c a b => ⟨funext fun k => (h1 c k (fwx_r a)).trans (if_pos ⟨a, b⟩), funext fun k => (h2 c k (fwx_r a)).trans (if_pos ⟨a, b⟩)⟩⟩
/-- one CLAUSE weighed -/
theorem xwz {X : jW} {E : pE} {g : Nat → Int} {d kn ki wh : Int} {p : Nat} (Q : pV X E g d kn) (I : pIq E g) (hd : 0 ≤ d ∧ d ≤ 146399) (hp : p < sNl E) (ep : g p = (p : Int)) (Ik : pIk E.1) (Il : pIl E.1) (O : qOk fun w => sQu E g d kn w (p : Int)) (hki : 0 ≤ ki ∧ ki ≤ 7) {W : jW} (h : pZ X W) : ∃ V : jW, d_X0_weigh_r98d ki wh (p : Int) W = (if V.1 98 13 = -1 then 0 else 1, V) ∧ pZ X V ∧ (∀ c : Nat, 107 ≤ c → c ≤ 122 → V.1 c = W.1 c ∧ V.2.1 c = W.2.1 c) ∧ V.1 98 13 = cBy (sCk E.1 d kn (ki + 1) wh fun w => sQu E g d kn w (p : Int)) 720 ∧ V.2.1 98 14 = cSu (sCk E.1 d kn (ki + 1) wh fun w => sQu E g d kn w (p : Int)) (sSq E.1 fun w => sQu E g d kn w (p : Int)) 720 := by
  have B := bs_v (W := W) Q
  obtain ⟨V, v1, v2, v3, v4, _⟩ := xwe B.1 I hd hp ep B.2.1 Ik Il B.2.2 O hki (wh := wh) (bs_f h)
  obtain ⟨a, b⟩ := f_bs v2
  exact ⟨V, v1, a, b, v3, v4⟩
/-! the reference -/
theorem fwm_r {c k : Nat} (h : 165 ≤ c) : pc fw_X12_findCount_r125d c k = false := by
  cases e : pc fw_X12_findCount_r125d c k with
  | false => rfl
  | true =>
    exfalso
    unfold pc at e
    rw [List.any_eq_true] at e
    obtain ⟨q, q1, q2⟩ := e
    rw [Bool.and_eq_true] at q2
    have z := Nat.eq_of_beq_eq_true q2.1
    have a : (fw_X12_findCount_r125d.all fun q => Nat.ble q.1 164) = true := rfl
    rw [List.all_eq_true] at a
    have b := Nat.le_of_ble_eq_true (a q q1)
    omega
def pZm (M W : jW) : Prop := (∀ c k : Nat, c < 165 → pc fw_X12_findCount_r125d c k = false → W.1 c k = M.1 c k) ∧ (∀ c k : Nat, c < 165 → pc fw_X12_findCount_r125d c k = false → W.2.1 c k = M.2.1 c k) ∧ (∀ c k : Nat, pc fw_X12_findCount_r125d c k = false → W.2.2.1 c k = M.2.2.1 c k) ∧ W.2.2.2 = M.2.2.2 ∧ ∀ i : Nat, 40 ≤ i → W.1 162 i = M.1 162 i ∧ W.1 163 i = M.1 163 i
theorem pZm_r {M : jW} : pZm M M := ⟨fun _ _ _ _ => rfl, fun _ _ _ _ => rfl, fun _ _ _ => rfl, rfl, fun _ _ => ⟨rfl, rfl⟩⟩
theorem pZm_u {M W : jW} {a k : Nat} {x : Int} (h : pZm M W) (ha : 165 ≤ a) : pZm M (vu W a k x) := ⟨fun c j h1 h2 => (vu_n (by omega)).trans (h.1 c j h1 h2), h.2.1, h.2.2.1, h.2.2.2.1, fun i hi => ⟨(vu_n (by omega)).trans (h.2.2.2.2 i hi).1, (vu_n (by omega)).trans (h.2.2.2.2 i hi).2⟩⟩
theorem pZm_l {M W : jW} {a k : Nat} {x : Int} (h : pZm M W) (ha : 165 ≤ a) : pZm M (vuL W a k x) := ⟨h.1, fun c j h1 h2 => (vl_n (by omega)).trans (h.2.1 c j h1 h2), h.2.2.1, h.2.2.2.1, h.2.2.2.2⟩
def bsM (M W : jW) : jW := (fun c k => if 165 ≤ c then W.1 c k else M.1 c k, fun c k => if 165 ≤ c then W.2.1 c k else M.2.1 c k, M.2.2)
theorem bm_c {M W : jW} {c : Nat} (h : c < 165) : (bsM M W).1 c = M.1 c := funext fun k => if_neg (by omega)
theorem bmQ {M W : jW} {E : pE} {g : Nat → Int} (h : pMs M E g) : pMs (bsM M W) E g := by
  obtain ⟨h1, h2⟩ := h
  unfold pMs eOf at *
  rw [bm_c (by decide), bm_c (by decide), bm_c (by decide), bm_c (by decide), bm_c (by decide), bm_c (by decide)]
  exact ⟨h1, h2⟩
theorem bm_f {M W : jW} (h : pZm M W) : pF fw_X12_findCount_r125d (bsM M W) W := by
  refine ⟨fun c k e => ?_, fun c k e => ?_, fun c k e => h.2.2.1 c k e, h.2.2.2.1⟩
  · show W.1 c k = if 165 ≤ c then W.1 c k else M.1 c k
    by_cases z : 165 ≤ c
    · rw [if_pos z]
    · rw [if_neg z]; exact h.1 c k (by omega) e
  · show W.2.1 c k = if 165 ≤ c then W.2.1 c k else M.2.1 c k
    by_cases z : 165 ≤ c
    · rw [if_pos z]
    · rw [if_neg z]; exact h.2.1 c k (by omega) e
theorem f_bm {M W V : jW} (h : pF fw_X12_findCount_r125d (bsM M W) V) (G : pGc W V) (b7 : W.1 126 7 ≤ 40) (z : pZm M W) : pZm M V ∧ ∀ c : Nat, 165 ≤ c → V.1 c = W.1 c ∧ V.2.1 c = W.2.1 c := by
  obtain ⟨h1, h2, h3, h4⟩ := h
  exact ⟨⟨fun c k a b => (h1 c k b).trans (if_neg (by omega)), fun c k a b => (h2 c k b).trans (if_neg (by omega)), h3, h4, fun i hi => ⟨(G.2 b7 i hi).1.trans (z.2.2.2.2 i hi).1, (G.2 b7 i hi).2.trans (z.2.2.2.2 i hi).2⟩⟩, fun c a => ⟨funext fun k => (h1 c k (fwm_r a)).trans (if_pos a), funext fun k => (h2 c k (fwm_r a)).trans (if_pos a)⟩⟩
theorem zm_126 {M W : jW} (z : pZm M W) : W.1 126 = M.1 126 := by
  funext k
  exact z.1 126 k (by decide) rfl
theorem mfz {M : jW} {E : pE} {g : Nat → Int} {d kn s ki wh : Int} (Q : pMs M E g) (I : pIq E g) (hn : M.1 125 28 = kn) (hd : 0 ≤ d ∧ d ≤ 146399) (hs : s ≠ -1) (Il : pIl E.1) (O : qOk fun w => sQu E g d kn w s) (C : pCa E.1) {W : jW} (h : pZm M W) (K : pKf W E.1 kn) : pZm M (d_X12_findCount_r125d ki wh s d W) ∧ pKf (d_X12_findCount_r125d ki wh s d W) E.1 kn ∧ (∀ c : Nat, 165 ≤ c → (d_X12_findCount_r125d ki wh s d W).1 c = W.1 c ∧ (d_X12_findCount_r125d ki wh s d W).2.1 c = W.2.1 c) ∧ (d_X12_findCount_r125d ki wh s d W).1 125 65 = cBy (sCk E.1 d kn ki wh fun w => sQu E g d kn w s) 720 ∧ (d_X12_findCount_r125d ki wh s d W).2.1 125 64 = cSu (sCk E.1 d kn ki wh fun w => sQu E g d kn w s) (sSq E.1 fun w => sQu E g d kn w s) 720 := by
  have b7 : W.1 126 7 ≤ 40 := by
    have e : (eOf M).1 = E.1 := congrArg Prod.fst Q.1
    have e2 : M.1 126 = E.1 := e
    rw [zm_126 h, e2]
    exact I.2.2.1.1.2
  obtain ⟨m1, m2, m3, m4, _⟩ := mfc (bmQ (W := W) Q) I (by rw [bm_c (by decide)]; exact hn) hd hs Il O C (ki := ki) (wh := wh) (bm_f h) K
  obtain ⟨a, b⟩ := f_bm m1 (gr_d_X12_findCount_r125d ki wh s d W) b7 h
  exact ⟨a, m2, b, m3, m4⟩
end jG75

section jG76
/-! pure: EXEMPT on both sides -/
theorem cL_o {P : Int → Prop} : ∀ n : Nat, cL P n = -1 ↔ ∀ i : Nat, i < n → ¬ P i
  | 0 => ⟨fun _ i hi => absurd hi (by omega), fun _ => rfl⟩
  | n + 1 => by
    have ih := cL_o (P := P) n
    by_cases c : P n
    · rw [cL_y c]
      exact ⟨fun h => absurd h (by omega), fun h => absurd c (h n (by omega))⟩
    · rw [cL_n c, ih]
      refine ⟨fun h i hi => ?_, fun h i hi => h i (by omega)⟩
      by_cases e : i = n
      · rw [e]; exact c
      · exact h i (by omega)
theorem cB_o {P : Int → Prop} {n : Nat} : cBy P n = -1 ↔ ∀ i : Nat, i < n → ¬ P i := by
  rw [← cL_o n]
  unfold cBy
  by_cases c : cL P n = -1
  · rw [if_pos c]; exact ⟨fun _ => c, fun _ => rfl⟩
  · rw [if_neg c]
    have b := cL_b (P := P) n
    exact ⟨fun h => absurd h (by omega), fun h => absurd h c⟩
/-- sorts of TEXTS are 0 or 1 -/
def pI2 (r : Nat → Int) : Prop := ∀ t : Int, 0 ≤ t → t < r 4 → r (18820 + (924 * t)).toNat = 0 ∨ r (18820 + (924 * t)).toNat = 1
def sXc (r : Nat → Int) (d kn ki wh : Int) (q : Int → Int) (t c : Int) : Prop := (0 ≤ t ∧ t < r 4) ∧ (0 ≤ c ∧ c < r ((18820 + (924 * t)) + 3).toNat) ∧ r (((18820 + (924 * t)) + 4) + (10 * c)).toNat = ki ∧ r ((((18820 + (924 * t)) + 4) + (10 * c)) + 1).toNat = wh ∧ sHd r d kn t c q
theorem cb_x {r : Nat → Int} {d kn ki wh : Int} {q : Int → Int} (Il : pIl r) (I2 : pI2 r) : (∃ t c : Int, sXc r d kn ki wh q t c) ↔ cBy (sCk r d kn ki wh q) 720 ≠ -1 := by
  constructor
  · intro ⟨t, c, ⟨t1, t2⟩, ⟨c1, c2⟩, h3, h4, h5⟩ z
    have o := cB_o.1 z
    have b := Il.1
    have b4 := Il.2.1
    have b12 := (Il.2.2 t t1 t2).2.1
    have s := I2 t t1 t2
    have go : ∀ so : Int, (so = 0 ∨ so = 1) → r (18820 + (924 * t)).toNat = so → False := by
      intro so hs e
      have k0 : ((((360 * so + 12 * t + c).toNat : Nat)) : Int) = 360 * so + 12 * t + c := by omega
      have k1 : (360 * so + 12 * t + c) % 360 / 12 = t := by omega
      have k2 : (360 * so + 12 * t + c) % 12 = c := by omega
      have k3 : (360 * so + 12 * t + c) / 360 = so := by omega
      refine o (360 * so + 12 * t + c).toNat (by omega) ?_
      rw [k0]
      unfold sCk
      rw [k1, k2, k3]
      exact ⟨⟨t1, by omega⟩, ⟨c1, by omega⟩, e, h3, h4, h5⟩
    rcases s with e | e
    · exact go 0 (Or.inl rfl) e
    · exact go 1 (Or.inr rfl) e
  · intro h
    refine Classical.byContradiction fun n => h (cB_o.2 fun i hi z => n ?_)
    obtain ⟨⟨a1, a2⟩, ⟨b1, b2⟩, c1, d1, e1, f1⟩ := z
    exact ⟨((i : Int) % 360) / 12, (i : Int) % 12, ⟨a1, by omega⟩, ⟨b1, by omega⟩, d1, e1, f1⟩
/-- what isExempt says -/
def pXe (M W0 : jW) (E : pE) (kn : Int) (R : Prop) (z : Int × jW) : Prop := pZm M z.2 ∧ pKf z.2 E.1 kn ∧ (∀ c : Nat, 165 ≤ c → z.2.1 c = W0.1 c ∧ z.2.2.1 c = W0.2.1 c) ∧ ((z.1 = 1 ∧ R) ∨ (z.1 = 0 ∧ ¬ R))
theorem mxe {M : jW} {E : pE} {g : Nat → Int} {d kn s wh : Int} (Q : pMs M E g) (I : pIq E g) (hn : M.1 125 28 = kn) (hd : 0 ≤ d ∧ d ≤ 146399) (hs : s ≠ -1) (Il : pIl E.1) (O : qOk fun w => sQu E g d kn w s) (C : pCa E.1) {W : jW} (h : pZm M W) (K : pKf W E.1 kn) : pXe M W E kn (∃ t c : Int, sXc E.1 d kn 2 wh (fun w => sQu E g d kn w s) t c) (d_X12_isExempt_r125d wh s d W) := by
  have e126 : M.1 126 = E.1 := congrArg Prod.fst Q.1
  have b7 : ∀ {V : jW}, pZm M V → V.1 126 7 ≤ 40 := fun hV => by
    rw [zm_126 hV, e126]
    exact I.2.2.1.1.2
  have ho : ∀ {t c : Int}, 0 ≤ t ∧ t < E.1 4 → 0 ≤ c ∧ c < E.1 ((18820 + (924 * t)) + 3).toNat → ∀ {V : jW}, pZm M V → pKf V E.1 kn → pZm M (d_X12_holdsFor_r125d t c s d V).2 ∧ pKf (d_X12_holdsFor_r125d t c s d V).2 E.1 kn ∧ (∀ j : Nat, 165 ≤ j → (d_X12_holdsFor_r125d t c s d V).2.1 j = V.1 j ∧ (d_X12_holdsFor_r125d t c s d V).2.2.1 j = V.2.1 j) ∧ (d_X12_holdsFor_r125d t c s d V).1 = tv (sHd E.1 d kn t c fun w => sQu E g d kn w s) := fun {t c} ht hc {V} hV KV => by
    obtain ⟨hh, cd, L, C2⟩ := C t ht.1 ht.2
    obtain ⟨⟨m1, m2, m3⟩, m4⟩ := mho (bmQ (W := V) Q) I (by rw [bm_c (by decide)]; exact hn) hd hs Il O ht hc (C2 c hc.1 hc.2) (bm_f hV) KV
    obtain ⟨a, b⟩ := f_bm m3 (gr_d_X12_holdsFor_r125d t c s d V) (b7 hV) hV
    exact ⟨a, m4, b, m1⟩
  have key : ∀ (ft t : Nat) (V : jW), (E.1 4).toNat - t < ft → (t : Int) ≤ E.1 4 → pZm M V → pKf V E.1 kn → (∀ j : Nat, 165 ≤ j → V.1 j = W.1 j ∧ V.2.1 j = W.2.1 j) → (∀ t2 c2 : Int, t2 < t → ¬ sXc E.1 d kn 2 wh (fun w => sQu E g d kn w s) t2 c2) → pXe M W E kn (∃ t c : Int, sXc E.1 d kn 2 wh (fun w => sQu E g d kn w s) t c) (d_X12_isExempt_r125d_3 ft wh s d (t : Int) V) := by
    intro ft
    induction ft with
    | zero => intro t V h1; omega
    | succ ft ih =>
      intro t V h1 h2 hV KV hj hno
      have ev : V.1 126 = E.1 := (zm_126 hV).trans e126
      by_cases z : E.1 4 ≤ (t : Int)
      · have e : d_X12_isExempt_r125d_3 (ft + 1) wh s d (t : Int) V = (0, V) := if_pos (by rw [ev]; exact z)
        rw [e]
        refine ⟨hV, KV, hj, Or.inr ⟨rfl, fun ⟨t2, c2, y⟩ => hno t2 c2 (by have := y.1; omega) y⟩⟩
      · have tb : 0 ≤ (t : Int) ∧ (t : Int) < E.1 4 := ⟨by omega, by omega⟩
        have b12 := Il.2.2 (t : Int) tb.1 tb.2
        have e : d_X12_isExempt_r125d_3 (ft + 1) wh s d (t : Int) V = d_X12_isExempt_r125d_17 (fun l1 l2 l3 l4 W => d_X12_isExempt_r125d_3 ft l1 l2 l3 l4 W) 13 wh s d (t : Int) 0 V := if_neg (by rw [ev]; exact z)
        rw [e]
        have inner : ∀ (fc c : Nat) (U : jW), 12 - c < fc → (c : Int) ≤ E.1 ((18820 + (924 * (t : Int))) + 3).toNat → pZm M U → pKf U E.1 kn → (∀ j : Nat, 165 ≤ j → U.1 j = W.1 j ∧ U.2.1 j = W.2.1 j) → (∀ c2 : Int, c2 < c → ¬ sXc E.1 d kn 2 wh (fun w => sQu E g d kn w s) (t : Int) c2) → pXe M W E kn (∃ t c : Int, sXc E.1 d kn 2 wh (fun w => sQu E g d kn w s) t c) (d_X12_isExempt_r125d_17 (fun l1 l2 l3 l4 W => d_X12_isExempt_r125d_3 ft l1 l2 l3 l4 W) fc wh s d (t : Int) (c : Int) U) := by
          intro fc
          induction fc with
          | zero => intro c U g1; omega
          | succ fc jh =>
            intro c U g1 g2 hU KU hk hnc
            have eu : U.1 126 = E.1 := (zm_126 hU).trans e126
            by_cases y : E.1 ((18820 + (924 * (t : Int))) + 3).toNat ≤ (c : Int)
            · have e2 : d_X12_isExempt_r125d_17 (fun l1 l2 l3 l4 W => d_X12_isExempt_r125d_3 ft l1 l2 l3 l4 W) (fc + 1) wh s d (t : Int) (c : Int) U = d_X12_isExempt_r125d_3 ft wh s d ((t : Int) + 1) U := if_pos (by rw [eu]; exact y)
              rw [e2, show (t : Int) + 1 = ((t + 1 : Nat) : Int) from by omega]
              refine ih (t + 1) U (by omega) (by omega) hU KU hk (fun t2 c2 q w => ?_)
              by_cases et : t2 = (t : Int)
              · rw [et] at w
                exact hnc c2 (by have := w.2.1; omega) w
              · exact hno t2 c2 (by omega) w
            · have cb : 0 ≤ (c : Int) ∧ (c : Int) < E.1 ((18820 + (924 * (t : Int))) + 3).toNat := ⟨by omega, by omega⟩
              have st : ∀ U2 : jW, pZm M U2 → pKf U2 E.1 kn → (∀ j : Nat, 165 ≤ j → U2.1 j = W.1 j ∧ U2.2.1 j = W.2.1 j) → ¬ sXc E.1 d kn 2 wh (fun w => sQu E g d kn w s) (t : Int) (c : Int) → pXe M W E kn (∃ t c : Int, sXc E.1 d kn 2 wh (fun w => sQu E g d kn w s) t c) (d_X12_isExempt_r125d_17 (fun l1 l2 l3 l4 W => d_X12_isExempt_r125d_3 ft l1 l2 l3 l4 W) fc wh s d (t : Int) ((c : Int) + 1) U2) := by
                intro U2 a1 a2 a3 a4
                rw [show (c : Int) + 1 = ((c + 1 : Nat) : Int) from by omega]
                refine jh (c + 1) U2 (by omega) (by omega) a1 a2 a3 (fun c2 q => ?_)
                by_cases ec : c2 = (c : Int)
                · rw [ec]; exact a4
                · exact hnc c2 (by omega)
              show pXe M W E kn _ (if U.1 126 ((18820 + (924 * (t : Int))) + 3).toNat ≤ (c : Int) then _ else (if U.1 126 (((18820 + (924 * (t : Int))) + 4) + (10 * (c : Int))).toNat = 2 then (if U.1 126 ((((18820 + (924 * (t : Int))) + 4) + (10 * (c : Int))) + 1).toNat = wh then (if (d_X12_holdsFor_r125d (t : Int) (c : Int) s d U).1 = 0 then d_X12_isExempt_r125d_17 (fun l1 l2 l3 l4 W => d_X12_isExempt_r125d_3 ft l1 l2 l3 l4 W) fc wh s d (t : Int) ((c : Int) + 1) (d_X12_holdsFor_r125d (t : Int) (c : Int) s d U).2 else (1, (d_X12_holdsFor_r125d (t : Int) (c : Int) s d U).2)) else d_X12_isExempt_r125d_17 (fun l1 l2 l3 l4 W => d_X12_isExempt_r125d_3 ft l1 l2 l3 l4 W) fc wh s d (t : Int) ((c : Int) + 1) U) else d_X12_isExempt_r125d_17 (fun l1 l2 l3 l4 W => d_X12_isExempt_r125d_3 ft l1 l2 l3 l4 W) fc wh s d (t : Int) ((c : Int) + 1) U))
              rw [eu, if_neg y]
              by_cases k2 : E.1 (((18820 + (924 * (t : Int))) + 4) + (10 * (c : Int))).toNat = 2
              · rw [if_pos k2]
                by_cases kw : E.1 ((((18820 + (924 * (t : Int))) + 4) + (10 * (c : Int))) + 1).toNat = wh
                · rw [if_pos kw]
                  obtain ⟨o1, o2, o3, o4⟩ := ho tb cb hU KU
                  by_cases hH : sHd E.1 d kn (t : Int) (c : Int) fun w => sQu E g d kn w s
                  · have z1 : (d_X12_holdsFor_r125d (t : Int) (c : Int) s d U).1 = 1 := o4.trans (if_pos hH)
                    rw [if_neg (by omega)]
                    exact ⟨o1, o2, fun j hj2 => ⟨(o3 j hj2).1.trans (hk j hj2).1, (o3 j hj2).2.trans (hk j hj2).2⟩, Or.inl ⟨rfl, (t : Int), (c : Int), tb, cb, k2, kw, hH⟩⟩
                  · have z0 : (d_X12_holdsFor_r125d (t : Int) (c : Int) s d U).1 = 0 := o4.trans (if_neg hH)
                    rw [if_pos z0]
                    exact st _ o1 o2 (fun j hj2 => ⟨(o3 j hj2).1.trans (hk j hj2).1, (o3 j hj2).2.trans (hk j hj2).2⟩) (fun w => hH w.2.2.2.2)
                · rw [if_neg kw]; exact st U hU KU hk (fun w => kw w.2.2.2.1)
              · rw [if_neg k2]; exact st U hU KU hk (fun w => k2 w.2.2.1)
        exact inner 13 0 V (by omega) b12.1 hV KV hj (fun c2 q w => by have := w.2.1; omega)
  have b4 := Il.2.1
  exact key 31 0 W (by omega) Il.1 h K (fun _ _ => ⟨rfl, rfl⟩) (fun t2 c2 q w => by have := w.1; omega)
end jG76
