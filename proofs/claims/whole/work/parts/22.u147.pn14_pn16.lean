section jG141
/-! pure: spell. The reference's answer by what it leaves (spO): its last loops have no print of their own -/
def mBg (W : jW) : jW := d_X12_next_r125d (vu (vu (vu W 125 10 0) 125 14 0) 125 13 (-1))
def mSr (M : jW) : jW := if (vu (mBg (vu M 125 0 0)) 125 18 0).1 125 11 = 0 then vu (mBg (vu M 125 0 0)) 125 18 0 else mRe (mSp 12 (d_X12_readPair_r125d (vu (mBg (vu M 125 0 0)) 125 18 0)))
/-- SPELLINGS of a HAND are told -/
def spT (T : jW) (a : Nat) (V : jW) : Prop := (V.1 125 1 = 0 ∧ V.1 125 8 = 0 ∧ ∀ k : Nat, k ≠ 1 → k ≠ 8 → V.1 125 k = T.1 125 k) ∧ (∀ c : Nat, c ≠ 125 → c ≠ 132 → c ≠ 133 → c ≠ 134 → V.1 c = T.1 c) ∧ V.2 = T.2 ∧ (V.1 132 a = T.1 125 18 ∧ ∀ k : Nat, k ≠ a → V.1 132 k = T.1 132 k) ∧ (∀ k : Nat, (k : Int) < 2 * T.1 125 18 → V.1 133 (16 * a + k) = T.1 135 k) ∧ (∀ k : Nat, k < 16 * a ∨ 16 * a + 16 ≤ k → V.1 133 k = T.1 133 k) ∧ (∀ k i : Nat, (k : Int) < 2 * T.1 125 18 → (i : Int) < T.1 135 k → V.1 134 (48 * a + 3 * k + i) = T.1 136 (3 * k + i)) ∧ ∀ k : Nat, k < 48 * a ∨ 48 * a + 48 ≤ k → V.1 134 k = T.1 134 k
def spO (a : Int) (M : jW) (m : Int × jW) : Prop := (¬ (0 ≤ a ∧ a ≤ 15) ∧ m = (-1, vu (vu (vu M 125 0 0) 125 8 0) 125 1 (-1))) ∨ ((0 ≤ a ∧ a ≤ 15) ∧ (((mSr M).1 125 14 ≠ 0 ∧ m = (-6, vu (vu (mSr M) 125 8 0) 125 1 (-6))) ∨ ((mSr M).1 125 14 = 0 ∧ m.1 = (mSr M).1 125 18 ∧ spT (mSr M) a.toNat m.2)))
theorem sp_F : ∀ (r : Nat) (W : jW), pF fw_X12_readPair_r125d W (mSp r W) := by
  intro r
  induction r with
  | zero => intro W; exact pF_r
  | succ r ih =>
    intro W
    exact pF_i (pF_i (pF_i (pF_t (pF_t (pF_m rfl (fr_d_X12_next_r125d W)) (fr_d_X12_readPair_r125d _)) (ih _)) pF_r) pF_r) pF_r
theorem sp_jk : ∀ (r : Nat) (W : jW), pJk W (mSp r W) := by
  intro r
  induction r with
  | zero => intro W; exact jk_r
  | succ r ih =>
    intro W
    exact jk_i (jk_i (jk_i (jk_t (jk_t (jk_F (fr_d_X12_next_r125d W) rfl) (jk_d_X12_readPair_r125d _)) (ih _)) jk_r) jk_r) jk_r
theorem re_F {l : List (Nat × Nat)} (e1 : pc l 125 13 = true) (e2 : pc l 125 14 = true) (W : jW) : pF l W (mRe W) := pF_i (pF_i pF_r (pF_u (pF_u pF_r e2) e1)) pF_r
theorem re_jk (W : jW) : pJk W (mRe W) := jk_i (jk_i jk_r jk_bb) jk_r
theorem bg_F (W : jW) : pF [(125, 10), (125, 11), (125, 12), (125, 13), (125, 14), (125, 15)] W (mBg W) := pF_t (pF_u (pF_u (pF_u pF_r rfl) rfl) rfl) (pF_m (by decide) (fr_d_X12_next_r125d _))
theorem bg_14 (W : jW) : (mBg W).1 125 14 = 0 ∧ (mBg W).1 125 13 = -1 := by
  have F := fr_d_X12_next_r125d (vu (vu (vu W 125 10 0) 125 14 0) 125 13 (-1))
  unfold mBg
  rw [F.1 125 14 rfl, F.1 125 13 rfl]
  exact ⟨(vu_n (by omega)).trans (vu_e rfl), vu_e rfl⟩
def fw_Sr : List (Nat × Nat) := [(125, 1), (125, 10), (125, 11), (125, 12), (125, 13), (125, 14), (125, 15), (125, 19), (135, 0), (136, 0)]
theorem sr_F (M : jW) : pF fw_Sr M (mSr M) := by
  have a : pF fw_Sr M (vu (mBg (vu M 125 0 0)) 125 18 0) := pF_u (pF_t (pF_u pF_r rfl) (pF_m (by decide) (bg_F _))) rfl
  unfold mSr
  exact pF_i a (pF_t a (pF_t (pF_t (pF_m (by decide) (fr_d_X12_readPair_r125d _)) (pF_m (by decide) (sp_F 12 _))) (re_F rfl rfl _)))
theorem sr_13 (M : jW) (h : (mSr M).1 125 14 = 0) : (mSr M).1 125 13 = -1 := by
  have b := bg_14 (vu M 125 0 0)
  have a : (vu (mBg (vu M 125 0 0)) 125 18 0).1 125 13 = -1 := (vu_n (by omega)).trans b.2
  have j : pJk (vu (mBg (vu M 125 0 0)) 125 18 0) (mSr M) := by
    unfold mSr
    exact jk_i jk_r (jk_t (jk_t (jk_d_X12_readPair_r125d _) (sp_jk 12 _)) (re_jk _))
  exact (j h).2.trans a
theorem rp_k : ∀ (r : Nat) (p : Int) (W : jW), (d_X5_readPairs_r70d_21 r p W).1 = -1 ∨ (d_X5_readPairs_r70d_21 r p W).1 = 0 ∨ (d_X5_readPairs_r70d_21 r p W).2.1 68 2 = W.1 68 2 := by
  intro r
  induction r with
  | zero => intro p W; exact Or.inr (Or.inl rfl)
  | succ r ih =>
    intro p W
    unfold d_X5_readPairs_r70d_21
    by_cases c1 : 8 ≤ p
    · rw [if_pos c1]; exact Or.inl rfl
    · rw [if_neg c1]
      by_cases c2 : (d_X5_readPair_r70d (p * 8) W).1 = 0
      · rw [if_pos c2]; exact Or.inl rfl
      · rw [if_neg c2]
        have e := (fk_d_X5_readPair_r70d (p * 8) W).resolve_left c2
        by_cases c3 : (d_X5_readPair_r70d (p * 8) W).2.1 68 5 = 0
        · rw [if_pos c3]; exact Or.inr (Or.inr e)
        · rw [if_neg c3]
          by_cases c4 : d_X9_isSign_r68d 44 (d_X5_readPair_r70d (p * 8) W).2 = 0
          · rw [if_pos c4]; exact Or.inl rfl
          · rw [if_neg c4]
            rcases ih (p + 1) (d_X9_step_r68d (d_X5_readPair_r70d (p * 8) W).2) with y | y | y
            · exact Or.inl y
            · exact Or.inr (Or.inl y)
            · exact Or.inr (Or.inr (y.trans (((fr_d_X9_step_r68d _).1 68 2 rfl).trans e)))
/-- PAIRS read on both sides -/
theorem sr_e {X M : jW} (h : pTp X M) : ((d_X5_readPairs_r70d X).1 = -1 ∧ (mSr M).1 125 14 = 1 ∧ (d_X5_readPairs_r70d X).2.1 68 2 = (mSr M).1 125 13) ∨ ((0 ≤ (d_X5_readPairs_r70d X).1 ∧ (d_X5_readPairs_r70d X).1 ≤ 8) ∧ (mSr M).1 125 14 = 0 ∧ (mSr M).1 125 18 = (d_X5_readPairs_r70d X).1 ∧ pSds (d_X5_readPairs_r70d X).2 (mSr M) (d_X5_readPairs_r70d X).1 ∧ (d_X5_readPairs_r70d X).2.1 68 2 = -1) := by
  have u1 : (vu (vu X 68 2 (-1)) 68 4 0).1 68 1 = X.1 68 1 := by rw [vu_n (by omega), vu_n (by omega)]
  have u2 : (vu (vu X 68 2 (-1)) 68 4 0).1 68 2 = -1 := by rw [vu_n (by omega)]; exact vu_e rfl
  have u4 : (vu (vu X 68 2 (-1)) 68 4 0).1 68 4 = 0 := vu_e rfl
  have u9 : (vu (vu X 68 2 (-1)) 68 4 0).1 69 = X.1 69 := by rw [vu_c (by decide), vu_c (by decide)]
  have m8 : (vu (vu (vu (vu M 125 0 0) 125 10 0) 125 14 0) 125 13 (-1)).1 125 8 = M.1 125 8 := by rw [vu_n (by omega), vu_n (by omega), vu_n (by omega), vu_n (by omega)]
  have m10 : (vu (vu (vu (vu M 125 0 0) 125 10 0) 125 14 0) 125 13 (-1)).1 125 10 = 0 := by rw [vu_n (by omega), vu_n (by omega)]; exact vu_e rfl
  have mb : (vu (vu (vu (vu M 125 0 0) 125 10 0) 125 14 0) 125 13 (-1)).1 131 = M.1 131 := by rw [vu_c (by decide), vu_c (by decide), vu_c (by decide), vu_c (by decide)]
  have hp : pTp (vu (vu X 68 2 (-1)) 68 4 0) (vu (vu (vu (vu M 125 0 0) 125 10 0) 125 14 0) 125 13 (-1)) := tp_c u1 u9 m8 mb h
  have k0 : pTk (d_X9_step_r68d (vu (vu X 68 2 (-1)) 68 4 0)) (mBg (vu M 125 0 0)) := tk_n hp (by rw [u4, m10]) (by omega) (by have := hp.2.1; omega)
  have b14 := bg_14 (vu M 125 0 0)
  have s2 : (d_X9_step_r68d (vu (vu X 68 2 (-1)) 68 4 0)).1 68 2 = -1 := ((fr_d_X9_step_r68d _).1 68 2 rfl).trans u2
  have k : pTk (d_X9_step_r68d (vu (vu X 68 2 (-1)) 68 4 0)) (vu (mBg (vu M 125 0 0)) 125 18 0) := by
    obtain ⟨k1, k2, k3, k4, k5, k6⟩ := k0
    refine ⟨pTp_m k1 (by decide), ?_, ?_, ?_, ?_, ?_⟩
    · rw [vu_n (by omega)]; exact k2
    · rw [vu_n (by omega)]; exact k3
    · rw [vu_n (by omega)]; exact k4
    · rw [vu_n (by omega), vu_n (by omega), vu_n (by omega)]; exact k5
    · rw [vu_n (b := 125) (j := 8) (by omega), vu_n (b := 125) (j := 9) (by omega), vu_n (b := 125) (j := 10) (by omega), vu_n (b := 125) (j := 11) (by omega), vu_c (b := 131) (by decide)]; exact k6
  have w14 : (vu (mBg (vu M 125 0 0)) 125 18 0).1 125 14 = 0 := (vu_n (by omega)).trans b14.1
  have w18 : (vu (mBg (vu M 125 0 0)) 125 18 0).1 125 18 = 0 := vu_e rfl
  unfold d_X5_readPairs_r70d mSr
  clear k0 b14
  generalize d_X9_step_r68d (vu (vu X 68 2 (-1)) 68 4 0) = Y at *
  generalize vu (mBg (vu M 125 0 0)) 125 18 0 = N at *
  have e5 : Y.1 68 5 = N.1 125 11 := k.2.2.2.1
  by_cases c : N.1 125 11 = 0
  · rw [if_pos c, if_pos (by omega)]
    exact Or.inr ⟨⟨by show (0 : Int) ≤ 0; omega, by show (0 : Int) ≤ 8; omega⟩, w14, w18, fun s h1 h2 => by exfalso; change s < 2 * 0 at h2; omega, s2⟩
  · rw [if_neg c, if_neg (by omega)]
    rcases ps_21 9 Y N 0 9 12 (by omega) k w14 w18 (by omega) (by omega) (by omega) (fun s h1 h2 => by exfalso; omega) with ⟨a1, a2⟩ | ⟨a1, a2, a3, a4, a5⟩
    · exact Or.inl ⟨a1, a2.1, a2.2.symm⟩
    · refine Or.inr ⟨⟨by omega, a2⟩, a3, a4, a5, ?_⟩
      rcases rp_k 9 0 Y with y | y | y
      · omega
      · omega
      · exact y.trans s2
/-- all LINES of the HAND are folded anew -/
theorem l55_e {F : pE} {a n : Int} (Sr : pSr F) (I : pIr F) (h2 : 0 ≤ F.1 0 ∧ F.1 0 ≤ 200) : ∀ (c l r : Nat) (W : jW), (l : Int) + (c : Int) = F.1 0 → c < r → pSp W F → pT W 32 pt_0 F.1 → pNm W 32 F.1 → (∀ q : Nat, q / 6 < l → pFc W F q) → (∀ q : Nat, ((q / 6 : Nat) : Int) < F.1 0 → F.1 (21 + 90 * (q / 6)) ≠ a → pFc W F q) → ∃ V : jW, d_X11_spell_r31d_55 r a n (l : Int) W = (n, vu (vu V 31 12 0) 32 19 (j_iadd (V.1 32 19) 1)) ∧ (∀ b j : Nat, b ≠ 75 → b ≠ 76 → b ≠ 77 → V.1 b j = W.1 b j) ∧ V.2 = W.2 ∧ ∀ q : Nat, ((q / 6 : Nat) : Int) < F.1 0 → pFc V F q := by
  intro c
  induction c with
  | zero =>
    intro l r W e hr _ D _ f1 _
    obtain ⟨r, rfl⟩ : ∃ q, r = q + 1 := ⟨r - 1, by omega⟩
    have e33 : W.1 33 3 = F.1 0 := D.1
    exact ⟨W, if_pos (by omega), fun _ _ _ _ _ => rfl, rfl, fun q hq => f1 q (by omega)⟩
  | succ c ih =>
    intro l r W e hr P D N f1 f2
    obtain ⟨r, rfl⟩ : ∃ q, r = q + 1 := ⟨r - 1, by omega⟩
    have e33 : W.1 33 3 = F.1 0 := D.1
    have hl : (l : Int) < F.1 0 := by omega
    have ea : d_X8_at_r33_c3d (l : Int) W = F.1 (21 + 90 * l) := by
      unfold d_X8_at_r33_c3d
      rw [if_neg (by omega)]
      exact pT_at D (i := (l : Int)) (by omega) hl (c := 3) (by decide) (by show _ = 6 * ((l : Int)).toNat + 3; omega) (by show _ = 20 + 90 * ((l : Int)).toNat + 1; omega)
    by_cases z : F.1 (21 + 90 * l) = a
    · have st : d_X11_spell_r31d_55 (r + 1) a n (l : Int) W = d_X11_spell_r31d_55 r a n ((l + 1 : Nat) : Int) (d_X5_learn_r70d (l : Int) W) := by
        refine (if_neg (by omega)).trans ((if_pos (ea.trans z)).trans ?_)
        rw [show ((l + 1 : Nat) : Int) = (l : Int) + 1 from by omega]
        rfl
      obtain ⟨g1, g2, g3, g4, g5⟩ := xln Sr I hl h2.2 P D N
      rw [st]
      generalize d_X5_learn_r70d (l : Int) W = U at *
      have gc : ∀ b : Nat, b ≠ 75 → b ≠ 76 → b ≠ 77 → U.1 b = W.1 b := fun b b1 b2 b3 => funext fun j => g1 b j b1 b2 b3
      have old : ∀ q : Nat, ((q / 6 : Nat) : Int) < F.1 0 → q / 6 ≠ l → pFc W F q → pFc U F q := fun q hq hn p => by
        have y := g3 q (by omega)
        exact pFc_x p y.1 y.2 (fun j j1 j2 => g4 j (by omega)) (fcL_l Sr I hq)
      obtain ⟨V, v1, v2, v3, v4⟩ := ih (l + 1) r U (by omega) (by omega) (pSp_n P (gc 73 (by decide) (by decide) (by decide)) (gc 74 (by decide) (by decide) (by decide))) (by unfold pT; rw [gc (32 + 1 + 2 * pt_0.1) (by decide) (by decide) (by decide), gc (32 + 2 + 2 * pt_0.1) (by decide) (by decide) (by decide)]; exact D) (pNm_e (by rw [gc 35 (by decide) (by decide) (by decide)]) (gc 36 (by decide) (by decide) (by decide)) (fun _ _ => rfl) N) (fun q hq => by
          by_cases y : q / 6 = l
          · exact g5 q (by omega) (by omega)
          · exact old q (by omega) y (f1 q (by omega))) (fun q hq hn => by
          by_cases y : q / 6 = l
          · rw [y] at hn; exact absurd z hn
          · exact old q hq y (f2 q hq hn))
      exact ⟨V, v1, fun b j b1 b2 b3 => (v2 b j b1 b2 b3).trans (g1 b j b1 b2 b3), v3.trans g2, v4⟩
    · have st : d_X11_spell_r31d_55 (r + 1) a n (l : Int) W = d_X11_spell_r31d_55 r a n ((l + 1 : Nat) : Int) W := by
        refine (if_neg (by omega)).trans ((if_neg (by rw [ea]; exact z)).trans ?_)
        rw [show ((l + 1 : Nat) : Int) = (l : Int) + 1 from by omega]
        rfl
      rw [st]
      exact ih (l + 1) r W (by omega) (by omega) P D N (fun q hq => by
        by_cases y : q / 6 = l
        · exact f2 q (by omega) (by rw [y]; exact z)
        · exact f1 q (by omega)) f2
section
variable {v : Int} {X M : jW}
theorem q_spell {a : Int} {m : Int × jW} (H : pR v X M) (hv : v < 2147483646) (hm : spO a M m) : (d_X11_spell_r31d a X).1 = m.1 ∧ pR (v + 1) (d_X11_spell_r31d a X).2 m.2 := by
  obtain ⟨E, t, w, wm, S, H⟩ := H
  have bb := rb_b H.1
  have e := cm_126 H.1.2.1
  obtain ⟨h1, h3, h4, h5, h6, h8, h9, h10, h11, h12, h14, h17⟩ := id H.1
  have FS := sr_F M
  unfold d_X11_spell_r31d
  rcases hm with ⟨ha, rfl⟩ | ⟨ha, hm⟩
  · have ex : (if a < 0 then d_X11_spell_r31d_10 X else if a ≤ 15 then (if (d_X5_readPairs_r70d X).1 = -1 then (-6, vu (vu (d_X5_readPairs_r70d X).2 68 1 0) 31 12 (-6)) else d_X11_spell_r31d_55 201 a (d_X5_readPairs_r70d X).1 0 (vu (vuC (vu (d_X5_readPairs_r70d X).2 68 1 0) 72 73 (0 : Int).toNat (a * 64).toNat ((d_X5_readPairs_r70d X).1 * 8).toNat) 74 a.toNat (d_X5_readPairs_r70d X).1)) else d_X11_spell_r31d_10 X) = (-1, vu (vu X 68 1 0) 31 12 (-1)) := by
      by_cases c : a < 0
      · rw [if_pos c]; rfl
      · rw [if_neg c, if_neg (by omega)]; rfl
    rw [ex]
    have T := tp_z (e := -1) (f := -1) (pTp_m (k := 0) (x := 0) h14.1 (by decide))
    refine ⟨rfl, E, t, w, wm, S, ra_v (v := v) (ra_t2 (l := [(31, 13), (68, 0)]) H (pF_u (pF_v pF_r rfl) rfl) rfl ⟨fun c hc => (vu_c (by omega)).trans ((vu_c (by omega)).trans (vu_c (by omega))), fun k hk => (vu_n (by omega)).trans ((vu_n (by omega)).trans (vu_n (by omega))), fun _ _ _ => rfl⟩ ⟨T, by rw [vu_n (by omega), vu_n (by omega), vu_n (by omega), vu_n (by omega), vu_n (by omega)]; exact h14.2⟩ (by rw [vu_e rfl, vu_e rfl])) (by omega)⟩
  · rw [if_neg (show ¬ a < 0 from by omega), if_pos ha.2]
    have FP := fr_d_X5_readPairs_r70d X
    have R := sr_e h14.1
    generalize d_X5_readPairs_r70d X = x at *
    rcases hm with ⟨b14, rfl⟩ | ⟨b14, m1, mT⟩
    · rcases R with ⟨r1, r2, r3⟩ | ⟨r1, r2, _⟩
      · rw [if_pos r1]
        have F2 : pF [(31, 13), (68, 0), (72, 0)] X (vu (vu x.2 68 1 0) 31 12 (-6)) := pF_u (pF_v (pF_m (by decide) FP) rfl) rfl
        refine ⟨rfl, E, t, w, wm, S, ra_v (v := v) (ra_t2 H F2 rfl ⟨fun c hc => (vu_c (by omega)).trans ((vu_c (by omega)).trans ?_), fun k hk => (vu_n (by omega)).trans ((vu_n (by omega)).trans ?_), fun c k hc => ?_⟩ ⟨?_, ?_⟩ ?_) (by omega)⟩
        · rcases hc with rfl | rfl | rfl | rfl | rfl | rfl | rfl | rfl <;> exact pF_c FS rfl
        · rcases hk with rfl | rfl | rfl | rfl | rfl | rfl <;> exact FS.1 125 _ rfl
        · rcases hc with rfl | rfl
          · exact FS.2.1 129 k rfl
          · exact FS.2.1 130 k rfl
        · refine ⟨?_, ?_, fun i hi => ?_⟩
          · rw [vu_n (by omega), vu_e rfl, vu_n (by omega), vu_e rfl]
          · rw [vu_n (by omega), vu_e rfl]; omega
          · rw [vu_n (by omega), vu_n (by omega), vu_n (by omega), vu_n (by omega), FP.1 69 i (pc_any rfl i), FS.1 131 i (pc_any rfl i)]
            exact h14.1.2.2 i hi
        · rw [vu_n (by omega), vu_n (by omega), vu_n (by omega), vu_n (by omega)]; exact r3
        · rw [vu_e rfl, vu_e rfl]
      · exact absurd r2 b14
    · rcases R with ⟨r1, r2, _⟩ | ⟨r1, r2, r3, r4, r5⟩
      · rw [r2] at b14; exact absurd b14 (by decide)
      · rw [if_neg (by omega)]
        obtain ⟨⟨t1, t2, t3⟩, t4, t5, ⟨t6, t7⟩, t8, t9, t10, t11⟩ := mT
        have s13 := sr_13 M r2
        rw [r3] at t6 t8 t10
        obtain ⟨n, hn⟩ : ∃ n : Nat, x.1 = (n : Int) := ⟨x.1.toNat, by omega⟩
        obtain ⟨A, hA⟩ : ∃ A : Nat, a = (A : Int) := ⟨a.toNat, by omega⟩
        rw [hn] at r1 r3 r4 t6 t8 t10 ⊢
        rw [show a.toNat = A from by omega] at t6 t7 t8 t9 t10 t11
        have sd : ∀ s : Nat, s < 2 * n → x.2.1 72 (8 * (s / 2) + 4 * (s % 2)) = (mSr M).1 135 s ∧ (0 ≤ (mSr M).1 135 s ∧ (mSr M).1 135 s ≤ 3) ∧ (∀ k : Nat, (k : Int) < (mSr M).1 135 s → x.2.1 72 (8 * (s / 2) + 4 * (s % 2) + 1 + k) = (mSr M).1 136 (3 * s + k)) ∧ (s % 2 = 0 → 1 ≤ (mSr M).1 135 s) := fun s hs => by
          obtain ⟨⟨d1, d2, d3⟩, d4⟩ := r4 (s : Int) (by omega) (by omega)
          unfold sdB at d1 d3
          rw [show ((s : Int)).toNat = s from by omega] at d1 d2 d3 d4
          rw [show (8 * ((s : Int) / 2) + 4 * ((s : Int) % 2)).toNat = 8 * (s / 2) + 4 * (s % 2) from by omega] at d1
          refine ⟨d1, d2, fun k hk => ?_, fun h => d4 (by omega)⟩
          have y := d3 k hk
          rw [show (8 * ((s : Int) / 2) + 4 * ((s : Int) % 2) + 1 + (k : Int)).toNat = 8 * (s / 2) + 4 * (s % 2) + 1 + k from by omega, show (3 * (s : Int) + (k : Int)).toNat = 3 * s + k from by omega] at y
          exact y
        have m126 : m.2.1 126 = E.1 := (t4 126 (by decide) (by decide) (by decide) (by decide)).trans ((pF_c FS rfl).trans e)
        have e2 := h3.1
        have q1 : (mSr M).1 132 = E.2.1 := (pF_c FS rfl).trans (by rw [← e2]; rfl)
        have q2 : (mSr M).1 133 = E.2.2.1 := (pF_c FS rfl).trans (by rw [← e2]; rfl)
        have q3 : (mSr M).1 134 = E.2.2.2.1 := (pF_c FS rfl).trans (by rw [← e2]; rfl)
        rw [q1] at t7
        rw [q2] at t9
        rw [q3] at t11
        -- the new SPELLINGS
        have Sr : pSr (E.1, m.2.1 132, m.2.1 133, m.2.1 134, E.2.2.2.2) := fun h hh => by
          show (0 ≤ m.2.1 132 h ∧ m.2.1 132 h ≤ 8) ∧ ∀ p : Nat, (p : Int) < m.2.1 132 h → (1 ≤ m.2.1 133 (16 * h + 2 * p) ∧ m.2.1 133 (16 * h + 2 * p) ≤ 3) ∧ (0 ≤ m.2.1 133 (16 * h + 2 * p + 1) ∧ m.2.1 133 (16 * h + 2 * p + 1) ≤ 3)
          by_cases z : h = A
          · rw [z, t6]
            refine ⟨by omega, fun p hp => ?_⟩
            have y1 := sd (2 * p) (by omega)
            have y2 := sd (2 * p + 1) (by omega)
            rw [t8 (2 * p) (by omega), show 16 * A + 2 * p + 1 = 16 * A + (2 * p + 1) from by omega, t8 (2 * p + 1) (by omega)]
            exact ⟨⟨y1.2.2.2 (by omega), y1.2.1.2⟩, y2.2.1⟩
          · have y := h1.1.1 h hh
            rw [t7 h z]
            refine ⟨y.1, fun p hp => ?_⟩
            rw [t9 (16 * h + 2 * p) (by omega), t9 (16 * h + 2 * p + 1) (by omega)]
            exact y.2 p hp
        have Ir : pIr (E.1, m.2.1 132, m.2.1 133, m.2.1 134, E.2.2.2.2) := h4.2.2.1
        have In : pIn (E.1, m.2.1 132, m.2.1 133, m.2.1 134, E.2.2.2.2) := h4.2.2.2.1
        have yc : ∀ b : Nat, b ≠ 68 → b ≠ 72 → b ≠ 73 → b ≠ 74 → (vu (vuC (vu x.2 68 1 0) 72 73 (0 : Int).toNat (a * 64).toNat ((n : Int) * 8).toNat) 74 a.toNat (n : Int)).1 b = X.1 b := fun b b1 b2 b3 b4 => by
          rw [vu_c b4]
          refine (funext fun k => vC_o (fun z => b3 z.1)).trans ((vu_c b1).trans (funext fun k => FP.1 b k ?_))
          exact pc_any (by
            cases g : (fw_X5_readPairs_r70d.any fun q : Nat × Nat => Nat.beq q.1 b) with
            | false => rfl
            | true =>
              exfalso
              unfold fw_X5_readPairs_r70d at g
              rw [List.any_eq_true] at g
              obtain ⟨p, p1, p2⟩ := g
              have z := Nat.eq_of_beq_eq_true p2
              simp only [List.mem_cons, List.not_mem_nil, or_false] at p1
              rcases p1 with rfl | rfl | rfl | rfl | rfl <;> (change _ = b at z; omega)) k
        have y2 : ∀ b : Nat, b = 65 ∨ b = 66 ∨ b = 67 ∨ 174 ≤ b → (vu (vuC (vu x.2 68 1 0) 72 73 (0 : Int).toNat (a * 64).toNat ((n : Int) * 8).toNat) 74 a.toNat (n : Int)).2.1 b = X.2.1 b ∧ (vu (vuC (vu x.2 68 1 0) 72 73 (0 : Int).toNat (a * 64).toNat ((n : Int) * 8).toNat) 74 a.toNat (n : Int)).2.2.1 b = X.2.2.1 b := fun b hb => by
          have z : ∀ k : Nat, pc fw_X5_readPairs_r70d b k = false := fun k => pc_any (by
            cases g : (fw_X5_readPairs_r70d.any fun q : Nat × Nat => Nat.beq q.1 b) with
            | false => rfl
            | true =>
              exfalso
              unfold fw_X5_readPairs_r70d at g
              rw [List.any_eq_true] at g
              obtain ⟨p, p1, p2⟩ := g
              have z := Nat.eq_of_beq_eq_true p2
              simp only [List.mem_cons, List.not_mem_nil, or_false] at p1
              rcases p1 with rfl | rfl | rfl | rfl | rfl <;> (change _ = b at z; omega)) k
          exact ⟨funext fun k => FP.2.1 b k (z k), funext fun k => FP.2.2.1 b k (z k)⟩
        have y4 : (vu (vuC (vu x.2 68 1 0) 72 73 (0 : Int).toNat (a * 64).toNat ((n : Int) * 8).toNat) 74 a.toNat (n : Int)).2.2.2 = X.2.2.2 := FP.2.2.2
        have yx : ∀ j : Nat, ¬ (64 * A ≤ j ∧ j < 64 * A + 8 * n) → (vu (vuC (vu x.2 68 1 0) 72 73 (0 : Int).toNat (a * 64).toNat ((n : Int) * 8).toNat) 74 a.toNat (n : Int)).1 73 j = X.1 73 j := fun j hj => by
          rw [vu_n (by omega), vC_o (by omega), vu_n (by omega)]
          exact FP.1 73 j (pc_any rfl j)
        have yn : ∀ j : Nat, j < 8 * n → (vu (vuC (vu x.2 68 1 0) 72 73 (0 : Int).toNat (a * 64).toNat ((n : Int) * 8).toNat) 74 a.toNat (n : Int)).1 73 (64 * A + j) = x.2.1 72 j := fun j hj => by
          rw [vu_n (by omega), vC_i (by omega), vu_n (by omega)]
          exact congrArg (x.2.1 72) (by omega)
        have y74 : (vu (vuC (vu x.2 68 1 0) 72 73 (0 : Int).toNat (a * 64).toNat ((n : Int) * 8).toNat) 74 a.toNat (n : Int)).1 74 A = (n : Int) := vu_e (by omega)
        have y74o : ∀ j : Nat, j ≠ A → (vu (vuC (vu x.2 68 1 0) 72 73 (0 : Int).toNat (a * 64).toNat ((n : Int) * 8).toNat) 74 a.toNat (n : Int)).1 74 j = X.1 74 j := fun j hj => by
          rw [vu_n (by omega), vC_o (by omega), vu_n (by omega)]
          exact FP.1 74 j (pc_any rfl j)
        have y681 : (vu (vuC (vu x.2 68 1 0) 72 73 (0 : Int).toNat (a * 64).toNat ((n : Int) * 8).toNat) 74 a.toNat (n : Int)).1 68 1 = 0 := by
          rw [vu_n (by omega), vC_o (by omega)]; exact vu_e rfl
        have y682 : (vu (vuC (vu x.2 68 1 0) 72 73 (0 : Int).toNat (a * 64).toNat ((n : Int) * 8).toNat) 74 a.toNat (n : Int)).1 68 2 = -1 := by
          rw [vu_n (by omega), vC_o (by omega), vu_n (by omega)]; exact r5
        generalize vu (vuC (vu x.2 68 1 0) 72 73 (0 : Int).toNat (a * 64).toNat ((n : Int) * 8).toNat) 74 a.toNat (n : Int) = U at *
        have SP : pSp U (E.1, m.2.1 132, m.2.1 133, m.2.1 134, E.2.2.2.2) := fun h hh => by
          show U.1 74 h = m.2.1 132 h ∧ ∀ p : Nat, (p : Int) < m.2.1 132 h → U.1 73 (64 * h + 8 * p) = m.2.1 133 (16 * h + 2 * p) ∧ U.1 73 (64 * h + 8 * p + 4) = m.2.1 133 (16 * h + 2 * p + 1) ∧ (∀ i : Nat, (i : Int) < m.2.1 133 (16 * h + 2 * p) → U.1 73 (64 * h + 8 * p + 1 + i) = m.2.1 134 (48 * h + 6 * p + i)) ∧ ∀ i : Nat, (i : Int) < m.2.1 133 (16 * h + 2 * p + 1) → U.1 73 (64 * h + 8 * p + 5 + i) = m.2.1 134 (48 * h + 6 * p + 3 + i)
          by_cases z : h = A
          · rw [z, t6, y74]
            refine ⟨rfl, fun p hp => ?_⟩
            obtain ⟨a1, a2, a3, _⟩ := sd (2 * p) (by omega)
            obtain ⟨b1, b2, b3, _⟩ := sd (2 * p + 1) (by omega)
            rw [show 8 * (2 * p / 2) + 4 * (2 * p % 2) = 8 * p from by omega] at a1 a3
            rw [show 8 * ((2 * p + 1) / 2) + 4 * ((2 * p + 1) % 2) = 8 * p + 4 from by omega] at b1 b3
            rw [show 16 * A + 2 * p + 1 = 16 * A + (2 * p + 1) from by omega, t8 (2 * p) (by omega), t8 (2 * p + 1) (by omega)]
            refine ⟨?_, ?_, fun i hi => ?_, fun i hi => ?_⟩
            · rw [yn (8 * p) (by omega)]; exact a1
            · rw [show 64 * A + 8 * p + 4 = 64 * A + (8 * p + 4) from by omega, yn (8 * p + 4) (by omega)]; exact b1
            · rw [show 64 * A + 8 * p + 1 + i = 64 * A + (8 * p + 1 + i) from by omega, yn (8 * p + 1 + i) (by omega), a3 i hi, show 48 * A + 6 * p + i = 48 * A + 3 * (2 * p) + i from by omega, t10 (2 * p) i (by omega) hi]
            · rw [show 64 * A + 8 * p + 5 + i = 64 * A + (8 * p + 4 + 1 + i) from by omega, yn (8 * p + 4 + 1 + i) (by omega), b3 i hi, show 48 * A + 6 * p + 3 + i = 48 * A + 3 * (2 * p + 1) + i from by omega, t10 (2 * p + 1) i (by omega) hi]
          · obtain ⟨s1, s2⟩ := h1.2.2.2.2.1 h hh
            have sr := h1.1.1 h hh
            rw [y74o h z, t7 h z]
            refine ⟨s1, fun p hp => ?_⟩
            obtain ⟨u1, u2, u3, u4⟩ := s2 p hp
            have v1 := sr.2 p hp
            rw [t9 (16 * h + 2 * p) (by omega), t9 (16 * h + 2 * p + 1) (by omega)]
            refine ⟨?_, ?_, fun i hi => ?_, fun i hi => ?_⟩
            · rw [yx _ (by omega)]; exact u1
            · rw [yx _ (by omega)]; exact u2
            · rw [yx _ (by omega), t11 _ (by omega)]; exact u3 i hi
            · rw [yx _ (by omega), t11 _ (by omega)]; exact u4 i hi
        have DU : pD U 32 E.1 := pD_A (fun b b1 b2 => yc b (by omega) (by omega) (by omega) (by omega)) h1.2.1
        obtain ⟨V, v1, v2, v3, v4⟩ := l55_e (F := (E.1, m.2.1 132, m.2.1 133, m.2.1 134, E.2.2.2.2)) (a := a) (n := (n : Int)) Sr Ir bb.1 (E.1 0).toNat 0 201 U (by show ((0 : Nat) : Int) + (((E.1 0).toNat : Nat) : Int) = E.1 0; omega) (by omega) SP (DU.1 pt_0 (by decide)) DU.2.1 (fun q hq => absurd hq (Nat.not_lt_zero _)) (fun q hq hne => by
          change ((q / 6 : Nat) : Int) < E.1 0 at hq
          change E.1 (21 + 90 * (q / 6)) ≠ a at hne
          have ir := h4.2.2.1 (q / 6) hq
          have z : pFc X (E.1, m.2.1 132, m.2.1 133, m.2.1 134, E.2.2.2.2) q := pFc_c h1.1.1 h4.2.2.1 hq (fun _ _ _ _ => rfl) ⟨t7 _ (by omega), fun j j1 j2 => t9 j (by omega), fun j j1 j2 => t11 j (by omega)⟩ (h1.1.2.2.2.2.2.2.1 q hq)
          unfold pFc at *
          rw [yc 75 (by decide) (by decide) (by decide) (by decide), yc 76 (by decide) (by decide) (by decide) (by decide), yc 77 (by decide) (by decide) (by decide) (by decide)]
          exact z)
        have v1' : d_X11_spell_r31d_55 201 a (n : Int) 0 U = _ := v1
        rw [v1']
        have vc : ∀ b : Nat, b ≠ 68 → b ≠ 72 → b ≠ 73 → b ≠ 74 → b ≠ 75 → b ≠ 76 → b ≠ 77 → V.1 b = X.1 b := fun b b1 b2 b3 b4 b5 b6 b7 => (funext fun j => v2 b j b5 b6 b7).trans (yc b b1 b2 b3 b4)
        have vL : ∀ b : Nat, b = 65 ∨ 174 ≤ b → V.2.1 b = X.2.1 b := fun b hb => by rw [v3]; exact (y2 b (by omega)).1
        have vR : ∀ b : Nat, b = 66 ∨ b = 67 ∨ 174 ≤ b → V.2.2.1 b = X.2.2.1 b := fun b hb => by rw [v3]; exact (y2 b (by omega)).2
        have v24 : V.2.2.2 = X.2.2.2 := by rw [v3]; exact y4
        have ev : V.1 32 19 = X.1 32 19 := by rw [vc 32 (by decide) (by decide) (by decide) (by decide) (by decide) (by decide) (by decide)]
        have DV : pD V 32 E.1 := pD_A (fun b b1 b2 => vc b (by omega) (by omega) (by omega) (by omega) (by omega) (by omega) (by omega)) h1.2.1
        have TQ : pTq V 32 E.1 := pTq_c h8 (Or.inl rfl) (by rw [vc 32 (by decide) (by decide) (by decide) (by decide) (by decide) (by decide) (by decide)]) (fun k _ => by rw [vR 66 (by decide)]) (fun b b1 _ => ⟨vc b (by omega) (by omega) (by omega) (by omega) (by omega) (by omega) (by omega), vR b (by omega), by rw [v24]⟩) rfl rg_r h4.1.2.2.2.2.1 h9
        have P : pCp V (E.1, m.2.1 132, m.2.1 133, m.2.1 134, E.2.2.2.2) t w wm := by
          obtain ⟨p1, p2, p3, p4, p5, p6, p7, p8, p9⟩ := h1
          refine ⟨?_, DV, pTq_t TQ, ?_, ?_, by rw [vc 78 (by decide) (by decide) (by decide) (by decide) (by decide) (by decide) (by decide)]; exact p6, by rw [vc 87 (by decide) (by decide) (by decide) (by decide) (by decide) (by decide) (by decide)]; exact p7, fun i hi => by rw [vc 88 (by decide) (by decide) (by decide) (by decide) (by decide) (by decide) (by decide)]; exact p8 i hi, by rw [ev]; exact p9⟩
          · obtain ⟨q1, q2, q3, q4, q5, q6, q7, q8⟩ := p1
            refine ⟨Sr, Ir, In, q4, by rw [vc 78 (by decide) (by decide) (by decide) (by decide) (by decide) (by decide) (by decide)]; exact q5, DV.1 pt_2 (by decide), v4, fun k hk => ?_⟩
            have z : pSl X (E.1, m.2.1 132, m.2.1 133, m.2.1 134, E.2.2.2.2) k := q8 k hk
            unfold pSl at *
            rw [vc 79 (by decide) (by decide) (by decide) (by decide) (by decide) (by decide) (by decide), vc 80 (by decide) (by decide) (by decide) (by decide) (by decide) (by decide) (by decide), vc 81 (by decide) (by decide) (by decide) (by decide) (by decide) (by decide) (by decide)]
            exact z
          · unfold pSu pSt
            rw [vc 1 (by decide) (by decide) (by decide) (by decide) (by decide) (by decide) (by decide), vc 2 (by decide) (by decide) (by decide) (by decide) (by decide) (by decide) (by decide)]
            exact p4
          · exact pSp_n SP (funext fun j => v2 73 j (by decide) (by decide) (by decide)) (funext fun j => v2 74 j (by decide) (by decide) (by decide))
        have mk : ∀ k : Nat, k = 23 ∨ k = 24 ∨ k = 25 ∨ k = 26 ∨ k = 27 ∨ k = 36 → m.2.1 125 k = M.1 125 k := fun k hk => by
          rw [t3 k (by omega) (by omega)]
          rcases hk with rfl | rfl | rfl | rfl | rfl | rfl <;> exact FS.1 125 _ rfl
        have mc : ∀ b : Nat, b = 127 ∨ b = 128 ∨ b = 131 ∨ b = 141 ∨ b = 173 → m.2.1 b = M.1 b := fun b hb => by
          rw [t4 b (by omega) (by omega) (by omega) (by omega)]
          rcases hb with rfl | rfl | rfl | rfl | rfl <;> exact pF_c FS rfl
        have mL : ∀ b k : Nat, b = 129 ∨ b = 130 → m.2.2.1 b k = M.2.1 b k := fun b k hb => by
          rw [t5]
          rcases hb with rfl | rfl
          · exact FS.2.1 129 k rfl
          · exact FS.2.1 130 k rfl
        have Q : pCm m.2 (E.1, m.2.1 132, m.2.1 133, m.2.1 134, E.2.2.2.2) t w wm := by
          obtain ⟨p1, p2, p3, p4⟩ := h3
          refine ⟨?_, ?_, by rw [mk 36 (by decide)]; exact p3, fun i hi => by rw [mc 141 (by decide)]; exact p4 i hi⟩
          · unfold eOf at *
            rw [m126, mk 27 (by decide), ← p1]
          · rw [mk 23 (by decide), mk 24 (by decide), mk 25 (by decide), mk 26 (by decide)]
            exact p2
        have T2 : pTp V m.2 ∧ V.1 68 2 = m.2.1 125 13 := by
          refine ⟨⟨?_, ?_, fun i hi => ?_⟩, ?_⟩
          · rw [v2 68 1 (by decide) (by decide) (by decide), y681, t2]
          · rw [t2]; omega
          · rw [v2 69 i (by decide) (by decide) (by decide), yc 69 (by decide) (by decide) (by decide) (by decide), mc 131 (by decide)]; exact h14.1.2.2 i hi
          · rw [v2 68 2 (by decide) (by decide) (by decide), y682, t3 13 (by decide) (by decide), s13]
        have B : pRb V m.2 (E.1, m.2.1 132, m.2.1 133, m.2.1 134, E.2.2.2.2) t w wm S := ⟨P, Q, iv_q (q := E.2) h4 (pEv_i.mp h4.1).2.2.2.2.2.2.2.2.1, h5, ws_f (fun b hb => vc b (by omega) (by omega) (by omega) (by omega) (by omega) (by omega) (by omega)) h6, fun b k T hb hT => by rw [vR b (by omega)] at hT; rw [v24] at hb ⊢; exact h8 b k T hb hT, TQ, fun k => by rw [vL 65 (by decide)]; exact h10 k, fun k => (mL 129 k (Or.inl rfl)).trans (h11 k), by rw [vc 123 (by decide) (by decide) (by decide) (by decide) (by decide) (by decide) (by decide), mc 173 (by decide)]; exact h12, T2, ri_f h17 h8 (fun b b1 _ => ⟨vc b (by omega) (by omega) (by omega) (by omega) (by omega) (by omega) (by omega), vL b (by omega), vR b (by omega), by rw [v24]⟩) (vR 67 (by decide)) (vR 66 (by decide)) (by rw [v24]; exact Nat.le_refl _) (mc 127 (by decide)) (mc 128 (by decide)) (funext fun k => mL 130 k (Or.inr rfl))⟩
        have A2 := ra_a (X1 := V) (M1 := m.2) H hv B (fun z hz => by
          have := kyl_c hz
          rw [vc z.1 (by omega) (by omega) (by omega) (by omega) (by omega) (by omega) (by omega)]
          exact H.2.2.2.2 z hz)
        unfold pAx at A2
        rw [vu_id t1, ← ev] at A2
        exact ⟨(m1.trans r3).symm, _, t, w, wm, S, A2⟩
end
end jG141

section jG142
/-! pure: text. Both answers by what they leave (txX, txM): the new TEXT's cells, the loops that copy it have no print of their own -/
def xT0 (X : jW) : jW := d_X9_step_r68d (vu (vu (vu (vu (vu X 95 3 0) 95 4 0) 95 5 0) 68 2 (-1)) 68 4 0)
def xTr (X : jW) : Int × jW := gRd 13 0 (xT0 X)
def mT0 (M : jW) : jW := vu (vu (vu (mBg (vu M 125 0 0)) 125 47 0) 125 49 0) 125 52 0
def mTr (M : jW) : jW := mRe (mRd 401 (d_X12_readClause_r125d (mT0 M)))
def txG (a1 a2 a3 : Int) : Prop := (0 ≤ a1 ∧ a1 ≤ 1) ∧ (0 ≤ a2 ∧ a2 ≤ 146399) ∧ (0 ≤ a3 ∧ a3 ≤ 146399)
/-- the class makes a TEXT: Y where it was read, Z where it is told -/
def txS (s f k n : Int) (Y Z : jW) : Prop := ∃ T hd cd : Nat, ((174 ≤ T ∧ 174 ≤ hd ∧ 174 ≤ cd) ∧ (Y.2.2.2.2 ≤ T ∧ Y.2.2.2.2 ≤ hd ∧ Y.2.2.2.2 ≤ cd) ∧ (T < Z.2.2.2.2 ∧ hd < Z.2.2.2.2 ∧ cd < Z.2.2.2.2)) ∧ (Z.1 T 0 = s ∧ Z.1 T 1 = f ∧ Z.1 T 2 = k ∧ Z.1 T 3 = Y.1 95 3 ∧ Z.2.2.1 T 4 = some hd ∧ Z.2.2.1 T 5 = some cd) ∧ (∀ j : Nat, (j : Int) < Y.1 95 3 * 6 → Z.1 hd j = Y.1 96 j) ∧ (((Z.2.2.2.1 cd).2 : Nat) : Int) = Y.1 95 4 ∧ (∀ j : Nat, (j : Int) < Y.1 95 4 → Z.1 cd j = Y.1 97 j) ∧ (∀ c j : Nat, c < 174 → ¬ (c = 68 ∧ j = 1) → ¬ (c = 32 ∧ j = 18) → Z.1 c j = Y.1 c j) ∧ (Z.1 68 1 = 0 ∧ Z.1 32 18 = n + 1) ∧ (Z.2.2.1 66 n.toNat = some T ∧ ∀ j : Nat, j ≠ n.toNat → Z.2.2.1 66 j = Y.2.2.1 66 j) ∧ (Z.2.2.1 67 = Y.2.2.1 67 ∧ Z.2.1 65 = Y.2.1 65) ∧ (∀ c : Nat, 174 ≤ c → c < Y.2.2.2.2 → Z.1 c = Y.1 c ∧ Z.2.1 c = Y.2.1 c ∧ Z.2.2.1 c = Y.2.2.1 c ∧ Z.2.2.2.1 c = Y.2.2.2.1 c) ∧ Y.2.2.2.2 ≤ Z.2.2.2.2 ∧ (∀ c j U : Nat, Y.2.2.2.2 ≤ c → 174 ≤ c → c < Z.2.2.2.2 → Z.2.2.1 c j = some U → U < Z.2.2.2.2) ∧ ∀ i U : Nat, Z.2.2.1 T i = some U → U = hd ∨ U = cd
def txX (a1 a2 a3 : Int) (X : jW) (x : Int × jW) : Prop := (¬ txG a1 a2 a3 ∧ x = (-1, vu (vu X 68 1 0) 31 12 (-1))) ∨ (txG a1 a2 a3 ∧ ((30 ≤ X.1 32 18 ∧ x = (-5, vu (vu X 68 1 0) 31 12 (-5))) ∨ (X.1 32 18 < 30 ∧ (((xTr X).1 = 0 ∧ x = (-6, vu (vu (xTr X).2 68 1 0) 31 12 (-6))) ∨ ((xTr X).1 ≠ 0 ∧ ∃ Z : jW, txS a1 a2 a3 (X.1 32 18) (xTr X).2 Z ∧ x = (X.1 32 18, pAx X (d_X8_add_r63d 1 (X.1 32 18) 0 0 0 0 Z)))))))
/-- the reference copies the TEXT into its row -/
def txT (a1 a2 a3 : Int) (T V : jW) : Prop := (V.1 125 1 = 0 ∧ V.1 125 8 = 0 ∧ ∀ k : Nat, k ≠ 1 → k ≠ 8 → V.1 125 k = T.1 125 k) ∧ (∀ c : Nat, c ≠ 125 → c ≠ 126 → V.1 c = T.1 c) ∧ V.2 = T.2 ∧ (V.1 126 (18820 + 924 * T.1 126 4).toNat = a1 ∧ V.1 126 (18820 + 924 * T.1 126 4 + 1).toNat = a2 ∧ V.1 126 (18820 + 924 * T.1 126 4 + 2).toNat = a3 ∧ V.1 126 (18820 + 924 * T.1 126 4 + 3).toNat = T.1 125 47) ∧ (∀ k : Nat, (k : Int) < 10 * T.1 125 47 → V.1 126 (18820 + 924 * T.1 126 4 + 4 + k).toNat = T.1 147 k) ∧ (∀ k : Nat, (k : Int) < T.1 125 49 → V.1 126 (18820 + 924 * T.1 126 4 + 124 + 2 * k).toNat = T.1 148 k ∧ V.1 126 (18820 + 924 * T.1 126 4 + 124 + 2 * k + 1).toNat = T.1 149 k) ∧ V.1 126 4 = T.1 126 4 + 1 ∧ V.1 126 16 = T.1 126 16 + 1 ∧ (V.1 126 (49920 + 2 * T.1 126 16).toNat = 1 ∧ V.1 126 (49920 + 2 * T.1 126 16 + 1).toNat = T.1 126 4) ∧ ∀ j : Nat, j ≠ 4 → j ≠ 16 → ((j : Int) < 18820 + 924 * T.1 126 4 ∨ 18820 + 924 * T.1 126 4 + 924 ≤ (j : Int)) → ((j : Int) < 49920 + 2 * T.1 126 16 ∨ 49920 + 2 * T.1 126 16 + 2 ≤ (j : Int)) → V.1 126 j = T.1 126 j
def txM (a1 a2 a3 : Int) (M : jW) (m : Int × jW) : Prop := (¬ txG a1 a2 a3 ∧ m = (-1, vu (vu (vu M 125 0 0) 125 8 0) 125 1 (-1))) ∨ (txG a1 a2 a3 ∧ ((M.1 126 4 = 30 ∧ m = (-5, vu (vu (vu M 125 0 0) 125 8 0) 125 1 (-5))) ∨ (M.1 126 4 ≠ 30 ∧ (((mTr M).1 125 14 ≠ 0 ∧ m = (-6, vu (vu (mTr M) 125 8 0) 125 1 (-6))) ∨ ((mTr M).1 125 14 = 0 ∧ m.1 = (mTr M).1 126 4 ∧ txT a1 a2 a3 (mTr M) m.2)))))
/-! reading -/
theorem rd_F : ∀ (r : Nat) (W : jW), pF fw_X12_readClause_r125d W (mRd r W) := by
  intro r
  induction r with
  | zero => intro W; exact pF_r
  | succ r ih =>
    intro W
    exact pF_i (pF_i (pF_i (pF_t (pF_t (pF_m rfl (fr_d_X12_next_r125d W)) (fr_d_X12_readClause_r125d _)) (ih _)) pF_r) pF_r) pF_r
theorem rd_jk : ∀ (r : Nat) (W : jW), pJk W (mRd r W) := by
  intro r
  induction r with
  | zero => intro W; exact jk_r
  | succ r ih =>
    intro W
    exact jk_i (jk_i (jk_i (jk_t (jk_t (jk_F (fr_d_X12_next_r125d W) rfl) (jk_d_X12_readClause_r125d _)) (ih _)) jk_r) jk_r) jk_r
def fw_Tr : List (Nat × Nat) := [(125, 1), (125, 10), (125, 11), (125, 12), (125, 13), (125, 14), (125, 15), (125, 48), (125, 50), (125, 53), (125, 56), (125, 57), (147, 0), (148, 0), (149, 0), (150, 0), (151, 0)]
theorem mtr_F (M : jW) : pF fw_Tr M (mTr M) := by
  have a : pF fw_Tr M (mT0 M) := pF_u (pF_u (pF_u (pF_t (pF_u pF_r rfl) (pF_m (by decide) (bg_F _))) rfl) rfl) rfl
  exact pF_t a (pF_t (pF_t (pF_m (by decide) (fr_d_X12_readClause_r125d _)) (pF_m (by decide) (rd_F 401 _))) (re_F rfl rfl _))
theorem mtr_13 (M : jW) (h : (mTr M).1 125 14 = 0) : (mTr M).1 125 13 = -1 := by
  have b := bg_14 (vu M 125 0 0)
  have a : (mT0 M).1 125 13 = -1 := (vu_n (by omega)).trans ((vu_n (by omega)).trans ((vu_n (by omega)).trans b.2))
  have j : pJk (mT0 M) (mTr M) := jk_t (jk_t (jk_d_X12_readClause_r125d _) (rd_jk 401 _)) (re_jk _)
  exact (j h).2.trans a
def fw_Gr : List (Nat × Nat) := [(68, 3), (68, 4), (68, 5), (68, 6), (95, 4), (95, 5), (95, 6), (96, 0), (97, 0)]
theorem gr_F : ∀ (r : Nat) (n : Int) (W : jW), pF fw_Gr W (gRd r n W).2 := by
  intro r
  induction r with
  | zero => intro n W; exact pF_r
  | succ r ih =>
    intro n W
    have a : pF fw_Gr W (d_X2_readClause_r95d (vu W 95 3 (n + 1))).2 := pF_t (pF_u pF_r rfl) (pF_m (by decide) (fr_d_X2_readClause_r95d _))
    exact pF_i2 (pF_u pF_r rfl) (pF_i2 a (pF_i2 a (pF_i2 (pF_u a rfl) (pF_t (pF_t a (pF_m (by decide) (fr_d_X9_step_r68d _))) (ih _ _)))))
theorem gr_k : ∀ (r : Nat) (n : Int) (W : jW), pFk W (gRd r n W) := by
  intro r
  induction r with
  | zero => intro n W; exact fk_0
  | succ r ih =>
    intro n W
    have a : ¬ (d_X2_readClause_r95d (vu W 95 3 (n + 1))).1 = 0 → (d_X2_readClause_r95d (vu W 95 3 (n + 1))).2.1 68 2 = W.1 68 2 := fun h => ((fk_d_X2_readClause_r95d (vu W 95 3 (n + 1))).resolve_left h).trans (vu_n (by omega))
    exact fk_i (fun _ => fk_0) (fun _ => fk_i (fun _ => fk_0) (fun h => fk_i (fun _ => fk_1 (a h)) (fun _ => fk_i (fun _ => fk_0) (fun _ => fk_t (((fr_d_X9_step_r68d _).1 68 2 rfl).trans (a h)) (ih _ _)))))
theorem xtr_F (X : jW) : pF fw_Gr X (xTr X).2 := pF_t (pF_t (pF_u (pF_u (pF_u (pF_u (pF_u pF_r rfl) rfl) rfl) rfl) rfl) (pF_m (by decide) (fr_d_X9_step_r68d _))) (gr_F 13 0 _)
theorem xtr_2 (X : jW) (h : (xTr X).1 ≠ 0) : (xTr X).2.1 68 2 = -1 := by
  have a : (xT0 X).1 68 2 = -1 := ((fr_d_X9_step_r68d _).1 68 2 rfl).trans ((vu_n (by omega)).trans (vu_e rfl))
  exact ((gr_k 13 0 (xT0 X)).resolve_left h).trans a
theorem tr_re {X M : jW} (h : pTp X M) (ws : pS4 X ∧ pWs X) : pRe (xTr X) (mTr M) := by
  have u1 : (vu (vu (vu (vu (vu X 95 3 0) 95 4 0) 95 5 0) 68 2 (-1)) 68 4 0).1 68 1 = X.1 68 1 := by repeat rw [vu_n (by omega)]
  have u4 : (vu (vu (vu (vu (vu X 95 3 0) 95 4 0) 95 5 0) 68 2 (-1)) 68 4 0).1 68 4 = 0 := vu_e rfl
  have u9 : (vu (vu (vu (vu (vu X 95 3 0) 95 4 0) 95 5 0) 68 2 (-1)) 68 4 0).1 69 = X.1 69 := by repeat rw [vu_c (by decide)]
  have u54 : (vu (vu (vu (vu (vu X 95 3 0) 95 4 0) 95 5 0) 68 2 (-1)) 68 4 0).1 95 4 = 0 := by rw [vu_n (by omega), vu_n (by omega), vu_n (by omega)]; exact vu_e rfl
  have u55 : (vu (vu (vu (vu (vu X 95 3 0) 95 4 0) 95 5 0) 68 2 (-1)) 68 4 0).1 95 5 = 0 := by rw [vu_n (by omega), vu_n (by omega)]; exact vu_e rfl
  have uw : ∀ b : Nat, b < 31 → (vu (vu (vu (vu (vu X 95 3 0) 95 4 0) 95 5 0) 68 2 (-1)) 68 4 0).1 b = X.1 b := fun b hb => by repeat rw [vu_c (by omega)]
  have m8 : (vu (vu (vu (vu M 125 0 0) 125 10 0) 125 14 0) 125 13 (-1)).1 125 8 = M.1 125 8 := by repeat rw [vu_n (by omega)]
  have m10 : (vu (vu (vu (vu M 125 0 0) 125 10 0) 125 14 0) 125 13 (-1)).1 125 10 = 0 := by rw [vu_n (by omega), vu_n (by omega)]; exact vu_e rfl
  have mb : (vu (vu (vu (vu M 125 0 0) 125 10 0) 125 14 0) 125 13 (-1)).1 131 = M.1 131 := by repeat rw [vu_c (by decide)]
  have hp : pTp (vu (vu (vu (vu (vu X 95 3 0) 95 4 0) 95 5 0) 68 2 (-1)) 68 4 0) (vu (vu (vu (vu M 125 0 0) 125 10 0) 125 14 0) 125 13 (-1)) := tp_c u1 u9 m8 mb h
  have k0 : pTk (xT0 X) (mBg (vu M 125 0 0)) := tk_n hp (by rw [u4, m10]) (by omega) (by have := hp.2.1; omega)
  have b14 := bg_14 (vu M 125 0 0)
  have G := fr_d_X9_step_r68d (vu (vu (vu (vu (vu X 95 3 0) 95 4 0) 95 5 0) 68 2 (-1)) 68 4 0)
  have x4 : (xT0 X).1 95 4 = 0 := (G.1 95 4 rfl).trans u54
  have x5 : (xT0 X).1 95 5 = 0 := (G.1 95 5 rfl).trans u55
  have xw : pWs (xT0 X) := (ws_f (X := X) (Y := xT0 X) (fun b hb => by
    refine (funext fun k => G.1 b k ?_).trans (uw b hb)
    exact pc_any (by
      cases g : (fw_X9_step_r68d.any fun q : Nat × Nat => Nat.beq q.1 b) with
      | false => rfl
      | true =>
        exfalso
        unfold fw_X9_step_r68d at g
        rw [List.any_eq_true] at g
        obtain ⟨p, p1, p2⟩ := g
        have z := Nat.eq_of_beq_eq_true p2
        simp only [List.mem_cons, List.not_mem_nil, or_false] at p1
        rcases p1 with rfl | rfl | rfl <;> (change _ = b at z; omega)) k) ws).2
  have n : ∀ k : Nat, k ≠ 47 → k ≠ 49 → k ≠ 52 → (mT0 M).1 125 k = (mBg (vu M 125 0 0)).1 125 k := fun k h1 h2 h3 => (vu_n (by omega)).trans ((vu_n (by omega)).trans (vu_n (by omega)))
  have n47 : (mT0 M).1 125 47 = 0 := (vu_n (by omega)).trans ((vu_n (by omega)).trans (vu_e rfl))
  have n49 : (mT0 M).1 125 49 = 0 := (vu_n (by omega)).trans (vu_e rfl)
  have n52 : (mT0 M).1 125 52 = 0 := vu_e rfl
  have nb : (mT0 M).1 131 = (mBg (vu M 125 0 0)).1 131 := (vu_c (by decide)).trans ((vu_c (by decide)).trans (vu_c (by decide)))
  have n2 : (mT0 M).2 = (mBg (vu M 125 0 0)).2 := rfl
  have k : pTk (xT0 X) (mT0 M) := by
    obtain ⟨k1, k2, k3, k4, k5, k6⟩ := k0
    refine ⟨tp_c rfl rfl (n 8 (by decide) (by decide) (by decide)) nb k1, ?_, ?_, ?_, ?_, ?_⟩
    · rw [n 9 (by decide) (by decide) (by decide)]; exact k2
    · rw [n 10 (by decide) (by decide) (by decide)]; exact k3
    · rw [n 11 (by decide) (by decide) (by decide)]; exact k4
    · rw [n 8 (by decide) (by decide) (by decide), n 9 (by decide) (by decide) (by decide), n 10 (by decide) (by decide) (by decide)]; exact k5
    · rw [n 8 (by decide) (by decide) (by decide), n 9 (by decide) (by decide) (by decide), n 10 (by decide) (by decide) (by decide), n 11 (by decide) (by decide) (by decide), nb, n2]; exact k6
  have k9 := k.2.2.2.2.1
  have B : pB (xT0 X) (mT0 M) (0, (mT0 M).1 148, (mT0 M).1 149) := ⟨k, ⟨n49, rfl, rfl⟩, (n 14 (by decide) (by decide) (by decide)).trans b14.1, by rw [x5, n52], by rw [n52]; omega, ⟨Int.le_refl 0, by show (0 : Int) ≤ (mT0 M).1 125 9; omega⟩, xw, by rw [x4]; omega⟩
  exact rd_e 13 (xT0 X) (mT0 M) _ 0 13 401 (by omega) B n47 (by omega) (by omega) (by omega) (fun i h1 h2 => by exfalso; omega)
/-! the row's invariants: a TEXT more -/
def pIxt (r : Nat → Int) (t : Int) : Prop := (0 ≤ r ((18820 + (924 * t)) + 3).toNat ∧ r ((18820 + (924 * t)) + 3).toNat ≤ 12) ∧ (r (18820 + (924 * t)).toNat = 0 ∨ r (18820 + (924 * t)).toNat = 1) ∧ ∀ c : Int, 0 ≤ c → c < r ((18820 + (924 * t)) + 3).toNat → (r (((18820 + (924 * t)) + 4) + (10 * c)).toNat = 0 → 0 ≤ r ((((18820 + (924 * t)) + 4) + (10 * c)) + 2).toNat ∧ r ((((18820 + (924 * t)) + 4) + (10 * c)) + 2).toNat ≤ 29 ∧ 0 ≤ r ((((18820 + (924 * t)) + 4) + (10 * c)) + 3).toNat ∧ r ((((18820 + (924 * t)) + 4) + (10 * c)) + 3).toNat ≤ 11) ∧ (0 ≤ r (((18820 + (924 * t)) + 4) + (10 * c)).toNat ∧ r (((18820 + (924 * t)) + 4) + (10 * c)).toNat ≤ 8) ∧ (r (((18820 + (924 * t)) + 4) + (10 * c)).toNat = 1 → 0 ≤ r ((((18820 + (924 * t)) + 4) + (10 * c)) + 1).toNat ∧ r ((((18820 + (924 * t)) + 4) + (10 * c)) + 1).toNat ≤ 5) ∧ (r (((18820 + (924 * t)) + 4) + (10 * c)).toNat = 6 → 0 ≤ r ((((18820 + (924 * t)) + 4) + (10 * c)) + 2).toNat ∧ r ((((18820 + (924 * t)) + 4) + (10 * c)) + 2).toNat ≤ 1000000)
theorem ix_t {r : Nat → Int} {t : Int} (h : pIx r) (h0 : 0 ≤ t) (h1 : t < r 4) : pIxt r t := by
  obtain ⟨⟨l1, l2, l3⟩, k1, i1, i2, i6⟩ := h
  have y := l3 t h0 h1
  exact ⟨⟨y.1, y.2.1⟩, i2 t h0 h1, fun c c0 c1 => ⟨y.2.2 c c0 c1, k1 t h0 h1 c c0 c1, i1 t c h0 h1 c0 c1, i6 t c h0 h1 c0 c1⟩⟩
theorem ix_r {r : Nat → Int} (h4 : 0 ≤ r 4 ∧ r 4 ≤ 30) (h : ∀ t : Int, 0 ≤ t → t < r 4 → pIxt r t) : pIx r := ⟨⟨h4.1, h4.2, fun t a b => ⟨(h t a b).1.1, (h t a b).1.2, fun c c0 c1 => ((h t a b).2.2 c c0 c1).1⟩⟩, fun t a b c c0 c1 => ((h t a b).2.2 c c0 c1).2.1, fun t c a b c0 c1 => ((h t a b).2.2 c c0 c1).2.2.1, fun t a b => (h t a b).2.1, fun t c a b c0 c1 => ((h t a b).2.2 c c0 c1).2.2.2⟩
theorem ixt_m {r s : Nat → Int} {t : Int} (ht : 0 ≤ t) (g : ∀ j : Nat, 18820 + 924 * t ≤ (j : Int) → (j : Int) < 18820 + 924 * t + 924 → s j = r j) (h : pIxt r t) : pIxt s t := by
  obtain ⟨a, b, c⟩ := h
  have g3 := g ((18820 + (924 * t)) + 3).toNat (by omega) (by omega)
  refine ⟨by rw [g3]; exact a, by rw [g _ (by omega) (by omega)]; exact b, fun k k0 k1 => ?_⟩
  rw [g3] at k1
  rw [g (((18820 + (924 * t)) + 4) + (10 * k)).toNat (by omega) (by omega), g ((((18820 + (924 * t)) + 4) + (10 * k)) + 1).toNat (by omega) (by omega), g ((((18820 + (924 * t)) + 4) + (10 * k)) + 2).toNat (by omega) (by omega), g ((((18820 + (924 * t)) + 4) + (10 * k)) + 3).toNat (by omega) (by omega)]
  exact c k k0 k1
section
variable {r s : Nat → Int} {q : (Nat → Int) × (Nat → Int) × (Nat → Int) × Int} {t : jT} {w : Nat} {wm : Nat → Nat}
theorem iv_text {n : Nat} (I : pIv (r, q) t w wm) (hn : r 4 = (n : Int)) (h30 : n < 30) (o : ∀ j : Nat, j ≠ 4 → j ≠ 16 → (j < 18820 + 924 * n ∨ 18820 + 924 * n + 924 ≤ j) → j < 49920 → s j = r j) (c4 : s 4 = (n : Int) + 1) (c16 : s 16 = r 16 + 1) (T : pIt s) (N : pIxt s (n : Int)) : pIv (s, q) t w wm := by
  obtain ⟨V, Ew, Ir, In, Bd⟩ := I
  obtain ⟨j0, f0, h0, s0, tx0, t0, e0, p0, _, _, _, b0⟩ := pEv_i.mp V
  have bs1 : 0 ≤ r 7 ∧ r 7 ≤ 40 := s0.1
  have bs2 : 0 ≤ r 9 ∧ r 9 ≤ r 7 := s0.2.1
  change 0 ≤ r 0 ∧ r 0 ≤ 200 at b0
  change pBnd r at Bd
  unfold pBnd at Bd
  have R : ∀ j : Nat, (j < 18820 ∨ 46540 ≤ j) → j ≠ 4 → j ≠ 16 → j < 49920 → s j = r j := fun j h1 h2 h3 h4 => o j h2 h3 (by omega) h4
  have c00 := R 0 (by omega) (by omega) (by omega) (by omega)
  have X : pIx s := ix_r (by omega) (fun u u0 u1 => by
    by_cases z : u = (n : Int)
    · rw [z]; exact N
    · exact ixt_m u0 (fun j j1 j2 => o j (by omega) (by omega) (by omega) (by omega)) (ix_t tx0 u0 (by omega)))
  refine ⟨ev_c V c00 (fun j j1 j2 => R j (by omega) (by omega) (by omega) (by omega)) (tr_j (R 2 (by omega) (by omega) (by omega) (by omega)) (by omega) (fun j j1 j2 => R j (by omega) (by omega) (by omega) (by omega)) j0) (tr_f (R 5 (by omega) (by omega) (by omega) (by omega)) (by omega) (fun j j1 j2 => R j (by omega) (by omega) (by omega) (by omega)) f0) (sa_h (R 8 (by omega) (by omega) (by omega) (by omega)) (R 10 (by omega) (by omega) (by omega) (by omega)) (by omega) (by rw [R 7 (by omega) (by omega) (by omega) (by omega)]; omega) (R 9 (by omega) (by omega) (by omega) (by omega)) (by omega) (fun j j1 j2 => R j (by omega) (by omega) (by omega) (by omega)) h0) (tr_s (by rw [R 7 (by omega) (by omega) (by omega) (by omega)]; omega) (R 9 (by omega) (by omega) (by omega) (by omega)) (fun j j1 j2 => R j (by omega) (by omega) (by omega) (by omega)) s0) X T (tr_e ⟨R 13 (by omega) (by omega) (by omega) (by omega), by omega⟩ ⟨R 14 (by omega) (by omega) (by omega) (by omega), by omega⟩ (fun j j1 j2 => R j (by omega) (by omega) (by omega) (by omega)) e0) (tr_p ⟨R 15 (by omega) (by omega) (by omega) (by omega), by omega⟩ (fun j j1 j2 => R j (by omega) (by omega) (by omega) (by omega)) p0), tr_w c00 (by omega) (R 3 (by omega) (by omega) (by omega) (by omega)) (R 6 (by omega) (by omega) (by omega) (by omega)) (R 11 (by omega) (by omega) (by omega) (by omega)) (R 12 (by omega) (by omega) (by omega) (by omega)) (fun j j1 j2 => R j (by omega) (by omega) (by omega) (by omega)) (fun j j1 j2 => R j (by omega) (by omega) (by omega) (by omega)) (fun j j1 j2 => R j (by omega) (by omega) (by omega) (by omega)) Ew, tr_r c00 (by omega) (fun j j1 j2 => R j (by omega) (by omega) (by omega) (by omega)) Ir, tr_n c00 (by omega) (fun j j1 j2 => R j (by omega) (by omega) (by omega) (by omega)) In, ?_⟩
  show pBnd s
  unfold pBnd
  rw [R 1 (by omega) (by omega) (by omega) (by omega), R 13 (by omega) (by omega) (by omega) (by omega), R 14 (by omega) (by omega) (by omega) (by omega), R 15 (by omega) (by omega) (by omega) (by omega), c16, c4, c00, R 5 (by omega) (by omega) (by omega) (by omega), R 7 (by omega) (by omega) (by omega) (by omega)]
  exact ⟨Bd.1, Bd.2.1, Bd.2.2.1, Bd.2.2.2.1, by have := Bd.2.2.2.2; omega⟩
end
end jG142

section jG143
/-! pure: text, told -/
section
variable {v : Int} {X Y M N : jW} {E : pE} {t : jT} {w : Nat} {wm : Nat → Nat} {S : Nat → Int}
/-- refused before reading -/
theorem ra_z {e : Int} (H : pRa v X M E t w wm S) : pRa v (vu (vu X 68 1 0) 31 12 e) (vu (vu (vu M 125 0 0) 125 8 0) 125 1 e) E t w wm S := by
  have h14 := H.1.2.2.2.2.2.2.2.2.2.2.1
  have T := tp_z (e := e) (f := e) (pTp_m (k := 0) (x := 0) h14.1 (by decide))
  exact ra_t2 (l := [(31, 13), (68, 0)]) H (pF_u (pF_v pF_r rfl) rfl) rfl ⟨fun c hc => (vu_c (by omega)).trans ((vu_c (by omega)).trans (vu_c (by omega))), fun k hk => (vu_n (by omega)).trans ((vu_n (by omega)).trans (vu_n (by omega))), fun _ _ _ => rfl⟩ ⟨T, by rw [vu_n (by omega), vu_n (by omega), vu_n (by omega), vu_n (by omega), vu_n (by omega)]; exact h14.2⟩ (by rw [vu_e rfl, vu_e rfl])
/-- a row that changes in TEXTS alone -/
theorem pD_tx {r s : Nat → Int} (D : pD X 32 r) (o : ∀ j : Nat, j ≠ 4 → (j < 18820 ∨ 46540 ≤ j) → s j = r j) : pD X 32 s := by
  refine ⟨fun t ht => ?_, pNm_e rfl rfl (fun j hj => o j (by omega) (by omega)) D.2.1, pBo_e rfl rfl (fun j hj => o j (by omega) (by omega)) D.2.2.1, pHo_e rfl rfl (fun j hj => o j (by omega) (by omega)) D.2.2.2⟩
  have k1 : (pTs.all fun t => (rok 4 18820 46540 t && pok t)) = true := by decide
  have k2 := List.all_eq_true.1 k1 t ht
  simp only [Bool.and_eq_true] at k2
  exact pT_m (c := 4) (lo := 18820) (hi := 46540) o k2.1 k2.2 (D.1 t ht)
/-- one TEXT -/
def pTq1 (X : jW) (A : Nat) (r : Nat → Int) (t : Int) : Prop := ∃ T hd cd : Nat, X.2.2.1 (A + 34) t.toNat = some T ∧ pTe X r t T hd ∧ 174 ≤ cd ∧ X.2.2.1 T 5 = some cd ∧ ∀ c : Int, 0 ≤ c → c < r ((18820 + (924 * t)) + 3).toNat → r (((18820 + (924 * t)) + 4) + (10 * c)).toNat ≠ 0 →
  pCcq (X.1 hd) (X.1 cd) (((X.2.2.2.1 cd).2 : Nat) : Int) r t c 3 (r ((((18820 + (924 * t)) + 4) + (10 * c)) + 4).toNat) (r ((((18820 + (924 * t)) + 4) + (10 * c)) + 5).toNat) False ∧
  pCcq (X.1 hd) (X.1 cd) (((X.2.2.2.1 cd).2 : Nat) : Int) r t c 4 (r ((((18820 + (924 * t)) + 4) + (10 * c)) + 6).toNat) (r ((((18820 + (924 * t)) + 4) + (10 * c)) + 7).toNat) True ∧
  pCcq (X.1 hd) (X.1 cd) (((X.2.2.2.1 cd).2 : Nat) : Int) r t c 5 (r ((((18820 + (924 * t)) + 4) + (10 * c)) + 8).toNat) (r ((((18820 + (924 * t)) + 4) + (10 * c)) + 9).toNat) True
theorem tq1_c {A B : Nat} {r s : Nat → Int} {t : Int} (N : pNxt X) (hA : A = 32 ∨ (174 ≤ A ∧ A + 34 < X.2.2.2.2)) (h0 : 0 ≤ t) (x3 : Y.2.2.1 (B + 34) t.toNat = X.2.2.1 (A + 34) t.toNat) (xc : ∀ c : Nat, 174 ≤ c → c < X.2.2.2.2 → Y.1 c = X.1 c ∧ Y.2.2.1 c = X.2.2.1 c ∧ Y.2.2.2.1 c = X.2.2.2.1 c) (gt : ∀ j : Nat, 18820 + 924 * t ≤ (j : Int) → (j : Int) < 18820 + 924 * t + 924 → s j = r j) (l3 : r ((18820 + (924 * t)) + 3).toNat ≤ 12) (h : pTq1 X A r t) : pTq1 Y B s t := by
  obtain ⟨T, hd, cd, q1, ⟨r1, r2, r3, r4, r5, r6, r7, r8⟩, q3, q4, q5⟩ := h
  have g3 : s ((18820 + (924 * t)) + 3).toNat = r ((18820 + (924 * t)) + 3).toNat := gt _ (by omega) (by omega)
  have lT := N _ _ _ (by omega) q1
  have eT := xc T r1 lT
  have eh := xc hd r2 (N _ _ _ (Or.inr ⟨r1, lT⟩) r7)
  have ed := xc cd q3 (N _ _ _ (Or.inr ⟨r1, lT⟩) q4)
  refine ⟨T, hd, cd, by rw [x3]; exact q1, ⟨r1, r2, ?_, ?_, ?_, ?_, by rw [eT.2.1]; exact r7, fun c ca cb => ?_⟩, q3, by rw [eT.2.1]; exact q4, fun c ca cb cn => ?_⟩
  · rw [eT.1, gt _ (by omega) (by omega)]; exact r3
  · rw [eT.1, gt _ (by omega) (by omega)]; exact r4
  · rw [eT.1, gt _ (by omega) (by omega)]; exact r5
  · rw [eT.1, gt _ (by omega) (by omega)]; exact r6
  · rw [g3] at cb
    rw [eh.1]
    have z := r8 c ca cb
    unfold pHe at z ⊢
    rw [gt (((18820 + (924 * t)) + 4) + (10 * c)).toNat (by omega) (by omega), gt ((((18820 + (924 * t)) + 4) + (10 * c)) + 1).toNat (by omega) (by omega), gt ((((18820 + (924 * t)) + 4) + (10 * c)) + 2).toNat (by omega) (by omega), gt ((((18820 + (924 * t)) + 4) + (10 * c)) + 3).toNat (by omega) (by omega)]
    exact z
  · rw [g3] at cb
    rw [gt (((18820 + (924 * t)) + 4) + (10 * c)).toNat (by omega) (by omega)] at cn
    have z := q5 c ca cb cn
    have gc : ∀ j : Nat, 18944 + 924 * t ≤ (j : Int) → (j : Int) < 19744 + 924 * t → s j = r j := fun j h1 h2 => gt j (by omega) (by omega)
    rw [eh.1, ed.1, ed.2.2, gt ((((18820 + (924 * t)) + 4) + (10 * c)) + 4).toNat (by omega) (by omega), gt ((((18820 + (924 * t)) + 4) + (10 * c)) + 5).toNat (by omega) (by omega), gt ((((18820 + (924 * t)) + 4) + (10 * c)) + 6).toNat (by omega) (by omega), gt ((((18820 + (924 * t)) + 4) + (10 * c)) + 7).toNat (by omega) (by omega), gt ((((18820 + (924 * t)) + 4) + (10 * c)) + 8).toNat (by omega) (by omega), gt ((((18820 + (924 * t)) + 4) + (10 * c)) + 9).toNat (by omega) (by omega)]
    exact ⟨ccq_m h0 gc z.1, ccq_m h0 gc z.2.1, ccq_m h0 gc z.2.2⟩
/-- a piece of what was read is a piece of what is told -/
theorem cq_q {h cd h2 cd2 n s : Nat → Int} {L t c y j a b : Int} {g : yC} {ts : Prop} (ht : 0 ≤ t) (P : pCq h cd L n g c y j ts) (eh : h2 (c * 6 + y).toNat = h (c * 6 + y).toNat) (ec : ∀ i : Nat, (i : Int) < L → cd2 i = cd i) (hL : L ≤ 1200) (ea : a = n (10 * c + j).toNat) (eb : b = n (10 * c + j + 1).toNat) (hg : g.1 ≤ 400) (es : ∀ i : Int, 0 ≤ i → i < g.1 → oR s t i = g.2.1 i.toNat ∧ aR s t i = g.2.2 i.toNat) : pCcq h2 cd2 L s t c y a b ts := by
  rcases P with ⟨p1, p2⟩ | ⟨e, m, p1, p2, p3, p4, p5⟩
  · exact Or.inl ⟨by rw [eh]; exact p1, by omega⟩
  · have l := pPc_l p1
    have z := yPc_c (ce := cd2) (c2 := g) (n := g.1) p1 (fun i hi => ec i (by omega)) yUp_r p5
    refine Or.inr ⟨e, m, fun q hq => ?_, (ec e.toNat (by omega)).trans p2, p3, hL, by omega, by omega⟩
    rw [eh, ea, eb]
    obtain ⟨u, u1, ⟨k0, k1, u2⟩, u3⟩ := z q hq
    refine ⟨u, u1, ⟨k0, k1, fun r2 t2 last v0 h2 => u2 r2 t2 last v0 (fun i h3 h4 => ?_)⟩, u3⟩
    have y1 := h2 i h3 h4
    have y2 := es i (by omega) (by omega)
    exact ⟨y1.1.trans y2.1, y1.2.trans y2.2⟩
theorem q_text {a1 a2 a3 : Int} {x m : Int × jW} (H : pR v X M) (hv : v < 2147483646) (hx : txX a1 a2 a3 X x) (hm : txM a1 a2 a3 M m) : x.1 = m.1 ∧ pR (v + 1) x.2 m.2 := by
  obtain ⟨E, t, w, wm, S, H⟩ := H
  have bb := rb_b H.1
  have e := cm_126 H.1.2.1
  obtain ⟨h1, h3, h4, h5, h6, h8, h9, h10, h11, h12, h14, h17⟩ := id H.1
  have e18 : X.1 32 18 = E.1 4 := h9.1
  have e4 : M.1 126 4 = E.1 4 := by rw [e]
  rcases hx with ⟨gx, rfl⟩ | ⟨gx, hx⟩
  · rcases hm with ⟨_, rfl⟩ | ⟨gm, _⟩
    · exact ⟨rfl, E, t, w, wm, S, ra_v (ra_z H) (by omega)⟩
    · exact absurd gm gx
  rcases hm with ⟨gm, _⟩ | ⟨_, hm⟩
  · exact absurd gx gm
  rcases hx with ⟨fx, rfl⟩ | ⟨fx, hx⟩
  · rcases hm with ⟨_, rfl⟩ | ⟨fm, _⟩
    · exact ⟨rfl, E, t, w, wm, S, ra_v (ra_z H) (by omega)⟩
    · exfalso; omega
  rcases hm with ⟨fm, _⟩ | ⟨_, hm⟩
  · exfalso; omega
  have R := tr_re h14.1 h6
  have FX := xtr_F X
  have FM := mtr_F M
  have qn : pQn M (mTr M) := qn_F FM rfl
  rcases hx with ⟨px, rfl⟩ | ⟨px, Z, hS, rfl⟩
  · rcases hm with ⟨pm, rfl⟩ | ⟨pm, _⟩
    · rcases R with ⟨_, r2⟩ | ⟨r1, _⟩
      · have F2 : pF [(31, 13), (68, 0), (95, 0), (96, 0), (97, 0)] X (vu (vu (xTr X).2 68 1 0) 31 12 (-6)) := pF_u (pF_v (pF_m (by decide) FX) rfl) rfl
        refine ⟨rfl, E, t, w, wm, S, ra_v (v := v) (ra_t2 H F2 rfl ⟨fun c hc => (vu_c (by omega)).trans ((vu_c (by omega)).trans (qn.1 c hc)), fun k hk => (vu_n (by omega)).trans ((vu_n (by omega)).trans (qn.2.1 k hk)), fun c k hc => qn.2.2 c k hc⟩ ⟨⟨?_, ?_, fun i hi => ?_⟩, ?_⟩ ?_) (by omega)⟩
        · rw [vu_n (by omega), vu_e rfl, vu_n (by omega), vu_e rfl]
        · rw [vu_n (by omega), vu_e rfl]; omega
        · rw [vu_n (by omega), vu_n (by omega), vu_n (by omega), vu_n (by omega), FX.1 69 i (pc_any rfl i), FM.1 131 i (pc_any rfl i)]
          exact h14.1.2.2 i hi
        · rw [vu_n (by omega), vu_n (by omega), vu_n (by omega), vu_n (by omega)]; exact r2.2.symm
        · rw [vu_e rfl, vu_e rfl]
      · rw [px] at r1; exact absurd r1 (by decide)
    · rcases R with ⟨_, r2⟩ | ⟨r1, _⟩
      · rw [r2.1] at pm; exact absurd pm (by decide)
      · rw [px] at r1; exact absurd r1 (by decide)
  rcases hm with ⟨pm, _⟩ | ⟨pm, m1, mT⟩
  · rcases R with ⟨r1, _⟩ | ⟨_, g, n, r2, _⟩
    · exact absurd r1 px
    · exact absurd r2.2.2.1 pm
  rcases R with ⟨r1, _⟩ | ⟨_, g, n, B, _, n1, n12, y3, t47, cz⟩
  · exact absurd r1 px
  have f13 := mtr_13 M pm
  have f2 := xtr_2 X px
  generalize hY : (xTr X).2 = Y at *
  generalize hT : mTr M = T at *
  obtain ⟨tk, ⟨g1, g2, g3⟩, _, _, _, gr, _, lr⟩ := B
  have tp := tk.1
  have t9 := tk.2.2.2.2.1
  have tp2 := tp.2.1
  have T126 : T.1 126 = E.1 := (qn.1 126 (by decide)).trans e
  obtain ⟨N, hN⟩ : ∃ N : Nat, E.1 4 = (N : Int) := ⟨(E.1 4).toNat, by omega⟩
  have hN2 : N < 30 := by omega
  obtain ⟨⟨c1, c8, ck⟩, cc, c2, ⟨d0, d1, d2, d3⟩, dk, dc, s4, s16, ⟨k0, k1⟩, so⟩ := mT
  rw [T126, hN] at d0 d1 d2 d3 dk dc s4 k1 so
  rw [T126] at s16 k0
  rw [e18, hN] at hS ⊢
  rw [T126, hN] at m1
  rw [t47] at d3 dk
  obtain ⟨To, hd, cd, ⟨⟨b1, b2, b3⟩, ⟨b4, b5, b6⟩, ⟨b7, b8, b9⟩⟩, ⟨z0, z1, z2, z3, z4, z5⟩, zh, zl, zc, zo, ⟨z68, z18⟩, ⟨z66, z66o⟩, ⟨z67, z65⟩, zu, zn, znx, zro⟩ := hS
  rw [show ((N : Int)).toNat = N from by omega] at z66 z66o
  have y4 : Y.2.2.2 = X.2.2.2 := FX.2.2.2
  have znw : ∀ i U : Nat, Z.2.2.1 To i = some U → X.2.2.2.2 ≤ U := fun i U hU => by
    have yn : Y.2.2.2.2 = X.2.2.2.2 := by rw [y4]
    rcases zro i U hU with q | q
    · omega
    · omega
  have yc : ∀ b : Nat, b ≠ 68 → b ≠ 95 → b ≠ 96 → b ≠ 97 → Y.1 b = X.1 b ∧ Y.2.1 b = X.2.1 b ∧ Y.2.2.1 b = X.2.2.1 b := fun b q1 q2 q3 q4 => by
    have z : ∀ k : Nat, pc fw_Gr b k = false := fun k => pc_any (by
      cases g : (fw_Gr.any fun q : Nat × Nat => Nat.beq q.1 b) with
      | false => rfl
      | true =>
        exfalso
        unfold fw_Gr at g
        rw [List.any_eq_true] at g
        obtain ⟨p, p1, p2⟩ := g
        have z := Nat.eq_of_beq_eq_true p2
        simp only [List.mem_cons, List.not_mem_nil, or_false] at p1
        rcases p1 with rfl | rfl | rfl | rfl | rfl | rfl | rfl | rfl | rfl <;> (change _ = b at z; omega)) k
    exact ⟨funext fun k => FX.1 b k (z k), funext fun k => FX.2.1 b k (z k), funext fun k => FX.2.2.1 b k (z k)⟩
  have yn : Y.2.2.2.2 = X.2.2.2.2 := by rw [y4]
  have zb : ∀ b : Nat, b < 174 → b ≠ 68 → b ≠ 95 → b ≠ 96 → b ≠ 97 → b ≠ 32 → Z.1 b = X.1 b := fun b q0 q1 q2 q3 q4 q5 => (funext fun j => zo b j q0 (by omega) (by omega)).trans (yc b q1 q2 q3 q4).1
  have zup : ∀ b : Nat, 174 ≤ b → b < X.2.2.2.2 → Z.1 b = X.1 b ∧ Z.2.1 b = X.2.1 b ∧ Z.2.2.1 b = X.2.2.1 b ∧ Z.2.2.2.1 b = X.2.2.2.1 b := fun b q0 q1 => by
    have u := zu b q0 (by omega)
    have y := yc b (by omega) (by omega) (by omega) (by omega)
    exact ⟨u.1.trans y.1, u.2.1.trans y.2.1, u.2.2.1.trans y.2.2, by rw [u.2.2.2, y4]⟩
  -- the THING
  have FA := fr_d_X8_add_r63d 1 (N : Int) 0 0 0 0 Z
  have ac : ∀ b : Nat, b ≠ 63 → b ≠ 64 → (d_X8_add_r63d 1 (N : Int) 0 0 0 0 Z).1 b = Z.1 b ∧ (d_X8_add_r63d 1 (N : Int) 0 0 0 0 Z).2.1 b = Z.2.1 b ∧ (d_X8_add_r63d 1 (N : Int) 0 0 0 0 Z).2.2.1 b = Z.2.2.1 b := fun b q1 q2 => by
    have z : ∀ k : Nat, pc fw_X8_add_r63d b k = false := fun k => pc_any (by
      cases g : (fw_X8_add_r63d.any fun q : Nat × Nat => Nat.beq q.1 b) with
      | false => rfl
      | true =>
        exfalso
        unfold fw_X8_add_r63d at g
        rw [List.any_eq_true] at g
        obtain ⟨p, p1, p2⟩ := g
        have z := Nat.eq_of_beq_eq_true p2
        simp only [List.mem_cons, List.not_mem_nil, or_false] at p1
        rcases p1 with rfl | rfl <;> (change _ = b at z; omega)) k
    exact ⟨funext fun k => FA.1 b k (z k), funext fun k => FA.2.1 b k (z k), funext fun k => FA.2.2.1 b k (z k)⟩
  have a4 : (d_X8_add_r63d 1 (N : Int) 0 0 0 0 Z).2.2.2 = Z.2.2.2 := FA.2.2.2
  have DZ : pD Z 32 E.1 := pD_A (fun b q1 q2 => zb b (by omega) (by omega) (by omega) (by omega) (by omega) (by omega)) h1.2.1
  have D1 : pD (d_X8_add_r63d 1 (N : Int) 0 0 0 0 Z) 32 (m.2.1 126) := by
    have D2 : pD Z 32 (fun j => if j = 16 then E.1 16 else if j = (49920 + 2 * E.1 16).toNat ∨ j = (49920 + 2 * E.1 16 + 1).toNat then E.1 j else m.2.1 126 j) := pD_tx DZ (fun j j1 j2 => by
      by_cases q1 : j = 16
      · rw [if_pos q1, q1]
      · rw [if_neg q1]
        by_cases q2 : j = (49920 + 2 * E.1 16).toNat ∨ j = (49920 + 2 * E.1 16 + 1).toNat
        · rw [if_pos q2]
        · rw [if_neg q2]
          exact so j j1 q1 (by omega) (by omega))
    have D3 := da_15 (X := Z) (V := (fun _ j => if j = 16 then E.1 16 else if j = (49920 + 2 * E.1 16).toNat ∨ j = (49920 + 2 * E.1 16 + 1).toNat then E.1 j else m.2.1 126 j, Z.2)) (n := E.1 16) (u0 := 1) (u1 := (N : Int)) (show (if (16 : Nat) = 16 then E.1 16 else if 16 = (49920 + 2 * E.1 16).toNat ∨ 16 = (49920 + 2 * E.1 16 + 1).toNat then E.1 16 else m.2.1 126 16) = E.1 16 from if_pos rfl) D2 (by omega)
    have er : (vu (vu (vu ((fun _ j => if j = 16 then E.1 16 else if j = (49920 + 2 * E.1 16).toNat ∨ j = (49920 + 2 * E.1 16 + 1).toNat then E.1 j else m.2.1 126 j, Z.2) : jW) 126 (49920 + 2 * E.1 16).toNat 1) 126 (49920 + 2 * E.1 16 + 1).toNat (N : Int)) 126 16 (E.1 16 + 1)).1 126 = m.2.1 126 := by
      funext j
      by_cases q1 : j = 16
      · rw [vu_e q1, q1, s16]
      · rw [vu_n (by omega)]
        by_cases q2 : j = (49920 + 2 * E.1 16 + 1).toNat
        · rw [vu_e q2, q2, k1]
        · rw [vu_n (by omega)]
          by_cases q3 : j = (49920 + 2 * E.1 16).toNat
          · rw [vu_e q3, q3, k0]
          · rw [vu_n (by omega)]
            show (if j = 16 then E.1 16 else if j = (49920 + 2 * E.1 16).toNat ∨ j = (49920 + 2 * E.1 16 + 1).toNat then E.1 j else m.2.1 126 j) = _
            rw [if_neg q1, if_neg (by omega)]
    rw [er] at D3
    exact D3
  generalize d_X8_add_r63d 1 (N : Int) 0 0 0 0 Z = X1 at *
  have xb : ∀ b : Nat, b < 174 → b ≠ 63 → b ≠ 64 → b ≠ 68 → b ≠ 95 → b ≠ 96 → b ≠ 97 → b ≠ 32 → X1.1 b = X.1 b := fun b q0 q1 q2 q3 q4 q5 q6 q7 => (ac b q1 q2).1.trans (zb b q0 q3 q4 q5 q6 q7)
  have xup : ∀ b : Nat, 174 ≤ b → b < X.2.2.2.2 → X1.1 b = X.1 b ∧ X1.2.1 b = X.2.1 b ∧ X1.2.2.1 b = X.2.2.1 b ∧ X1.2.2.2.1 b = X.2.2.2.1 b := fun b q0 q1 => by
    have u := zup b q0 q1
    have y := ac b (by omega) (by omega)
    exact ⟨y.1.trans u.1, y.2.1.trans u.2.1, y.2.2.trans u.2.2.1, by rw [a4, u.2.2.2]⟩
  have x18 : X1.1 32 18 = (N : Int) + 1 := by rw [(ac 32 (by decide) (by decide)).1]; exact z18
  have x19 : X1.1 32 19 = X.1 32 19 := by rw [(ac 32 (by decide) (by decide)).1, zo 32 19 (by decide) (by decide) (by decide), (yc 32 (by decide) (by decide) (by decide) (by decide)).1]
  -- the new TEXT
  have cl : ∀ c k : Int, 0 ≤ c → c < n → 0 ≤ k → k ≤ 9 → m.2.1 126 ((((18820 + (924 * (N : Int))) + 4) + (10 * c)) + k).toNat = T.1 147 (10 * c + k).toNat := fun c k q0 q1 q2 q3 => by
    have y := dk (10 * c + k).toNat (by omega)
    rw [show (18820 + 924 * (N : Int) + 4 + (((10 * c + k).toNat : Nat) : Int)).toNat = ((((18820 + (924 * (N : Int))) + 4) + (10 * c)) + k).toNat from by omega] at y
    exact y
  have cl0 : ∀ c : Int, 0 ≤ c → c < n → m.2.1 126 (((18820 + (924 * (N : Int))) + 4) + (10 * c)).toNat = T.1 147 (10 * c).toNat := fun c q0 q1 => by
    have y := cl c 0 q0 q1 (by decide) (by decide)
    rw [Int.add_zero, Int.add_zero] at y
    exact y
  have NT : pIxt (m.2.1 126) (N : Int) := by
    refine ⟨by rw [d3]; omega, by rw [d0]; have := gx.1; omega, fun c q0 q1 => ?_⟩
    rw [d3] at q1
    obtain ⟨p1, p2, p3, p4, p5, p6, p7⟩ := (cz c q0 q1).1
    rw [cl0 c q0 q1, cl c 1 q0 q1 (by decide) (by decide), cl c 2 q0 q1 (by decide) (by decide), cl c 3 q0 q1 (by decide) (by decide)]
    exact ⟨p5, p4, p6, p7⟩
  have It : pIt (m.2.1 126) := by
    refine tr_t (r := E.1) (by rw [so 0 (by omega) (by omega) (by omega) (by omega)]; omega) (by omega) (fun i hi => ?_) (pEv_i.mp h4.1).2.2.2.2.2.1
    rw [s16] at hi
    by_cases z : (i : Int) < E.1 16
    · exact Or.inl ⟨z, so _ (by omega) (by omega) (by omega) (by omega), so _ (by omega) (by omega) (by omega) (by omega)⟩
    · refine Or.inr (Or.inl ?_)
      rw [show 49920 + 2 * i = (49920 + 2 * E.1 16).toNat from by omega, k0]
      decide
  have I : pIv (m.2.1 126, E.2) t w wm := iv_text (r := E.1) (n := N) h4 hN hN2 (fun j j1 j2 j3 j4 => so j j1 j2 (by omega) (by omega)) s4 s16 It NT
  have NX : pNxt X1 := fun c k U hc hU => by
    rw [a4] at hc ⊢
    rw [(ac c (by omega) (by omega)).2.2] at hU
    rcases hc with rfl | ⟨hc, hc2⟩
    · by_cases z : k = N
      · rw [z, z66] at hU
        have := Option.some.inj hU
        omega
      · rw [z66o k z, (yc 66 (by decide) (by decide) (by decide) (by decide)).2.2] at hU
        have := h8 66 k U (Or.inl rfl) hU
        omega
    · by_cases z : c < X.2.2.2.2
      · rw [(zup c hc z).2.2.1] at hU
        have := h8 c k U (Or.inr ⟨hc, z⟩) hU
        omega
      · exact znx c k U (by omega) hc hc2 hU
  have TQ : pTq X1 32 (m.2.1 126) := by
    refine ⟨by rw [x18, s4], fun u u0 u1 => ?_⟩
    rw [s4] at u1
    by_cases z : u = (N : Int)
    · rw [z]
      refine ⟨To, hd, cd, by rw [show 32 + 34 = 66 from rfl, (ac 66 (by decide) (by decide)).2.2, show ((N : Int)).toNat = N from by omega]; exact z66, ⟨b1, b2, ?_, ?_, ?_, ?_, ?_, fun c q0 q1 => ?_⟩, b3, ?_, fun c q0 q1 q2 => ?_⟩
      · rw [(ac To (by omega) (by omega)).1, z0, Int.add_zero, d0]
      · rw [(ac To (by omega) (by omega)).1, z1, d1]
      · rw [(ac To (by omega) (by omega)).1, z2, d2]
      · rw [(ac To (by omega) (by omega)).1, z3, d3]; exact y3
      · rw [(ac To (by omega) (by omega)).2.2]; exact z4
      · rw [d3] at q1
        obtain ⟨p1, p2, p3, _⟩ := (cz c q0 q1).1
        rw [(ac hd (by omega) (by omega)).1]
        unfold pHe
        rw [cl0 c q0 q1, cl c 1 q0 q1 (by decide) (by decide), cl c 2 q0 q1 (by decide) (by decide), cl c 3 q0 q1 (by decide) (by decide), zh (c * 6 + 0).toNat (by omega), zh (c * 6 + 1).toNat (by omega), zh (c * 6 + 2).toNat (by omega)]
        exact ⟨p1, p2, p3⟩
      · rw [(ac To (by omega) (by omega)).2.2]; exact z5
      · rw [d3] at q1
        rw [cl0 c q0 q1] at q2
        obtain ⟨w3, w4, w5⟩ := (cz c q0 q1).2 q2
        have es : ∀ i : Int, 0 ≤ i → i < g.1 → oR (m.2.1 126) (N : Int) i = g.2.1 i.toNat ∧ aR (m.2.1 126) (N : Int) i = g.2.2 i.toNat := fun i i0 i1 => by
          have y := dc i.toNat (by omega)
          rw [show (((i.toNat : Nat) : Int)) = i from by omega] at y
          unfold oR aR
          rw [← g2, ← g3]
          exact y
        rw [(ac hd (by omega) (by omega)).1, (ac cd (by omega) (by omega)).1, a4, zl, cl c 4 q0 q1 (by decide) (by decide), cl c 5 q0 q1 (by decide) (by decide), cl c 6 q0 q1 (by decide) (by decide), cl c 7 q0 q1 (by decide) (by decide), cl c 8 q0 q1 (by decide) (by decide), cl c 9 q0 q1 (by decide) (by decide)]
        have e3 : Z.1 hd (c * 6 + 3).toNat = Y.1 96 (c * 6 + 3).toNat := zh _ (by omega)
        have e4 : Z.1 hd (c * 6 + 4).toNat = Y.1 96 (c * 6 + 4).toNat := zh _ (by omega)
        have e5 : Z.1 hd (c * 6 + 5).toNat = Y.1 96 (c * 6 + 5).toNat := zh _ (by omega)
        exact ⟨cq_q (by omega) w3 e3 zc (by omega) rfl (by rw [show 10 * c + 4 + 1 = 10 * c + 5 from by omega]) (by omega) es, cq_q (by omega) w4 e4 zc (by omega) rfl (by rw [show 10 * c + 6 + 1 = 10 * c + 7 from by omega]) (by omega) es, cq_q (by omega) w5 e5 zc (by omega) rfl (by rw [show 10 * c + 8 + 1 = 10 * c + 9 from by omega]) (by omega) es⟩
    · have old : pTq1 X 32 E.1 u := h9.2 u u0 (by omega)
      have l3 := (h4.1.2.2.2.2.1.2.2 u u0 (by omega)).2.1
      exact tq1_c h8 (Or.inl rfl) u0 (by rw [show 32 + 34 = 66 from rfl, (ac 66 (by decide) (by decide)).2.2, z66o _ (by omega), (yc 66 (by decide) (by decide) (by decide) (by decide)).2.2]) (fun c q0 q1 => ⟨(xup c q0 q1).1, (xup c q0 q1).2.2⟩) (fun j j1 j2 => so j (by omega) (by omega) (by omega) (by omega)) l3 old
  have P : pCp X1 (m.2.1 126, E.2) t w wm := cp_used h1 (fun b hb => xb b (by omega) (by omega) (by omega) (by omega) (by omega) (by omega) (by omega) (by omega)) (by rw [x19]; exact h1.2.2.2.2.2.2.2.2) TQ (so 0 (by omega) (by omega) (by omega) (by omega)) (fun j j1 j2 => so j (by omega) (by omega) (by omega) (by omega)) D1 I.2.2.1 I.2.2.2.1
  have mk : ∀ k : Nat, k = 23 ∨ k = 24 ∨ k = 25 ∨ k = 26 ∨ k = 27 ∨ k = 36 → m.2.1 125 k = M.1 125 k := fun k hk => (ck k (by omega) (by omega)).trans (qn.2.1 k hk)
  have mc : ∀ b : Nat, b = 127 ∨ b = 128 ∨ b = 132 ∨ b = 133 ∨ b = 134 ∨ b = 141 ∨ b = 173 → m.2.1 b = M.1 b := fun b hb => (cc b (by omega) (by omega)).trans (qn.1 b (by omega))
  have mL : ∀ b k : Nat, b = 129 ∨ b = 130 → m.2.2.1 b k = M.2.1 b k := fun b k hb => by rw [c2]; exact qn.2.2 b k hb
  have Q : pCm m.2 (m.2.1 126, E.2) t w wm := by
    obtain ⟨p1, p2, p3, p4⟩ := h3
    refine ⟨?_, ?_, by rw [mk 36 (by decide)]; exact p3, fun i hi => by rw [mc 141 (by decide)]; exact p4 i hi⟩
    · unfold eOf at *
      rw [mc 132 (by decide), mc 133 (by decide), mc 134 (by decide), mk 27 (by decide), ← p1]
    · rw [mk 23 (by decide), mk 24 (by decide), mk 25 (by decide), mk 26 (by decide)]
      exact p2
  have T2 : pTp X1 m.2 ∧ X1.1 68 2 = m.2.1 125 13 := by
    refine ⟨⟨?_, ?_, fun i hi => ?_⟩, ?_⟩
    · rw [(ac 68 (by decide) (by decide)).1, z68, c8]
    · rw [c8]; omega
    · rw [xb 69 (by decide) (by decide) (by decide) (by decide) (by decide) (by decide) (by decide) (by decide), cc 131 (by decide) (by decide), FM.1 131 i (pc_any rfl i)]
      exact h14.1.2.2 i hi
    · rw [(ac 68 (by decide) (by decide)).1, zo 68 2 (by decide) (by decide) (by decide), f2, ck 13 (by decide) (by decide), f13]
  have E66 : ∀ j U : Nat, X1.2.2.1 66 j = some U → (X.2.2.1 66 j = some U ∨ ∃ k2 A2 j2 : Nat, k2 < 4 ∧ X.2.2.1 67 k2 = some A2 ∧ X.2.2.1 (A2 + 34) j2 = some U) ∨ (X.2.2.2.2 ≤ U ∧ ∀ i V : Nat, X1.2.2.1 U i = some V → X.2.2.2.2 ≤ V) := fun j U hU => by
    rw [(ac 66 (by decide) (by decide)).2.2] at hU
    by_cases z : j = N
    · rw [z, z66] at hU
      obtain rfl := Option.some.inj hU
      refine Or.inr ⟨by omega, fun i V hV => ?_⟩
      rw [(ac To (by omega) (by omega)).2.2] at hV
      exact znw i V hV
    · rw [z66o j z, (yc 66 (by decide) (by decide) (by decide) (by decide)).2.2] at hU
      exact Or.inl (Or.inl hU)
  have BB : pRb X1 m.2 (m.2.1 126, E.2) t w wm S := ⟨P, Q, I, tr_z ⟨so 14 (by omega) (by omega) (by omega) (by omega), by omega⟩ (fun j j1 j2 => so j (by omega) (by omega) (by omega) (by omega)) h5, ws_f (fun b hb => xb b (by omega) (by omega) (by omega) (by omega) (by omega) (by omega) (by omega) (by omega)) h6, NX, TQ, fun k => by rw [(ac 65 (by decide) (by decide)).2.1, z65, (yc 65 (by decide) (by decide) (by decide) (by decide)).2.1]; exact h10 k, fun k => (mL 129 k (Or.inl rfl)).trans (h11 k), by rw [xb 123 (by decide) (by decide) (by decide) (by decide) (by decide) (by decide) (by decide) (by decide), mc 173 (by decide)]; exact h12, T2, ri_g h17 h8 xup (by rw [(ac 67 (by decide) (by decide)).2.2, z67, (yc 67 (by decide) (by decide) (by decide) (by decide)).2.2]) E66 (by rw [a4]; omega) (mc 127 (by decide)) (mc 128 (by decide)) (funext fun k => mL 130 k (Or.inr rfl))⟩
  have A2 := ra_a (X1 := X1) (M1 := m.2) H hv BB (fun z hz => by
    have := kyl_c hz
    rw [xb z.1 (by omega) (by omega) (by omega) (by omega) (by omega) (by omega) (by omega) (by omega)]
    exact H.2.2.2.2 z hz)
  rw [vu_id c1] at A2
  exact ⟨m1.symm, _, t, w, wm, S, A2⟩
end
end jG143
