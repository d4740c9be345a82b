/-! pure: what the calls with tails leave is as pn14 .. pn18 ask -/
theorem sp48_e (l : Int) : ∀ (r : Nat) (W : jW), d_X12_spell_r125d_48 r l W = d_X12_spell_r125d_75 l (mSp r W) := by
  intro r
  induction r with
  | zero => intro W; rfl
  | succ r ih =>
    intro W
    show (if W.1 125 14 = 0 then (if W.1 125 11 = 3 then (if W.2.1 125 12 = 44 then d_X12_spell_r125d_48 r l (d_X12_readPair_r125d (d_X12_next_r125d W)) else d_X12_spell_r125d_75 l W) else d_X12_spell_r125d_75 l W) else d_X12_spell_r125d_75 l W) = d_X12_spell_r125d_75 l (if W.1 125 14 = 0 then (if W.1 125 11 = 3 then (if W.2.1 125 12 = 44 then mSp r (d_X12_readPair_r125d (d_X12_next_r125d W)) else W) else W) else W)
    by_cases c1 : W.1 125 14 = 0
    · rw [if_pos c1, if_pos c1]
      by_cases c2 : W.1 125 11 = 3
      · rw [if_pos c2, if_pos c2]
        by_cases c3 : W.2.1 125 12 = 44
        · rw [if_pos c3, if_pos c3]; exact ih _
        · rw [if_neg c3, if_neg c3]
      · rw [if_neg c2, if_neg c2]
    · rw [if_neg c1, if_neg c1]
theorem sp75_e (l : Int) (W : jW) : d_X12_spell_r125d_75 l W = d_X12_spell_r125d_94 l (mRe W) := by
  unfold d_X12_spell_r125d_75 mRe mBad
  by_cases c1 : W.1 125 14 = 0
  · rw [if_pos c1, if_pos c1]
    by_cases c2 : W.1 125 11 = 0
    · rw [if_pos c2, if_pos c2]
    · rw [if_neg c2, if_neg c2]
  · rw [if_neg c1, if_neg c1]
theorem sp_O {X M : jW} {a : Int} (h : pTp X M) : spO a M (d_X12_spell_r125d a M) := by
  unfold spO
  by_cases c : 0 ≤ a ∧ a ≤ 15
  · refine Or.inr ⟨c, ?_⟩
    have e : d_X12_spell_r125d a M = d_X12_spell_r125d_94 a (mSr M) := by
      unfold d_X12_spell_r125d mSr
      rw [if_pos c]
      show (if (mBg (vu M 125 0 0)).1 125 11 = 0 then d_X12_spell_r125d_94 a (vu (mBg (vu M 125 0 0)) 125 18 0) else d_X12_spell_r125d_48 12 a (d_X12_readPair_r125d (vu (mBg (vu M 125 0 0)) 125 18 0))) = _
      rw [show (vu (mBg (vu M 125 0 0)) 125 18 0).1 125 11 = (mBg (vu M 125 0 0)).1 125 11 from vu_n (by omega)]
      by_cases z : (mBg (vu M 125 0 0)).1 125 11 = 0
      · rw [if_pos z, if_pos z]
      · rw [if_neg z, if_neg z, sp48_e, sp75_e]
    have s := sr_e h
    rw [e]
    unfold d_X12_spell_r125d_94
    generalize mSr M = S at *
    by_cases z : S.1 125 14 = 0
    · rw [if_pos z]
      rcases s with ⟨_, y, _⟩ | ⟨n8, _, n, sd, _⟩
      · exfalso; omega
      · have T18 : (vu S 125 8 0).1 125 18 = S.1 125 18 := vu_n (by omega)
        have q := spt_T (a := a) (T := vu S 125 8 0) c (vu_e rfl) (by rw [T18]; omega) (fun k hk => by
          rw [T18] at hk
          rw [vu_n (by omega)]
          have := (sd (k : Int) (by omega) (by omega)).1.2.1.2
          rw [Int.toNat_natCast] at this
          exact this)
        exact Or.inr ⟨z, q.1.trans T18, q.2.2 S (fun b hb => vu_c hb) (fun k hk => vu_n (by omega)) rfl⟩
    · rw [if_neg z, told_n (by decide)]
      exact Or.inl ⟨z, rfl⟩
  · refine Or.inl ⟨c, ?_⟩
    unfold d_X12_spell_r125d
    rw [if_neg c]
    exact told_n (by decide)
/-! text -/
theorem txA_v {s : Nat} {T : jW} : ∀ (k : Nat) (V : jW), (∀ c : Nat, c ≠ 126 → (txA s T k V).1 c = V.1 c) ∧ (txA s T k V).2 = V.2 ∧ (∀ j : Nat, j < k → (txA s T k V).1 126 (s + 4 + j) = T.1 147 j) ∧ ∀ j : Nat, (j < s + 4 ∨ s + 4 + k ≤ j) → (txA s T k V).1 126 j = V.1 126 j := by
  intro k
  induction k with
  | zero => intro V; exact ⟨fun _ _ => rfl, rfl, fun j hj => absurd hj (Nat.not_lt_zero _), fun _ _ => rfl⟩
  | succ k ih =>
    intro V
    obtain ⟨i1, i2, i3, i4⟩ := ih V
    unfold txA
    refine ⟨fun c hc => (vu_c hc).trans (i1 c hc), i2, fun j hj => ?_, fun j hj => (vu_n (by omega)).trans (i4 j (by omega))⟩
    by_cases z : j = k
    · rw [z]; exact vu_e rfl
    · exact (vu_n (by omega)).trans (i3 j (by omega))
theorem txB_v {s : Nat} {T : jW} : ∀ (k : Nat) (V : jW), (∀ c : Nat, c ≠ 126 → (txB s T k V).1 c = V.1 c) ∧ (txB s T k V).2 = V.2 ∧ (∀ j : Nat, j < k → (txB s T k V).1 126 (s + 124 + 2 * j) = T.1 148 j ∧ (txB s T k V).1 126 (s + 124 + 2 * j + 1) = T.1 149 j) ∧ ∀ j : Nat, (j < s + 124 ∨ s + 124 + 2 * k ≤ j) → (txB s T k V).1 126 j = V.1 126 j := by
  intro k
  induction k with
  | zero => intro V; exact ⟨fun _ _ => rfl, rfl, fun j hj => absurd hj (Nat.not_lt_zero _), fun _ _ => rfl⟩
  | succ k ih =>
    intro V
    obtain ⟨i1, i2, i3, i4⟩ := ih V
    unfold txB
    refine ⟨fun c hc => (vu_c hc).trans ((vu_c hc).trans (i1 c hc)), i2, fun j hj => ?_, fun j hj => (vu_n (by omega)).trans ((vu_n (by omega)).trans (i4 j (by omega)))⟩
    by_cases z : j = k
    · rw [z]; exact ⟨(vu_n (by omega)).trans (vu_e rfl), vu_e rfl⟩
    · exact ⟨(vu_n (by omega)).trans ((vu_n (by omega)).trans (i3 j (by omega)).1), (vu_n (by omega)).trans ((vu_n (by omega)).trans (i3 j (by omega)).2)⟩
theorem txt_T {a1 a2 a3 : Int} {T S : jW} (h8 : T.1 125 8 = 0) (h4 : 0 ≤ T.1 126 4 ∧ T.1 126 4 ≤ 29) (h16 : 0 ≤ T.1 126 16) (h47 : 0 ≤ T.1 125 47 ∧ T.1 125 47 ≤ 12) (h49 : 0 ≤ T.1 125 49 ∧ T.1 125 49 ≤ 400) (c1 : ∀ c : Nat, c ≠ 125 → T.1 c = S.1 c) (c2 : ∀ k : Nat, k ≠ 8 → T.1 125 k = S.1 125 k) (c3 : T.2 = S.2) : (d_txt a1 a2 a3 T).1 = T.1 126 4 ∧ txT a1 a2 a3 S (d_txt a1 a2 a3 T).2 := by
  unfold d_txt
  rw [told_p h4.1]
  refine ⟨rfl, ?_⟩
  have e47 := c2 47 (by decide)
  have e49 := c2 49 (by decide)
  have e126 := c1 126 (by decide)
  have e147 := c1 147 (by decide)
  have e148 := c1 148 (by decide)
  have e149 := c1 149 (by decide)
  obtain ⟨n, hn⟩ : ∃ n : Nat, T.1 126 4 = (n : Int) := ⟨(T.1 126 4).toNat, by omega⟩
  obtain ⟨u, hu⟩ : ∃ u : Nat, T.1 126 16 = (u : Int) := ⟨(T.1 126 16).toNat, by omega⟩
  obtain ⟨s, hs⟩ : ∃ s : Nat, s = 18820 + 924 * n := ⟨_, rfl⟩
  have s1 : (18820 + 924 * T.1 126 4).toNat = s := by omega
  rw [s1]
  have A := txA_v (s := s) (T := T) (10 * T.1 125 47).toNat (txH a1 a2 a3 (T.1 125 47) s T)
  have B := txB_v (s := s) (T := T) (T.1 125 49).toNat (txA s T (10 * T.1 125 47).toNat (txH a1 a2 a3 (T.1 125 47) s T))
  generalize txA s T (10 * T.1 125 47).toNat (txH a1 a2 a3 (T.1 125 47) s T) = VA at *
  generalize txB s T (T.1 125 49).toNat VA = VB at *
  obtain ⟨A1, A2, A3, A4⟩ := A
  obtain ⟨B1, B2, B3, B4⟩ := B
  have H1 : ∀ c : Nat, c ≠ 126 → (txH a1 a2 a3 (T.1 125 47) s T).1 c = T.1 c := fun c hc => (vu_c hc).trans ((vu_c hc).trans ((vu_c hc).trans (vu_c hc)))
  have H2 : (txH a1 a2 a3 (T.1 125 47) s T).2 = T.2 := rfl
  have g0 : (txH a1 a2 a3 (T.1 125 47) s T).1 126 s = a1 := (vu_n (by omega)).trans ((vu_n (by omega)).trans ((vu_n (by omega)).trans (vu_e rfl)))
  have g1 : (txH a1 a2 a3 (T.1 125 47) s T).1 126 (s + 1) = a2 := (vu_n (by omega)).trans ((vu_n (by omega)).trans (vu_e rfl))
  have g2 : (txH a1 a2 a3 (T.1 125 47) s T).1 126 (s + 2) = a3 := (vu_n (by omega)).trans (vu_e rfl)
  have g3 : (txH a1 a2 a3 (T.1 125 47) s T).1 126 (s + 3) = T.1 125 47 := vu_e rfl
  have g4 : ∀ j : Nat, (j < s ∨ s + 4 ≤ j) → (txH a1 a2 a3 (T.1 125 47) s T).1 126 j = T.1 126 j := fun j hj => (vu_n (by omega)).trans ((vu_n (by omega)).trans ((vu_n (by omega)).trans (vu_n (by omega))))
  generalize txH a1 a2 a3 (T.1 125 47) s T = VH at *
  have o : ∀ j : Nat, j < s + 4 → VB.1 126 j = VH.1 126 j := fun j hj => (B4 j (by omega)).trans (A4 j (by omega))
  have oA : ∀ j : Nat, j < 10 * (T.1 125 47).toNat → VB.1 126 (s + 4 + j) = T.1 147 j := fun j hj => (B4 _ (by omega)).trans (A3 j (by omega))
  have oo : ∀ j : Nat, (j < s ∨ s + 924 ≤ j) → VB.1 126 j = T.1 126 j := fun j hj => (B4 j (by omega)).trans ((A4 j (by omega)).trans (g4 j (by omega)))
  rw [hn, hu]
  unfold txN
  have i1 : (49920 + 2 * (u : Int)).toNat = 49920 + 2 * u := by omega
  have i2 : (49920 + 2 * (u : Int) + 1).toNat = 49920 + 2 * u + 1 := by omega
  rw [i1, i2]
  have N : ∀ j : Nat, j ≠ 4 → j ≠ 16 → j ≠ 49920 + 2 * u → j ≠ 49920 + 2 * u + 1 → (vu (vu (vu (vu (vu VB 126 4 ((n : Int) + 1)) 126 (49920 + 2 * u) 1) 126 (49920 + 2 * u + 1) (n : Int)) 126 16 ((u : Int) + 1)) 125 1 0).1 126 j = VB.1 126 j := fun j j1 j2 j3 j4 => (vu_n (by omega)).trans ((vu_n (by omega)).trans ((vu_n (by omega)).trans ((vu_n (by omega)).trans (vu_n (by omega)))))
  have s4 : S.1 126 4 = (n : Int) := by rw [← e126]; exact hn
  have s16 : S.1 126 16 = (u : Int) := by rw [← e126]; exact hu
  refine ⟨⟨vu_e rfl, (vu_n (by omega)).trans ((vu_n (by omega)).trans ((vu_n (by omega)).trans ((vu_n (by omega)).trans ((vu_n (by omega)).trans ((congrFun (B1 125 (by decide)) 8).trans ((congrFun (A1 125 (by decide)) 8).trans ((congrFun (H1 125 (by decide)) 8).trans h8))))))), fun k k1 k8 => (vu_n (by omega)).trans ((vu_n (by omega)).trans ((vu_n (by omega)).trans ((vu_n (by omega)).trans ((vu_n (by omega)).trans ((congrFun (B1 125 (by decide)) k).trans ((congrFun (A1 125 (by decide)) k).trans ((congrFun (H1 125 (by decide)) k).trans (c2 k k8))))))))⟩, fun c d1 d2 => (vu_c d1).trans ((vu_c d2).trans ((vu_c d2).trans ((vu_c d2).trans ((vu_c d2).trans ((B1 c d2).trans ((A1 c d2).trans ((H1 c d2).trans (c1 c d1)))))))), B2.trans (A2.trans (H2.trans c3)), ⟨?_, ?_, ?_, ?_⟩, fun k hk => ?_, fun k hk => ?_, ?_, ?_, ⟨?_, ?_⟩, fun j j1 j2 j3 j4 => ?_⟩
  · rw [s4, show (18820 + 924 * (n : Int)).toNat = s from by omega, N s (by omega) (by omega) (by omega) (by omega), o s (by omega)]; exact g0
  · rw [s4, show (18820 + 924 * (n : Int) + 1).toNat = s + 1 from by omega, N _ (by omega) (by omega) (by omega) (by omega), o _ (by omega)]; exact g1
  · rw [s4, show (18820 + 924 * (n : Int) + 2).toNat = s + 2 from by omega, N _ (by omega) (by omega) (by omega) (by omega), o _ (by omega)]; exact g2
  · rw [s4, show (18820 + 924 * (n : Int) + 3).toNat = s + 3 from by omega, N _ (by omega) (by omega) (by omega) (by omega), o _ (by omega), g3]; exact e47
  · rw [← e47] at hk
    rw [s4, show (18820 + 924 * (n : Int) + 4 + (k : Int)).toNat = s + 4 + k from by omega, N _ (by omega) (by omega) (by omega) (by omega), oA k (by omega), e147]
  · rw [← e49] at hk
    have b3 := B3 k (by omega)
    rw [s4, show (18820 + 924 * (n : Int) + 124 + 2 * (k : Int)).toNat = s + 124 + 2 * k from by omega, show (18820 + 924 * (n : Int) + 124 + 2 * (k : Int) + 1).toNat = s + 124 + 2 * k + 1 from by omega, N _ (by omega) (by omega) (by omega) (by omega), N _ (by omega) (by omega) (by omega) (by omega), b3.1, b3.2, e148, e149]
    exact ⟨rfl, rfl⟩
  · rw [s4]; exact (vu_n (by omega)).trans ((vu_n (by omega)).trans ((vu_n (by omega)).trans ((vu_n (by omega)).trans (vu_e rfl))))
  · rw [s16]; exact (vu_n (by omega)).trans (vu_e rfl)
  · rw [s16, i1]; exact (vu_n (by omega)).trans ((vu_n (by omega)).trans ((vu_n (by omega)).trans (vu_e rfl)))
  · rw [s16, i2, s4]; exact (vu_n (by omega)).trans ((vu_n (by omega)).trans (vu_e rfl))
  · rw [s4] at j3
    rw [s16] at j4
    rw [N j j1 j2 (by omega) (by omega), oo j (by omega), e126]
theorem tx96_e (a1 a2 a3 : Int) : ∀ (r : Nat) (W : jW), d_X12_text_r125d_96 r a1 a2 a3 W = d_X12_text_r125d_123 a1 a2 a3 (mRd r W) := by
  intro r
  induction r with
  | zero => intro W; rfl
  | succ r ih =>
    intro W
    show (if W.1 125 14 = 0 then (if W.1 125 11 = 3 then (if W.2.1 125 12 = 59 then d_X12_text_r125d_96 r a1 a2 a3 (d_X12_readClause_r125d (d_X12_next_r125d W)) else d_X12_text_r125d_123 a1 a2 a3 W) else d_X12_text_r125d_123 a1 a2 a3 W) else d_X12_text_r125d_123 a1 a2 a3 W) = d_X12_text_r125d_123 a1 a2 a3 (if W.1 125 14 = 0 then (if W.1 125 11 = 3 then (if W.2.1 125 12 = 59 then mRd r (d_X12_readClause_r125d (d_X12_next_r125d W)) else W) else W) else W)
    by_cases c1 : W.1 125 14 = 0
    · rw [if_pos c1, if_pos c1]
      by_cases c2 : W.1 125 11 = 3
      · rw [if_pos c2, if_pos c2]
        by_cases c3 : W.2.1 125 12 = 59
        · rw [if_pos c3, if_pos c3]; exact ih _
        · rw [if_neg c3, if_neg c3]
      · rw [if_neg c2, if_neg c2]
    · rw [if_neg c1, if_neg c1]
theorem tx123_e (a1 a2 a3 : Int) (W : jW) : d_X12_text_r125d_123 a1 a2 a3 W = d_X12_text_r125d_142 a1 a2 a3 (mRe W) := by
  unfold d_X12_text_r125d_123 mRe
  by_cases c1 : W.1 125 14 = 0
  · rw [if_pos c1, if_pos c1, mu_0 c1]
    by_cases c2 : W.1 125 11 = 0
    · rw [if_pos c2, if_pos c2]
    · rw [if_neg c2, if_neg c2]
  · rw [if_neg c1, if_neg c1]
theorem tx_M {X M : jW} {a1 a2 a3 : Int} (h : pTp X M) (ws : pS4 X ∧ pWs X) (h4 : 0 ≤ M.1 126 4 ∧ M.1 126 4 ≤ 30) (h16 : 0 ≤ M.1 126 16) : txM a1 a2 a3 M (d_X12_text_r125d a1 a2 a3 M) := by
  unfold txM
  by_cases c : txG a1 a2 a3
  · refine Or.inr ⟨c, ?_⟩
    unfold txG at c
    have e0 : d_X12_text_r125d a1 a2 a3 M = if (vu M 125 0 0).1 126 4 = 30 then d_X12_text_r125d_52 1 (vu M 125 0 0) else d_X12_text_r125d_96 401 a1 a2 a3 (d_X12_readClause_r125d (mT0 M)) := by
      unfold d_X12_text_r125d
      rw [if_pos c.1, if_pos c.2.1, if_pos c.2.2]
      rfl
    rw [e0, show (vu M 125 0 0).1 126 4 = M.1 126 4 from vu_n (by omega)]
    by_cases z : M.1 126 4 = 30
    · rw [if_pos z]
      refine Or.inl ⟨z, ?_⟩
      show d_X12_told_r125d (-5) (vu (vu M 125 0 0) 125 8 0) = _
      exact told_n (by decide)
    · rw [if_neg z, tx96_e, tx123_e]
      refine Or.inr ⟨z, ?_⟩
      have P := tr_re h ws
      have F := mtr_F M
      show ((mTr M).1 125 14 ≠ 0 ∧ d_X12_text_r125d_142 a1 a2 a3 (mTr M) = _) ∨ ((mTr M).1 125 14 = 0 ∧ (d_X12_text_r125d_142 a1 a2 a3 (mTr M)).1 = _ ∧ txT a1 a2 a3 (mTr M) (d_X12_text_r125d_142 a1 a2 a3 (mTr M)).2)
      unfold d_X12_text_r125d_142
      have f4 : (mTr M).1 126 4 = M.1 126 4 := F.1 126 4 rfl
      have f16 : (mTr M).1 126 16 = M.1 126 16 := F.1 126 16 rfl
      generalize mTr M = S at *
      by_cases y : S.1 125 14 = 0
      · rw [if_pos y]
        rcases P with ⟨_, b⟩ | ⟨_, g, n, B, _, n1, n12, _, n47, _⟩
        · have := b.1
          exfalso; omega
        · have b9 := B.1.2.2.2.2.1
          have b8 := B.1.1.2.1
          have b49 := B.2.1.1
          have bg := B.2.2.2.2.2.1
          have t126 : (vu S 125 8 0).1 126 = S.1 126 := vu_c (by decide)
          have q := txt_T (a1 := a1) (a2 := a2) (a3 := a3) (T := vu S 125 8 0) (S := S) (vu_e rfl) (by rw [t126]; omega) (by rw [t126]; omega) (by rw [vu_n (by omega)]; omega) (by rw [vu_n (by omega)]; omega) (fun b hb => vu_c hb) (fun k hk => vu_n (by omega)) rfl
          exact Or.inr ⟨y, q.1.trans (by rw [t126]), q.2⟩
      · rw [if_neg y, told_n (by decide)]
        exact Or.inl ⟨y, rfl⟩
  · refine Or.inl ⟨c, ?_⟩
    have g : ∀ V : jW, d_X12_text_r125d_33 a1 a2 a3 V = (-1, vu (vu V 125 8 0) 125 1 (-1)) := fun V => by
      show d_X12_told_r125d (-1) (vu V 125 8 0) = _
      exact told_n (by decide)
    unfold d_X12_text_r125d
    by_cases c1 : 0 ≤ a1 ∧ a1 ≤ 1
    · rw [if_pos c1]
      by_cases c2 : 0 ≤ a2 ∧ a2 ≤ 146399
      · rw [if_pos c2]
        by_cases c3 : 0 ≤ a3 ∧ a3 ≤ 146399
        · exact absurd ⟨c1, c2, c3⟩ c
        · rw [if_neg c3, g]
      · rw [if_neg c2, g]
    · rw [if_neg c1, g]
/-! image, back of the reference -/
theorem im56_e {k : Int} (hk : 0 ≤ k) : ∀ (c l r : Nat) (W : jW), l + c = 1600 → c < r → ∃ V : jW, d_X12_image_r125d_56 r k (l : Int) W = d_X12_told_r125d 0 (vu V 128 k.toNat 1) ∧ V.1 = W.1 ∧ (∀ b : Nat, b ≠ 130 → V.2.1 b = W.2.1 b) ∧ V.2.2 = W.2.2 ∧ (∀ i : Nat, l ≤ i → i < 1600 → V.2.1 130 (1600 * k.toNat + i) = W.2.1 129 i) ∧ ∀ j : Nat, (j < 1600 * k.toNat + l ∨ 1600 * k.toNat + 1600 ≤ j) → V.2.1 130 j = W.2.1 130 j := by
  intro c
  induction c with
  | zero =>
    intro l r W hl hr
    obtain ⟨r, rfl⟩ : ∃ q, r = q + 1 := ⟨r - 1, by omega⟩
    refine ⟨W, ?_, rfl, fun _ _ => rfl, rfl, fun i h1 h2 => by omega, fun _ _ => rfl⟩
    rw [d_X12_image_r125d_56.eq_2, if_pos (by omega)]
  | succ c ih =>
    intro l r W hl hr
    obtain ⟨r, rfl⟩ : ∃ q, r = q + 1 := ⟨r - 1, by omega⟩
    rw [d_X12_image_r125d_56.eq_2, if_neg (by omega), show ((1600 * k) + (l : Int)).toNat = 1600 * k.toNat + l from by omega, Int.toNat_natCast, show (l : Int) + 1 = ((l + 1 : Nat) : Int) from by omega]
    obtain ⟨V, v1, v2, v3, v4, v5, v6⟩ := ih (l + 1) r (vuL W 130 (1600 * k.toNat + l) (W.2.1 129 l)) (by omega) (by omega)
    have u : ∀ b j : Nat, ¬ (b = 130 ∧ j = 1600 * k.toNat + l) → (vuL W 130 (1600 * k.toNat + l) (W.2.1 129 l)).2.1 b j = W.2.1 b j := fun b j hb => if_neg hb
    refine ⟨V, v1, v2, fun b hb => (v3 b hb).trans (funext fun j => u b j (fun z => hb z.1)), v4, fun i h1 h2 => ?_, fun j hj => (v6 j (by omega)).trans (u 130 j (by omega))⟩
    by_cases z : i = l
    · rw [z, v6 _ (by omega)]
      exact if_pos ⟨rfl, rfl⟩
    · rw [v5 i (by omega) h2]
      exact u 129 i (by omega)
theorem im_M {k : Int} {M : jW} : imM k M (d_X12_image_r125d k M) := by
  unfold imM d_X12_image_r125d
  by_cases c : 0 ≤ k ∧ k ≤ 3
  · rw [if_pos c]
    refine Or.inr ⟨c, ?_⟩
    show (d_X12_image_r125d_56 1601 k ((0 : Nat) : Int) (imC k.toNat (vu M 125 0 0))).1 = 0 ∧ imT k.toNat M (d_X12_image_r125d_56 1601 k ((0 : Nat) : Int) (imC k.toNat (vu M 125 0 0))).2
    obtain ⟨V, v1, v2, v3, v4, v5, v6⟩ := im56_e (k := k) c.1 1600 0 1601 (imC k.toNat (vu M 125 0 0)) (by omega) (by omega)
    rw [v1, told_p (by decide)]
    have C1 : ∀ b j : Nat, ¬ (b = 127 ∧ 50660 * k.toNat ≤ j ∧ j < 50660 * k.toNat + 50660) → (imC k.toNat (vu M 125 0 0)).1 b j = (vu M 125 0 0).1 b j := fun b j h => if_neg h
    have C2 : ∀ i : Nat, i < 50660 → (imC k.toNat (vu M 125 0 0)).1 127 (50660 * k.toNat + i) = M.1 126 i := fun i hi => by
      refine (if_pos ⟨rfl, by omega, by omega⟩).trans ?_
      rw [show 0 + (50660 * k.toNat + i - 50660 * k.toNat) = i from by omega]
      exact vu_n (by omega)
    have C3 : (imC k.toNat (vu M 125 0 0)).2 = M.2 := rfl
    generalize imC k.toNat (vu M 125 0 0) = I at *
    have V1 : ∀ b j : Nat, V.1 b j = I.1 b j := fun b j => by rw [v2]
    refine ⟨rfl, ⟨vu_e rfl, fun j j0 j1 => (vu_n (by omega)).trans ((vu_n (by omega)).trans ((V1 _ _).trans ((C1 _ _ (by omega)).trans (vu_n (by omega)))))⟩, fun b b1 b2 b3 => funext fun j => (vu_n (by omega)).trans ((vu_n (by omega)).trans ((V1 _ _).trans ((C1 _ _ (by omega)).trans (vu_n (by omega))))), fun i hi => (vu_n (by omega)).trans ((vu_n (by omega)).trans ((V1 _ _).trans (C2 i hi))), fun j hj => (vu_n (by omega)).trans ((vu_n (by omega)).trans ((V1 _ _).trans ((C1 _ _ (by omega)).trans (vu_n (by omega))))), ⟨?_, fun j hj => (vu_n (by omega)).trans ((vu_n (by omega)).trans ((V1 _ _).trans ((C1 _ _ (by omega)).trans (vu_n (by omega)))))⟩, (v3 129 (by decide)).trans (congrFun (congrArg Prod.fst C3) 129), fun i hi => (v5 i (Nat.zero_le _) hi).trans (congrFun (congrFun (congrArg Prod.fst C3) 129) i), fun j hj => (v6 j (by omega)).trans (congrFun (congrFun (congrArg Prod.fst C3) 130) j)⟩
    rw [vu_n (by omega), show (vu V 128 k.toNat 1).1 128 k.toNat = 1 from vu_e rfl]
    decide
  · rw [if_neg c]
    exact Or.inl ⟨c, told_n (by decide)⟩
theorem bk72_e {k : Int} (hk : 0 ≤ k) : ∀ (c l r : Nat) (W : jW), l + c = 1600 → c < r → ∃ V : jW, d_X12_back_r125d_72 r k (l : Int) W = d_X12_told_r125d 0 (vu (vu V 125 8 0) 125 36 0) ∧ V.1 = W.1 ∧ (∀ b : Nat, b ≠ 129 → V.2.1 b = W.2.1 b) ∧ V.2.2 = W.2.2 ∧ (∀ i : Nat, l ≤ i → i < 1600 → V.2.1 129 i = W.2.1 130 (1600 * k.toNat + i)) ∧ ∀ j : Nat, (j < l ∨ 1600 ≤ j) → V.2.1 129 j = W.2.1 129 j := by
  intro c
  induction c with
  | zero =>
    intro l r W hl hr
    obtain ⟨r, rfl⟩ : ∃ q, r = q + 1 := ⟨r - 1, by omega⟩
    refine ⟨W, ?_, rfl, fun _ _ => rfl, rfl, fun i h1 h2 => by omega, fun _ _ => rfl⟩
    rw [d_X12_back_r125d_72.eq_2, if_pos (by omega)]
  | succ c ih =>
    intro l r W hl hr
    obtain ⟨r, rfl⟩ : ∃ q, r = q + 1 := ⟨r - 1, by omega⟩
    rw [d_X12_back_r125d_72.eq_2, if_neg (by omega), show ((1600 * k) + (l : Int)).toNat = 1600 * k.toNat + l from by omega, Int.toNat_natCast, show (l : Int) + 1 = ((l + 1 : Nat) : Int) from by omega]
    obtain ⟨V, v1, v2, v3, v4, v5, v6⟩ := ih (l + 1) r (vuL W 129 l (W.2.1 130 (1600 * k.toNat + l))) (by omega) (by omega)
    have u : ∀ b j : Nat, ¬ (b = 129 ∧ j = l) → (vuL W 129 l (W.2.1 130 (1600 * k.toNat + l))).2.1 b j = W.2.1 b j := fun b j hb => if_neg hb
    refine ⟨V, v1, v2, fun b hb => (v3 b hb).trans (funext fun j => u b j (fun z => hb z.1)), v4, fun i h1 h2 => ?_, fun j hj => (v6 j (by omega)).trans (u 129 j (by omega))⟩
    by_cases z : i = l
    · rw [z, v6 _ (by omega)]
      exact if_pos ⟨rfl, rfl⟩
    · rw [v5 i (by omega) h2]
      exact u 130 _ (by omega)
theorem bk_M {k : Int} {M : jW} : bkM k M (d_X12_back_r125d k M) := by
  unfold bkM d_X12_back_r125d
  by_cases c : 0 ≤ k ∧ k ≤ 3
  · rw [if_pos c]
    refine Or.inr ⟨c, ?_⟩
    by_cases z : M.1 128 k.toNat = 0
    · rw [if_pos z]
      exact Or.inl ⟨z, told_n (by decide)⟩
    rw [if_neg z]
    refine Or.inr ⟨z, ?_⟩
    show (d_X12_back_r125d_72 1601 k ((0 : Nat) : Int) (bkC k.toNat (vu M 125 0 0))).1 = 0 ∧ bkT k.toNat M (d_X12_back_r125d_72 1601 k ((0 : Nat) : Int) (bkC k.toNat (vu M 125 0 0))).2
    obtain ⟨V, v1, v2, v3, v4, v5, v6⟩ := bk72_e (k := k) c.1 1600 0 1601 (bkC k.toNat (vu M 125 0 0)) (by omega) (by omega)
    rw [v1, told_p (by decide)]
    have C1 : ∀ b j : Nat, ¬ (b = 126 ∧ 0 ≤ j ∧ j < 0 + 50660) → (bkC k.toNat (vu M 125 0 0)).1 b j = (vu M 125 0 0).1 b j := fun b j h => if_neg h
    have C2 : ∀ i : Nat, i < 50660 → (bkC k.toNat (vu M 125 0 0)).1 126 i = M.1 127 (50660 * k.toNat + i) := fun i hi => by
      refine (if_pos ⟨rfl, by omega, by omega⟩).trans ?_
      rw [show 50660 * k.toNat + (i - 0) = 50660 * k.toNat + i from by omega]
      exact vu_n (by omega)
    have C3 : (bkC k.toNat (vu M 125 0 0)).2 = M.2 := rfl
    generalize bkC k.toNat (vu M 125 0 0) = I at *
    have V1 : ∀ b j : Nat, V.1 b j = I.1 b j := fun b j => by rw [v2]
    refine ⟨rfl, ⟨vu_e rfl, (vu_n (by omega)).trans ((vu_n (by omega)).trans (vu_e rfl)), (vu_n (by omega)).trans (vu_e rfl), fun j j0 j1 j8 j36 => (vu_n (by omega)).trans ((vu_n (by omega)).trans ((vu_n (by omega)).trans ((V1 _ _).trans ((C1 _ _ (by omega)).trans (vu_n (by omega))))))⟩, fun b b1 b2 => funext fun j => (vu_n (by omega)).trans ((vu_n (by omega)).trans ((vu_n (by omega)).trans ((V1 _ _).trans ((C1 _ _ (by omega)).trans (vu_n (by omega)))))), fun i hi => (vu_n (by omega)).trans ((vu_n (by omega)).trans ((vu_n (by omega)).trans ((V1 _ _).trans (C2 i hi)))), fun i hi => (v5 i (Nat.zero_le _) hi).trans (congrFun (congrFun (congrArg Prod.fst C3) 130) _), fun i hi => (v6 i (by omega)).trans (congrFun (congrFun (congrArg Prod.fst C3) 129) _), (v3 130 (by decide)).trans (congrFun (congrArg Prod.fst C3) 130)⟩
  · rw [if_neg c]
    exact Or.inl ⟨c, told_n (by decide)⟩
