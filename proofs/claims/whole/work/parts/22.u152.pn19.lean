/-! pure: a new pair -/
def pS0 (W : jW) : Prop := ((∀ j : Nat, W.1 126 j = 0) ∧ (∀ j : Nat, W.1 132 j = 0)) ∧ (∀ f : Nat, f < 16 → W.1 (33 + 2 * f) 3 = 0) ∧ (W.1 32 18 = 0 ∧ W.1 32 19 = 1) ∧ (pSu W ∧ pS4 W ∧ pWs W) ∧ (∀ h : Nat, h < 16 → W.1 74 h = 0) ∧ ((W.1 78 2 = W.1 125 23 ∧ W.1 78 3 = W.1 125 24 ∧ W.1 78 4 = W.1 125 25 ∧ W.1 78 5 = W.1 125 26 ∧ W.1 78 6 = W.1 125 27) ∧ ((0 ≤ W.1 125 23 ∧ W.1 125 23 ≤ 100) ∧ (0 ≤ W.1 125 24 ∧ W.1 125 24 ≤ 100) ∧ (0 ≤ W.1 125 25 ∧ W.1 125 25 ≤ 100) ∧ (0 ≤ W.1 125 26 ∧ W.1 125 26 ≤ 100)) ∧ (0 ≤ W.1 125 27 ∧ W.1 125 27 ≤ 20)) ∧ (W.1 87 3 = 0 ∧ W.1 125 36 = 0) ∧ (W.1 86 2 ≤ 0 ∧ W.1 101 2 ≤ 0 ∧ W.1 105 2 ≤ 0 ∧ W.1 111 2 ≤ 0 ∧ W.1 114 2 ≤ 0 ∧ W.1 119 2 ≤ 0 ∧ W.1 87 13 ≤ 0) ∧ W.1 31 12 = W.1 125 1 ∧ (W.1 68 1 = 0 ∧ W.1 125 8 = 0 ∧ (∀ i : Nat, i < 400 → W.1 69 i = W.1 131 i) ∧ W.1 68 2 = W.1 125 13) ∧ W.1 123 = W.1 173 ∧ (∀ k : Nat, W.2.1 65 k = W.2.1 129 k) ∧ (∀ k : Nat, k < 4 → W.2.2.1 67 k = none ∧ W.1 128 k = 0) ∧ ∀ c k T : Nat, c = 66 ∨ (174 ≤ c ∧ c < W.2.2.2.2) → W.2.2.1 c k = some T → T < W.2.2.2.2
theorem z_D {X : jW} {r : Nat → Int} (z : ∀ j : Nat, r j = 0) (f : ∀ f : Nat, f < 16 → X.1 (33 + 2 * f) 3 = 0) : pD X 32 r := by
  refine ⟨fun t ht => ?_, ⟨by rw [z]; omega, ?_, fun l j hl => ?_⟩, ⟨by rw [z]; omega, ?_, fun i hi => ?_⟩, ⟨by rw [z, z]; omega, ?_, fun k hk => ?_, fun k m _ hm => ?_, fun h hh => ?_⟩⟩
  · have k1 : (pTs.all fun t => Nat.ble t.1 15) = true := rfl
    have k2 := Nat.le_of_ble_eq_true (List.all_eq_true.1 k1 t ht)
    refine ⟨?_, by rw [z]; exact ⟨Int.le_refl 0, Int.natCast_nonneg _⟩, fun i c hi _ => ?_⟩
    · rw [z, show 32 + 1 + 2 * t.1 = 33 + 2 * t.1 from by omega]
      exact f t.1 (by omega)
    · rw [z] at hi; omega
  · rw [z]; exact f 1 (by decide)
  · rw [z] at hl; omega
  · rw [z]; exact f 3 (by decide)
  · rw [z] at hi; omega
  · rw [z]; exact f 8 (by decide)
  · rw [z] at hk; omega
  · rw [z] at hm; omega
  · rw [z] at hh; omega
theorem z_w {r : Nat → Int} (z : ∀ j : Nat, r j = 0) : pIw r := by
  refine ⟨fun q t wm ht => ⟨pEv_i.mpr ⟨⟨?_, fun k hk => ?_⟩, ⟨?_, fun k hk => ?_⟩, ⟨?_, ?_, fun k hk => ?_, fun k hk => ?_⟩, ⟨?_, ?_, fun k hk => ?_, fun k m _ hm => ?_⟩, ix_r ?_ (fun t _ h => ?_), fun i hi => ?_, ⟨fun i hi => ?_, fun i j _ hj => ?_⟩, fun i hi => ?_, ht, by omega, fun a ha => absurd ha (Nat.not_lt_zero a), ?_⟩, ⟨fun l hl => ?_, fun l hl => ?_, fun l hl => ?_, ?_, ?_, ?_, ?_⟩, fun l hl => ?_, fun l hl => ?_, ?_⟩, fun i hi => ?_⟩
  · show 0 ≤ r 2 ∧ r 2 ≤ 200; rw [z]; omega
  · change (k : Int) < r 2 at hk; rw [z] at hk; omega
  · show 0 ≤ r 5 ∧ r 5 ≤ 100; rw [z]; omega
  · change (k : Int) < r 5 at hk; rw [z] at hk; omega
  · show 0 ≤ r 8 ∧ r 8 ≤ 100; rw [z]; omega
  · show 0 ≤ r 10 ∧ r 10 ≤ 100; rw [z]; omega
  · change (k : Int) < r 8 at hk; rw [z] at hk; omega
  · change (k : Int) < r 10 at hk; rw [z] at hk; omega
  · show 0 ≤ r 7 ∧ r 7 ≤ 40; rw [z]; omega
  · show 0 ≤ r 9 ∧ r 9 ≤ r 7; rw [z, z]; omega
  · change (k : Int) < r 9 at hk; rw [z] at hk; omega
  · change (m : Int) < r 9 at hm; rw [z] at hm; omega
  · show 0 ≤ r 4 ∧ r 4 ≤ 30; rw [z]; omega
  · change t < r 4 at h; rw [z] at h; omega
  · change (i : Int) < r 16 at hi; rw [z] at hi; omega
  · change (i : Int) < r 13 at hi; rw [z] at hi; omega
  · change (j : Int) < r 14 at hj; rw [z] at hj; omega
  · change (i : Int) < r 15 at hi; rw [z] at hi; omega
  · show 0 ≤ r 0 ∧ r 0 ≤ 200; rw [z]; omega
  · change (l : Int) < r 11 at hl; rw [z] at hl; omega
  · change (l : Int) < r 0 at hl; rw [z] at hl; omega
  · change (l : Int) < r 6 at hl; rw [z] at hl; omega
  · show 0 ≤ r 6 ∧ r 6 ≤ 40; rw [z]; omega
  · show 0 ≤ r 11 ∧ r 11 ≤ 40; rw [z]; omega
  · show 0 ≤ r 12 ∧ r 12 ≤ 100; rw [z]; omega
  · show 0 ≤ r 3 ∧ r 3 ≤ 20; rw [z]; omega
  · change (l : Int) < r 0 at hl; rw [z] at hl; omega
  · change (l : Int) < r 0 at hl; rw [z] at hl; omega
  · show pBnd r
    unfold pBnd
    rw [z, z, z, z, z, z, z, z, z]
    omega
  · rw [z] at hi; omega
theorem st_0 {W : jW} (H : pS0 W) : pR 1 W W := by
  obtain ⟨⟨z, z2⟩, f, ⟨v18, v19⟩, ⟨su, s4, ws⟩, h74, ⟨⟨t1, t2, t3, t4, t5⟩, tr, t6⟩, ⟨w1, w2⟩, ⟨k1, k2, k3, k4, k5, k6, k7⟩, st, ⟨p1, p2, p3, p4⟩, ac, se, im, nx⟩ := H
  have zr : ∀ j : Nat, (eOf W).1 j = 0 := z
  have D : pD W 32 (eOf W).1 := z_D zr f
  have IW := z_w zr
  have I := IW.1 (eOf W).2 (W.1 125 23, W.1 125 24, W.1 125 25, W.1 125 26) (fun _ => 0) tr
  have TQ : pTq W 32 (eOf W).1 := ⟨by rw [zr]; exact v18, fun t _ h => by rw [zr] at h; omega⟩
  have P : pCp W (eOf W) (W.1 125 23, W.1 125 24, W.1 125 25, W.1 125 26) 0 (fun _ => 0) := by
    refine ⟨⟨fun h hh => ?_, I.2.2.1, I.2.2.2.1, t6, t5, D.1 pt_2 (by decide), fun q hq => ?_, fun m hm => ?_⟩, D, pTq_t TQ, su, fun h hh => ?_, ⟨t1, t2, t3, t4⟩, w1, fun a ha => absurd ha (Nat.not_lt_zero a), by rw [v19]; omega⟩
    · show (0 ≤ W.1 132 h ∧ W.1 132 h ≤ 8) ∧ ∀ p : Nat, (p : Int) < W.1 132 h → _
      rw [z2]
      exact ⟨by omega, fun p hp => by omega⟩
    · rw [zr] at hq; omega
    · rw [zr] at hm; omega
    · show W.1 74 h = W.1 132 h ∧ ∀ p : Nat, (p : Int) < W.1 132 h → _
      rw [z2, h74 h hh]
      exact ⟨rfl, fun p hp => by omega⟩
  have KY : ∀ q : Nat × Nat, q ∈ kyl → W.1 q.1 q.2 ≤ 0 := fun q hq => by
    unfold kyl at hq
    simp only [List.mem_cons, List.not_mem_nil, or_false] at hq
    rcases hq with rfl | rfl | rfl | rfl | rfl | rfl | rfl
    · exact k1
    · exact k2
    · exact k3
    · exact k4
    · exact k5
    · exact k6
    · exact k7
  have B : pRb W W (eOf W) (W.1 125 23, W.1 125 24, W.1 125 25, W.1 125 26) 0 (fun _ => 0) (fun k => W.2.1 65 k) := ⟨P, ⟨rfl, ⟨rfl, rfl, rfl, rfl⟩, w2, fun a ha => absurd ha (Nat.not_lt_zero a)⟩, I, IW.2, ⟨s4, ws⟩, nx, TQ, fun _ => rfl, fun k => (se k).symm, ac, ⟨⟨by rw [p1, p2], by rw [p2]; omega, p3⟩, p4⟩, fun k hk => Or.inl (im k hk), fun k A hk hA => by rw [(im k hk).1] at hA; cases hA⟩
  exact ⟨_, _, _, _, _, B, pCk_0 (fun q hq => by have := KY q hq; rw [v19]; omega), st, by rw [v19]; omega, fun q hq => by have := KY q hq; rw [v19]; omega⟩
