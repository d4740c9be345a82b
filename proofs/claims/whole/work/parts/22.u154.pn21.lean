/-! pure: the reference's SPELLINGS told, as one function; what it leaves is as pn14 asks -/
def spL (a q : Nat) (T : jW) : Nat → jW → jW
  | 0, V => V
  | i + 1, V => vu (spL a q T i V) 134 (48 * a + 3 * q + i) (T.1 136 (3 * q + i))
def spS (a : Nat) (T : jW) : Nat → jW → jW
  | 0, V => V
  | k + 1, V => spL a k T (T.1 135 k).toNat (vu (spS a T k V) 133 (16 * a + k) (T.1 135 k))
/-- the tail of spell() -/
def d_spt (a : Int) (W : jW) : Int × jW := d_X12_told_r125d (W.1 125 18) (spS a.toNat W (2 * (W.1 125 18).toNat) (vu W 132 a.toNat (W.1 125 18)))
theorem spL_v {a q : Nat} {T : jW} : ∀ (n : Nat) (V : jW), (∀ c : Nat, c ≠ 134 → (spL a q T n V).1 c = V.1 c) ∧ (spL a q T n V).2 = V.2 ∧ (∀ i : Nat, i < n → (spL a q T n V).1 134 (48 * a + 3 * q + i) = T.1 136 (3 * q + i)) ∧ ∀ j : Nat, (j < 48 * a + 3 * q ∨ 48 * a + 3 * q + n ≤ j) → (spL a q T n V).1 134 j = V.1 134 j := by
  intro n
  induction n with
  | zero => intro V; exact ⟨fun _ _ => rfl, rfl, fun j hj => absurd hj (Nat.not_lt_zero _), fun _ _ => rfl⟩
  | succ n ih =>
    intro V
    obtain ⟨i1, i2, i3, i4⟩ := ih V
    unfold spL
    refine ⟨fun c hc => (vu_c hc).trans (i1 c hc), i2, fun j hj => ?_, fun j hj => (vu_n (by omega)).trans (i4 j (by omega))⟩
    by_cases z : j = n
    · rw [z]; exact vu_e rfl
    · exact (vu_n (by omega)).trans (i3 j (by omega))
theorem spS_v {a : Nat} {T : jW} : ∀ (k : Nat) (V : jW), (∀ q : Nat, q < k → T.1 135 q ≤ 3) → (∀ c : Nat, c ≠ 133 → c ≠ 134 → (spS a T k V).1 c = V.1 c) ∧ (spS a T k V).2 = V.2 ∧ (∀ j : Nat, j < k → (spS a T k V).1 133 (16 * a + j) = T.1 135 j) ∧ (∀ j : Nat, (j < 16 * a ∨ 16 * a + k ≤ j) → (spS a T k V).1 133 j = V.1 133 j) ∧ (∀ q i : Nat, q < k → (i : Int) < T.1 135 q → (spS a T k V).1 134 (48 * a + 3 * q + i) = T.1 136 (3 * q + i)) ∧ ∀ j : Nat, (j < 48 * a ∨ 48 * a + 3 * k ≤ j) → (spS a T k V).1 134 j = V.1 134 j := by
  intro k
  induction k with
  | zero => intro V _; exact ⟨fun _ _ _ => rfl, rfl, fun j hj => absurd hj (Nat.not_lt_zero _), fun _ _ => rfl, fun q i hq => absurd hq (Nat.not_lt_zero _), fun _ _ => rfl⟩
  | succ k ih =>
    intro V hc
    obtain ⟨i1, i2, i3, i4, i5, i6⟩ := ih V (fun q hq => hc q (by omega))
    have hk := hc k (by omega)
    unfold spS
    obtain ⟨l1, l2, l3, l4⟩ := spL_v (a := a) (q := k) (T := T) (T.1 135 k).toNat (vu (spS a T k V) 133 (16 * a + k) (T.1 135 k))
    generalize spL a k T (T.1 135 k).toNat (vu (spS a T k V) 133 (16 * a + k) (T.1 135 k)) = L at *
    generalize spS a T k V = S at *
    refine ⟨fun c c1 c2 => (l1 c c2).trans ((vu_c c1).trans (i1 c c1 c2)), l2.trans i2, fun j hj => ?_, fun j hj => (congrFun (l1 133 (by decide)) j).trans ((vu_n (by omega)).trans (i4 j (by omega))), fun q i hq hi => ?_, fun j hj => (l4 j (by omega)).trans ((vu_n (by omega)).trans (i6 j (by omega)))⟩
    · rw [l1 133 (by decide)]
      by_cases z : j = k
      · rw [z]; exact vu_e rfl
      · exact (vu_n (by omega)).trans (i3 j (by omega))
    · by_cases z : q = k
      · rw [z] at hi ⊢
        exact l3 i (by omega)
      · have hq3 := hc q hq
        rw [l4 _ (by omega), vu_n (by omega)]
        exact i5 q i (by omega) hi
theorem spt_T {a : Int} {T : jW} (ha : 0 ≤ a ∧ a ≤ 15) (h8 : T.1 125 8 = 0) (hn : 0 ≤ T.1 125 18 ∧ T.1 125 18 ≤ 8) (hc : ∀ k : Nat, (k : Int) < 2 * T.1 125 18 → T.1 135 k ≤ 3) : (d_spt a T).1 = T.1 125 18 ∧ (d_spt a T).2.1 125 8 = 0 ∧ (∀ S : jW, (∀ c : Nat, c ≠ 125 → T.1 c = S.1 c) → (∀ k : Nat, k ≠ 8 → T.1 125 k = S.1 125 k) → T.2 = S.2 → spT S a.toNat (d_spt a T).2) := by
  unfold d_spt
  rw [told_p hn.1]
  obtain ⟨i1, i2, i3, i4, i5, i6⟩ := spS_v (a := a.toNat) (T := T) (2 * (T.1 125 18).toNat) (vu T 132 a.toNat (T.1 125 18)) (fun q hq => hc q (by omega))
  generalize spS a.toNat T (2 * (T.1 125 18).toNat) (vu T 132 a.toNat (T.1 125 18)) = V at *
  have o : ∀ c : Nat, c ≠ 132 → c ≠ 133 → c ≠ 134 → V.1 c = T.1 c := fun c h1 h2 h3 => (i1 c h2 h3).trans (vu_c h1)
  have v8 : V.1 125 8 = 0 := (congrFun (o 125 (by decide) (by decide) (by decide)) 8).trans h8
  refine ⟨rfl, (vu_n (by omega)).trans v8, fun S c1 c2 c3 => ⟨⟨vu_e rfl, (vu_n (by omega)).trans v8, fun k k1 k8 => (vu_n (by omega)).trans ((congrFun (o 125 (by decide) (by decide) (by decide)) k).trans (c2 k k8))⟩, fun c d1 d2 d3 d4 => (vu_c d1).trans ((o c d2 d3 d4).trans (c1 c d1)), i2.trans c3, ⟨?_, fun k hk => ?_⟩, fun k hk => ?_, fun k hk => ?_, fun k i hk hi => ?_, fun k hk => ?_⟩⟩
  · rw [vu_n (by omega), i1 132 (by decide) (by decide), vu_e rfl, c2 18 (by decide)]
  · rw [vu_n (by omega), i1 132 (by decide) (by decide), vu_n (by omega), c1 132 (by decide)]
  · rw [← c2 18 (by decide)] at hk
    rw [vu_n (by omega), i3 k (by omega), c1 135 (by decide)]
  · rw [vu_n (by omega), i4 k (by omega), vu_n (by omega), c1 133 (by decide)]
  · rw [← c2 18 (by decide)] at hk
    rw [← c1 135 (by decide)] at hi
    rw [vu_n (by omega), i5 k i (by omega) hi, c1 136 (by decide)]
  · rw [vu_n (by omega), i6 k (by omega), vu_n (by omega), c1 134 (by decide)]
