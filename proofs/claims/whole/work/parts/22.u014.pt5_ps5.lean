section jG11
/-! pure: a LINE -/
section
variable {a1 a2 a3 a4 a5 l7 l8 : Int}
def zxE (l1 : Int) (W : jW) : Int × jW := if d_X9_isSign_r68d 46 (d_X9_step_r68d (vu (vu W 68 2 (-1)) 68 4 0)) = 0 then d_X5_readLine_r70d_50 3 l1 0 (d_X9_step_r68d (vu (vu W 68 2 (-1)) 68 4 0)) else if (d_X9_step_r68d (d_X9_step_r68d (vu (vu W 68 2 (-1)) 68 4 0))).1 68 5 = 0 then (0, d_X9_step_r68d (d_X9_step_r68d (vu (vu W 68 2 (-1)) 68 4 0))) else (-1, vu (d_X9_step_r68d (d_X9_step_r68d (vu (vu W 68 2 (-1)) 68 4 0))) 68 2 ((d_X9_step_r68d (d_X9_step_r68d (vu (vu W 68 2 (-1)) 68 4 0))).1 68 3))
theorem zx_s {r : Nat} {l1 i : Int} {X : jW} : d_X5_readLine_r70d_2 (r + 1) l1 i X = if 84 ≤ i then zxE l1 X else d_X5_readLine_r70d_2 r l1 (i + 1) (vu X 71 i.toNat 0) := rfl
theorem zx_e {l1 : Int} : ∀ (r : Nat) (i : Int) (X : jW), 0 ≤ i → i ≤ 84 → 84 - i < (r : Int) → ∃ Y : jW, d_X5_readLine_r70d_2 r l1 i X = zxE l1 Y ∧ pOn 71 i 84 X Y ∧ ∀ k : Nat, i ≤ (k : Int) → (k : Int) < 84 → Y.1 71 k = 0 := by
  intro r
  induction r with
  | zero => intros; exfalso; omega
  | succ r ih =>
    intro i X h0 h1 h2
    rw [zx_s]
    by_cases c : 84 ≤ i
    · rw [if_pos c]
      exact ⟨X, rfl, pOn_r, fun k k1 k2 => by omega⟩
    · rw [if_neg c]
      obtain ⟨Y, e, o, z⟩ := ih (i + 1) (vu X 71 i.toNat 0) (by omega) (by omega) (by omega)
      refine ⟨Y, e, ⟨fun b k hb => (o.1 b k (by omega)).trans (vu_n (by omega)), o.2⟩, fun k k1 k2 => ?_⟩
      by_cases g : (k : Int) = i
      · rw [o.1 71 k (by omega)]
        exact vu_e (by omega)
      · exact z k (by omega) k2
def zmE (a1 a2 a3 a4 a5 l7 l8 : Int) (W : jW) : Int × jW := if (d_X12_next_r125d (vu (vu (vu W 125 10 0) 125 14 0) 125 13 (-1))).1 125 11 = 0 then d_X12_line_r125d_171 4 a1 a2 a3 a4 a5 l7 l8 0 0 (d_X12_next_r125d (vu (vu (vu W 125 10 0) 125 14 0) 125 13 (-1))) else if (d_X12_next_r125d (vu (vu (vu W 125 10 0) 125 14 0) 125 13 (-1))).1 125 11 = 3 then (if (d_X12_next_r125d (vu (vu (vu W 125 10 0) 125 14 0) 125 13 (-1))).2.1 125 12 = 46 then d_X12_line_r125d_171 4 a1 a2 a3 a4 a5 l7 l8 0 0 (d_X12_next_r125d (vu (vu (vu W 125 10 0) 125 14 0) 125 13 (-1))) else d_X12_line_r125d_171 4 a1 a2 a3 a4 a5 l7 l8 0 1 (d_X12_next_r125d (vu (vu (vu W 125 10 0) 125 14 0) 125 13 (-1)))) else d_X12_line_r125d_171 4 a1 a2 a3 a4 a5 l7 l8 0 1 (d_X12_next_r125d (vu (vu (vu W 125 10 0) 125 14 0) 125 13 (-1)))
theorem zm_s {r : Nat} {i : Int} {W : jW} : d_X12_line_r125d_117 (r + 1) a1 a2 a3 a4 a5 l7 l8 i W = if 90 ≤ i then zmE a1 a2 a3 a4 a5 l7 l8 W else d_X12_line_r125d_117 r a1 a2 a3 a4 a5 l7 l8 (i + 1) (vu W 126 (l8 + i).toNat 0) := rfl
theorem zm_e (h8 : 0 ≤ l8) : ∀ (r : Nat) (i : Int) (M : jW), 0 ≤ i → i ≤ 90 → 90 - i < (r : Int) → ∃ N : jW, d_X12_line_r125d_117 r a1 a2 a3 a4 a5 l7 l8 i M = zmE a1 a2 a3 a4 a5 l7 l8 N ∧ pOn 126 (l8 + i) (l8 + 90) M N ∧ ∀ k : Nat, i ≤ (k : Int) → (k : Int) < 90 → N.1 126 (l8.toNat + k) = 0 := by
  intro r
  induction r with
  | zero => intros; exfalso; omega
  | succ r ih =>
    intro i M h0 h1 h2
    rw [zm_s]
    by_cases c : 90 ≤ i
    · rw [if_pos c]
      exact ⟨M, rfl, pOn_r, fun k k1 k2 => by omega⟩
    · rw [if_neg c]
      obtain ⟨Y, e, o, z⟩ := ih (i + 1) (vu M 126 (l8 + i).toNat 0) (by omega) (by omega) (by omega)
      refine ⟨Y, e, ⟨fun b k hb => (o.1 b k (by omega)).trans (vu_n (by omega)), o.2⟩, fun k k1 k2 => ?_⟩
      by_cases g : (k : Int) = i
      · rw [o.1 126 (l8.toNat + k) (by omega)]
        exact vu_e (by omega)
      · exact z k (by omega) k2
theorem rn_end {a : Int} {S : jW} (h : S.1 68 5 = 0) : d_X5_readName_r70d a S = (1, S) := by
  unfold d_X5_readName_r70d
  rw [if_pos h]
/-- the readers of a LINE from its first sign on -/
theorem ln_a {X M : jW} {l1 : Int} {b : Nat} (h : pTp X M) (hl1 : l1 = if a1 = 0 then 3 else if a1 = 1 then 2 else 1) (h8 : l8 + 6 = (b : Int)) (h80 : 0 ≤ l8) : ∃ N0 : jW, (∀ j : Nat, ((j : Int) < l8 ∨ l8 + 90 ≤ (j : Int)) → N0.1 126 j = M.1 126 j) ∧ rlO a1 a2 a3 a4 a5 l7 l8 (d_X5_readLine_r70d l1 X) (d_X12_line_r125d_117 91 a1 a2 a3 a4 a5 l7 l8 0 M) b N0 := by
  have hl : 1 ≤ l1 := by
    rw [hl1]
    repeat' split
    all_goals omega
  obtain ⟨Y, eX, oX, zX⟩ := @zx_e l1 85 0 X (by omega) (by omega) (by omega)
  obtain ⟨N, eM, oM, zM⟩ := @zm_e a1 a2 a3 a4 a5 l7 l8 h80 91 0 M (by omega) (by omega) (by omega)
  unfold d_X5_readLine_r70d
  rw [eX, eM]
  unfold zxE zmE
  have u1 : (vu (vu Y 68 2 (-1)) 68 4 0).1 68 1 = X.1 68 1 := by rw [vu_n (by omega), vu_n (by omega)]; exact oX.1 68 1 (by omega)
  have u2 : (vu (vu Y 68 2 (-1)) 68 4 0).1 68 2 = -1 := by rw [vu_n (by omega)]; exact vu_e rfl
  have u4 : (vu (vu Y 68 2 (-1)) 68 4 0).1 68 4 = 0 := vu_e rfl
  have u9 : (vu (vu Y 68 2 (-1)) 68 4 0).1 69 = X.1 69 := by rw [vu_c (by decide), vu_c (by decide)]; exact pOn_c oX (by decide)
  have u7 : (vu (vu Y 68 2 (-1)) 68 4 0).1 71 = Y.1 71 := by rw [vu_c (by decide), vu_c (by decide)]
  have m8 : (vu (vu (vu N 125 10 0) 125 14 0) 125 13 (-1)).1 125 8 = M.1 125 8 := by rw [vu_n (by omega), vu_n (by omega), vu_n (by omega)]; exact oM.1 125 8 (by omega)
  have m10 : (vu (vu (vu N 125 10 0) 125 14 0) 125 13 (-1)).1 125 10 = 0 := by rw [vu_n (by omega), vu_n (by omega)]; exact vu_e rfl
  have m14 : (vu (vu (vu N 125 10 0) 125 14 0) 125 13 (-1)).1 125 14 = 0 := by rw [vu_n (by omega)]; exact vu_e rfl
  have m13 : (vu (vu (vu N 125 10 0) 125 14 0) 125 13 (-1)).1 125 13 = -1 := vu_e rfl
  have mb : (vu (vu (vu N 125 10 0) 125 14 0) 125 13 (-1)).1 131 = M.1 131 := by rw [vu_c (by decide), vu_c (by decide), vu_c (by decide)]; exact pOn_c oM (by decide)
  have mr : (vu (vu (vu N 125 10 0) 125 14 0) 125 13 (-1)).1 126 = N.1 126 := by rw [vu_c (by decide), vu_c (by decide), vu_c (by decide)]
  generalize (vu (vu Y 68 2 (-1)) 68 4 0) = Y1 at *
  generalize (vu (vu (vu N 125 10 0) 125 14 0) 125 13 (-1)) = N1 at *
  have hp : pTp Y1 N1 := tp_c u1 u9 m8 mb h
  have k : pTk (d_X9_step_r68d Y1) (d_X12_next_r125d N1) := tk_n hp (by rw [u4, m10]) (by omega) (by have := hp.2.1; omega)
  obtain ⟨s1, s2, s3, s4⟩ := st_f Y1
  obtain ⟨n1, n2, n3, n4, n5⟩ := nx_f N1
  have P : pPs (d_X9_step_r68d Y1) (d_X12_next_r125d N1) b 0 := by
    refine ⟨k, by rw [n5]; exact m14, by rw [s4, n4, u2, m13], fun j hj => ?_⟩
    rw [s1, n1, u7, mr, zX j (by omega) (by omega), show b + j = l8.toNat + (6 + j) from by omega, zM (6 + j) (by omega) (by omega)]
    exact ⟨rfl, fun _ => rfl⟩
  have out : ∀ j : Nat, ((j : Int) < l8 ∨ l8 + 90 ≤ (j : Int)) → (d_X12_next_r125d N1).1 126 j = M.1 126 j := fun j hj => by
    rw [n1, mr]
    exact oM.1 126 j (by omega)
  clear eX eM oX oM zX zM u1 u2 u4 u9 u7 m8 m10 m14 m13 mb mr hp s1 s2 s3 s4 n1 n2 n3 n4 n5
  generalize d_X9_step_r68d Y1 = S at *
  generalize d_X12_next_r125d N1 = T at *
  refine ⟨T, out, ?_⟩
  have sg := @sg_e S T k 46
  by_cases c0 : T.1 125 11 = 0
  · rw [if_pos c0]
    rw [if_neg (by omega)] at sg
    rw [if_pos sg]
    have z5 : S.1 68 5 = 0 := by have := k.2.2.2.1; omega
    have s63 := @sg_e S T k 63
    rw [if_neg (by omega)] at s63
    have e : d_X5_readLine_r70d_50 3 l1 0 S = (1, S) := by
      rw [rl_s (r := 2), if_neg (by omega), rn_end z5]
      rw [if_neg (show ¬ ((1 : Int), S).1 = 0 from fun z => absurd (show (1 : Int) = 0 from z) (by decide)), if_pos s63]
      rw [show ((1 : Int), S).2 = S from rfl, rn_end z5, if_neg (show ¬ ((1 : Int), S).1 = 0 from fun z => absurd (show (1 : Int) = 0 from z) (by decide))]
      unfold tlX
      rw [if_pos (show ((1 : Int), S).2.1 68 5 = 0 from z5)]
    rw [e]
    refine ⟨T, fun _ _ => rfl, Or.inr ⟨Or.inr rfl, P.2.1, P.2.2.1, k.1, fun j hj => (P.2.2.2 j hj).1, ?_⟩⟩
    rw [l171_0 (r := 3)]
    unfold d_X12_line_r125d_250
    rw [if_pos P.2.1, if_pos c0]
    rfl
  · rw [if_neg c0]
    by_cases c3 : T.1 125 11 = 3 ∧ T.2.1 125 12 = 46
    · rw [if_pos c3.1, if_pos c3.2]
      rw [if_pos c3] at sg
      rw [if_neg (by omega)]
      have P2 := ps_n P
      obtain ⟨n1, n2, n3, n4, n5⟩ := nx_f T
      rw [l171_0 (r := 3)]
      unfold d_X12_line_r125d_250
      rw [if_pos P.2.1, if_neg c0]
      unfold d_X12_line_r125d_300269
      rw [if_pos c3.1, if_pos c3.2]
      have e5 := P2.1.2.2.2.1
      by_cases z : (d_X12_next_r125d T).1 125 11 = 0
      · rw [if_pos z, if_pos (by omega)]
        exact ⟨d_X12_next_r125d T, fun j _ => by rw [n1], Or.inr ⟨Or.inl rfl, P2.2.1, P2.2.2.1, P2.1.1, fun j hj => (P2.2.2.2 j hj).1, rfl⟩⟩
      · rw [if_neg z, if_neg (by omega)]
        obtain ⟨q1, q2, q3, q4⟩ := bl P2.1
        refine ⟨_, fun j _ => ?_, Or.inl ⟨rfl, q3, q1, q2, l305_b q3⟩⟩
        rw [q4, n1]
    · have w : d_X12_line_r125d_171 4 a1 a2 a3 a4 a5 l7 l8 0 1 T = (if T.1 125 11 = 3 then (if T.2.1 125 12 = 46 then d_X12_line_r125d_171 4 a1 a2 a3 a4 a5 l7 l8 0 0 T else d_X12_line_r125d_171 4 a1 a2 a3 a4 a5 l7 l8 0 1 T) else d_X12_line_r125d_171 4 a1 a2 a3 a4 a5 l7 l8 0 1 T) := by
        by_cases g : T.1 125 11 = 3
        · rw [if_pos g, if_neg (fun y => c3 ⟨g, y⟩)]
        · rw [if_neg g]
      rw [← w]
      rw [if_neg c3] at sg
      rw [if_pos sg]
      exact rl_e hl1 h8 3 0 S T P (by omega) (by omega)
end
/-! the calls themselves -/
def lnG (a1 a2 a3 a4 a5 : Int) : Prop := (0 ≤ a1 ∧ a1 ≤ 5) ∧ (0 ≤ a2 ∧ a2 ≤ 15) ∧ (0 ≤ a3 ∧ a3 ≤ 146399) ∧ (0 ≤ a4 ∧ a4 ≤ 146399) ∧ (a1 = 2 → -1 ≤ a5 ∧ a5 ≤ 120) ∧ (a1 = 3 ∨ a1 = 4 → 0 ≤ a5 ∧ a5 ≤ 100000) ∧ (a1 = 5 → 1 ≤ a5 ∧ a5 ≤ 11) ∧ (a1 = 0 ∨ a1 = 1 → a5 = -1)
def lnX (a1 a2 a3 a4 a5 : Int) (W : jW) : Int × jW := if d_X8_isFull_r33d W = 0 then (if (d_X5_readLine_r70d (W.1 1 a1.toNat) W).1 = -1 then (-6, vu (vu (d_X5_readLine_r70d (W.1 1 a1.toNat) W).2 68 1 0) 31 12 (-6)) else d_X11_line_r31d_136 7 (W.1 33 3) 0 (d_X8_add_r33d a4 a3 a1 a2 a5 (d_X5_readLine_r70d (W.1 1 a1.toNat) W).1 (vu (d_X5_readLine_r70d (W.1 1 a1.toNat) W).2 68 1 0))) else (-5, vu (vu W 68 1 0) 31 12 (-5))
section
variable {a1 a2 a3 a4 a5 : Int} {W : jW}
theorem lnX_y (g : lnG a1 a2 a3 a4 a5) : d_X11_line_r31d a1 a2 a3 a4 a5 W = lnX a1 a2 a3 a4 a5 W := by
  obtain ⟨g1, g2, g3, g4, g5, g6, g7, g8⟩ := g
  unfold d_X11_line_r31d
  rw [if_pos g1, if_neg (by omega), if_neg (by omega), if_pos g3, if_pos g4]
  by_cases c2 : a1 = 2
  · rw [if_pos c2, if_pos (g5 c2)]; rfl
  · rw [if_neg c2]
    by_cases c3 : a1 = 3
    · rw [if_pos c3, if_pos (g6 (Or.inl c3))]; rfl
    · rw [if_neg c3]
      by_cases c4 : a1 = 4
      · rw [if_pos c4, if_pos (g6 (Or.inr c4))]; rfl
      · rw [if_neg c4]
        by_cases c5 : a1 = 5
        · rw [if_pos c5, if_pos (g7 c5)]; rfl
        · rw [if_neg c5, if_pos (g8 (by omega))]; rfl
theorem lnX_n (g : ¬ lnG a1 a2 a3 a4 a5) : d_X11_line_r31d a1 a2 a3 a4 a5 W = (-1, vu (vu W 68 1 0) 31 12 (-1)) := by
  unfold lnG at g
  unfold d_X11_line_r31d
  by_cases g1 : 0 ≤ a1 ∧ a1 ≤ 5
  · rw [if_pos g1]
    by_cases g2 : a2 < 0
    · rw [if_pos g2]; rfl
    · rw [if_neg g2]
      by_cases g3 : 15 < a2
      · rw [if_pos g3]; rfl
      · rw [if_neg g3]
        by_cases g4 : 0 ≤ a3 ∧ a3 ≤ 146399
        · rw [if_pos g4]
          by_cases g5 : 0 ≤ a4 ∧ a4 ≤ 146399
          · rw [if_pos g5]
            by_cases c2 : a1 = 2
            · rw [if_pos c2, if_neg (by omega)]; rfl
            · rw [if_neg c2]
              by_cases c3 : a1 = 3
              · rw [if_pos c3, if_neg (by omega)]; rfl
              · rw [if_neg c3]
                by_cases c4 : a1 = 4
                · rw [if_pos c4, if_neg (by omega)]; rfl
                · rw [if_neg c4]
                  by_cases c5 : a1 = 5
                  · rw [if_pos c5, if_neg (by omega)]; rfl
                  · rw [if_neg c5, if_neg (by omega)]; rfl
          · rw [if_neg g5]; rfl
        · rw [if_neg g4]; rfl
  · rw [if_neg g1]; rfl
theorem lnM_y (g : lnG a1 a2 a3 a4 a5) : d_X12_line_r125d a1 a2 a3 a4 a5 W = d_X12_line_r125d_300058 a1 a2 a3 a4 a5 (vu W 125 0 0) := by
  obtain ⟨g1, g2, g3, g4, g5, g6, g7, g8⟩ := g
  unfold d_X12_line_r125d
  rw [if_pos g1, if_pos g2, if_pos g3, if_pos g4]
  by_cases c2 : a1 = 2
  · rw [if_pos c2, if_pos (g5 c2)]
  · rw [if_neg c2]
    by_cases c3 : a1 = 3
    · rw [if_pos c3, if_pos (g6 (Or.inl c3))]
    · rw [if_neg c3]
      by_cases c4 : a1 = 4
      · rw [if_pos c4, if_pos (g6 (Or.inr c4))]
      · rw [if_neg c4]
        by_cases c5 : a1 = 5
        · rw [if_pos c5, if_pos (g7 c5)]
        · rw [if_neg c5, if_pos (g8 (by omega))]
theorem lnM_n (g : ¬ lnG a1 a2 a3 a4 a5) : d_X12_line_r125d a1 a2 a3 a4 a5 W = d_X12_told_r125d (-1) (vu (vu W 125 0 0) 125 8 0) := by
  unfold lnG at g
  unfold d_X12_line_r125d
  repeat' split
  all_goals first
    | (exfalso; omega)
    | rfl
end
/-! six NAMES come behind -/
def e136 (l7 : Int) (W : jW) : Int × jW := (l7, vu (vu (d_X7_learn_r78d l7 (d_X5_learn_r70d l7 (d_X8_add_r63d 0 l7 0 0 0 0 W))) 31 12 0) 32 19 (j_iadd (W.1 32 19) 1))
theorem n136_s {r : Nat} {l7 i : Int} {W : jW} : d_X11_line_r31d_136 (r + 1) l7 i W = if 6 ≤ i then e136 l7 W else d_X11_line_r31d_136 r l7 (i + 1) (d_X8_addFrom_r35_r71d (i * 14) W) := rfl
theorem vC_i {W : jW} {a b i j l m : Nat} (h : j ≤ m ∧ m < j + l) : (vuC W a b i j l).1 b m = W.1 a (i + (m - j)) := if_pos ⟨rfl, h⟩
theorem vC_o {W : jW} {a b i j l c m : Nat} (h : ¬ (c = b ∧ j ≤ m ∧ m < j + l)) : (vuC W a b i j l).1 c m = W.1 c m := if_neg h
theorem n136_e {l7 : Int} {n : Nat} (hn : n < 200) : ∀ (r : Nat) (i : Int) (W : jW), 0 ≤ i → i ≤ 6 → 6 - i < (r : Int) → W.1 35 3 = 6 * (n : Int) + i → ∃ Y : jW, d_X11_line_r31d_136 r l7 i W = e136 l7 Y ∧ pF [(35, 4), (36, 0)] W Y ∧ Y.1 35 3 = 6 * (n : Int) + 6 ∧ (∀ j : Nat, (j : Int) < 84 * (n : Int) + 14 * i → Y.1 36 j = W.1 36 j) ∧ ∀ k : Nat, 14 * i ≤ (k : Int) → k < 84 → Y.1 36 (84 * n + k) = W.1 71 k := by
  intro r
  induction r with
  | zero => intros; exfalso; omega
  | succ r ih =>
    intro i W h0 h1 h2 h3
    rw [n136_s]
    by_cases c : 6 ≤ i
    · rw [if_pos c]
      exact ⟨W, rfl, pF_r, by omega, fun _ _ => rfl, fun k k1 k2 => by omega⟩
    · rw [if_neg c]
      have F1 : pF [(35, 4), (36, 0)] W (d_X8_addFrom_r35_r71d (i * 14) W) := fr_d_X8_addFrom_r35_r71d _ _
      have e : d_X8_addFrom_r35_r71d (i * 14) W = vu (vuC W 71 36 (i * 14).toNat (W.1 35 3 * 14).toNat (14 : Int).toNat) 35 3 (W.1 35 3 + 1) := by
        unfold d_X8_addFrom_r35_r71d
        rw [if_neg (by omega)]
        rfl
      have r0 : (d_X8_addFrom_r35_r71d (i * 14) W).1 35 3 = 6 * (n : Int) + (i + 1) := by
        rw [e, vu_e rfl]
        omega
      have r1 : (d_X8_addFrom_r35_r71d (i * 14) W).1 71 = W.1 71 := pF_c F1 rfl
      have r2 : ∀ j : Nat, (d_X8_addFrom_r35_r71d (i * 14) W).1 36 j = (vuC W 71 36 (i * 14).toNat (W.1 35 3 * 14).toNat (14 : Int).toNat).1 36 j := fun j => by
        rw [e]
        exact vu_n (by omega)
      obtain ⟨Y, q1, q2, q3, q4, q5⟩ := ih (i + 1) (d_X8_addFrom_r35_r71d (i * 14) W) (by omega) (by omega) (by omega) r0
      refine ⟨Y, q1, pF_t F1 q2, q3, fun j hj => ?_, fun k k1 k2 => ?_⟩
      · rw [q4 j (by omega), r2 j]
        exact vC_o (by omega)
      · by_cases g : 14 * (i + 1) ≤ (k : Int)
        · rw [q5 k g k2, r1]
        · rw [q4 (84 * n + k) (by omega), r2, vC_i (by omega)]
          exact congrArg (W.1 71) (by omega)
theorem pD_l {l : List (Nat × Nat)} {X X' : jW} {r r' : Nat → Int} (F : pF l X X') (Rw : ∀ j, j ≠ 0 → (j < 20 ∨ 18020 ≤ j) → r' j = r j) (H : pT X' 32 pt_0 r') (N : pNm X' 32 r') (ck : ((pTs.all fun t => decide (t = pt_0) || (tok l 32 t && (rok 0 20 18020 t && pok t))) && (cok l 32 3 && cok l 32 8)) = true) (h : pD X 32 r) : pD X' 32 r' := by
  rw [Bool.and_eq_true, Bool.and_eq_true] at ck
  have c3 := cok_e F ck.2.1
  have c8 := cok_e F ck.2.2
  exact ⟨pTl_a pt_0 F Rw H ck.1 h.1, N, pBo_e c3.1 c3.2 (fun j hj => Rw j (by omega) (by omega)) h.2.2.1, pHo_e c8.1 c8.2 (fun j hj => Rw j (by omega) (by omega)) h.2.2.2⟩
theorem tp_z {X M : jW} {e f : Int} (h : pTp X M) : pTp (vu (vu X 68 1 0) 31 12 e) (vu (vu M 125 8 0) 125 1 f) := by
  have x1 : (vu (vu X 68 1 0) 31 12 e).1 68 1 = 0 := (vu_n (by omega)).trans (vu_e rfl)
  have m1 : (vu (vu M 125 8 0) 125 1 f).1 125 8 = 0 := (vu_n (by omega)).trans (vu_e rfl)
  refine ⟨by rw [x1, m1], by rw [m1]; omega, fun i hi => ?_⟩
  rw [vu_n (by omega), vu_n (by omega), vu_n (by omega), vu_n (by omega)]
  exact h.2.2 i hi
def loR (X M : jW) (n : Int) (x m : Int × jW) : Prop := ∃ e : Int, (-6 ≤ e ∧ e < 0) ∧ x.1 = e ∧ m.1 = e ∧ x.2.1 31 12 = e ∧ m.2.1 125 1 = e ∧ pTp x.2 m.2 ∧ x.2.1 68 2 = m.2.1 125 13 ∧ pF [(31, 13), (68, 0), (71, 0)] X x.2 ∧ ∀ j : Nat, ((j : Int) < 20 + 90 * n ∨ 20 + 90 * n + 90 ≤ (j : Int)) → m.2.1 126 j = M.1 126 j
def loW (M : jW) (n t a1 a2 a3 a4 a5 : Int) (r : Nat → Int) : Prop := r 0 = n + 1 ∧ r 16 = M.1 126 16 + 1 ∧ (r (20 + 90 * n).toNat = a1 ∧ r (20 + 90 * n + 1).toNat = a2 ∧ r (20 + 90 * n + 2).toNat = a3 ∧ r (20 + 90 * n + 3).toNat = a4 ∧ r (20 + 90 * n + 4).toNat = a5 ∧ r (20 + 90 * n + 5).toNat = t) ∧ (r (49920 + 2 * M.1 126 16).toNat = 0 ∧ r (49920 + 2 * M.1 126 16 + 1).toNat = n) ∧ ∀ j : Nat, j ≠ 0 → j ≠ 16 → ((j : Int) < 20 + 90 * n ∨ 20 + 90 * n + 90 ≤ (j : Int)) → ((j : Int) < 49920 + 2 * M.1 126 16 ∨ 49920 + 2 * M.1 126 16 + 2 ≤ (j : Int)) → r j = M.1 126 j
def loA (X M : jW) (n a1 a2 a3 a4 a5 : Int) (x m : Int × jW) : Prop := ∃ (t : Int) (X1 : jW), (t = 0 ∨ t = 1) ∧ x = (n, vu (vu (d_X7_learn_r78d n (d_X5_learn_r70d n X1)) 31 12 0) 32 19 (j_iadd (X.1 32 19) 1)) ∧ m.1 = n ∧ m.2.1 125 1 = 0 ∧ pTp X1 m.2 ∧ X1.1 68 2 = m.2.1 125 13 ∧ pF [(33, 4), (34, 0), (35, 4), (36, 0), (63, 4), (64, 0), (68, 0), (71, 0)] X X1 ∧ pD X1 32 (m.2.1 126) ∧ loW M n t a1 a2 a3 a4 a5 (m.2.1 126)
theorem ro_e {X : jW} (S : pSt X) {a : Int} (h : 0 ≤ a ∧ a ≤ 5) : X.1 1 a.toNat = if a = 0 then 3 else if a = 1 then 2 else 1 := by
  obtain ⟨s0, s1, s2, s3, s4, s5⟩ := S
  have z : a = 0 ∨ a = 1 ∨ a = 2 ∨ a = 3 ∨ a = 4 ∨ a = 5 := by omega
  rcases z with rfl | rfl | rfl | rfl | rfl | rfl
  · exact s0
  · exact s1
  · exact s2
  · exact s3
  · exact s4
  · exact s5
/-- the row of a LINE that is taken -/
theorem ln_row {X M T Q : jW} {a1 a2 a3 a4 a5 t : Int} {n : Nat} (D : pD X 32 (M.1 126)) (h16 : M.1 126 16 < 370) (hn : M.1 126 0 = (n : Int)) (hf : n < 200) (F : pF [(68, 0), (71, 0)] X Q) (oT : ∀ j : Nat, ((j : Int) < 20 + 90 * (n : Int) ∨ 20 + 90 * (n : Int) + 90 ≤ (j : Int)) → T.1 126 j = M.1 126 j) (dr : ∀ j : Nat, j < 84 → Q.1 71 j = T.1 126 (26 + 90 * n + j)) {V5 : jW} (h5 : V5 = vu (vu (vu (vu (vu (vu T 125 8 0) 126 (20 + 90 * (n : Int)).toNat a1) 126 (20 + 90 * (n : Int) + 1).toNat a2) 126 (20 + 90 * (n : Int) + 2).toNat a3) 126 (20 + 90 * (n : Int) + 3).toNat a4) 126 (20 + 90 * (n : Int) + 4).toNat a5) : ∃ X1 : jW, d_X11_line_r31d_136 7 (n : Int) 0 (d_X8_add_r33d a4 a3 a1 a2 a5 t (vu Q 68 1 0)) = ((n : Int), vu (vu (d_X7_learn_r78d (n : Int) (d_X5_learn_r70d (n : Int) X1)) 31 12 0) 32 19 (j_iadd (X.1 32 19) 1)) ∧ pF [(33, 4), (34, 0), (35, 4), (36, 0), (63, 4), (64, 0)] (vu Q 68 1 0) X1 ∧ pD X1 32 ((vu (vu (vu (vu (vu V5 126 (20 + 90 * (n : Int) + 5).toNat t) 126 0 (V5.1 126 0 + 1)) 126 (49920 + 2 * V5.1 126 16).toNat 0) 126 (49920 + 2 * V5.1 126 16 + 1).toNat (n : Int)) 126 16 (V5.1 126 16 + 1)).1 126) ∧ loW M n t a1 a2 a3 a4 a5 ((vu (vu (vu (vu (vu V5 126 (20 + 90 * (n : Int) + 5).toNat t) 126 0 (V5.1 126 0 + 1)) 126 (49920 + 2 * V5.1 126 16).toNat 0) 126 (49920 + 2 * V5.1 126 16 + 1).toNat (n : Int)) 126 16 (V5.1 126 16 + 1)).1 126) := by
  have tb0 := D.1 pt_0 (by decide)
  have tb15 := D.1 pt_15 (by decide)
  have e33 : X.1 33 3 = M.1 126 0 := tb0.1
  have b16 : 0 ≤ M.1 126 16 ∧ M.1 126 16 ≤ 370 := tb15.2.1
  have e35 : X.1 35 3 = 6 * M.1 126 0 := D.2.1.2.1
  -- V5 where it is read
  have v0 : V5.1 126 0 = (n : Int) := by rw [h5]; (repeat rw [vu_n (by omega)]); rw [oT 0 (by omega)]; exact hn
  have v16 : V5.1 126 16 = M.1 126 16 := by rw [h5]; (repeat rw [vu_n (by omega)]); exact oT 16 (by omega)
  have vo : ∀ j : Nat, ((j : Int) < 20 + 90 * (n : Int) ∨ 20 + 90 * (n : Int) + 5 ≤ (j : Int)) → V5.1 126 j = T.1 126 j := fun j hj => by rw [h5]; repeat rw [vu_n (by omega)]
  have c0 : V5.1 126 (20 + 90 * (n : Int)).toNat = a1 := by rw [h5]; (repeat rw [vu_n (by omega)]); exact vu_e rfl
  have c1 : V5.1 126 (20 + 90 * (n : Int) + 1).toNat = a2 := by rw [h5]; (repeat rw [vu_n (by omega)]); exact vu_e rfl
  have c2 : V5.1 126 (20 + 90 * (n : Int) + 2).toNat = a3 := by rw [h5]; (repeat rw [vu_n (by omega)]); exact vu_e rfl
  have c3 : V5.1 126 (20 + 90 * (n : Int) + 3).toNat = a4 := by rw [h5]; (repeat rw [vu_n (by omega)]); exact vu_e rfl
  have c4 : V5.1 126 (20 + 90 * (n : Int) + 4).toNat = a5 := by rw [h5]; exact vu_e rfl
  clear h5
  rw [v0, v16]
  -- the class's side
  have F0 : pF [(33, 4), (34, 0), (35, 4), (36, 0), (63, 4), (64, 0)] (vu Q 68 1 0) (d_X8_add_r33d a4 a3 a1 a2 a5 t (vu Q 68 1 0)) := pF_m (by decide) (fr_d_X8_add_r33d _ _ _ _ _ _ _)
  have FX : pF [(68, 0), (71, 0)] X (vu Q 68 1 0) := pF_u F rfl
  have q33 : (vu Q 68 1 0).1 33 3 = (n : Int) := (FX.1 33 3 rfl).trans (e33.trans hn)
  have q34 : (vu Q 68 1 0).1 34 = X.1 34 := pF_c FX rfl
  have ad := @ad_33 (vu Q 68 1 0) a4 a3 a1 a2 a5 t (by omega)
  rw [q33] at ad
  have z35 : (d_X8_add_r33d a4 a3 a1 a2 a5 t (vu Q 68 1 0)).1 35 3 = 6 * (n : Int) + 0 := by
    rw [(fr_d_X8_add_r33d a4 a3 a1 a2 a5 t (vu Q 68 1 0)).1 35 3 rfl, FX.1 35 3 rfl, e35, hn]
    omega
  obtain ⟨Y, y1, y2, y3, y4, y5⟩ := @n136_e (n : Int) n hf 7 0 (d_X8_add_r33d a4 a3 a1 a2 a5 t (vu Q 68 1 0)) (by omega) (by omega) (by omega) z35
  have z71 : (d_X8_add_r33d a4 a3 a1 a2 a5 t (vu Q 68 1 0)).1 71 = Q.1 71 := (pF_c (fr_d_X8_add_r33d a4 a3 a1 a2 a5 t (vu Q 68 1 0)) rfl).trans (vu_c (by decide))
  have z36 : (d_X8_add_r33d a4 a3 a1 a2 a5 t (vu Q 68 1 0)).1 36 = X.1 36 := (pF_c (fr_d_X8_add_r33d a4 a3 a1 a2 a5 t (vu Q 68 1 0)) rfl).trans (pF_c FX rfl)
  have w33 : Y.1 33 3 = (n : Int) + 1 := by
    rw [y2.1 33 3 rfl, ad]
    repeat rw [vu_n (by omega)]
    exact vu_e rfl
  have w34 : Y.1 34 = (d_X8_add_r33d a4 a3 a1 a2 a5 t (vu Q 68 1 0)).1 34 := pF_c y2 rfl
  have FY : pF [(33, 4), (34, 0), (35, 4), (36, 0), (63, 4), (64, 0)] (vu Q 68 1 0) Y := pF_t F0 (pF_m (by decide) y2)
  have FZ : pF [(33, 4), (34, 0), (35, 4), (36, 0), (68, 0), (71, 0)] X Y := pF_t (pF_m (by decide) FX) (pF_t (pF_m (by decide) (fr_d_X8_add_r33d a4 a3 a1 a2 a5 t (vu Q 68 1 0))) (pF_m (by decide) y2))
  refine ⟨d_X8_add_r63d 0 (n : Int) 0 0 0 0 Y, ?_, pF_t FY (pF_m (by decide) (fr_d_X8_add_r63d _ _ _ _ _ _ _)), ?_, ?_⟩
  · rw [y1]
    unfold e136
    rw [FZ.1 32 19 rfl]
  · have T0 : pT Y 32 pt_0 ((vu (vu V5 126 (20 + 90 * (n : Int) + 5).toNat t) 126 0 ((n : Int) + 1)).1 126) := by
      refine pT_add (fun q => [a4, a3, a1, a2, a5, t].getD q 0) tb0 (by show M.1 126 0 < 200; omega) ?_ ?_ ?_ ?_ ?_ ?_
      · show Y.1 33 3 = M.1 126 0 + 1
        rw [w33, hn]
      · intro k hk
        change (k : Int) < 6 * M.1 126 0 at hk
        show Y.1 34 k = X.1 34 k
        rw [w34, ad]
        repeat rw [vu_n (by omega)]
        exact F.1 34 k rfl
      · intro c hc
        change c < 6 at hc
        show Y.1 34 (6 * (M.1 126 0).toNat + c) = _
        rw [w34, ad, hn]
        have z : c = 0 ∨ c = 1 ∨ c = 2 ∨ c = 3 ∨ c = 4 ∨ c = 5 := by omega
        rcases z with rfl | rfl | rfl | rfl | rfl | rfl
        all_goals repeat rw [vu_n (by omega)]
        all_goals exact vu_e (by omega)
      · show (vu (vu V5 126 (20 + 90 * (n : Int) + 5).toNat t) 126 0 ((n : Int) + 1)).1 126 0 = M.1 126 0 + 1
        rw [vu_e rfl, hn]
      · intro i c hi hc
        change (i : Int) < M.1 126 0 at hi
        change c < 6 at hc
        have z : [3, 2, 0, 1, 4, 5].getD c 0 < 6 := by
          have z : c = 0 ∨ c = 1 ∨ c = 2 ∨ c = 3 ∨ c = 4 ∨ c = 5 := by omega
          rcases z with rfl | rfl | rfl | rfl | rfl | rfl <;> decide
        show (vu (vu V5 126 (20 + 90 * (n : Int) + 5).toNat t) 126 0 ((n : Int) + 1)).1 126 (20 + 90 * i + [3, 2, 0, 1, 4, 5].getD c 0) = M.1 126 (20 + 90 * i + [3, 2, 0, 1, 4, 5].getD c 0)
        generalize [3, 2, 0, 1, 4, 5].getD c 0 = g at z ⊢
        rw [vu_n (by omega), vu_n (by omega), vo _ (by omega)]
        exact oT _ (by omega)
      · intro c hc
        change c < 6 at hc
        show (vu (vu V5 126 (20 + 90 * (n : Int) + 5).toNat t) 126 0 ((n : Int) + 1)).1 126 (20 + 90 * (M.1 126 0).toNat + [3, 2, 0, 1, 4, 5].getD c 0) = [a4, a3, a1, a2, a5, t].getD c 0
        rw [hn]
        have z : c = 0 ∨ c = 1 ∨ c = 2 ∨ c = 3 ∨ c = 4 ∨ c = 5 := by omega
        rcases z with rfl | rfl | rfl | rfl | rfl | rfl
        · show (vu (vu V5 126 (20 + 90 * (n : Int) + 5).toNat t) 126 0 ((n : Int) + 1)).1 126 (20 + 90 * (n : Int).toNat + 3) = a4
          rw [vu_n (by omega), vu_n (by omega), show 20 + 90 * (n : Int).toNat + 3 = (20 + 90 * (n : Int) + 3).toNat from by omega]
          exact c3
        · show (vu (vu V5 126 (20 + 90 * (n : Int) + 5).toNat t) 126 0 ((n : Int) + 1)).1 126 (20 + 90 * (n : Int).toNat + 2) = a3
          rw [vu_n (by omega), vu_n (by omega), show 20 + 90 * (n : Int).toNat + 2 = (20 + 90 * (n : Int) + 2).toNat from by omega]
          exact c2
        · show (vu (vu V5 126 (20 + 90 * (n : Int) + 5).toNat t) 126 0 ((n : Int) + 1)).1 126 (20 + 90 * (n : Int).toNat + 0) = a1
          rw [vu_n (by omega), vu_n (by omega), show 20 + 90 * (n : Int).toNat + 0 = (20 + 90 * (n : Int)).toNat from by omega]
          exact c0
        · show (vu (vu V5 126 (20 + 90 * (n : Int) + 5).toNat t) 126 0 ((n : Int) + 1)).1 126 (20 + 90 * (n : Int).toNat + 1) = a2
          rw [vu_n (by omega), vu_n (by omega), show 20 + 90 * (n : Int).toNat + 1 = (20 + 90 * (n : Int) + 1).toNat from by omega]
          exact c1
        · show (vu (vu V5 126 (20 + 90 * (n : Int) + 5).toNat t) 126 0 ((n : Int) + 1)).1 126 (20 + 90 * (n : Int).toNat + 4) = a5
          rw [vu_n (by omega), vu_n (by omega), show 20 + 90 * (n : Int).toNat + 4 = (20 + 90 * (n : Int) + 4).toNat from by omega]
          exact c4
        · show (vu (vu V5 126 (20 + 90 * (n : Int) + 5).toNat t) 126 0 ((n : Int) + 1)).1 126 (20 + 90 * (n : Int).toNat + 5) = t
          rw [vu_n (by omega)]
          exact vu_e (by omega)
    have N0 : pNm Y 32 ((vu (vu V5 126 (20 + 90 * (n : Int) + 5).toNat t) 126 0 ((n : Int) + 1)).1 126) := by
      have g0 : (vu (vu V5 126 (20 + 90 * (n : Int) + 5).toNat t) 126 0 ((n : Int) + 1)).1 126 0 = (n : Int) + 1 := vu_e rfl
      refine ⟨by rw [g0]; omega, ?_, fun l j hl hj => ?_⟩
      · show Y.1 35 3 = _
        rw [y3, g0]
        omega
      · rw [g0] at hl
        rw [vu_n (by omega), vu_n (by omega), vo _ (by omega)]
        show Y.1 36 (84 * l + j) = _
        by_cases g : l < n
        · rw [y4 _ (by omega), z36, oT _ (by omega)]
          exact D.2.1.2.2 l j (by omega) hj
        · rw [show l = n from by omega, y5 j (by omega) hj, z71]
          exact dr j hj
    refine da_15 (V := vu (vu V5 126 (20 + 90 * (n : Int) + 5).toNat t) 126 0 ((n : Int) + 1)) (n := M.1 126 16) ?_ ?_ h16
    · rw [vu_n (by omega), vu_n (by omega)]
      exact v16
    · refine pD_l FZ (fun j j1 j2 => ?_) T0 N0 (by decide) D
      rw [vu_n (by omega), vu_n (by omega), vo _ (by omega)]
      exact oT _ (by omega)
  · refine ⟨?_, vu_e rfl, ⟨?_, ?_, ?_, ?_, ?_, ?_⟩, ⟨?_, ?_⟩, fun j j0 j16 j1 j2 => ?_⟩
    · rw [vu_n (by omega), vu_n (by omega), vu_n (by omega)]
      exact vu_e rfl
    · (repeat rw [vu_n (by omega)]); exact c0
    · (repeat rw [vu_n (by omega)]); exact c1
    · (repeat rw [vu_n (by omega)]); exact c2
    · (repeat rw [vu_n (by omega)]); exact c3
    · (repeat rw [vu_n (by omega)]); exact c4
    · (repeat rw [vu_n (by omega)]); exact vu_e rfl
    · (repeat rw [vu_n (by omega)]); exact vu_e rfl
    · (repeat rw [vu_n (by omega)]); exact vu_e rfl
    · (repeat rw [vu_n (by omega)])
      rw [vo j (by omega)]
      exact oT j (by omega)
theorem to_line {X M : jW} {a1 a2 a3 a4 a5 : Int} (h : pTp X M) (hf : X.1 68 2 = M.1 125 13) (D : pD X 32 (M.1 126)) (S : pSt X) (h16 : M.1 126 16 < 370) : loR X M (M.1 126 0) (d_X11_line_r31d a1 a2 a3 a4 a5 X) (d_X12_line_r125d a1 a2 a3 a4 a5 M) ∨ (M.1 126 0 < 200 ∧ lnG a1 a2 a3 a4 a5 ∧ loA X M (M.1 126 0) a1 a2 a3 a4 a5 (d_X11_line_r31d a1 a2 a3 a4 a5 X) (d_X12_line_r125d a1 a2 a3 a4 a5 M)) := by
  have tb0 := D.1 pt_0 (by decide)
  have e33 : X.1 33 3 = M.1 126 0 := tb0.1
  have bn : 0 ≤ M.1 126 0 ∧ M.1 126 0 ≤ 200 := tb0.2.1
  have ref : ∀ e : Int, (-6 ≤ e ∧ e < 0) → loR X M (M.1 126 0) (e, vu (vu X 68 1 0) 31 12 e) (d_X12_told_r125d e (vu (vu M 125 0 0) 125 8 0)) := fun e he => by
    rw [told_n he.2]
    have hx9 : pTp X (vu M 125 0 0) := pTp_m h (by decide)
    refine ⟨e, he, rfl, rfl, vu_e rfl, vu_e rfl, tp_z hx9, ?_, pF_u (pF_u pF_r rfl) rfl, fun j _ => ?_⟩
    · show (vu (vu X 68 1 0) 31 12 e).1 68 2 = (vu (vu (vu M 125 0 0) 125 8 0) 125 1 e).1 125 13
      rw [vu_n (by omega), vu_n (by omega), vu_n (by omega), vu_n (by omega), vu_n (by omega)]
      exact hf
    · show (vu (vu (vu M 125 0 0) 125 8 0) 125 1 e).1 126 j = _
      rw [vu_n (by omega), vu_n (by omega), vu_n (by omega)]
  by_cases g : lnG a1 a2 a3 a4 a5
  · rw [lnX_y g, lnM_y g]
    unfold lnX d_X12_line_r125d_300058
    rw [fu_33]
    by_cases c : M.1 126 0 < 200
    · rw [if_pos (show (if X.1 33 3 < 200 then (0 : Int) else 1) = 0 from if_pos (by omega))]
      have m0 : (vu M 125 0 0).1 126 0 = M.1 126 0 := vu_n (by omega)
      rw [m0, if_neg (c := M.1 126 0 = 200) (by omega), e33]
      obtain ⟨n, hn⟩ : ∃ n : Nat, M.1 126 0 = (n : Int) := ⟨(M.1 126 0).toNat, by omega⟩
      have ro := ro_e S g.1
      obtain ⟨N0, oN, R⟩ := @ln_a a1 a2 a3 a4 a5 (M.1 126 0) (20 + 90 * M.1 126 0) X (vu M 125 0 0) (X.1 1 a1.toNat) (26 + 90 * n) (pTp_m h (by decide)) ro (by omega) (by omega)
      obtain ⟨T, oT, R⟩ := R
      have oM : ∀ j : Nat, ((j : Int) < 20 + 90 * M.1 126 0 ∨ 20 + 90 * M.1 126 0 + 90 ≤ (j : Int)) → T.1 126 j = M.1 126 j := fun j hj => (oT j (by omega)).trans ((oN j hj).trans (vu_n (by omega)))
      have FQ := fr_d_X5_readLine_r70d (X.1 1 a1.toNat) X
      generalize hx : d_X5_readLine_r70d (X.1 1 a1.toNat) X = x at *
      generalize hm : d_X12_line_r125d_117 91 a1 a2 a3 a4 a5 (M.1 126 0) (20 + 90 * M.1 126 0) 0 (vu M 125 0 0) = m at *
      rcases R with ⟨r1, r2, r3, r4, r5⟩ | ⟨r1, r2, r3, r4, r5, r6⟩
      · left
        rw [if_pos r1, r5, told_n (by decide)]
        refine ⟨-6, by decide, rfl, rfl, vu_e rfl, vu_e rfl, tp_z r4, ?_, pF_u (pF_u (pF_m (by decide) FQ) rfl) rfl, fun j hj => ?_⟩
        · show (vu (vu x.2 68 1 0) 31 12 (-6)).1 68 2 = (vu (vu T 125 8 0) 125 1 (-6)).1 125 13
          rw [vu_n (by omega), vu_n (by omega), vu_n (by omega), vu_n (by omega)]
          exact r3
        · show (vu (vu T 125 8 0) 125 1 (-6)).1 126 j = _
          rw [vu_n (by omega), vu_n (by omega)]
          exact oM j hj
      · right
        refine ⟨c, g, ?_⟩
        rw [if_neg (by omega), r6]
        have F : pF [(68, 0), (71, 0)] X x.2 := pF_m (by decide) FQ
        rw [hn] at oM r6 c ⊢
        obtain ⟨X1, q1, q2, q3, q4⟩ := ln_row (a1 := a1) (a2 := a2) (a3 := a3) (a4 := a4) (a5 := a5) (t := x.1) (n := n) D h16 hn (by omega) F oM r5 rfl
        have told : d_X12_line_r125d_305 a1 a2 a3 a4 a5 (n : Int) (20 + 90 * (n : Int)) (1 - x.1) T = d_X12_told_r125d (n : Int) (vu (vu (vu (vu (vu (vu (vu (vu (vu (vu (vu T 125 8 0) 126 (20 + 90 * (n : Int)).toNat a1) 126 (20 + 90 * (n : Int) + 1).toNat a2) 126 (20 + 90 * (n : Int) + 2).toNat a3) 126 (20 + 90 * (n : Int) + 3).toNat a4) 126 (20 + 90 * (n : Int) + 4).toNat a5) 126 (20 + 90 * (n : Int) + 5).toNat x.1) 126 0 ((vu (vu (vu (vu (vu (vu T 125 8 0) 126 (20 + 90 * (n : Int)).toNat a1) 126 (20 + 90 * (n : Int) + 1).toNat a2) 126 (20 + 90 * (n : Int) + 2).toNat a3) 126 (20 + 90 * (n : Int) + 3).toNat a4) 126 (20 + 90 * (n : Int) + 4).toNat a5).1 126 0 + 1)) 126 (49920 + 2 * (vu (vu (vu (vu (vu (vu T 125 8 0) 126 (20 + 90 * (n : Int)).toNat a1) 126 (20 + 90 * (n : Int) + 1).toNat a2) 126 (20 + 90 * (n : Int) + 2).toNat a3) 126 (20 + 90 * (n : Int) + 3).toNat a4) 126 (20 + 90 * (n : Int) + 4).toNat a5).1 126 16).toNat 0) 126 (49920 + 2 * (vu (vu (vu (vu (vu (vu T 125 8 0) 126 (20 + 90 * (n : Int)).toNat a1) 126 (20 + 90 * (n : Int) + 1).toNat a2) 126 (20 + 90 * (n : Int) + 2).toNat a3) 126 (20 + 90 * (n : Int) + 3).toNat a4) 126 (20 + 90 * (n : Int) + 4).toNat a5).1 126 16 + 1).toNat (n : Int)) 126 16 ((vu (vu (vu (vu (vu (vu T 125 8 0) 126 (20 + 90 * (n : Int)).toNat a1) 126 (20 + 90 * (n : Int) + 1).toNat a2) 126 (20 + 90 * (n : Int) + 2).toNat a3) 126 (20 + 90 * (n : Int) + 3).toNat a4) 126 (20 + 90 * (n : Int) + 4).toNat a5).1 126 16 + 1)) := by
          unfold d_X12_line_r125d_305
          rw [if_pos r2]
          rcases r1 with r1 | r1
          · rw [r1, if_neg (by decide)]
            rfl
          · rw [r1, if_pos (by decide)]
            rfl
        rw [told, told_p (by omega), q1]
        refine ⟨x.1, X1, r1, rfl, rfl, vu_e rfl, ?_, ?_, ?_, ?_, ?_⟩
        · refine tp_c (X := vu (vu x.2 68 1 0) 31 12 0) (M := vu (vu T 125 8 0) 125 1 0) ?_ ?_ ?_ ?_ (tp_z r4)
          · rw [q2.1 68 1 rfl, vu_n (b := 68) (a := 31) (by omega)]
          · rw [pF_c q2 rfl, vu_c (b := 69) (a := 31) (by decide)]
          · have z1 : (vu (vu T 125 8 0) 125 1 0).1 125 8 = 0 := (vu_n (by omega)).trans (vu_e rfl)
            rw [z1]
            show (vu _ 125 1 0).1 125 8 = 0
            rw [vu_n (by omega)]
            (repeat rw [vu_n (a := 126) (by omega)])
            exact vu_e rfl
          · show (vu _ 125 1 0).1 131 = _
            repeat rw [vu_c (by decide)]
        · rw [q2.1 68 2 rfl, vu_n (by omega), r3]
          show _ = (vu _ 125 1 0).1 125 13
          repeat rw [vu_n (by omega)]
        · exact pF_t (pF_u (pF_m (by decide) F) rfl) (pF_m (by decide) q2)
        · show pD X1 32 ((vu _ 125 1 0).1 126)
          rw [vu_c (by decide)]
          exact q3
        · show loW M n x.1 a1 a2 a3 a4 a5 ((vu _ 125 1 0).1 126)
          rw [vu_c (by decide)]
          exact q4
    · rw [if_neg (show ¬ (if X.1 33 3 < 200 then (0 : Int) else 1) = 0 from by rw [if_neg (by omega)]; decide)]
      rw [if_pos (show (vu M 125 0 0).1 126 0 = 200 from (vu_n (by omega)).trans (by omega))]
      exact Or.inl (ref (-5) (by decide))
  · rw [lnX_n g, lnM_n g]
    exact Or.inl (ref (-1) (by decide))
end jG11

section jG12
/-! pure: NAMES as they are FOLDED -/
abbrev pE := (Nat → Int) × (Nat → Int) × (Nat → Int) × (Nat → Int) × Int
def eOf (M : jW) : pE := (M.1 126, M.1 132, M.1 133, M.1 134, M.1 125 27)
def nth : List Int → Nat → Int
  | [], _ => 0
  | x :: _, 0 => x
  | _ :: l, i + 1 => nth l i
theorem nth_l : ∀ (A B : List Int) (i : Nat), i < A.length → nth (A ++ B) i = nth A i := by
  intro A
  induction A with
  | nil => intro B i h; exact absurd h (Nat.not_lt_zero _)
  | cons x A ih =>
    intro B i h
    cases i with
    | zero => rfl
    | succ i => exact ih B i (Nat.lt_of_succ_lt_succ h)
theorem nth_r : ∀ (A B : List Int) (i : Nat), nth (A ++ B) (A.length + i) = nth B i := by
  intro A
  induction A with
  | nil => intro B i; show nth B (0 + i) = nth B i; rw [Nat.zero_add]
  | cons x A ih =>
    intro B i
    show nth (x :: (A ++ B)) (A.length + 1 + i) = nth B i
    rw [show A.length + 1 + i = (A.length + i) + 1 from by omega]
    exact ih B i
def ltr (g : Nat → Int) : Nat → Nat → List Int
  | 0, _ => []
  | c + 1, i => g i :: ltr g c (i + 1)
theorem ltr_l {g : Nat → Int} : ∀ (c i : Nat), (ltr g c i).length = c := by
  intro c
  induction c with
  | zero => intro i; rfl
  | succ c ih => intro i; show (ltr g c (i + 1)).length + 1 = c + 1; rw [ih]
theorem ltr_n {g : Nat → Int} : ∀ (c i j : Nat), j < c → nth (ltr g c i) j = g (i + j) := by
  intro c
  induction c with
  | zero => intro i j h; exact absurd h (Nat.not_lt_zero _)
  | succ c ih =>
    intro i j h
    cases j with
    | zero => rfl
    | succ j =>
      show nth (ltr g c (i + 1)) j = _
      rw [ih (i + 1) j (by omega)]
      exact congrArg _ (by omega)
def sStb (E : pE) (n h k p : Nat) : Bool := decide ((k : Int) + E.2.2.1 (16 * h + 2 * p) ≤ E.1 n) && (List.range (E.2.2.1 (16 * h + 2 * p)).toNat).all fun i => decide (E.1 (n + 2 + k + i) = E.2.2.2.1 (48 * h + 6 * p + i))
theorem sSt_t {E : pE} {n h k p : Nat} (h1 : (k : Int) + E.2.2.1 (16 * h + 2 * p) ≤ E.1 n) (h2 : ∀ i : Nat, (i : Int) < E.2.2.1 (16 * h + 2 * p) → E.1 (n + 2 + k + i) = E.2.2.2.1 (48 * h + 6 * p + i)) : sStb E n h k p = true := by
  unfold sStb
  rw [Bool.and_eq_true, List.all_eq_true]
  refine ⟨decide_eq_true h1, fun i hi => decide_eq_true (h2 i ?_)⟩
  have := List.mem_range.1 hi
  omega
theorem sSt_f1 {E : pE} {n h k p : Nat} (h1 : E.1 n < (k : Int) + E.2.2.1 (16 * h + 2 * p)) : sStb E n h k p = false := by
  unfold sStb
  rw [decide_eq_false (by omega)]
  rfl
theorem sSt_f2 {E : pE} {n h k p i : Nat} (h1 : (i : Int) < E.2.2.1 (16 * h + 2 * p)) (h2 : E.1 (n + 2 + k + i) ≠ E.2.2.2.1 (48 * h + 6 * p + i)) : sStb E n h k p = false := by
  cases g : sStb E n h k p with
  | false => rfl
  | true =>
    unfold sStb at g
    rw [Bool.and_eq_true, List.all_eq_true] at g
    exact absurd (of_decide_eq_true (g.2 i (List.mem_range.2 (by omega)))) h2
theorem sSt_le {E : pE} {n h k p : Nat} (g : sStb E n h k p = true) : (k : Int) + E.2.2.1 (16 * h + 2 * p) ≤ E.1 n := by
  unfold sStb at g
  rw [Bool.and_eq_true] at g
  exact of_decide_eq_true g.1
def sPb (st : Nat → Bool) : Nat → Nat → Int
  | 0, _ => -1
  | c + 1, p => if st p = true then (p : Int) else sPb st c (p + 1)
theorem sPb_e {st : Nat → Bool} : ∀ (c p : Nat), sPb st (c + 1) p = if sPb st c p = -1 then (if st (p + c) = true then ((p + c : Nat) : Int) else -1) else sPb st c p := by
  intro c
  induction c with
  | zero => intro p; rfl
  | succ c ih =>
    intro p
    show (if st p = true then (p : Int) else sPb st (c + 1) (p + 1)) = if (if st p = true then (p : Int) else sPb st c (p + 1)) = -1 then _ else (if st p = true then (p : Int) else sPb st c (p + 1))
    by_cases g : st p = true
    · rw [if_pos g, if_pos g, if_neg (by omega)]
    · rw [if_neg g, if_neg g, ih (p + 1), show p + 1 + c = p + (c + 1) from by omega]
theorem sPb_b {st : Nat → Bool} : ∀ (c p : Nat), sPb st c p = -1 ∨ ∃ q : Nat, sPb st c p = (q : Int) ∧ p ≤ q ∧ q < p + c ∧ st q = true := by
  intro c
  induction c with
  | zero => intro p; exact Or.inl rfl
  | succ c ih =>
    intro p
    show (if st p = true then (p : Int) else sPb st c (p + 1)) = -1 ∨ ∃ q : Nat, (if st p = true then (p : Int) else sPb st c (p + 1)) = (q : Int) ∧ p ≤ q ∧ q < p + (c + 1) ∧ st q = true
    by_cases g : st p = true
    · rw [if_pos g]
      exact Or.inr ⟨p, rfl, by omega, by omega, g⟩
    · rw [if_neg g]
      rcases ih (p + 1) with z | ⟨q, z1, z2, z3, z4⟩
      · exact Or.inl z
      · exact Or.inr ⟨q, z1, by omega, by omega, z4⟩
def sRt (E : pE) (h p : Nat) : List Int := ltr (fun i => E.2.2.2.1 (48 * h + 6 * p + 3 + i)) (E.2.2.1 (16 * h + 2 * p + 1)).toNat 0
def sFq (E : pE) (n h k : Nat) : Int := sPb (sStb E n h k) (E.2.1 h).toNat 0
def sFo (E : pE) (n h : Nat) : Nat → Nat → List Int
  | 0, _ => []
  | f + 1, k => if E.1 n ≤ (k : Int) then [] else if sFq E n h k = -1 then E.1 (n + 2 + k) :: sFo E n h f (k + 1) else sRt E h (sFq E n h k).toNat ++ sFo E n h f (k + (E.2.2.1 (16 * h + 2 * (sFq E n h k).toNat)).toNat)
def sNm (m w : Nat) : Nat := 26 + 90 * (m / 3) + 28 * (m % 3) + 14 * w
def sF (E : pE) (m w : Nat) : List Int := sFo E (sNm m w) (E.1 (21 + 90 * (m / 3))).toNat 13 0
/-- SPELLINGS are as they must be -/
def pSr (E : pE) : Prop := ∀ h : Nat, h < 16 → (0 ≤ E.2.1 h ∧ E.2.1 h ≤ 8) ∧ ∀ p : Nat, (p : Int) < E.2.1 h → (1 ≤ E.2.2.1 (16 * h + 2 * p) ∧ E.2.2.1 (16 * h + 2 * p) ≤ 3) ∧ (0 ≤ E.2.2.1 (16 * h + 2 * p + 1) ∧ E.2.2.1 (16 * h + 2 * p + 1) ≤ 3)
theorem sFq_b {E : pE} {n h k : Nat} (S : pSr E) (hh : h < 16) : sFq E n h k = -1 ∨ ∃ q : Nat, sFq E n h k = (q : Int) ∧ (q : Int) < E.2.1 h ∧ sStb E n h k q = true := by
  unfold sFq
  have := (S h hh).1
  rcases @sPb_b (sStb E n h k) (E.2.1 h).toNat 0 with z | ⟨q, z1, z2, z3, z4⟩
  · exact Or.inl z
  · exact Or.inr ⟨q, z1, by omega, z4⟩
/-! the reference's side -/
theorem ms_s {W : jW} {r : Nat} {l1 l2 l3 l4 l5 l7 : Int} : d_X12_stands_r125d_37 (r + 1) l1 l2 l3 l4 l5 1 l7 W = if l5 ≤ l7 then 1 else if W.1 126 (l1 + 2 + l2 + l7).toNat = W.1 134 (48 * l3 + 3 * l4 + l7).toNat then d_X12_stands_r125d_37 r l1 l2 l3 l4 l5 1 (l7 + 1) W else d_X12_stands_r125d_37 r l1 l2 l3 l4 l5 0 (l7 + 1) W := rfl
theorem ms_0 {W : jW} {r : Nat} {l1 l2 l3 l4 l5 l7 : Int} : d_X12_stands_r125d_37 r l1 l2 l3 l4 l5 0 l7 W = 0 := by
  cases r with
  | zero => rfl
  | succ r =>
    show (if l5 ≤ l7 then (0 : Int) else if (0 : Int) = 0 then 0 else _) = 0
    by_cases c : l5 ≤ l7
    · rw [if_pos c]
    · rw [if_neg c, if_pos rfl]
theorem ms_e {W : jW} {l1 l2 l3 l4 l5 : Int} : ∀ (r : Nat) (l7 : Int), 0 ≤ l7 → l7 ≤ l5 → l5 - l7 < (r : Int) → (d_X12_stands_r125d_37 r l1 l2 l3 l4 l5 1 l7 W = 1 ∧ ∀ i : Int, l7 ≤ i → i < l5 → W.1 126 (l1 + 2 + l2 + i).toNat = W.1 134 (48 * l3 + 3 * l4 + i).toNat) ∨ (d_X12_stands_r125d_37 r l1 l2 l3 l4 l5 1 l7 W = 0 ∧ ∃ i : Int, l7 ≤ i ∧ i < l5 ∧ W.1 126 (l1 + 2 + l2 + i).toNat ≠ W.1 134 (48 * l3 + 3 * l4 + i).toNat) := by
  intro r
  induction r with
  | zero => intros; exfalso; omega
  | succ r ih =>
    intro l7 h0 h00 h1
    rw [ms_s]
    by_cases c : l5 ≤ l7
    · rw [if_pos c]
      exact Or.inl ⟨rfl, fun i i1 i2 => by omega⟩
    · rw [if_neg c]
      by_cases g : W.1 126 (l1 + 2 + l2 + l7).toNat = W.1 134 (48 * l3 + 3 * l4 + l7).toNat
      · rw [if_pos g]
        rcases ih (l7 + 1) (by omega) (by omega) (by omega) with ⟨z, y⟩ | ⟨z, i, i1, i2, i3⟩
        · refine Or.inl ⟨z, fun i i1 i2 => ?_⟩
          by_cases e : i = l7
          · rw [e]; exact g
          · exact y i (by omega) i2
        · exact Or.inr ⟨z, i, by omega, i2, i3⟩
      · rw [if_neg g, ms_0]
        exact Or.inr ⟨rfl, l7, by omega, by omega, g⟩
theorem md_e {W : jW} {n h k p : Nat} (hw : 0 ≤ W.1 133 (16 * h + 2 * p) ∧ W.1 133 (16 * h + 2 * p) ≤ 3) : (d_X12_stands_r125d (n : Int) (k : Int) (h : Int) (2 * (p : Int)) W = 1 ∧ sStb (eOf W) n h k p = true) ∨ (d_X12_stands_r125d (n : Int) (k : Int) (h : Int) (2 * (p : Int)) W = 0 ∧ sStb (eOf W) n h k p = false) := by
  unfold d_X12_stands_r125d
  rw [show (16 * (h : Int) + 2 * (p : Int)).toNat = 16 * h + 2 * p from by omega, show ((n : Int)).toNat = n from by omega]
  by_cases c : W.1 126 n < (k : Int) + W.1 133 (16 * h + 2 * p)
  · rw [if_pos c]
    exact Or.inr ⟨ms_0, sSt_f1 c⟩
  · rw [if_neg c]
    rcases @ms_e W (n : Int) (k : Int) (h : Int) (2 * (p : Int)) (W.1 133 (16 * h + 2 * p)) 4 0 (by omega) (by omega) (by omega) with ⟨z, y⟩ | ⟨z, i, i1, i2, i3⟩
    · refine Or.inl ⟨z, sSt_t (by show (k : Int) + W.1 133 (16 * h + 2 * p) ≤ W.1 126 n; omega) (fun i hi => ?_)⟩
      have q := y (i : Int) (by omega) hi
      rw [show ((n : Int) + 2 + (k : Int) + (i : Int)).toNat = n + 2 + k + i from by omega, show (48 * (h : Int) + 3 * (2 * (p : Int)) + (i : Int)).toNat = 48 * h + 6 * p + i from by omega] at q
      exact q
    · refine Or.inr ⟨z, sSt_f2 (i := i.toNat) (by show ((i.toNat : Nat) : Int) < W.1 133 (16 * h + 2 * p); omega) ?_⟩
      rw [show ((n : Int) + 2 + (k : Int) + i).toNat = n + 2 + k + i.toNat from by omega, show (48 * (h : Int) + 3 * (2 * (p : Int)) + i).toNat = 48 * h + 6 * p + i.toNat from by omega] at i3
      exact i3
def f56 (K : Int → Int → Int → Int → Int → jW → jW) (l3 l4 l5 l6 l7 l8 : Int) (W : jW) : jW := if 0 ≤ l8 then d_X12_fold_r125d_134 K 37 l3 l4 l5 l6 l7 l8 0 W else K l3 l4 l5 (l6 + 1) (l7 + 1) (vu W 137 (40 * l3 + l6).toNat (W.1 126 (l4 + 2 + l7).toNat))
theorem m56_s {K : Int → Int → Int → Int → Int → jW → jW} {r : Nat} {l3 l4 l5 l6 l7 l8 l9 : Int} {W : jW} : d_X12_fold_r125d_56 K (r + 1) l3 l4 l5 l6 l7 l8 l9 W = if l9 < 0 then f56 K l3 l4 l5 l6 l7 l8 W else if d_X12_stands_r125d l4 l7 l5 (2 * l9) W = 0 then d_X12_fold_r125d_56 K r l3 l4 l5 l6 l7 l8 (l9 + -1) W else d_X12_fold_r125d_56 K r l3 l4 l5 l6 l7 l9 (l9 + -1) W := rfl
theorem m56_e {K : Int → Int → Int → Int → Int → jW → jW} {l3 l6 : Int} {n h k : Nat} {W : jW} : ∀ (c r : Nat) (l8 : Int), c < r → (∀ p, p < c → 0 ≤ W.1 133 (16 * h + 2 * p) ∧ W.1 133 (16 * h + 2 * p) ≤ 3) → d_X12_fold_r125d_56 K r l3 (n : Int) (h : Int) l6 (k : Int) l8 ((c : Int) - 1) W = f56 K l3 (n : Int) (h : Int) l6 (k : Int) (if sPb (sStb (eOf W) n h k) c 0 = -1 then l8 else sPb (sStb (eOf W) n h k) c 0) W := by
  intro c
  induction c with
  | zero =>
    intro r l8 hr _
    cases r with
    | zero => exact absurd hr (Nat.not_lt_zero _)
    | succ r =>
      rw [m56_s, if_pos (by omega)]
      show _ = f56 K l3 (n : Int) (h : Int) l6 (k : Int) (if (-1 : Int) = -1 then l8 else -1) W
      rw [if_pos rfl]
  | succ c ih =>
    intro r l8 hr hw
    cases r with
    | zero => exact absurd hr (Nat.not_lt_zero _)
    | succ r =>
      rw [m56_s, if_neg (by omega), show ((c + 1 : Nat) : Int) - 1 = (c : Int) from by omega, show (c : Int) + -1 = (c : Int) - 1 from by omega]
      have iha := fun l => ih r l (by omega) (fun p hp => hw p (by omega))
      have ve := @sPb_e (sStb (eOf W) n h k) c 0
      rw [Nat.zero_add] at ve
      rcases @md_e W n h k c (hw c (by omega)) with ⟨z, y⟩ | ⟨z, y⟩
      · rw [if_neg (c := d_X12_stands_r125d (n : Int) (k : Int) (h : Int) (2 * (c : Int)) W = 0) (by omega), iha]
        by_cases g : sPb (sStb (eOf W) n h k) c 0 = -1
        · rw [if_pos g, if_pos y] at ve
          rw [if_pos g, ve, if_neg (by omega)]
        · rw [if_neg g] at ve
          rw [if_neg g, ve, if_neg g]
      · rw [if_pos z, iha]
        by_cases g : sPb (sStb (eOf W) n h k) c 0 = -1
        · rw [if_pos g, if_neg (by rw [y]; decide)] at ve
          rw [if_pos g, ve, if_pos rfl]
        · rw [if_neg g] at ve
          rw [if_neg g, ve, if_neg g]
/-- the letters of a right side are written -/
theorem m134_s {K : Int → Int → Int → Int → Int → jW → jW} {r : Nat} {l3 l4 l5 l6 l7 l8 l9 : Int} {W : jW} : d_X12_fold_r125d_134 K (r + 1) l3 l4 l5 l6 l7 l8 l9 W = if W.1 133 (16 * l5 + 2 * l8 + 1).toNat ≤ l9 then K l3 l4 l5 l6 (l7 + W.1 133 (16 * l5 + 2 * l8).toNat) W else d_X12_fold_r125d_134 K r l3 l4 l5 (l6 + 1) l7 l8 (l9 + 1) (vu W 137 (40 * l3 + l6).toNat (W.1 134 (48 * l5 + 6 * l8 + 3 + l9).toNat)) := rfl
def pWn (sl o c : Nat) (g : Nat → Int) (W N : jW) : Prop := (∀ b j : Nat, ¬ (b = 137 ∧ 40 * sl + o ≤ j ∧ j < 40 * sl + o + c) → N.1 b j = W.1 b j) ∧ N.2 = W.2 ∧ ∀ i : Nat, i < c → N.1 137 (40 * sl + o + i) = g i
theorem m134_e {K : Int → Int → Int → Int → Int → jW → jW} {n sl h k p d : Nat} : ∀ (r o j : Nat) (W : jW), W.1 133 (16 * h + 2 * p + 1) = (d : Int) → j ≤ d → d - j < r → ∃ N : jW, d_X12_fold_r125d_134 K r (sl : Int) (n : Int) (h : Int) (o : Int) (k : Int) (p : Int) (j : Int) W = K (sl : Int) (n : Int) (h : Int) ((o + (d - j) : Nat) : Int) ((k : Int) + W.1 133 (16 * h + 2 * p)) N ∧ pWn sl o (d - j) (fun i => W.1 134 (48 * h + 6 * p + 3 + (j + i))) W N := by
  intro r
  induction r with
  | zero => intros; exfalso; omega
  | succ r ih =>
    intro o j W hd hj hr
    rw [m134_s, show (16 * (h : Int) + 2 * (p : Int) + 1).toNat = 16 * h + 2 * p + 1 from by omega, show (16 * (h : Int) + 2 * (p : Int)).toNat = 16 * h + 2 * p from by omega, hd]
    by_cases c : (d : Int) ≤ (j : Int)
    · rw [if_pos c, show d - j = 0 from by omega]
      exact ⟨W, rfl, fun _ _ _ => rfl, rfl, fun i hi => absurd hi (Nat.not_lt_zero _)⟩
    · rw [if_neg c, show (40 * (sl : Int) + (o : Int)).toNat = 40 * sl + o from by omega, show (48 * (h : Int) + 6 * (p : Int) + 3 + (j : Int)).toNat = 48 * h + 6 * p + 3 + j from by omega]
      have e3 : ∀ q, (vu W 137 (40 * sl + o) (W.1 134 (48 * h + 6 * p + 3 + j))).1 133 q = W.1 133 q := fun q => vu_n (by omega)
      have e4 : ∀ q, (vu W 137 (40 * sl + o) (W.1 134 (48 * h + 6 * p + 3 + j))).1 134 q = W.1 134 q := fun q => vu_n (by omega)
      obtain ⟨N, n1, n2, n3, n4⟩ := ih (o + 1) (j + 1) (vu W 137 (40 * sl + o) (W.1 134 (48 * h + 6 * p + 3 + j))) (by rw [e3]; exact hd) (by omega) (by omega)
      rw [show (o : Int) + 1 = ((o + 1 : Nat) : Int) from by omega, show (j : Int) + 1 = ((j + 1 : Nat) : Int) from by omega, n1, e3, show o + 1 + (d - (j + 1)) = o + (d - j) from by omega]
      refine ⟨N, rfl, fun b q hq => ?_, n3, fun i hi => ?_⟩
      · rw [n2 b q (by omega)]
        exact vu_n (by omega)
      · cases i with
        | zero =>
          rw [n2 137 (40 * sl + o + 0) (by omega)]
          exact vu_e (by omega)
        | succ i =>
          have z := (n4 i (by omega)).trans (e4 _)
          rw [show 40 * sl + (o + 1) + i = 40 * sl + o + (i + 1) from by omega] at z
          refine z.trans ?_
          exact congrArg (W.1 134) (by omega)
theorem m30_s {r : Nat} {l3 l4 l5 l6 l7 : Int} {W : jW} : d_X12_fold_r125d_30 (r + 1) l3 l4 l5 l6 l7 W = if W.1 126 l4.toNat ≤ l7 then vu W 138 l3.toNat l6 else d_X12_fold_r125d_56 (fun l3 l4 l5 l6 l7 W => d_X12_fold_r125d_30 r l3 l4 l5 l6 l7 W) 9 l3 l4 l5 l6 l7 (-1) (W.1 132 l5.toNat - 1) W := rfl
def pFd (sl o : Nat) (L : List Int) (W N : jW) : Prop := (∀ b j : Nat, ¬ (b = 138 ∧ j = sl) → ¬ (b = 137 ∧ 40 * sl + o ≤ j ∧ j < 40 * sl + o + L.length) → N.1 b j = W.1 b j) ∧ N.2 = W.2 ∧ N.1 138 sl = ((o + L.length : Nat) : Int) ∧ ∀ i : Nat, i < L.length → N.1 137 (40 * sl + o + i) = nth L i
theorem m30_e {E : pE} {n sl h : Nat} (S : pSr E) (hh : h < 16) (hl : E.1 n ≤ 12) : ∀ (f r k o : Nat) (W : jW), eOf W = E → (k : Int) ≤ E.1 n → E.1 n - (k : Int) < (f : Int) → f ≤ r → pFd sl o (sFo E n h f k) W (d_X12_fold_r125d_30 r (sl : Int) (n : Int) (h : Int) (o : Int) (k : Int) W) := by
  intro f
  induction f with
  | zero => intros; exfalso; omega
  | succ f ih =>
    intro r k o W eW hk hf hr
    cases r with
    | zero => exfalso; omega
    | succ r =>
      have w0 : W.1 126 n = E.1 n := by rw [← eW]; rfl
      have w1 : W.1 132 h = E.2.1 h := by rw [← eW]; rfl
      have w2 : ∀ q, W.1 133 q = E.2.2.1 q := fun q => by rw [← eW]; rfl
      have w3 : ∀ q, W.1 134 q = E.2.2.2.1 q := fun q => by rw [← eW]; rfl
      have s1 := S h hh
      rw [m30_s, show ((n : Int)).toNat = n from by omega, show ((h : Int)).toNat = h from by omega, w0, w1]
      unfold sFo
      by_cases c : E.1 n ≤ (k : Int)
      · rw [if_pos c, if_pos c, show ((sl : Int)).toNat = sl from by omega]
        exact ⟨fun b j h1 _ => vu_n (by omega), rfl, vu_e rfl, fun i hi => absurd hi (Nat.not_lt_zero _)⟩
      · rw [if_neg c, if_neg c]
        have q := @m56_e (fun l3 l4 l5 l6 l7 W => d_X12_fold_r125d_30 r l3 l4 l5 l6 l7 W) (sl : Int) (o : Int) n h k W (E.2.1 h).toNat 9 (-1) (by omega) (fun p hp => by rw [w2]; have := (s1.2 p (by omega)).1; omega)
        rw [show (((E.2.1 h).toNat : Nat) : Int) - 1 = E.2.1 h - 1 from by omega, eW] at q
        rw [q]
        have qq : (if sPb (sStb E n h k) (E.2.1 h).toNat 0 = -1 then (-1 : Int) else sPb (sStb E n h k) (E.2.1 h).toNat 0) = sFq E n h k := by
          unfold sFq
          by_cases g : sPb (sStb E n h k) (E.2.1 h).toNat 0 = -1
          · rw [if_pos g, g]
          · rw [if_neg g]
        rw [qq]
        unfold f56
        rcases @sFq_b E n h k S hh with z | ⟨p, z1, z2, z3⟩
        · rw [z, if_pos rfl, if_neg (show ¬ (0 : Int) ≤ -1 from by decide)]
          rw [show (40 * (sl : Int) + (o : Int)).toNat = 40 * sl + o from by omega, show ((n : Int) + 2 + (k : Int)).toNat = n + 2 + k from by omega]
          have e' : eOf (vu W 137 (40 * sl + o) (W.1 126 (n + 2 + k))) = E := by
            rw [← eW]
            unfold eOf
            rw [vu_c (by decide), vu_c (by decide), vu_c (by decide), vu_c (by decide), vu_c (by decide)]
          have y := ih r (k + 1) (o + 1) _ e' (by omega) (by omega) (by omega)
          rw [show ((o + 1 : Nat) : Int) = (o : Int) + 1 from by omega, show ((k + 1 : Nat) : Int) = (k : Int) + 1 from by omega] at y
          have w4 : W.1 126 (n + 2 + k) = E.1 (n + 2 + k) := by rw [← eW]; rfl
          rw [w4] at y ⊢
          obtain ⟨y1, y2, y3, y4⟩ := y
          refine ⟨fun b j h1 h2 => ?_, y2, ?_, fun i hi => ?_⟩
          · have ln : (E.1 (n + 2 + k) :: sFo E n h f (k + 1)).length = (sFo E n h f (k + 1)).length + 1 := rfl
            rw [ln] at h2
            refine (y1 b j h1 (by omega)).trans (vu_n (by omega))
          · refine y3.trans ?_
            show ((o + 1 + (sFo E n h f (k + 1)).length : Nat) : Int) = ((o + ((sFo E n h f (k + 1)).length + 1) : Nat) : Int)
            omega
          · cases i with
            | zero =>
              refine (y1 137 (40 * sl + o + 0) (by omega) (by omega)).trans ?_
              exact vu_e (by omega)
            | succ i =>
              have z := y4 i (by have ln : (E.1 (n + 2 + k) :: sFo E n h f (k + 1)).length = (sFo E n h f (k + 1)).length + 1 := rfl
                                 omega)
              rw [show 40 * sl + (o + 1) + i = 40 * sl + o + (i + 1) from by omega] at z
              exact z
        · rw [z1, if_neg (show ¬ (p : Int) = -1 from by omega), if_pos (show (0 : Int) ≤ (p : Int) from by omega), show ((p : Int)).toNat = p from by omega]
          have sp := s1.2 p z2
          have dd : W.1 133 (16 * h + 2 * p + 1) = (((E.2.2.1 (16 * h + 2 * p + 1)).toNat : Nat) : Int) := by rw [w2]; omega
          obtain ⟨N, n1, n2, n3, n4⟩ := @m134_e (fun l3 l4 l5 l6 l7 W => d_X12_fold_r125d_30 r l3 l4 l5 l6 l7 W) n sl h k p (E.2.2.1 (16 * h + 2 * p + 1)).toNat 37 o 0 W dd (by omega) (by omega)
          rw [show ((0 : Nat) : Int) = 0 from rfl] at n1
          rw [n1]
          have e' : eOf N = E := by
            rw [← eW]
            unfold eOf
            rw [show N.1 126 = W.1 126 from funext fun q => n2 126 q (by omega), show N.1 132 = W.1 132 from funext fun q => n2 132 q (by omega), show N.1 133 = W.1 133 from funext fun q => n2 133 q (by omega), show N.1 134 = W.1 134 from funext fun q => n2 134 q (by omega), n2 125 27 (by omega)]
          have le := sSt_le z3
          have y := ih r (k + (E.2.2.1 (16 * h + 2 * p)).toNat) (o + ((E.2.2.1 (16 * h + 2 * p + 1)).toNat - 0)) N e' (by omega) (by omega) (by omega)
          rw [show ((k + (E.2.2.1 (16 * h + 2 * p)).toNat : Nat) : Int) = (k : Int) + W.1 133 (16 * h + 2 * p) from by rw [w2]; omega] at y
          obtain ⟨y1, y2, y3, y4⟩ := y
          have ll : (sRt E h p).length = (E.2.2.1 (16 * h + 2 * p + 1)).toNat := ltr_l _ _
          rw [Nat.sub_zero] at y1 y2 y3 y4 n2 n4 ⊢
          refine ⟨fun b j h1 h2 => ?_, y2.trans n3, ?_, fun i hi => ?_⟩
          · rw [List.length_append, ll] at h2
            exact (y1 b j h1 (by omega)).trans (n2 b j (by omega))
          · refine y3.trans ?_
            rw [List.length_append, ll]
            omega
          · rw [List.length_append, ll] at hi
            by_cases g : i < (E.2.2.1 (16 * h + 2 * p + 1)).toNat
            · refine (y1 137 (40 * sl + o + i) (by omega) (by omega)).trans ?_
              rw [n4 i g, nth_l _ _ _ (by rw [ll]; exact g)]
              refine (w3 _).trans ?_
              unfold sRt
              rw [ltr_n _ _ _ g]
            · have z := y4 (i - (E.2.2.1 (16 * h + 2 * p + 1)).toNat) (by omega)
              rw [show 40 * sl + (o + (E.2.2.1 (16 * h + 2 * p + 1)).toNat) + (i - (E.2.2.1 (16 * h + 2 * p + 1)).toNat) = 40 * sl + o + i from by omega] at z
              refine z.trans ?_
              have y := nth_r (sRt E h p) (sFo E n h f (k + (E.2.2.1 (16 * h + 2 * p)).toNat)) (i - (E.2.2.1 (16 * h + 2 * p + 1)).toNat)
              rw [ll, show (E.2.2.1 (16 * h + 2 * p + 1)).toNat + (i - (E.2.2.1 (16 * h + 2 * p + 1)).toNat) = i from by omega] at y
              exact y.symm
/-- a NAME as the reference folds it -/
theorem mfo {M : jW} {m w sl : Nat} (S : pSr (eOf M)) (hh : 0 ≤ M.1 126 (21 + 90 * (m / 3)) ∧ M.1 126 (21 + 90 * (m / 3)) ≤ 15) (hl : 0 ≤ M.1 126 (sNm m w) ∧ M.1 126 (sNm m w) ≤ 12) : pFd sl 0 (sF (eOf M) m w) M (d_X12_fold_r125d (m : Int) (w : Int) (sl : Int) M) := by
  unfold d_X12_fold_r125d sF
  rw [show (20 + 90 * ((m : Int) / 3) + 1).toNat = 21 + 90 * (m / 3) from by omega, show 20 + 90 * ((m : Int) / 3) + 6 + 28 * ((m : Int) % 3) + 14 * (w : Int) = ((sNm m w : Nat) : Int) from by unfold sNm; omega, show M.1 126 (21 + 90 * (m / 3)) = (((M.1 126 (21 + 90 * (m / 3))).toNat : Nat) : Int) from by omega]
  exact m30_e (h := (M.1 126 (21 + 90 * (m / 3))).toNat) S (by omega) hl.2 13 15 0 0 M rfl (by show ((0 : Nat) : Int) ≤ M.1 126 (sNm m w); omega) (by show M.1 126 (sNm m w) - ((0 : Nat) : Int) < ((13 : Nat) : Int); omega) (by omega)
end jG12

section jG13
/-! pure: NAMES as the class folds them -/
def pSp (X : jW) (E : pE) : Prop := ∀ h : Nat, h < 16 → X.1 74 h = E.2.1 h ∧ ∀ p : Nat, (p : Int) < E.2.1 h → X.1 73 (64 * h + 8 * p) = E.2.2.1 (16 * h + 2 * p) ∧ X.1 73 (64 * h + 8 * p + 4) = E.2.2.1 (16 * h + 2 * p + 1) ∧ (∀ i : Nat, (i : Int) < E.2.2.1 (16 * h + 2 * p) → X.1 73 (64 * h + 8 * p + 1 + i) = E.2.2.2.1 (48 * h + 6 * p + i)) ∧ ∀ i : Nat, (i : Int) < E.2.2.1 (16 * h + 2 * p + 1) → X.1 73 (64 * h + 8 * p + 5 + i) = E.2.2.2.1 (48 * h + 6 * p + 3 + i)
/-- a NAME of the class's table -/
def pNa (X : jW) (E : pE) (q n : Nat) : Prop := (q : Int) < X.1 35 3 ∧ ∀ c : Nat, c < 14 → X.1 36 (14 * q + c) = E.1 (n + c)
theorem at_35 {X : jW} {q c : Nat} (h : (q : Int) < X.1 35 3) (hc : c < 14) : d_X8_at_r35d (q : Int) (c : Int) X = X.1 36 (14 * q + c) := by
  unfold d_X8_at_r35d
  rw [if_neg (by omega), if_pos (by omega), show ((q : Int) * 14 + (c : Int)).toNat = 14 * q + c from by omega]
section
variable {K : Int → Int → Int → Int → Int → jW → Int} {l1 l2 l3 l4 l5 l6 l7 : Int} {X : jW}
theorem xs_s {r : Nat} {l9 : Int} : d_X5_pairAt_r70d_55 K (r + 1) l1 l2 l3 l4 l5 l6 l7 1 l9 X = if l7 ≤ l9 then l6 else if X.1 73 (l6 + 1 + l9).toNat = d_X8_at_r35d l1 (2 + l2 + l9) X then d_X5_pairAt_r70d_55 K r l1 l2 l3 l4 l5 l6 l7 1 (l9 + 1) X else d_X5_pairAt_r70d_55 K r l1 l2 l3 l4 l5 l6 l7 0 (l9 + 1) X := rfl
theorem xs_0 {r : Nat} {l9 : Int} : d_X5_pairAt_r70d_55 K (r + 1) l1 l2 l3 l4 l5 l6 l7 0 l9 X = K l1 l2 l3 l4 (l5 + 1) X := by
  show (if l7 ≤ l9 then K l1 l2 l3 l4 (l5 + 1) X else K l1 l2 l3 l4 (l5 + 1) X) = _
  by_cases c : l7 ≤ l9
  · rw [if_pos c]
  · rw [if_neg c]
theorem xs_e : ∀ (r : Nat) (l9 : Int), 0 ≤ l9 → l9 ≤ l7 → l7 - l9 < (r : Int) → (d_X5_pairAt_r70d_55 K r l1 l2 l3 l4 l5 l6 l7 1 l9 X = l6 ∧ ∀ i : Int, l9 ≤ i → i < l7 → X.1 73 (l6 + 1 + i).toNat = d_X8_at_r35d l1 (2 + l2 + i) X) ∨ (d_X5_pairAt_r70d_55 K r l1 l2 l3 l4 l5 l6 l7 1 l9 X = K l1 l2 l3 l4 (l5 + 1) X ∧ ∃ i : Int, l9 ≤ i ∧ i < l7 ∧ X.1 73 (l6 + 1 + i).toNat ≠ d_X8_at_r35d l1 (2 + l2 + i) X) := by
  intro r
  induction r with
  | zero => intros; exfalso; omega
  | succ r ih =>
    intro l9 h0 h00 h1
    rw [xs_s]
    by_cases c : l7 ≤ l9
    · rw [if_pos c]
      exact Or.inl ⟨rfl, fun i i1 i2 => by omega⟩
    · rw [if_neg c]
      by_cases g : X.1 73 (l6 + 1 + l9).toNat = d_X8_at_r35d l1 (2 + l2 + l9) X
      · rw [if_pos g]
        rcases ih (l9 + 1) (by omega) (by omega) (by omega) with ⟨z, y⟩ | ⟨z, i, i1, i2, i3⟩
        · refine Or.inl ⟨z, fun i i1 i2 => ?_⟩
          by_cases e : i = l9
          · rw [e]; exact g
          · exact y i (by omega) i2
        · exact Or.inr ⟨z, i, by omega, i2, i3⟩
      · rw [if_neg g]
        obtain ⟨r', rfl⟩ : ∃ r', r = r' + 1 := ⟨r - 1, by omega⟩
        rw [xs_0]
        exact Or.inr ⟨rfl, l9, by omega, by omega, g⟩
end
theorem xp_s {r : Nat} {l1 l2 l3 l4 l5 : Int} {X : jW} : d_X5_pairAt_r70d_3 (r + 1) l1 l2 l3 l4 l5 X = if X.1 74 l4.toNat ≤ l5 then -1 else if l3 - l2 < X.1 73 ((l4 * 8 + l5) * 8).toNat then d_X5_pairAt_r70d_55 (fun l1 l2 l3 l4 l5 W => d_X5_pairAt_r70d_3 r l1 l2 l3 l4 l5 W) 4 l1 l2 l3 l4 l5 ((l4 * 8 + l5) * 8) (X.1 73 ((l4 * 8 + l5) * 8).toNat) 0 0 X else d_X5_pairAt_r70d_55 (fun l1 l2 l3 l4 l5 W => d_X5_pairAt_r70d_3 r l1 l2 l3 l4 l5 W) 4 l1 l2 l3 l4 l5 ((l4 * 8 + l5) * 8) (X.1 73 ((l4 * 8 + l5) * 8).toNat) 1 0 X := rfl
section
variable {E : pE} {X : jW} {q n h k : Nat}
theorem xp_e (S : pSr E) (hh : h < 16) (P : pSp X E) (N : pNa X E q n) (hl : E.1 n ≤ 12) (hk : (k : Int) ≤ E.1 n) : ∀ (c r p : Nat), c < r → E.2.1 h = ((p + c : Nat) : Int) → d_X5_pairAt_r70d_3 r (q : Int) (k : Int) (E.1 n) (h : Int) (p : Int) X = if sPb (sStb E n h k) c p = -1 then -1 else 64 * (h : Int) + 8 * sPb (sStb E n h k) c p := by
  intro c
  induction c with
  | zero =>
    intro r p hr hc
    cases r with
    | zero => exact absurd hr (Nat.not_lt_zero _)
    | succ r =>
      rw [xp_s, show ((h : Int)).toNat = h from by omega, (P h hh).1, if_pos (by omega)]
      show -1 = if (-1 : Int) = -1 then (-1 : Int) else 64 * (h : Int) + 8 * -1
      rw [if_pos rfl]
  | succ c ih =>
    intro r p hr hc
    cases r with
    | zero => exact absurd hr (Nat.not_lt_zero _)
    | succ r =>
      obtain ⟨p1, p2, p3, p4⟩ := (P h hh).2 p (by omega)
      have s1 := ((S h hh).2 p (by omega)).1
      have hp := ih r (p + 1) (by omega) (by omega)
      rw [show ((p + 1 : Nat) : Int) = (p : Int) + 1 from by omega] at hp
      rw [xp_s, show ((h : Int)).toNat = h from by omega, (P h hh).1, if_neg (by omega), show (((h : Int) * 8 + (p : Int)) * 8).toNat = 64 * h + 8 * p from by omega, p1]
      show _ = if (if sStb E n h k p = true then (p : Int) else sPb (sStb E n h k) c (p + 1)) = -1 then (-1 : Int) else 64 * (h : Int) + 8 * (if sStb E n h k p = true then (p : Int) else sPb (sStb E n h k) c (p + 1))
      by_cases g : E.1 n - (k : Int) < E.2.2.1 (16 * h + 2 * p)
      · rw [if_pos g, xs_0 (r := 3), sSt_f1 (by omega), if_neg (c := false = true) (by decide)]
        exact hp
      · rw [if_neg g]
        rcases @xs_e (fun l1 l2 l3 l4 l5 W => d_X5_pairAt_r70d_3 r l1 l2 l3 l4 l5 W) (q : Int) (k : Int) (E.1 n) (h : Int) (p : Int) (((h : Int) * 8 + (p : Int)) * 8) (E.2.2.1 (16 * h + 2 * p)) X 4 0 (by omega) (by omega) (by omega) with ⟨z, y⟩ | ⟨z, i, i1, i2, i3⟩
        · rw [z, sSt_t (by omega) (fun i hi => ?_), if_pos rfl, if_neg (by omega)]
          · omega
          · have w := y (i : Int) (by omega) hi
            rw [show (((h : Int) * 8 + (p : Int)) * 8 + 1 + (i : Int)).toNat = 64 * h + 8 * p + 1 + i from by omega, show 2 + (k : Int) + (i : Int) = ((2 + k + i : Nat) : Int) from by omega, at_35 N.1 (by omega), p3 i hi, N.2 _ (by omega)] at w
            rw [w]
            exact congrArg _ (by omega)
        · rw [z, sSt_f2 (i := i.toNat) (by omega) ?_, if_neg (c := false = true) (by decide)]
          · exact hp
          · intro w
            refine i3 ?_
            rw [show (((h : Int) * 8 + (p : Int)) * 8 + 1 + i).toNat = 64 * h + 8 * p + 1 + i.toNat from by omega, show 2 + (k : Int) + i = ((2 + k + i.toNat : Nat) : Int) from by omega, at_35 N.1 (by omega), p3 _ (by omega), N.2 _ (by omega), ← w]
            exact congrArg _ (by omega)
theorem xp (S : pSr E) (hh : h < 16) (P : pSp X E) (N : pNa X E q n) (hl : E.1 n ≤ 12) (hk : (k : Int) ≤ E.1 n) : d_X5_pairAt_r70d (q : Int) (k : Int) (E.1 n) (h : Int) X = if sFq E n h k = -1 then -1 else 64 * (h : Int) + 8 * sFq E n h k := by
  have s1 := (S h hh).1
  exact xp_e S hh P N hl hk (E.2.1 h).toNat 9 0 (by omega) (by omega)
end
/-- the letters of a right side are written -/
theorem x107_s {K : Int → Int → Int → Int → Int → Int → jW → jW} {r : Nat} {l1 l2 l3 l4 l5 l6 l7 l8 l9 : Int} {X : jW} : d_X5_fold_r70d_107 K (r + 1) l1 l2 l3 l4 l5 l6 l7 l8 l9 X = if l8 ≤ l9 then K l1 l2 l3 l4 l5 (l6 + max 1 (X.1 73 l7.toNat)) X else d_X5_fold_r70d_107 K r l1 l2 l3 l4 (l5 + 1) l6 l7 l8 (l9 + 1) (vu X 75 (l4 + l5).toNat (X.1 73 (l7 + 4 + 1 + l9).toNat)) := rfl
def pWx (b0 c : Nat) (g : Nat → Int) (W N : jW) : Prop := (∀ b j : Nat, ¬ (b = 75 ∧ b0 ≤ j ∧ j < b0 + c) → N.1 b j = W.1 b j) ∧ N.2 = W.2 ∧ ∀ i : Nat, i < c → N.1 75 (b0 + i) = g i
theorem x107_e {K : Int → Int → Int → Int → Int → Int → jW → jW} {l1 l2 l3 l6 : Int} {a p d : Nat} : ∀ (r o j : Nat) (X : jW), j ≤ d → d - j < r → ∃ N : jW, d_X5_fold_r70d_107 K r l1 l2 l3 (a : Int) (o : Int) l6 (p : Int) (d : Int) (j : Int) X = K l1 l2 l3 (a : Int) ((o + (d - j) : Nat) : Int) (l6 + max 1 (X.1 73 p)) N ∧ pWx (a + o) (d - j) (fun i => X.1 73 (p + 5 + (j + i))) X N := by
  intro r
  induction r with
  | zero => intros; exfalso; omega
  | succ r ih =>
    intro o j X hj hr
    rw [x107_s]
    by_cases c : (d : Int) ≤ (j : Int)
    · rw [if_pos c, show d - j = 0 from by omega, show ((p : Int)).toNat = p from by omega]
      exact ⟨X, rfl, fun _ _ _ => rfl, rfl, fun i hi => absurd hi (Nat.not_lt_zero _)⟩
    · rw [if_neg c, show ((a : Int) + (o : Int)).toNat = a + o from by omega, show ((p : Int) + 4 + 1 + (j : Int)).toNat = p + 5 + j from by omega]
      have e3 : ∀ q, (vu X 75 (a + o) (X.1 73 (p + 5 + j))).1 73 q = X.1 73 q := fun q => vu_n (by omega)
      obtain ⟨N, n1, n2, n3, n4⟩ := ih (o + 1) (j + 1) (vu X 75 (a + o) (X.1 73 (p + 5 + j))) (by omega) (by omega)
      rw [show (o : Int) + 1 = ((o + 1 : Nat) : Int) from by omega, show (j : Int) + 1 = ((j + 1 : Nat) : Int) from by omega, n1, e3, show o + 1 + (d - (j + 1)) = o + (d - j) from by omega]
      refine ⟨N, rfl, fun b q hq => ?_, n3, fun i hi => ?_⟩
      · rw [n2 b q (by omega)]
        exact vu_n (by omega)
      · cases i with
        | zero =>
          rw [n2 75 (a + o + 0) (by omega)]
          exact vu_e (by omega)
        | succ i =>
          have z := (n4 i (by omega)).trans (e3 _)
          rw [show a + (o + 1) + i = a + o + (i + 1) from by omega] at z
          refine z.trans ?_
          exact congrArg (X.1 73) (by omega)
theorem x25_s {r : Nat} {l1 l2 l3 l4 l5 l6 : Int} {X : jW} : d_X5_fold_r70d_25 (r + 1) l1 l2 l3 l4 l5 l6 X = if l3 ≤ l6 then d_X5_fold_r70d_166 l1 l3 l5 X else if 33 < l5 then d_X5_fold_r70d_166 l1 l3 l5 X else if d_X5_pairAt_r70d l1 l6 l3 l2 X = -1 then d_X5_fold_r70d_25 r l1 l2 l3 l4 (l5 + 1) (l6 + 1) (vu X 75 (l4 + l5).toNat (d_X8_at_r35d l1 (2 + l6) X)) else d_X5_fold_r70d_107 (fun l1 l2 l3 l4 l5 l6 W => d_X5_fold_r70d_25 r l1 l2 l3 l4 l5 l6 W) 37 l1 l2 l3 l4 l5 l6 (d_X5_pairAt_r70d l1 l6 l3 l2 X) (min 3 (X.1 73 (d_X5_pairAt_r70d l1 l6 l3 l2 X + 4).toNat)) 0 X := rfl
theorem x166 {q : Nat} {l3 l5 : Int} {X : jW} (h : (q : Int) < X.1 35 3) : d_X5_fold_r70d_166 (q : Int) l3 l5 X = vu (vu X 76 q (if l3 = 0 then -1 else l5)) 77 q (if X.1 36 (14 * q + 1) = 1 then 1 else 0) := by
  have e : ∀ v, d_X8_at_r35_c1d (q : Int) (vu X 76 ((q : Int)).toNat v) = X.1 36 (14 * q + 1) := fun v => by
    unfold d_X8_at_r35_c1d
    rw [vu_n (by omega), if_neg (by omega), show ((q : Int) * 14 + 1).toNat = 14 * q + 1 from by omega]
    exact vu_n (by omega)
  unfold d_X5_fold_r70d_166
  by_cases c : l3 = 0
  · rw [if_pos c, if_pos c]
    unfold d_X5_fold_r70d_100181
    rw [e]
    by_cases g : X.1 36 (14 * q + 1) = 1
    · rw [if_pos g, if_pos g]; rfl
    · rw [if_neg g, if_neg g]; rfl
  · rw [if_neg c, if_neg c]
    unfold d_X5_fold_r70d_181
    rw [e]
    by_cases g : X.1 36 (14 * q + 1) = 1
    · rw [if_pos g, if_pos g]; rfl
    · rw [if_neg g, if_neg g]; rfl
def pFx (q o : Nat) (E : pE) (n : Nat) (L : List Int) (W N : jW) : Prop := (∀ b j : Nat, ¬ (b = 76 ∧ j = q) → ¬ (b = 77 ∧ j = q) → ¬ (b = 75 ∧ 36 * q + o ≤ j ∧ j < 36 * q + o + L.length) → N.1 b j = W.1 b j) ∧ N.2 = W.2 ∧ N.1 76 q = (if E.1 n = 0 then -1 else ((o + L.length : Nat) : Int)) ∧ N.1 77 q = (if E.1 (n + 1) = 1 then 1 else 0) ∧ ∀ i : Nat, i < L.length → N.1 75 (36 * q + o + i) = nth L i
theorem pSp_n {X N : jW} {E : pE} (P : pSp X E) (e3 : N.1 73 = X.1 73) (e4 : N.1 74 = X.1 74) : pSp N E := by
  unfold pSp
  rw [e3, e4]
  exact P
theorem pNa_n {X N : jW} {E : pE} {q n : Nat} (P : pNa X E q n) (e3 : N.1 35 3 = X.1 35 3) (e4 : N.1 36 = X.1 36) : pNa N E q n := by
  unfold pNa
  rw [e3, e4]
  exact P
theorem x25_e {E : pE} {q n h : Nat} (S : pSr E) (hh : h < 16) (hl : E.1 n ≤ 12) : ∀ (f r k o : Nat) (X : jW), pSp X E → pNa X E q n → (k : Int) ≤ E.1 n → E.1 n - (k : Int) < (f : Int) → f ≤ r → o ≤ 3 * k → pFx q o E n (sFo E n h f k) X (d_X5_fold_r70d_25 r (q : Int) (h : Int) (E.1 n) (36 * (q : Int)) (o : Int) (k : Int) X) := by
  intro f
  induction f with
  | zero => intros; exfalso; omega
  | succ f ih =>
    intro r k o X P N hk hf hr ho
    cases r with
    | zero => exfalso; omega
    | succ r =>
      have s1 := S h hh
      rw [x25_s]
      unfold sFo
      by_cases c : E.1 n ≤ (k : Int)
      · rw [if_pos c, if_pos c, x166 N.1, N.2 1 (by omega)]
        refine ⟨fun b j h1 h2 _ => ?_, rfl, ?_, ?_, fun i hi => absurd hi (Nat.not_lt_zero _)⟩
        · rw [vu_n (by omega), vu_n (by omega)]
        · rw [vu_n (by omega)]
          exact vu_e rfl
        · exact vu_e rfl
      · rw [if_neg c, if_neg c, if_neg (c := 33 < (o : Int)) (by omega), xp S hh P N hl hk]
        rcases @sFq_b E n h k S hh with z | ⟨p, z1, z2, z3⟩
        · rw [z, if_pos (show (if (-1 : Int) = -1 then (-1 : Int) else 64 * (h : Int) + 8 * -1) = -1 from if_pos rfl), if_pos rfl]
          rw [show (36 * (q : Int) + (o : Int)).toNat = 36 * q + o from by omega, show 2 + (k : Int) = ((2 + k : Nat) : Int) from by omega, at_35 N.1 (by omega), N.2 _ (by omega), show n + (2 + k) = n + 2 + k from by omega]
          have y := ih r (k + 1) (o + 1) (vu X 75 (36 * q + o) (E.1 (n + 2 + k))) (pSp_n P (vu_c (by decide)) (vu_c (by decide))) (pNa_n N (vu_n (by omega)) (vu_c (by decide))) (by omega) (by omega) (by omega) (by omega)
          rw [show ((o + 1 : Nat) : Int) = (o : Int) + 1 from by omega, show ((k + 1 : Nat) : Int) = (k : Int) + 1 from by omega] at y
          obtain ⟨y1, y2, y3, y5, y4⟩ := y
          have ln : (E.1 (n + 2 + k) :: sFo E n h f (k + 1)).length = (sFo E n h f (k + 1)).length + 1 := rfl
          refine ⟨fun b j h1 h2 h3 => ?_, y2, ?_, y5, fun i hi => ?_⟩
          · rw [ln] at h3
            exact (y1 b j h1 h2 (by omega)).trans (vu_n (by omega))
          · rw [y3, ln, show o + 1 + (sFo E n h f (k + 1)).length = o + ((sFo E n h f (k + 1)).length + 1) from by omega]
          · cases i with
            | zero =>
              refine (y1 75 (36 * q + o + 0) (by omega) (by omega) (by omega)).trans ?_
              exact vu_e (by omega)
            | succ i =>
              have z := y4 i (by omega)
              rw [show 36 * q + (o + 1) + i = 36 * q + o + (i + 1) from by omega] at z
              exact z
        · have sp := s1.2 p z2
          obtain ⟨p1, p2, p3, p4⟩ := (P h hh).2 p z2
          have le := sSt_le z3
          rw [z1, if_neg (show ¬ (if (p : Int) = -1 then (-1 : Int) else 64 * (h : Int) + 8 * (p : Int)) = -1 from by rw [if_neg (by omega)]; omega), if_neg (show ¬ (p : Int) = -1 from by omega), if_neg (show ¬ (p : Int) = -1 from by omega), show ((p : Int)).toNat = p from by omega]
          rw [show (64 * (h : Int) + 8 * (p : Int) + 4).toNat = 64 * h + 8 * p + 4 from by omega, p2, show min 3 (E.2.2.1 (16 * h + 2 * p + 1)) = (((E.2.2.1 (16 * h + 2 * p + 1)).toNat : Nat) : Int) from by omega, show 64 * (h : Int) + 8 * (p : Int) = ((64 * h + 8 * p : Nat) : Int) from by omega, show 36 * (q : Int) = ((36 * q : Nat) : Int) from by omega]
          obtain ⟨N', n1, n2, n3, n4⟩ := @x107_e (fun l1 l2 l3 l4 l5 l6 W => d_X5_fold_r70d_25 r l1 l2 l3 l4 l5 l6 W) (q : Int) (h : Int) (E.1 n) (k : Int) (36 * q) (64 * h + 8 * p) (E.2.2.1 (16 * h + 2 * p + 1)).toNat 37 o 0 X (by omega) (by omega)
          rw [show ((0 : Nat) : Int) = 0 from rfl] at n1
          rw [n1, p1, show (k : Int) + max 1 (E.2.2.1 (16 * h + 2 * p)) = ((k + (E.2.2.1 (16 * h + 2 * p)).toNat : Nat) : Int) from by omega]
          have y := ih r (k + (E.2.2.1 (16 * h + 2 * p)).toNat) (o + ((E.2.2.1 (16 * h + 2 * p + 1)).toNat - 0)) N' (pSp_n P (funext fun j => n2 73 j (by omega)) (funext fun j => n2 74 j (by omega))) (pNa_n N (n2 35 3 (by omega)) (funext fun j => n2 36 j (by omega))) (by omega) (by omega) (by omega) (by omega)
          rw [show 36 * (q : Int) = ((36 * q : Nat) : Int) from by omega] at y
          obtain ⟨y1, y2, y3, y5, y4⟩ := y
          have ll : (sRt E h p).length = (E.2.2.1 (16 * h + 2 * p + 1)).toNat := ltr_l _ _
          rw [Nat.sub_zero] at y1 y2 y3 y4 y5 n2 n4 ⊢
          refine ⟨fun b j h1 h2 h3 => ?_, y2.trans n3, ?_, y5, fun i hi => ?_⟩
          · rw [List.length_append, ll] at h3
            exact (y1 b j h1 h2 (by omega)).trans (n2 b j (by omega))
          · rw [y3, List.length_append, ll, Nat.add_assoc]
          · rw [List.length_append, ll] at hi
            by_cases g : i < (E.2.2.1 (16 * h + 2 * p + 1)).toNat
            · refine (y1 75 (36 * q + o + i) (by omega) (by omega) (by omega)).trans ?_
              rw [n4 i g, nth_l _ _ _ (by rw [ll]; exact g)]
              unfold sRt
              rw [ltr_n _ _ _ g]
              have := p4 (0 + i) (by omega)
              rw [show 64 * h + 8 * p + 5 + (0 + i) = 64 * h + 8 * p + 5 + (0 + i) from rfl] at this
              exact this
            · have z := y4 (i - (E.2.2.1 (16 * h + 2 * p + 1)).toNat) (by omega)
              rw [show 36 * q + (o + (E.2.2.1 (16 * h + 2 * p + 1)).toNat) + (i - (E.2.2.1 (16 * h + 2 * p + 1)).toNat) = 36 * q + o + i from by omega] at z
              refine z.trans ?_
              have y := nth_r (sRt E h p) (sFo E n h f (k + (E.2.2.1 (16 * h + 2 * p)).toNat)) (i - (E.2.2.1 (16 * h + 2 * p + 1)).toNat)
              rw [ll, show (E.2.2.1 (16 * h + 2 * p + 1)).toNat + (i - (E.2.2.1 (16 * h + 2 * p + 1)).toNat) = i from by omega] at y
              exact y.symm
/-- one NAME of the class is folded -/
theorem xfo {E : pE} {X : jW} {q n h : Nat} (S : pSr E) (hh : h < 16) (P : pSp X E) (N : pNa X E q n) (hl : 0 ≤ E.1 n ∧ E.1 n ≤ 12) : pFx q 0 E n (sFo E n h 13 0) X (d_X5_fold_r70d (q : Int) (h : Int) X) := by
  have e : d_X8_at_r35_c0d (q : Int) X = E.1 n := by
    unfold d_X8_at_r35_c0d
    rw [if_neg (by have := N.1; omega), show ((q : Int) * 14 + 0).toNat = 14 * q + 0 from by omega, N.2 0 (by omega)]
    rfl
  unfold d_X5_fold_r70d
  rw [e, show (q : Int) * 36 = 36 * (q : Int) from by omega]
  exact x25_e S hh hl.2 13 267 0 0 X P N (by omega) (by omega) (by omega) (by omega)
end jG13

section jG14
/-! pure: what the class keeps of every LINE -/
theorem sFo_l {E : pE} {n h : Nat} (S : pSr E) (hh : h < 16) : ∀ (f k : Nat), (k : Int) ≤ E.1 n → ((sFo E n h f k).length : Int) ≤ 3 * (E.1 n - (k : Int)) := by
  intro f
  induction f with
  | zero => intro k hk; show ((0 : Nat) : Int) ≤ _; omega
  | succ f ih =>
    intro k hk
    unfold sFo
    by_cases c : E.1 n ≤ (k : Int)
    · rw [if_pos c]; show ((0 : Nat) : Int) ≤ _; omega
    · rw [if_neg c]
      rcases @sFq_b E n h k S hh with z | ⟨p, z1, z2, z3⟩
      · rw [if_pos z]
        have y := ih (k + 1) (by omega)
        show (((sFo E n h f (k + 1)).length + 1 : Nat) : Int) ≤ _
        omega
      · have sp := (S h hh).2 p z2
        have le := sSt_le z3
        rw [if_neg (by omega), z1, show ((p : Int)).toNat = p from by omega, List.length_append, show (sRt E h p).length = (E.2.2.1 (16 * h + 2 * p + 1)).toNat from ltr_l _ _]
        have y := ih (k + (E.2.2.1 (16 * h + 2 * p)).toNat) (by omega)
        omega
def fcN (q : Nat) : Nat := 26 + 90 * (q / 6) + 14 * (q % 6)
def fcL (E : pE) (q : Nat) : List Int := sFo E (fcN q) (E.1 (21 + 90 * (q / 6))).toNat 13 0
/-- the NAME in row q of the class's table is kept FOLDED -/
def pFc (X : jW) (E : pE) (q : Nat) : Prop := X.1 76 q = (if E.1 (fcN q) = 0 then -1 else ((fcL E q).length : Int)) ∧ X.1 77 q = (if E.1 (fcN q + 1) = 1 then 1 else 0) ∧ ∀ i : Nat, i < (fcL E q).length → X.1 75 (36 * q + i) = nth (fcL E q) i
theorem pFc_x {X N : jW} {E : pE} {q : Nat} (h : pFc X E q) (e6 : N.1 76 q = X.1 76 q) (e7 : N.1 77 q = X.1 77 q) (e5 : ∀ j : Nat, 36 * q ≤ j → j < 36 * q + 36 → N.1 75 j = X.1 75 j) (hl : (fcL E q).length ≤ 36) : pFc N E q := ⟨e6.trans h.1, e7.trans h.2.1, fun i hi => (e5 _ (by omega) (by omega)).trans (h.2.2 i hi)⟩
/-- ranges of LINES and NAMES -/
def pIr (E : pE) : Prop := ∀ l : Nat, (l : Int) < E.1 0 → (0 ≤ E.1 (20 + 90 * l) ∧ E.1 (20 + 90 * l) ≤ 5) ∧ (0 ≤ E.1 (21 + 90 * l) ∧ E.1 (21 + 90 * l) ≤ 15) ∧ (0 ≤ E.1 (22 + 90 * l) ∧ E.1 (22 + 90 * l) ≤ 146399) ∧ (0 ≤ E.1 (23 + 90 * l) ∧ E.1 (23 + 90 * l) ≤ 146399) ∧ ∀ s : Nat, s < 6 → (0 ≤ E.1 (26 + 90 * l + 14 * s) ∧ E.1 (26 + 90 * l + 14 * s) ≤ 12)
theorem fcL_l {E : pE} (S : pSr E) (I : pIr E) {q : Nat} (hq : ((q / 6 : Nat) : Int) < E.1 0) : (fcL E q).length ≤ 36 := by
  obtain ⟨i1, i2, i3, i4, i5⟩ := I (q / 6) hq
  have z := i5 (q % 6) (by omega)
  have y := sFo_l (n := fcN q) (h := (E.1 (21 + 90 * (q / 6))).toNat) S (by omega) 13 0 (by show ((0 : Nat) : Int) ≤ E.1 (fcN q); unfold fcN; omega)
  unfold fcN at y
  unfold fcL fcN
  omega
theorem pNm_na {X : jW} {E : pE} (N : pNm X 32 E.1) {q : Nat} (hq : ((q / 6 : Nat) : Int) < E.1 0) : pNa X E q (fcN q) := by
  obtain ⟨n0, n1, n2⟩ := N
  change X.1 35 3 = 6 * E.1 0 at n1
  refine ⟨by rw [n1]; omega, fun c hc => ?_⟩
  have z := n2 (q / 6) (14 * (q % 6) + c) hq (by omega)
  change X.1 36 (84 * (q / 6) + (14 * (q % 6) + c)) = _ at z
  rw [show 14 * q + c = 84 * (q / 6) + (14 * (q % 6) + c) from by omega, z]
  unfold fcN
  exact congrArg _ (by omega)
theorem l40_s {r : Nat} {l1 l2 l3 : Int} {W : jW} : d_X5_learn_r70d_40 (r + 1) l1 l2 l3 W = if l1 * 6 + 6 ≤ l3 then W else d_X5_learn_r70d_40 r l1 l2 (l3 + 1) (d_X5_fold_r70d l3 l2 W) := rfl
/-- names of rows from .. to - 1 are folded anew, nothing else changes -/
def pLn (E : pE) (a b : Nat) (X N : jW) : Prop := (∀ c j : Nat, c ≠ 75 → c ≠ 76 → c ≠ 77 → N.1 c j = X.1 c j) ∧ N.2 = X.2 ∧ (∀ j : Nat, (j < a ∨ b ≤ j) → N.1 76 j = X.1 76 j ∧ N.1 77 j = X.1 77 j) ∧ (∀ j : Nat, (j < 36 * a ∨ 36 * b ≤ j) → N.1 75 j = X.1 75 j) ∧ ∀ q : Nat, a ≤ q → q < b → pFc N E q
theorem l40_e {E : pE} {l : Nat} (S : pSr E) (I : pIr E) (hl : (l : Int) < E.1 0) : ∀ (r s : Nat) (X : jW), s ≤ 6 → 6 - s < r → pSp X E → pNm X 32 E.1 → pLn E (6 * l + s) (6 * l + 6) X (d_X5_learn_r70d_40 r (l : Int) (E.1 (21 + 90 * l)) ((6 * l + s : Nat) : Int) X) := by
  intro r
  induction r with
  | zero => intros; exfalso; omega
  | succ r ih =>
    intro s X hs hr P N
    rw [l40_s]
    by_cases c : (l : Int) * 6 + 6 ≤ ((6 * l + s : Nat) : Int)
    · rw [if_pos c]
      exact ⟨fun _ _ _ _ _ => rfl, rfl, fun _ _ => ⟨rfl, rfl⟩, fun _ _ => rfl, fun q q1 q2 => by omega⟩
    · rw [if_neg c]
      obtain ⟨i1, i2, i3, i4, i5⟩ := I l hl
      have d6 : (6 * l + s) / 6 = l := by omega
      have m6 : (6 * l + s) % 6 = s := by omega
      have z := i5 s (by omega)
      have fn : fcN (6 * l + s) = 26 + 90 * l + 14 * s := by unfold fcN; rw [d6, m6]
      have na := @pNm_na X E N (6 * l + s) (by rw [d6]; exact hl)
      have hn : E.1 (21 + 90 * l) = (((E.1 (21 + 90 * l)).toNat : Nat) : Int) := by omega
      have F := xfo (h := (E.1 (21 + 90 * l)).toNat) S (by omega) P na (by rw [fn]; exact z)
      rw [← hn] at F
      have ll := @fcL_l E S I (6 * l + s) (by rw [d6]; exact hl)
      have le : fcL E (6 * l + s) = sFo E (fcN (6 * l + s)) (E.1 (21 + 90 * l)).toNat 13 0 := by unfold fcL; rw [d6]
      rw [← le] at F
      generalize d_X5_fold_r70d ((6 * l + s : Nat) : Int) (E.1 (21 + 90 * l)) X = Y at *
      obtain ⟨f1, f2, f3, f4, f5⟩ := F
      have y := ih (s + 1) Y (by omega) (by omega) (pSp_n P (funext fun j => f1 73 j (by omega) (by omega) (by omega)) (funext fun j => f1 74 j (by omega) (by omega) (by omega))) (pNm_e (f1 35 3 (by omega) (by omega) (by omega)) (funext fun j => f1 36 j (by omega) (by omega) (by omega)) (fun _ _ => rfl) N)
      rw [show ((6 * l + (s + 1) : Nat) : Int) = ((6 * l + s : Nat) : Int) + 1 from by omega] at y
      obtain ⟨y1, y2, y3, y4, y5⟩ := y
      refine ⟨fun c j c1 c2 c3 => (y1 c j c1 c2 c3).trans (f1 c j (by omega) (by omega) (by omega)), y2.trans f2, fun j hj => ?_, fun j hj => (y4 j (by omega)).trans (f1 75 j (by omega) (by omega) (by omega)), fun q q1 q2 => ?_⟩
      · have w := y3 j (by omega)
        exact ⟨w.1.trans (f1 76 j (by omega) (by omega) (by omega)), w.2.trans (f1 77 j (by omega) (by omega) (by omega))⟩
      · by_cases g : q = 6 * l + s
        · subst g
          have w := y3 (6 * l + s) (by omega)
          refine pFc_x (X := Y) ⟨?_, f4, fun i hi => ?_⟩ w.1 w.2 (fun j j1 j2 => y4 j (by omega)) ll
          · rw [f3, Nat.zero_add]
          · exact f5 i hi
        · exact y5 q (by omega) q2
theorem xln {E : pE} {X : jW} {l : Nat} (S : pSr E) (I : pIr E) (hl : (l : Int) < E.1 0) (h2 : E.1 0 ≤ 200) (P : pSp X E) (D : pT X 32 pt_0 E.1) (N : pNm X 32 E.1) : pLn E (6 * l) (6 * l + 6) X (d_X5_learn_r70d (l : Int) X) := by
  have e : d_X8_at_r33_c3d (l : Int) X = E.1 (21 + 90 * l) := by
    have q := D.1
    change X.1 33 3 = E.1 0 at q
    unfold d_X8_at_r33_c3d
    rw [if_neg (by omega)]
    exact pT_at D (i := (l : Int)) (by omega) hl (c := 3) (by decide) (by show _ = 6 * ((l : Int)).toNat + 3; omega) (by show _ = 20 + 90 * ((l : Int)).toNat + 1; omega)
  unfold d_X5_learn_r70d
  rw [if_neg (by omega), e, show (l : Int) * 6 = ((6 * l + 0 : Nat) : Int) from by omega]
  exact l40_e S I hl 1201 0 X (by omega) (by omega) P N
/-! what SOULS keep of a LINE -/
def sRo (b : Int) : Int := if b = 0 then 3 else if b = 1 then 2 else 1
def sCo (E : pE) (m : Nat) : Int := if sRo (E.1 (20 + 90 * (m / 3))) ≤ ((m % 3 : Nat) : Int) then -1 else if E.1 (20 + 90 * (m / 3)) = 0 then ((m % 3 : Nat) : Int) else if E.1 (20 + 90 * (m / 3)) = 1 then 3 + ((m % 3 : Nat) : Int) else 3 + E.1 (20 + 90 * (m / 3))
def pSl (X : jW) (E : pE) (m : Nat) : Prop := X.1 79 m = sCo E m ∧ X.1 80 m = E.1 (22 + 90 * (m / 3)) ∧ X.1 81 m = E.1 (24 + 90 * (m / 3))
def pSu (X : jW) : Prop := pSt X ∧ X.1 2 0 = 0 ∧ X.1 2 1 = 3 ∧ X.1 2 2 = 5 ∧ X.1 2 3 = 6 ∧ X.1 2 4 = 7 ∧ X.1 2 5 = 8
theorem fi_e {X : jW} (S : pSu X) {a : Int} (h : 0 ≤ a ∧ a ≤ 5) : X.1 2 a.toNat = if a = 0 then 0 else if a = 1 then 3 else 3 + a := by
  obtain ⟨_, s0, s1, s2, s3, s4, s5⟩ := S
  have z : a = 0 ∨ a = 1 ∨ a = 2 ∨ a = 3 ∨ a = 4 ∨ a = 5 := by omega
  rcases z with rfl | rfl | rfl | rfl | rfl | rfl
  · exact s0
  · exact s1
  · exact s2
  · exact s3
  · exact s4
  · exact s5
def pLs (E : pE) (a b : Nat) (X N : jW) : Prop := (∀ c j : Nat, c ≠ 79 → c ≠ 80 → c ≠ 81 → N.1 c j = X.1 c j) ∧ N.2 = X.2 ∧ (∀ j : Nat, (j < a ∨ b ≤ j) → N.1 79 j = X.1 79 j ∧ N.1 80 j = X.1 80 j ∧ N.1 81 j = X.1 81 j) ∧ ∀ m : Nat, a ≤ m → m < b → pSl N E m
theorem l34_s {r : Nat} {l1 l2 l3 : Int} {W : jW} : d_X7_learn_r78d_34 (r + 1) l1 l2 l3 W = if 3 ≤ l3 then W else d_X7_learn_r78d_34 r l1 l2 (l3 + 1) (vu (vu (vu W 79 (l1 * 3 + l3).toNat (if W.1 1 l2.toNat ≤ l3 then -1 else W.1 2 l2.toNat + l3)) 80 (l1 * 3 + l3).toNat (d_X8_at_r33_c1d l1 (vu W 79 (l1 * 3 + l3).toNat (if W.1 1 l2.toNat ≤ l3 then -1 else W.1 2 l2.toNat + l3)))) 81 (l1 * 3 + l3).toNat (d_X8_at_r33_c4d l1 (vu (vu W 79 (l1 * 3 + l3).toNat (if W.1 1 l2.toNat ≤ l3 then -1 else W.1 2 l2.toNat + l3)) 80 (l1 * 3 + l3).toNat (d_X8_at_r33_c1d l1 (vu W 79 (l1 * 3 + l3).toNat (if W.1 1 l2.toNat ≤ l3 then -1 else W.1 2 l2.toNat + l3)))))) := by
  show (if 3 ≤ l3 then W else if W.1 1 l2.toNat ≤ l3 then _ else _) = _
  by_cases c : 3 ≤ l3
  · rw [if_pos c, if_pos c]
  · rw [if_neg c, if_neg c]
    by_cases g : W.1 1 l2.toNat ≤ l3
    · rw [if_pos g, if_pos g]; rfl
    · rw [if_neg g, if_neg g]; rfl
theorem l34_e {E : pE} {l : Nat} (I : pIr E) (hl : (l : Int) < E.1 0) : ∀ (r s : Nat) (X : jW), s ≤ 3 → 3 - s < r → pSu X → pT X 32 pt_0 E.1 → pLs E (3 * l + s) (3 * l + 3) X (d_X7_learn_r78d_34 r (l : Int) (E.1 (20 + 90 * l)) (s : Int) X) := by
  intro r
  induction r with
  | zero => intros; exfalso; omega
  | succ r ih =>
    intro s X hs hr U D
    rw [l34_s]
    by_cases c : 3 ≤ (s : Int)
    · rw [if_pos c]
      exact ⟨fun _ _ _ _ _ => rfl, rfl, fun _ _ => ⟨rfl, rfl, rfl⟩, fun q q1 q2 => by omega⟩
    · rw [if_neg c]
      obtain ⟨i1, i2, i3, i4, i5⟩ := I l hl
      rw [ro_e U.1 i1, fi_e U i1, show ((l : Int) * 3 + (s : Int)).toNat = 3 * l + s from by omega]
      have d1 : ∀ v : Int, pT (vu X 79 (3 * l + s) v) 32 pt_0 E.1 := fun v => ⟨(vu_n (show ¬ (33 = 79 ∧ 3 = 3 * l + s) from by omega)).trans D.1, D.2.1, fun i c hi hc => (vu_n (show ¬ (34 = 79 ∧ 6 * i + c = 3 * l + s) from by omega)).trans (D.2.2 i c hi hc)⟩
      have d2 : ∀ v w : Int, pT (vu (vu X 79 (3 * l + s) v) 80 (3 * l + s) w) 32 pt_0 E.1 := fun v w => ⟨(vu_n (show ¬ (33 = 80 ∧ 3 = 3 * l + s) from by omega)).trans (d1 v).1, D.2.1, fun i c hi hc => (vu_n (show ¬ (34 = 80 ∧ 6 * i + c = 3 * l + s) from by omega)).trans ((d1 v).2.2 i c hi hc)⟩
      rw [at_33_1 (d1 _) (by omega) hl, at_33_4 (d2 _ _) (by omega) hl, show (20 + 90 * (l : Int) + 2).toNat = 22 + 90 * l from by omega, show (20 + 90 * (l : Int) + 4).toNat = 24 + 90 * l from by omega]
      have co : (if (if E.1 (20 + 90 * l) = 0 then 3 else if E.1 (20 + 90 * l) = 1 then 2 else 1) ≤ (s : Int) then -1 else (if E.1 (20 + 90 * l) = 0 then 0 else if E.1 (20 + 90 * l) = 1 then 3 else 3 + E.1 (20 + 90 * l)) + (s : Int)) = sCo E (3 * l + s) := by
        unfold sCo sRo
        rw [show (3 * l + s) / 3 = l from by omega, show (3 * l + s) % 3 = s from by omega]
        repeat' split
        all_goals omega
      rw [co]
      have y := ih (s + 1) (vu (vu (vu X 79 (3 * l + s) (sCo E (3 * l + s))) 80 (3 * l + s) (E.1 (22 + 90 * l))) 81 (3 * l + s) (E.1 (24 + 90 * l))) (by omega) (by omega) ?_ ?_
      · rw [show ((s + 1 : Nat) : Int) = (s : Int) + 1 from by omega] at y
        obtain ⟨y1, y2, y3, y4⟩ := y
        refine ⟨fun c j c1 c2 c3 => ?_, y2, fun j hj => ?_, fun m m1 m2 => ?_⟩
        · rw [y1 c j c1 c2 c3, vu_n (by omega), vu_n (by omega), vu_n (by omega)]
        · obtain ⟨w1, w2, w3⟩ := y3 j (by omega)
          refine ⟨w1.trans ?_, w2.trans ?_, w3.trans ?_⟩
          · rw [vu_n (by omega), vu_n (by omega), vu_n (by omega)]
          · rw [vu_n (by omega), vu_n (by omega), vu_n (by omega)]
          · rw [vu_n (by omega), vu_n (by omega), vu_n (by omega)]
        · by_cases g : m = 3 * l + s
          · subst g
            obtain ⟨w1, w2, w3⟩ := y3 (3 * l + s) (by omega)
            unfold pSl
            rw [show (3 * l + s) / 3 = l from by omega]
            refine ⟨w1.trans ?_, w2.trans ?_, w3.trans ?_⟩
            · rw [vu_n (by omega), vu_n (by omega)]
              exact vu_e rfl
            · rw [vu_n (by omega)]
              exact vu_e rfl
            · exact vu_e rfl
          · exact y4 m (by omega) m2
      · obtain ⟨⟨a0, a1, a2, a3, a4, a5⟩, b0, b1, b2, b3, b4, b5⟩ := U
        have e : ∀ c j, c < 3 → (vu (vu (vu X 79 (3 * l + s) (sCo E (3 * l + s))) 80 (3 * l + s) (E.1 (22 + 90 * l))) 81 (3 * l + s) (E.1 (24 + 90 * l))).1 c j = X.1 c j := fun c j hc => by rw [vu_n (by omega), vu_n (by omega), vu_n (by omega)]
        exact ⟨⟨(e 1 0 (by decide)).trans a0, (e 1 1 (by decide)).trans a1, (e 1 2 (by decide)).trans a2, (e 1 3 (by decide)).trans a3, (e 1 4 (by decide)).trans a4, (e 1 5 (by decide)).trans a5⟩, (e 2 0 (by decide)).trans b0, (e 2 1 (by decide)).trans b1, (e 2 2 (by decide)).trans b2, (e 2 3 (by decide)).trans b3, (e 2 4 (by decide)).trans b4, (e 2 5 (by decide)).trans b5⟩
      · exact ⟨(vu_n (show ¬ (33 = 81 ∧ 3 = 3 * l + s) from by omega)).trans (d2 _ _).1, D.2.1, fun i c hi hc => (vu_n (show ¬ (34 = 81 ∧ 6 * i + c = 3 * l + s) from by omega)).trans ((d2 _ _).2.2 i c hi hc)⟩
theorem xls {E : pE} {X : jW} {l : Nat} (I : pIr E) (hl : (l : Int) < E.1 0) (h2 : E.1 0 ≤ 200) (U : pSu X) (D : pT X 32 pt_0 E.1) : pLs E (3 * l) (3 * l + 3) X (d_X7_learn_r78d (l : Int) X) := by
  unfold d_X7_learn_r78d
  have b := (I l hl).1
  rw [if_neg (by omega), at_33_2 D (by omega) hl, show (20 + 90 * (l : Int) + 0).toNat = 20 + 90 * l from by omega, if_pos b]
  exact l34_e I hl 4 0 X (by omega) (by omega) U D
end jG14

section jG15
/-! pure: arithmetic that does not run over -/
theorem j_is {x y : Int} (hx : -2147483648 ≤ x ∧ x ≤ 2147483647) (hy : -2147483648 ≤ y ∧ y ≤ 2147483647) (h : -2147483648 ≤ x - y ∧ x - y ≤ 2147483647) : j_isub x y = x - y := by
  unfold j_isub
  rw [Int32.toInt_sub, j_of hx, j_of hy]
  exact Int.bmod_eq_of_le (by omega) (by omega)
theorem j_im {x y : Int} (hx : -2147483648 ≤ x ∧ x ≤ 2147483647) (hy : -2147483648 ≤ y ∧ y ≤ 2147483647) (h : -2147483648 ≤ x * y ∧ x * y ≤ 2147483647) : j_imul x y = x * y := by
  unfold j_imul
  rw [Int32.toInt_mul, j_of hx, j_of hy]
  exact Int.bmod_eq_of_le (by omega) (by omega)
theorem j_ib {x : Int} (hx : -2147483647 ≤ x ∧ x ≤ 2147483647) : j_iabs x = if 0 ≤ x then x else -x := by
  unfold j_iabs
  by_cases c : 0 ≤ x
  · rw [if_pos c, if_pos c]
  · rw [if_neg c, if_neg c, Int32.toInt_sub, j_of (by omega)]
    show Int.bmod (0 - x) 4294967296 = -x
    rw [Int.bmod_eq_of_le (by omega) (by omega)]
    omega
theorem l_of {x : Int} (h : -9223372036854775808 ≤ x ∧ x ≤ 9223372036854775807) : (Int64.ofInt x).toInt = x := by
  rw [Int64.toInt_ofInt]
  show Int.bmod x 18446744073709551616 = x
  exact Int.bmod_eq_of_le (by omega) (by omega)
theorem l_a {x y : Int} (hx : -9223372036854775808 ≤ x ∧ x ≤ 9223372036854775807) (hy : -9223372036854775808 ≤ y ∧ y ≤ 9223372036854775807) (h : -9223372036854775808 ≤ x + y ∧ x + y ≤ 9223372036854775807) : j_ladd x y = x + y := by
  unfold j_ladd
  rw [Int64.toInt_add, l_of hx, l_of hy]
  exact Int.bmod_eq_of_le (by omega) (by omega)
theorem l_s {x y : Int} (hx : -9223372036854775808 ≤ x ∧ x ≤ 9223372036854775807) (hy : -9223372036854775808 ≤ y ∧ y ≤ 9223372036854775807) (h : -9223372036854775808 ≤ x - y ∧ x - y ≤ 9223372036854775807) : j_lsub x y = x - y := by
  unfold j_lsub
  rw [Int64.toInt_sub, l_of hx, l_of hy]
  exact Int.bmod_eq_of_le (by omega) (by omega)
theorem l_m {x y : Int} (hx : -9223372036854775808 ≤ x ∧ x ≤ 9223372036854775807) (hy : -9223372036854775808 ≤ y ∧ y ≤ 9223372036854775807) (h : -9223372036854775808 ≤ x * y ∧ x * y ≤ 9223372036854775807) : j_lmul x y = x * y := by
  unfold j_lmul
  rw [Int64.toInt_mul, l_of hx, l_of hy]
  exact Int.bmod_eq_of_le (by omega) (by omega)
theorem l_n {x : Int} (hx : -9223372036854775807 ≤ x ∧ x ≤ 9223372036854775807) : j_lneg x = -x := by
  unfold j_lneg
  rw [Int64.toInt_neg, l_of (by omega)]
  exact Int.bmod_eq_of_le (by omega) (by omega)
theorem l_d {x y : Int} (hx : 0 ≤ x ∧ x ≤ 9223372036854775807) (hy : 0 < y ∧ y ≤ 9223372036854775807) : j_ldiv x y = x / y := by
  unfold j_ldiv
  have h3 : x / y ≤ x := Int.ediv_le_self _ hx.1
  have h4 : 0 ≤ x / y := Int.ediv_nonneg hx.1 (by omega)
  rw [Int64.toInt_div, l_of (by omega), l_of (by omega), Int.tdiv_eq_ediv_of_nonneg hx.1]
  exact Int.bmod_eq_of_le (by omega) (by omega)
/-! truth as a number -/
noncomputable def tv (P : Prop) : Int := @ite Int P (Classical.propDecidable P) 1 0
theorem tv_t {P : Prop} (h : P) : tv P = 1 := by unfold tv; exact if_pos h
theorem tv_f {P : Prop} (h : ¬ P) : tv P = 0 := by unfold tv; exact if_neg h
theorem tv_0 {P : Prop} : tv P = 0 ↔ ¬ P := ⟨fun h p => by rw [tv_t p] at h; exact absurd h (by decide), tv_f⟩
theorem tv_1 {P : Prop} : tv P = 1 ↔ P := ⟨fun h => Classical.byContradiction fun p => by rw [tv_f p] at h; exact absurd h (by decide), tv_t⟩
theorem tv_b {P : Prop} : 0 ≤ tv P ∧ tv P ≤ 1 := by
  by_cases h : P
  · rw [tv_t h]; decide
  · rw [tv_f h]; decide
theorem tv_c {P Q : Prop} (h : P ↔ Q) : tv P = tv Q := by rw [propext h]
end jG15

section jG16
/-! pure: ALIKE, APART -/
theorem fcN_s {m w : Nat} (hw : w < 2) : fcN (2 * m + w) = sNm m w := by unfold fcN sNm; omega
theorem fcL_s {E : pE} {m w : Nat} (hw : w < 2) : fcL E (2 * m + w) = sF E m w := by
  unfold fcL sF
  rw [fcN_s hw, show (2 * m + w) / 6 = m / 3 from by omega]
def sIn (E : pE) (m w : Nat) : Prop := 0 < E.1 (sNm m w)
def sAl (E : pE) (a b w : Nat) : Prop := ((sF E a w).length = (sF E b w).length ∨ ((sF E a w).length < (sF E b w).length ∧ E.1 (sNm a w + 1) = 1) ∨ ((sF E b w).length < (sF E a w).length ∧ E.1 (sNm b w + 1) = 1)) ∧ ∀ i : Nat, i < (sF E a w).length → i < (sF E b w).length → nth (sF E a w) i = nth (sF E b w) i
def sDf (E : pE) (a b w : Nat) : Prop := sIn E a w ∧ sIn E b w ∧ ¬ sAl E a b w
theorem sAl_s {E : pE} {a b w : Nat} : sAl E a b w ↔ sAl E b a w := by
  unfold sAl
  constructor
  · exact fun h => ⟨by have := h.1; omega, fun i h1 h2 => (h.2 i h2 h1).symm⟩
  · exact fun h => ⟨by have := h.1; omega, fun i h1 h2 => (h.2 i h2 h1).symm⟩
theorem sDf_s {E : pE} {a b w : Nat} : sDf E a b w ↔ sDf E b a w := by
  unfold sDf
  rw [@sAl_s E a b w]
  exact ⟨fun h => ⟨h.2.1, h.1, h.2.2⟩, fun h => ⟨h.2.1, h.1, h.2.2⟩⟩
/-- a MENTION of the told LINES -/
def sMn (E : pE) (m : Nat) : Prop := ((m / 3 : Nat) : Int) < E.1 0 ∧ sCo E m ≠ -1
theorem ir_n {E : pE} (I : pIr E) {m w : Nat} (hw : w < 2) (h : ((m / 3 : Nat) : Int) < E.1 0) : 0 ≤ E.1 (sNm m w) ∧ E.1 (sNm m w) ≤ 12 := by
  have z := (I (m / 3) h).2.2.2.2 (2 * (m % 3) + w) (by omega)
  rw [show 26 + 90 * (m / 3) + 14 * (2 * (m % 3) + w) = sNm m w from by unfold sNm; omega] at z
  exact z
theorem sF_l {E : pE} (S : pSr E) (I : pIr E) {m w : Nat} (hw : w < 2) (h : ((m / 3 : Nat) : Int) < E.1 0) : (sF E m w).length ≤ 36 := by
  rw [← fcL_s hw]
  exact fcL_l S I (by rw [show (2 * m + w) / 6 = m / 3 from by omega]; exact h)
/-! the reference's side -/
theorem a123_s {r : Nat} {l6 l7 l10 : Int} {W : jW} : d_X12_areAlike_r125d_123 (r + 1) l6 l7 1 l10 W = if l6 ≤ l10 then (1, W) else if l7 ≤ l10 then (1, W) else if W.1 137 l10.toNat = W.1 137 (40 + l10).toNat then d_X12_areAlike_r125d_123 r l6 l7 1 (l10 + 1) W else d_X12_areAlike_r125d_123 r l6 l7 0 (l10 + 1) W := rfl
theorem a123_0 {r : Nat} {l6 l7 l10 : Int} {W : jW} : (d_X12_areAlike_r125d_123 r l6 l7 0 l10 W).1 = 0 := by
  cases r with
  | zero => rfl
  | succ r =>
    show (if l6 ≤ l10 then ((0 : Int), W) else if l7 ≤ l10 then (0, W) else (0, W)).1 = 0
    repeat' split
    all_goals rfl
theorem a123_e {n m : Nat} {W : jW} : ∀ (r k : Nat), k ≤ 36 → (n ≤ 36 ∧ m ≤ 36) → 36 - k < r → ((d_X12_areAlike_r125d_123 r (n : Int) (m : Int) 1 (k : Int) W).1 = 1 ∧ ∀ i : Nat, k ≤ i → i < n → i < m → W.1 137 i = W.1 137 (40 + i)) ∨ ((d_X12_areAlike_r125d_123 r (n : Int) (m : Int) 1 (k : Int) W).1 = 0 ∧ ∃ i : Nat, i < n ∧ i < m ∧ W.1 137 i ≠ W.1 137 (40 + i)) := by
  intro r
  induction r with
  | zero => intros; exfalso; omega
  | succ r ih =>
    intro k hk hn hr
    rw [a123_s, show ((k : Int)).toNat = k from by omega, show (40 + (k : Int)).toNat = 40 + k from by omega]
    by_cases c : (n : Int) ≤ (k : Int)
    · rw [if_pos c]
      exact Or.inl ⟨rfl, fun i i1 i2 => by omega⟩
    · rw [if_neg c]
      by_cases c2 : (m : Int) ≤ (k : Int)
      · rw [if_pos c2]
        exact Or.inl ⟨rfl, fun i i1 i2 i3 => by omega⟩
      · rw [if_neg c2]
        by_cases g : W.1 137 k = W.1 137 (40 + k)
        · rw [if_pos g]
          rcases ih (k + 1) (by omega) hn (by omega) with ⟨z, y⟩ | ⟨z, y⟩
          · rw [show ((k + 1 : Nat) : Int) = (k : Int) + 1 from by omega] at z
            refine Or.inl ⟨z, fun i i1 i2 i3 => ?_⟩
            by_cases e : i = k
            · rw [e]; exact g
            · exact y i (by omega) i2 i3
          · rw [show ((k + 1 : Nat) : Int) = (k : Int) + 1 from by omega] at z
            exact Or.inr ⟨z, y⟩
        · rw [if_neg g, a123_0]
          exact Or.inr ⟨rfl, k, by omega, by omega, g⟩
theorem al_b {a b w : Int} {M : jW} : d_X12_areAlike_r125d a b w M = (if (d_X12_fold_r125d b w 1 (d_X12_fold_r125d a w 0 M)).1 138 0 = (d_X12_fold_r125d b w 1 (d_X12_fold_r125d a w 0 M)).1 138 1 ∨ ((d_X12_fold_r125d b w 1 (d_X12_fold_r125d a w 0 M)).1 138 0 < (d_X12_fold_r125d b w 1 (d_X12_fold_r125d a w 0 M)).1 138 1 ∧ M.1 126 (20 + 90 * (a / 3) + 6 + 28 * (a % 3) + 14 * w + 1).toNat = 1) ∨ ((d_X12_fold_r125d b w 1 (d_X12_fold_r125d a w 0 M)).1 138 1 < (d_X12_fold_r125d b w 1 (d_X12_fold_r125d a w 0 M)).1 138 0 ∧ (d_X12_fold_r125d b w 1 (d_X12_fold_r125d a w 0 M)).1 126 (20 + 90 * (b / 3) + 6 + 28 * (b % 3) + 14 * w + 1).toNat = 1) then d_X12_areAlike_r125d_123 37 ((d_X12_fold_r125d b w 1 (d_X12_fold_r125d a w 0 M)).1 138 0) ((d_X12_fold_r125d b w 1 (d_X12_fold_r125d a w 0 M)).1 138 1) 1 0 (d_X12_fold_r125d b w 1 (d_X12_fold_r125d a w 0 M)) else d_X12_areAlike_r125d_123 37 ((d_X12_fold_r125d b w 1 (d_X12_fold_r125d a w 0 M)).1 138 0) ((d_X12_fold_r125d b w 1 (d_X12_fold_r125d a w 0 M)).1 138 1) 0 0 (d_X12_fold_r125d b w 1 (d_X12_fold_r125d a w 0 M))) := by
  unfold d_X12_areAlike_r125d
  generalize d_X12_fold_r125d b w 1 (d_X12_fold_r125d a w 0 M) = V
  unfold d_X12_areAlike_r125d_300036 d_X12_areAlike_r125d_200036 d_X12_areAlike_r125d_300060 d_X12_areAlike_r125d_200060 d_X12_areAlike_r125d_97
  repeat' split
  all_goals first
    | rfl
    | (exfalso; omega)
theorem mal {M : jW} {a b w : Nat} (S : pSr (eOf M)) (I : pIr (eOf M)) (hw : w < 2) (ha : ((a / 3 : Nat) : Int) < M.1 126 0) (hb : ((b / 3 : Nat) : Int) < M.1 126 0) : (d_X12_areAlike_r125d (a : Int) (b : Int) (w : Int) M).1 = tv (sAl (eOf M) a b w) := by
  have la := @ir_n (eOf M) I a w hw ha
  have lb := @ir_n (eOf M) I b w hw hb
  obtain ⟨f1, f2, f3, f4⟩ := @mfo M a w 0 S (I (a / 3) ha).2.1 la
  have e1 : eOf (d_X12_fold_r125d (a : Int) (w : Int) ((0 : Nat) : Int) M) = eOf M := by
    unfold eOf
    rw [show (d_X12_fold_r125d (a : Int) (w : Int) ((0 : Nat) : Int) M).1 126 = M.1 126 from funext fun q => f1 126 q (by omega) (by omega), show (d_X12_fold_r125d (a : Int) (w : Int) ((0 : Nat) : Int) M).1 132 = M.1 132 from funext fun q => f1 132 q (by omega) (by omega), show (d_X12_fold_r125d (a : Int) (w : Int) ((0 : Nat) : Int) M).1 133 = M.1 133 from funext fun q => f1 133 q (by omega) (by omega), show (d_X12_fold_r125d (a : Int) (w : Int) ((0 : Nat) : Int) M).1 134 = M.1 134 from funext fun q => f1 134 q (by omega) (by omega), f1 125 27 (by omega) (by omega)]
  have g := @mfo (d_X12_fold_r125d (a : Int) (w : Int) ((0 : Nat) : Int) M) b w 1 (by rw [e1]; exact S) (by have z := (I (b / 3) hb).2.1; rw [show (d_X12_fold_r125d (a : Int) (w : Int) ((0 : Nat) : Int) M).1 126 (21 + 90 * (b / 3)) = M.1 126 (21 + 90 * (b / 3)) from f1 126 _ (by omega) (by omega)]; exact z) (by rw [show (d_X12_fold_r125d (a : Int) (w : Int) ((0 : Nat) : Int) M).1 126 (sNm b w) = M.1 126 (sNm b w) from f1 126 _ (by omega) (by omega)]; exact lb)
  rw [e1] at g
  obtain ⟨g1, g2, g3, g4⟩ := g
  have A6 := sF_l S I hw ha
  have B6 := sF_l S I hw hb
  rw [al_b, show (20 + 90 * ((a : Int) / 3) + 6 + 28 * ((a : Int) % 3) + 14 * (w : Int) + 1).toNat = sNm a w + 1 from by unfold sNm; omega, show (20 + 90 * ((b : Int) / 3) + 6 + 28 * ((b : Int) % 3) + 14 * (w : Int) + 1).toNat = sNm b w + 1 from by unfold sNm; omega]
  rw [show ((0 : Nat) : Int) = 0 from rfl] at f1 f2 f3 f4 g1 g2 g3 g4
  rw [show ((1 : Nat) : Int) = 1 from rfl] at g1 g2 g3 g4
  have v0 : (d_X12_fold_r125d (b : Int) (w : Int) 1 (d_X12_fold_r125d (a : Int) (w : Int) 0 M)).1 138 0 = ((sF (eOf M) a w).length : Int) := by
    rw [g1 138 0 (by omega) (by omega), f3]
    omega
  have v1 : (d_X12_fold_r125d (b : Int) (w : Int) 1 (d_X12_fold_r125d (a : Int) (w : Int) 0 M)).1 138 1 = ((sF (eOf M) b w).length : Int) := by
    rw [g3]
    omega
  have v2 : (d_X12_fold_r125d (b : Int) (w : Int) 1 (d_X12_fold_r125d (a : Int) (w : Int) 0 M)).1 126 (sNm b w + 1) = M.1 126 (sNm b w + 1) := (g1 126 _ (by omega) (by omega)).trans (f1 126 _ (by omega) (by omega))
  have v3 : ∀ i : Nat, i < (sF (eOf M) a w).length → (d_X12_fold_r125d (b : Int) (w : Int) 1 (d_X12_fold_r125d (a : Int) (w : Int) 0 M)).1 137 i = nth (sF (eOf M) a w) i := fun i hi => by
    rw [g1 137 i (by omega) (by omega)]
    have z := f4 i hi
    rw [show 40 * 0 + 0 + i = i from by omega] at z
    exact z
  have v4 : ∀ i : Nat, i < (sF (eOf M) b w).length → (d_X12_fold_r125d (b : Int) (w : Int) 1 (d_X12_fold_r125d (a : Int) (w : Int) 0 M)).1 137 (40 + i) = nth (sF (eOf M) b w) i := fun i hi => by
    have z := g4 i hi
    rw [show 40 * 1 + 0 + i = 40 + i from by omega] at z
    exact z
  rw [v0, v1, v2]
  generalize d_X12_fold_r125d (b : Int) (w : Int) 1 (d_X12_fold_r125d (a : Int) (w : Int) 0 M) = V at *
  by_cases c : ((sF (eOf M) a w).length : Int) = ((sF (eOf M) b w).length : Int) ∨ (((sF (eOf M) a w).length : Int) < ((sF (eOf M) b w).length : Int) ∧ M.1 126 (sNm a w + 1) = 1) ∨ (((sF (eOf M) b w).length : Int) < ((sF (eOf M) a w).length : Int) ∧ M.1 126 (sNm b w + 1) = 1)
  · rw [if_pos c]
    rcases @a123_e (sF (eOf M) a w).length (sF (eOf M) b w).length V 37 0 (by omega) ⟨A6, B6⟩ (by omega) with ⟨z, y⟩ | ⟨z, i, y1, y2, y3⟩
    · refine z.trans (tv_t ⟨?_, fun i h1 h2 => ?_⟩).symm
      · change _ ∨ (_ ∧ M.1 126 (sNm a w + 1) = 1) ∨ (_ ∧ M.1 126 (sNm b w + 1) = 1)
        omega
      · rw [← v3 i h1, ← v4 i h2]
        exact y i (by omega) h1 h2
    · refine z.trans (tv_f fun q => y3 ?_).symm
      rw [v3 i y1, v4 i y2]
      exact q.2 i y1 y2
  · rw [if_neg c, a123_0]
    refine (tv_f fun q => c ?_).symm
    have z := q.1
    change _ ∨ (_ ∧ M.1 126 (sNm a w + 1) = 1) ∨ (_ ∧ M.1 126 (sNm b w + 1) = 1) at z
    omega
/-! the class's side -/
theorem x120_s {r : Nat} {l4 l5 l8 l9 : Int} {X : jW} : d_X5_differ_r70d_120 (r + 1) l4 l5 l8 l9 X = if l8 ≤ l9 then 0 else if X.1 75 (l4 * 36 + l9).toNat = X.1 75 (l5 * 36 + l9).toNat then d_X5_differ_r70d_120 r l4 l5 l8 (l9 + 1) X else 1 := rfl
theorem x120_e {X : jW} {x y d : Nat} : ∀ (r k : Nat), d - k < r → k ≤ d → (d_X5_differ_r70d_120 r (x : Int) (y : Int) (d : Int) (k : Int) X = 0 ∧ ∀ i : Nat, k ≤ i → i < d → X.1 75 (36 * x + i) = X.1 75 (36 * y + i)) ∨ (d_X5_differ_r70d_120 r (x : Int) (y : Int) (d : Int) (k : Int) X = 1 ∧ ∃ i : Nat, i < d ∧ X.1 75 (36 * x + i) ≠ X.1 75 (36 * y + i)) := by
  intro r
  induction r with
  | zero => intros; exfalso; omega
  | succ r ih =>
    intro k hr hk
    rw [x120_s, show ((x : Int) * 36 + (k : Int)).toNat = 36 * x + k from by omega, show ((y : Int) * 36 + (k : Int)).toNat = 36 * y + k from by omega]
    by_cases c : (d : Int) ≤ (k : Int)
    · rw [if_pos c]
      exact Or.inl ⟨rfl, fun i i1 i2 => by omega⟩
    · rw [if_neg c]
      by_cases g : X.1 75 (36 * x + k) = X.1 75 (36 * y + k)
      · rw [if_pos g]
        rcases ih (k + 1) (by omega) (by omega) with ⟨z, w⟩ | ⟨z, w⟩
        · rw [show ((k + 1 : Nat) : Int) = (k : Int) + 1 from by omega] at z
          refine Or.inl ⟨z, fun i i1 i2 => ?_⟩
          by_cases e : i = k
          · rw [e]; exact g
          · exact w i (by omega) i2
        · rw [show ((k + 1 : Nat) : Int) = (k : Int) + 1 from by omega] at z
          exact Or.inr ⟨z, w⟩
      · rw [if_neg g]
        exact Or.inr ⟨rfl, k, by omega, g⟩
theorem df_b {a b w : Int} {X : jW} : d_X5_differ_r70d a b w X = (if X.1 76 (a * 2 + w).toNat < 0 ∨ X.1 76 (b * 2 + w).toNat < 0 then 0 else if (X.1 77 (a * 2 + w).toNat = 0 ∧ X.1 76 (a * 2 + w).toNat < X.1 76 (b * 2 + w).toNat) ∨ (X.1 77 (b * 2 + w).toNat = 0 ∧ X.1 76 (b * 2 + w).toNat < X.1 76 (a * 2 + w).toNat) then 1 else d_X5_differ_r70d_120 37 (a * 2 + w) (b * 2 + w) (min (X.1 76 (a * 2 + w).toNat) (X.1 76 (b * 2 + w).toNat)) 0 X) := by
  unfold d_X5_differ_r70d d_X5_differ_r70d_89
  repeat' split
  all_goals first
    | rfl
    | (exfalso; omega)
theorem xdf {X : jW} {E : pE} {a b w : Nat} (S : pSr E) (I : pIr E) (hw : w < 2) (ha : ((a / 3 : Nat) : Int) < E.1 0) (hb : ((b / 3 : Nat) : Int) < E.1 0) (fa : pFc X E (2 * a + w)) (fb : pFc X E (2 * b + w)) : d_X5_differ_r70d (a : Int) (b : Int) (w : Int) X = tv (sDf E a b w) := by
  have la := ir_n I hw ha
  have lb := ir_n I hw hb
  have A6 := sF_l S I hw ha
  have B6 := sF_l S I hw hb
  unfold pFc at fa fb
  rw [fcN_s hw, fcL_s hw] at fa fb
  obtain ⟨a1, a2, a3⟩ := fa
  obtain ⟨b1, b2, b3⟩ := fb
  rw [df_b, show ((a : Int) * 2 + (w : Int)).toNat = 2 * a + w from by omega, show ((b : Int) * 2 + (w : Int)).toNat = 2 * b + w from by omega, a1, b1, a2, b2]
  by_cases ea : E.1 (sNm a w) = 0
  · rw [if_pos ea, if_pos (by omega)]
    refine (tv_f fun q => ?_).symm
    have := q.1
    unfold sIn at this
    omega
  · rw [if_neg ea]
    by_cases eb : E.1 (sNm b w) = 0
    · rw [if_pos eb, if_pos (by omega)]
      refine (tv_f fun q => ?_).symm
      have := q.2.1
      unfold sIn at this
      omega
    · rw [if_neg eb, if_neg (by omega)]
      have ia : sIn E a w := by unfold sIn; omega
      have ib : sIn E b w := by unfold sIn; omega
      by_cases c : ((if E.1 (sNm a w + 1) = 1 then (1 : Int) else 0) = 0 ∧ ((sF E a w).length : Int) < ((sF E b w).length : Int)) ∨ ((if E.1 (sNm b w + 1) = 1 then (1 : Int) else 0) = 0 ∧ ((sF E b w).length : Int) < ((sF E a w).length : Int))
      · rw [if_pos c]
        refine (tv_t ⟨ia, ib, fun q => ?_⟩).symm
        have z := q.1
        rcases c with ⟨c1, c2⟩ | ⟨c1, c2⟩
        · by_cases t : E.1 (sNm a w + 1) = 1
          · rw [if_pos t] at c1; exact absurd c1 (by decide)
          · omega
        · by_cases t : E.1 (sNm b w + 1) = 1
          · rw [if_pos t] at c1; exact absurd c1 (by decide)
          · omega
      · rw [if_neg c]
        have lg : (sF E a w).length = (sF E b w).length ∨ ((sF E a w).length < (sF E b w).length ∧ E.1 (sNm a w + 1) = 1) ∨ ((sF E b w).length < (sF E a w).length ∧ E.1 (sNm b w + 1) = 1) := by
          by_cases t : E.1 (sNm a w + 1) = 1
          · by_cases u : E.1 (sNm b w + 1) = 1
            · omega
            · rw [if_neg u] at c; omega
          · rw [if_neg t] at c
            by_cases u : E.1 (sNm b w + 1) = 1
            · omega
            · rw [if_neg u] at c; omega
        rw [show (a : Int) * 2 + (w : Int) = ((2 * a + w : Nat) : Int) from by omega, show (b : Int) * 2 + (w : Int) = ((2 * b + w : Nat) : Int) from by omega, show min ((sF E a w).length : Int) ((sF E b w).length : Int) = ((min (sF E a w).length (sF E b w).length : Nat) : Int) from by omega]
        rcases @x120_e X (2 * a + w) (2 * b + w) (min (sF E a w).length (sF E b w).length) 37 0 (by omega) (by omega) with ⟨z, y⟩ | ⟨z, i, y1, y2⟩
        · refine z.trans (tv_f fun q => q.2.2 ⟨lg, fun i i1 i2 => ?_⟩).symm
          rw [← a3 i i1, ← b3 i i2]
          exact y i (by omega) (by omega)
        · refine z.trans (tv_t ⟨ia, ib, fun q => y2 ?_⟩).symm
          rw [a3 i (by omega), b3 i (by omega)]
          exact q.2 i (by omega) (by omega)
/-! APART -/
def sAp (E : pE) (a b : Nat) : Prop := ∃ k : Nat, (k : Int) < E.1 1 ∧ ((E.1 (18020 + 2 * k) = (a : Int) ∧ E.1 (18021 + 2 * k) = (b : Int)) ∨ (E.1 (18020 + 2 * k) = (b : Int) ∧ E.1 (18021 + 2 * k) = (a : Int)))
theorem sAp_s {E : pE} {a b : Nat} : sAp E a b ↔ sAp E b a := ⟨fun ⟨k, h, z⟩ => ⟨k, h, z.symm⟩, fun ⟨k, h, z⟩ => ⟨k, h, z.symm⟩⟩
theorem mp_s {W : jW} {r : Nat} {a b k : Int} : d_X12_areApart_r125d_5 (r + 1) a b 0 k W = if W.1 126 1 ≤ k then 0 else if (W.1 126 (18020 + 2 * k).toNat = a ∧ W.1 126 (18020 + 2 * k + 1).toNat = b) ∨ (W.1 126 (18020 + 2 * k).toNat = b ∧ W.1 126 (18020 + 2 * k + 1).toNat = a) then d_X12_areApart_r125d_5 r a b 1 (k + 1) W else d_X12_areApart_r125d_5 r a b 0 (k + 1) W := by
  show (if W.1 126 1 ≤ k then (0 : Int) else if (0 : Int) = 0 then _ else _) = _
  rw [if_pos (c := (0 : Int) = 0) rfl]
  unfold d_X12_areApart_r125d_64
  repeat' split
  all_goals first
    | rfl
    | (exfalso; omega)
theorem mp_1 {W : jW} {a b : Int} : ∀ (r : Nat) (k : Int), W.1 126 1 - k < (r : Int) → 0 < r → d_X12_areApart_r125d_5 r a b 1 k W = 1 := by
  intro r
  induction r with
  | zero => intro k _ h; exact absurd h (Nat.not_lt_zero _)
  | succ r ih =>
    intro k h _
    show (if W.1 126 1 ≤ k then (1 : Int) else if (1 : Int) = 0 then _ else d_X12_areApart_r125d_5 r a b 1 (k + 1) W) = 1
    by_cases c : W.1 126 1 ≤ k
    · rw [if_pos c]
    · rw [if_neg c, if_neg (show ¬ (1 : Int) = 0 from by decide)]
      exact ih (k + 1) (by omega) (by omega)
theorem map_e {W : jW} {a b : Nat} : ∀ (r k : Nat), W.1 126 1 - (k : Int) < (r : Int) → 0 < r → d_X12_areApart_r125d_5 r (a : Int) (b : Int) 0 (k : Int) W = tv (∃ i : Nat, k ≤ i ∧ (i : Int) < W.1 126 1 ∧ ((W.1 126 (18020 + 2 * i) = (a : Int) ∧ W.1 126 (18021 + 2 * i) = (b : Int)) ∨ (W.1 126 (18020 + 2 * i) = (b : Int) ∧ W.1 126 (18021 + 2 * i) = (a : Int)))) := by
  intro r
  induction r with
  | zero => intro k _ h; exact absurd h (Nat.not_lt_zero _)
  | succ r ih =>
    intro k h _
    rw [mp_s, show (18020 + 2 * (k : Int)).toNat = 18020 + 2 * k from by omega, show (18020 + 2 * (k : Int) + 1).toNat = 18021 + 2 * k from by omega]
    by_cases c : W.1 126 1 ≤ (k : Int)
    · rw [if_pos c]
      exact (tv_f fun ⟨i, i1, i2, _⟩ => by omega).symm
    · rw [if_neg c]
      by_cases g : (W.1 126 (18020 + 2 * k) = (a : Int) ∧ W.1 126 (18021 + 2 * k) = (b : Int)) ∨ (W.1 126 (18020 + 2 * k) = (b : Int) ∧ W.1 126 (18021 + 2 * k) = (a : Int))
      · rw [if_pos g, mp_1 r _ (by omega) (by omega)]
        exact (tv_t ⟨k, by omega, by omega, g⟩).symm
      · have z := ih (k + 1) (by omega) (by omega)
        rw [show ((k + 1 : Nat) : Int) = (k : Int) + 1 from by omega] at z
        rw [if_neg g, z]
        refine tv_c ⟨fun ⟨i, i1, i2, i3⟩ => ⟨i, by omega, i2, i3⟩, fun ⟨i, i1, i2, i3⟩ => ⟨i, ?_, i2, i3⟩⟩
        by_cases e : i = k
        · rw [e] at i3; exact absurd i3 g
        · omega
theorem map' {W : jW} {a b : Nat} (h : 0 ≤ W.1 126 1 ∧ W.1 126 1 ≤ 60) : d_X12_areApart_r125d (a : Int) (b : Int) W = tv (sAp (eOf W) a b) := by
  unfold d_X12_areApart_r125d
  refine (@map_e W a b 61 0 (by omega) (by omega)).trans (tv_c ⟨fun ⟨i, _, i2, i3⟩ => ⟨i, i2, i3⟩, fun ⟨i, i2, i3⟩ => ⟨i, by omega, i2, i3⟩⟩)
theorem xq_s {X : jW} {r : Nat} {a b k : Int} : d_X7_areApart_r78d_2 (r + 1) a b k X = if X.1 37 3 ≤ k then 0 else if (d_X8_at_r37_c0d k X = a ∧ d_X8_at_r37_c1d k X = b) ∨ (d_X8_at_r37_c0d k X = b ∧ d_X8_at_r37_c1d k X = a) then 1 else d_X7_areApart_r78d_2 r a b (k + 1) X := by
  show (if X.1 37 3 ≤ k then (0 : Int) else if d_X8_at_r37_c0d k X = a then _ else _) = _
  unfold d_X7_areApart_r78d_56
  repeat' split
  all_goals first
    | rfl
    | (exfalso; omega)
theorem xap_e {X : jW} {E : pE} (T : pT X 32 pt_2 E.1) {a b : Nat} : ∀ (r k : Nat), E.1 1 - (k : Int) < (r : Int) → 0 < r → d_X7_areApart_r78d_2 r (a : Int) (b : Int) (k : Int) X = tv (∃ i : Nat, k ≤ i ∧ (i : Int) < E.1 1 ∧ ((E.1 (18020 + 2 * i) = (a : Int) ∧ E.1 (18021 + 2 * i) = (b : Int)) ∨ (E.1 (18020 + 2 * i) = (b : Int) ∧ E.1 (18021 + 2 * i) = (a : Int)))) := by
  have e : X.1 37 3 = E.1 1 := T.1
  intro r
  induction r with
  | zero => intro k _ h; exact absurd h (Nat.not_lt_zero _)
  | succ r ih =>
    intro k h _
    rw [xq_s, e]
    by_cases c : E.1 1 ≤ (k : Int)
    · rw [if_pos c]
      exact (tv_f fun ⟨i, i1, i2, _⟩ => by omega).symm
    · rw [if_neg c, at_37_0 T (by omega) (by omega), at_37_1 T (by omega) (by omega), show (18020 + 2 * (k : Int) + 0).toNat = 18020 + 2 * k from by omega, show (18020 + 2 * (k : Int) + 1).toNat = 18021 + 2 * k from by omega]
      by_cases g : (E.1 (18020 + 2 * k) = (a : Int) ∧ E.1 (18021 + 2 * k) = (b : Int)) ∨ (E.1 (18020 + 2 * k) = (b : Int) ∧ E.1 (18021 + 2 * k) = (a : Int))
      · rw [if_pos g]
        exact (tv_t ⟨k, by omega, by omega, g⟩).symm
      · have z := ih (k + 1) (by omega) (by omega)
        rw [show ((k + 1 : Nat) : Int) = (k : Int) + 1 from by omega] at z
        rw [if_neg g, z]
        refine tv_c ⟨fun ⟨i, i1, i2, i3⟩ => ⟨i, by omega, i2, i3⟩, fun ⟨i, i1, i2, i3⟩ => ⟨i, ?_, i2, i3⟩⟩
        by_cases e : i = k
        · rw [e] at i3; exact absurd i3 g
        · omega
theorem xap {X : jW} {E : pE} (T : pT X 32 pt_2 E.1) {a b : Nat} : d_X7_areApart_r78d (a : Int) (b : Int) X = tv (sAp E a b) := by
  have h : 0 ≤ E.1 1 ∧ E.1 1 ≤ 60 := T.2.1
  unfold d_X7_areApart_r78d
  refine (@xap_e X E T a b 61 0 (by omega) (by omega)).trans (tv_c ⟨fun ⟨i, _, i2, i3⟩ => ⟨i, i2, i3⟩, fun ⟨i, i2, i3⟩ => ⟨i, by omega, i2, i3⟩⟩)
end jG16

section jG17
/-! pure: the REASON why two MENTIONS can't be one -/
def sDy (E : pE) (m : Nat) : Int := E.1 (22 + 90 * (m / 3))
def sNu (E : pE) (m : Nat) : Int := E.1 (24 + 90 * (m / 3))
def sOl (E : pE) (a b : Nat) : Prop := (sCo E a = 0 ∧ (sDy E b < sDy E a ∨ ((sCo E b = 1 ∨ sCo E b = 2 ∨ sCo E b = 3 ∨ sCo E b = 4) ∧ sDy E b < sDy E a + 5124) ∨ (sCo E b = 2 ∧ sDy E a + 18300 < sDy E b))) ∨ (sCo E a = 5 ∧ ((sCo E b = 1 ∧ sDy E a + 366 < sDy E b) ∨ (¬ sCo E b = 1 ∧ sDy E a < sDy E b)))
def sOa (E : pE) (a b : Nat) : Prop := sCo E a = 0 ∧ sCo E b = 5 ∧ ¬ sNu E b = -1 ∧ (E.2.2.2.2 < sDy E b / 366 - sDy E a / 366 - sNu E b ∨ E.2.2.2.2 < sNu E b - (sDy E b / 366 - sDy E a / 366))
abbrev sFv (E : pE) (a b : Nat) : Prop := (sCo E a = 0 ∧ sCo E b = 0) ∨ (sCo E a = 5 ∧ sCo E b = 5) ∨ ((sCo E a = 3 ∨ sCo E a = 1) ∧ (sCo E b = 4 ∨ sCo E b = 2)) ∨ ((sCo E a = 4 ∨ sCo E a = 2) ∧ (sCo E b = 3 ∨ sCo E b = 1))
noncomputable def sW2 (E : pE) (a b : Nat) : Int := if sFv E a b then 5 else if tv (sOl E a b) = 0 then (if tv (sOl E b a) = 0 then (if tv (sOa E a b) = 0 then (if tv (sOa E b a) = 0 then 0 else 7) else 7) else 6) else 6
noncomputable def sW1 (E : pE) (a b : Nat) : Int := if sCo E a = 4 ∨ sCo E a = 2 ∨ sCo E b = 4 ∨ sCo E b = 2 ∨ tv (sDf E a b 1) = 0 then sW2 E a b else 4
noncomputable def sWhy (E : pE) (a b : Nat) : Int := if a / 3 = b / 3 then 1 else if tv (sAp E a b) = 0 then (if tv (sDf E a b 0) = 0 then sW1 E a b else 3) else 2
theorem sWhy_s {E : pE} {a b : Nat} : sWhy E a b = sWhy E b a := by
  unfold sWhy sW1 sW2
  rw [tv_c (@sAp_s E a b), tv_c (@sDf_s E a b 0), tv_c (@sDf_s E a b 1)]
  by_cases c : a / 3 = b / 3
  · rw [if_pos c, if_pos c.symm]
  · rw [if_neg c, if_neg (c := b / 3 = a / 3) (fun z => c z.symm)]
    have q1 := @tv_b (sOl E a b)
    have q2 := @tv_b (sOl E b a)
    have q3 := @tv_b (sOa E a b)
    have q4 := @tv_b (sOa E b a)
    repeat' split
    all_goals first
      | rfl
      | (exfalso; omega)
/-- numbers stay small -/
def pIn (E : pE) : Prop := ∀ l : Nat, (l : Int) < E.1 0 → -256 ≤ E.1 (24 + 90 * l) ∧ E.1 (24 + 90 * l) ≤ 100351
theorem eo_f {l : List (Nat × Nat)} {M N : jW} (F : pF l M N) (c1 : (l.any fun q => Nat.beq q.1 126) = false) (c2 : (l.any fun q => Nat.beq q.1 132) = false) (c3 : (l.any fun q => Nat.beq q.1 133) = false) (c4 : (l.any fun q => Nat.beq q.1 134) = false) (c5 : pc l 125 27 = false) : eOf N = eOf M := by
  unfold eOf
  rw [pF_c F c1, pF_c F c2, pF_c F c3, pF_c F c4, F.1 125 27 c5]
/-! the reference's side -/
theorem mMan {p : Int} {W : jW} : d_X12_isMand p W = if p = 3 ∨ p = 1 then 1 else 0 := by
  unfold d_X12_isMand
  repeat' split
  all_goals first
    | rfl
    | (exfalso; omega)
theorem mWom {p : Int} {W : jW} : d_X12_isWomand p W = if p = 4 ∨ p = 2 then 1 else 0 := by
  unfold d_X12_isWomand
  repeat' split
  all_goals first
    | rfl
    | (exfalso; omega)
section
variable {M : jW} {a b : Nat}
theorem mdy : d_X12_dayAt_r125d (a : Int) M = sDy (eOf M) a := by
  unfold d_X12_dayAt_r125d sDy
  rw [show (20 + 90 * ((a : Int) / 3) + 2).toNat = 22 + 90 * (a / 3) from by omega]
  rfl
theorem mbk : M.1 126 (20 + 90 * ((a : Int) / 3)).toNat = M.1 126 (20 + 90 * (a / 3)) := by rw [show (20 + 90 * ((a : Int) / 3)).toNat = 20 + 90 * (a / 3) from by omega]
theorem mnu : M.1 126 (20 + 90 * ((a : Int) / 3) + 4).toNat = sNu (eOf M) a := by
  rw [show (20 + 90 * ((a : Int) / 3) + 4).toNat = 24 + 90 * (a / 3) from by omega]
  rfl
theorem mpa (I : pIr (eOf M)) (h : sMn (eOf M) a) : (sCo (eOf M) a ≤ 6 ∧ d_X12_partOf_r125d (a : Int) M = sCo (eOf M) a) ∨ (6 < sCo (eOf M) a ∧ d_X12_partOf_r125d (a : Int) M = 6) := by
  obtain ⟨h1, h2⟩ := h
  have b := (I (a / 3) h1).1
  change 0 ≤ M.1 126 (20 + 90 * (a / 3)) ∧ M.1 126 (20 + 90 * (a / 3)) ≤ 5 at b
  unfold sCo sRo at *
  change ¬ (if (if M.1 126 (20 + 90 * (a / 3)) = 0 then (3 : Int) else if M.1 126 (20 + 90 * (a / 3)) = 1 then 2 else 1) ≤ ((a % 3 : Nat) : Int) then (-1 : Int) else if M.1 126 (20 + 90 * (a / 3)) = 0 then ((a % 3 : Nat) : Int) else if M.1 126 (20 + 90 * (a / 3)) = 1 then 3 + ((a % 3 : Nat) : Int) else 3 + M.1 126 (20 + 90 * (a / 3))) = -1 at h2
  show ((if (if M.1 126 (20 + 90 * (a / 3)) = 0 then (3 : Int) else if M.1 126 (20 + 90 * (a / 3)) = 1 then 2 else 1) ≤ ((a % 3 : Nat) : Int) then (-1 : Int) else if M.1 126 (20 + 90 * (a / 3)) = 0 then ((a % 3 : Nat) : Int) else if M.1 126 (20 + 90 * (a / 3)) = 1 then 3 + ((a % 3 : Nat) : Int) else 3 + M.1 126 (20 + 90 * (a / 3))) ≤ 6 ∧ d_X12_partOf_r125d (a : Int) M = (if (if M.1 126 (20 + 90 * (a / 3)) = 0 then (3 : Int) else if M.1 126 (20 + 90 * (a / 3)) = 1 then 2 else 1) ≤ ((a % 3 : Nat) : Int) then (-1 : Int) else if M.1 126 (20 + 90 * (a / 3)) = 0 then ((a % 3 : Nat) : Int) else if M.1 126 (20 + 90 * (a / 3)) = 1 then 3 + ((a % 3 : Nat) : Int) else 3 + M.1 126 (20 + 90 * (a / 3)))) ∨ (6 < (if (if M.1 126 (20 + 90 * (a / 3)) = 0 then (3 : Int) else if M.1 126 (20 + 90 * (a / 3)) = 1 then 2 else 1) ≤ ((a % 3 : Nat) : Int) then (-1 : Int) else if M.1 126 (20 + 90 * (a / 3)) = 0 then ((a % 3 : Nat) : Int) else if M.1 126 (20 + 90 * (a / 3)) = 1 then 3 + ((a % 3 : Nat) : Int) else 3 + M.1 126 (20 + 90 * (a / 3))) ∧ d_X12_partOf_r125d (a : Int) M = 6)
  have e : d_X12_partOf_r125d (a : Int) M = if M.1 126 (20 + 90 * (a / 3)) = 0 then ((a % 3 : Nat) : Int) else if M.1 126 (20 + 90 * (a / 3)) = 1 then 3 + ((a % 3 : Nat) : Int) else if M.1 126 (20 + 90 * (a / 3)) = 2 then 5 else 6 := by
    unfold d_X12_partOf_r125d d_X12_partOf_r125d_42 d_X12_partOf_r125d_700042 d_X12_partOf_r125d_800042
    rw [mbk, show (a : Int) % 3 = ((a % 3 : Nat) : Int) from by omega]
  rw [e]
  generalize M.1 126 (20 + 90 * (a / 3)) = k at *
  have m3 : a % 3 < 3 := Nat.mod_lt _ (by decide)
  generalize a % 3 = s at *
  have z : k = 0 ∨ k = 1 ∨ k = 2 ∨ k = 3 ∨ k = 4 ∨ k = 5 := by omega
  have y : s = 0 ∨ s = 1 ∨ s = 2 := by omega
  clear e h1 I b m3
  rcases z with rfl | rfl | rfl | rfl | rfl | rfl <;> rcases y with rfl | rfl | rfl <;> first | (exact Or.inl ⟨by decide, by decide⟩) | (exact Or.inr ⟨by decide, by decide⟩) | (exact absurd h2 (by decide))
theorem mhg (I : pIr (eOf M)) (h : sMn (eOf M) a) : d_X12_hasAge_r125d (a : Int) M = if sCo (eOf M) a = 5 ∧ ¬ sNu (eOf M) a = -1 then 1 else 0 := by
  have p := mpa I h
  unfold d_X12_hasAge_r125d
  rw [mnu]
  repeat' split
  all_goals first
    | rfl
    | (exfalso; omega)
theorem mol (I : pIr (eOf M)) (ha : sMn (eOf M) a) (hb : sMn (eOf M) b) : d_X12_barsByDay_r125d (a : Int) (b : Int) M = tv (sOl (eOf M) a b) := by
  have pa := mpa I ha
  have pb := mpa I hb
  unfold d_X12_barsByDay_r125d d_X12_barsByDay_r125d_28 d_X12_barsByDay_r125d_200033 d_X12_barsByDay_r125d_300033 d_X12_barsByDay_r125d_70 d_X12_barsByDay_r125d_129 d_X12_barsByDay_r125d_200129
  rw [mdy, mdy, mMan, mWom]
  generalize d_X12_partOf_r125d (a : Int) M = x at *
  generalize d_X12_partOf_r125d (b : Int) M = y at *
  by_cases g : sOl (eOf M) a b
  · rw [tv_t g]
    unfold sOl at g
    generalize sCo (eOf M) a = u at *
    generalize sCo (eOf M) b = v at *
    generalize sDy (eOf M) a = p at *
    generalize sDy (eOf M) b = q at *
    clear ha hb I
    repeat' split
    all_goals first
      | rfl
      | (exfalso; omega)
  · rw [tv_f g]
    unfold sOl at g
    generalize sCo (eOf M) a = u at *
    generalize sCo (eOf M) b = v at *
    generalize sDy (eOf M) a = p at *
    generalize sDy (eOf M) b = q at *
    clear ha hb I
    repeat' split
    all_goals first
      | rfl
      | (exfalso; omega)
theorem moa (I : pIr (eOf M)) (N : pIn (eOf M)) (hs : 0 ≤ M.1 125 27 ∧ M.1 125 27 ≤ 20) (ha : sMn (eOf M) a) (hb : sMn (eOf M) b) : d_X12_barsByAge_r125d (a : Int) (b : Int) M = tv (sOa (eOf M) a b) := by
  have pa := mpa I ha
  have hg := mhg I hb
  have d1 := (I (a / 3) ha.1).2.2.1
  have d2 := (I (b / 3) hb.1).2.2.1
  have n2 := N (b / 3) hb.1
  change 0 ≤ sDy (eOf M) a ∧ sDy (eOf M) a ≤ 146399 at d1
  change 0 ≤ sDy (eOf M) b ∧ sDy (eOf M) b ≤ 146399 at d2
  change -256 ≤ sNu (eOf M) b ∧ sNu (eOf M) b ≤ 100351 at n2
  have e : j_lsub (j_lsub (j_ldiv (sDy (eOf M) b) 366) (sDy (eOf M) a / 366)) (sNu (eOf M) b) = sDy (eOf M) b / 366 - sDy (eOf M) a / 366 - sNu (eOf M) b := by
    rw [l_d (by omega) (by omega), l_s (x := sDy (eOf M) b / 366) (by omega) (by omega) (by omega), l_s (by omega) (by omega) (by omega)]
  unfold d_X12_barsByAge_r125d
  rw [mdy, mdy, mnu, e, l_n (by omega), hg]
  have s0 : (eOf M).2.2.2.2 = M.1 125 27 := rfl
  by_cases g : sOa (eOf M) a b
  · rw [tv_t g]
    obtain ⟨g1, g2, g3, g4⟩ := g
    rw [s0] at g4
    rw [if_pos (by omega), if_neg (show ¬ (if sCo (eOf M) b = 5 ∧ ¬ sNu (eOf M) b = -1 then (1 : Int) else 0) = 0 from by rw [if_pos ⟨g2, g3⟩]; decide)]
    by_cases c : M.1 125 27 < sDy (eOf M) b / 366 - sDy (eOf M) a / 366 - sNu (eOf M) b
    · rw [if_pos c]; rfl
    · rw [if_neg c, if_neg (by omega)]; rfl
  · rw [tv_f g]
    by_cases c0 : d_X12_partOf_r125d (a : Int) M = 0
    · rw [if_pos c0]
      by_cases c1 : sCo (eOf M) b = 5 ∧ ¬ sNu (eOf M) b = -1
      · rw [if_neg (show ¬ (if sCo (eOf M) b = 5 ∧ ¬ sNu (eOf M) b = -1 then (1 : Int) else 0) = 0 from by rw [if_pos c1]; decide)]
        have z : ¬ (M.1 125 27 < sDy (eOf M) b / 366 - sDy (eOf M) a / 366 - sNu (eOf M) b ∨ M.1 125 27 < sNu (eOf M) b - (sDy (eOf M) b / 366 - sDy (eOf M) a / 366)) := fun z => g ⟨by omega, c1.1, c1.2, by rw [s0]; exact z⟩
        rw [if_neg (by omega), if_pos (by omega)]
        rfl
      · rw [if_pos (show (if sCo (eOf M) b = 5 ∧ ¬ sNu (eOf M) b = -1 then (1 : Int) else 0) = 0 from if_neg c1)]
        rfl
    · rw [if_neg c0]
      rfl
theorem m110 (I : pIr (eOf M)) (N : pIn (eOf M)) (hs : 0 ≤ M.1 125 27 ∧ M.1 125 27 ≤ 20) (ha : sMn (eOf M) a) (hb : sMn (eOf M) b) : (d_X12_why_r125d_110 (a : Int) (b : Int) (d_X12_partOf_r125d (a : Int) M) (d_X12_partOf_r125d (b : Int) M) M).1 = sW2 (eOf M) a b := by
  have pa := mpa I ha
  have pb := mpa I hb
  have e : (d_X12_why_r125d_162 (a : Int) (b : Int) M).1 = if tv (sOl (eOf M) a b) = 0 then (if tv (sOl (eOf M) b a) = 0 then (if tv (sOa (eOf M) a b) = 0 then (if tv (sOa (eOf M) b a) = 0 then 0 else 7) else 7) else 6) else 6 := by
    unfold d_X12_why_r125d_162
    rw [mol I ha hb, mol I hb ha, moa I N hs ha hb, moa I N hs hb ha]
    repeat' split
    all_goals first
      | rfl
      | (exfalso; omega)
  unfold sW2
  rw [← e]
  unfold d_X12_why_r125d_110 d_X12_why_r125d_119 d_X12_why_r125d_130 d_X12_why_r125d_145
  rw [mMan, mMan, mWom, mWom]
  generalize d_X12_partOf_r125d (a : Int) M = x at *
  generalize d_X12_partOf_r125d (b : Int) M = y at *
  generalize d_X12_why_r125d_162 (a : Int) (b : Int) M = w at *
  clear ha hb I N hs e
  repeat' split
  all_goals first
    | rfl
    | (exfalso; omega)
end
theorem nn0 {a : Nat} : (20 + 90 * ((a : Int) / 3) + 6 + 28 * ((a : Int) % 3) + 0).toNat = sNm a 0 := by unfold sNm; omega
theorem nn1 {a : Nat} : (20 + 90 * ((a : Int) / 3) + 6 + 28 * ((a : Int) % 3) + 14).toNat = sNm a 1 := by unfold sNm; omega
/-- all that REASONS rest on -/
def pYm (M : jW) : Prop := pSr (eOf M) ∧ pIr (eOf M) ∧ pIn (eOf M) ∧ (0 ≤ M.1 125 27 ∧ M.1 125 27 ≤ 20) ∧ (0 ≤ M.1 126 1 ∧ M.1 126 1 ≤ 60)
theorem pYm_e {M N : jW} (e : eOf N = eOf M) (Y : pYm M) : pYm N := by
  have e5 : N.1 125 27 = M.1 125 27 := congrArg (fun z : pE => z.2.2.2.2) e
  have e6 : N.1 126 = M.1 126 := congrArg (fun z : pE => z.1) e
  unfold pYm
  rw [e, e5, e6]
  exact Y
theorem sMn_d {E : pE} {a : Nat} (h : sMn E a) : ((a / 3 : Nat) : Int) < E.1 0 := h.1
theorem m52 {M : jW} {a b : Nat} (Y : pYm M) (ha : sMn (eOf M) a) (hb : sMn (eOf M) b) : (d_X12_why_r125d_52 (a : Int) (b : Int) M).1 = sW1 (eOf M) a b := by
  obtain ⟨S, I, N, hs, h1⟩ := id Y
  have pa := mpa I ha
  have pb := mpa I hb
  have la := @ir_n (eOf M) I a 1 (by decide) ha.1
  have lb := @ir_n (eOf M) I b 1 (by decide) hb.1
  change 0 ≤ M.1 126 (sNm a 1) ∧ M.1 126 (sNm a 1) ≤ 12 at la
  change 0 ≤ M.1 126 (sNm b 1) ∧ M.1 126 (sNm b 1) ≤ 12 at lb
  have r := m110 I N hs ha hb
  have ea := eo_f (fr_d_X12_areAlike_r125d (a : Int) (b : Int) 1 M) rfl rfl rfl rfl rfl
  have al := @mal M a b 1 S I (by decide) ha.1 hb.1
  rw [show ((1 : Nat) : Int) = 1 from rfl] at al
  unfold d_X12_why_r125d_52 sW1
  rw [nn1, nn1, mWom, mWom]
  by_cases c1 : M.1 126 (sNm a 1) ≤ 0
  · have d : tv (sDf (eOf M) a b 1) = 0 := tv_f fun q => by have := q.1; unfold sIn at this; change 0 < M.1 126 (sNm a 1) at this; omega
    rw [if_pos c1, if_pos (by omega)]
    exact r
  · rw [if_neg c1]
    by_cases c2 : M.1 126 (sNm b 1) ≤ 0
    · have d : tv (sDf (eOf M) a b 1) = 0 := tv_f fun q => by have := q.2.1; unfold sIn at this; change 0 < M.1 126 (sNm b 1) at this; omega
      rw [if_pos c2, if_pos (by omega)]
      exact r
    · rw [if_neg c2]
      by_cases w : sCo (eOf M) a = 4 ∨ sCo (eOf M) a = 2
      · rw [if_neg (show ¬ (if d_X12_partOf_r125d (a : Int) M = 4 ∨ d_X12_partOf_r125d (a : Int) M = 2 then (1 : Int) else 0) = 0 from by rw [if_pos (by omega)]; decide), if_pos (by omega)]
        exact r
      · rw [if_pos (show (if d_X12_partOf_r125d (a : Int) M = 4 ∨ d_X12_partOf_r125d (a : Int) M = 2 then (1 : Int) else 0) = 0 from if_neg (by omega))]
        by_cases w2 : sCo (eOf M) b = 4 ∨ sCo (eOf M) b = 2
        · rw [if_neg (show ¬ (if d_X12_partOf_r125d (b : Int) M = 4 ∨ d_X12_partOf_r125d (b : Int) M = 2 then (1 : Int) else 0) = 0 from by rw [if_pos (by omega)]; decide), if_pos (by omega)]
          exact r
        · rw [if_pos (show (if d_X12_partOf_r125d (b : Int) M = 4 ∨ d_X12_partOf_r125d (b : Int) M = 2 then (1 : Int) else 0) = 0 from if_neg (by omega)), al]
          by_cases g : sAl (eOf M) a b 1
          · have d : tv (sDf (eOf M) a b 1) = 0 := tv_f fun q => q.2.2 g
            rw [if_neg (show ¬ tv (sAl (eOf M) a b 1) = 0 from by rw [tv_t g]; decide), if_pos (by omega)]
            have Y2 := pYm_e ea Y
            have r2 := @m110 (d_X12_areAlike_r125d (a : Int) (b : Int) 1 M).2 a b Y2.2.1 Y2.2.2.1 Y2.2.2.2.1 (by rw [ea]; exact ha) (by rw [ea]; exact hb)
            rw [ea] at r2
            have pe : ∀ c : Nat, d_X12_partOf_r125d (c : Int) (d_X12_areAlike_r125d (a : Int) (b : Int) 1 M).2 = d_X12_partOf_r125d (c : Int) M := fun c => by
              have e6 : (d_X12_areAlike_r125d (a : Int) (b : Int) 1 M).2.1 126 = M.1 126 := congrArg (fun z : pE => z.1) ea
              unfold d_X12_partOf_r125d
              rw [e6]
              rfl
            rw [pe, pe] at r2
            exact r2
          · have d : tv (sDf (eOf M) a b 1) = 1 := tv_t ⟨by unfold sIn; show 0 < M.1 126 (sNm a 1); omega, by unfold sIn; show 0 < M.1 126 (sNm b 1); omega, g⟩
            rw [if_pos (tv_f g), if_neg (by omega)]
theorem mwy {M : jW} {a b : Nat} (Y : pYm M) (ha : sMn (eOf M) a) (hb : sMn (eOf M) b) : (d_X12_why_r125d (a : Int) (b : Int) M).1 = sWhy (eOf M) a b := by
  obtain ⟨S, I, N, hs, h1⟩ := id Y
  have r := m52 Y ha hb
  have ea := eo_f (fr_d_X12_areAlike_r125d (a : Int) (b : Int) 0 M) rfl rfl rfl rfl rfl
  have al := @mal M a b 0 S I (by decide) ha.1 hb.1
  rw [show ((0 : Nat) : Int) = 0 from rfl] at al
  have la := @ir_n (eOf M) I a 0 (by decide) ha.1
  have lb := @ir_n (eOf M) I b 0 (by decide) hb.1
  change 0 ≤ M.1 126 (sNm a 0) ∧ M.1 126 (sNm a 0) ≤ 12 at la
  change 0 ≤ M.1 126 (sNm b 0) ∧ M.1 126 (sNm b 0) ≤ 12 at lb
  unfold d_X12_why_r125d sWhy
  rw [map' h1, nn0, nn0]
  by_cases c0 : a / 3 = b / 3
  · rw [if_pos (by omega), if_pos c0]
  · rw [if_neg (by omega), if_neg c0]
    by_cases c1 : tv (sAp (eOf M) a b) = 0
    · rw [if_pos c1, if_pos c1]
      by_cases c2 : M.1 126 (sNm a 0) ≤ 0
      · have d : tv (sDf (eOf M) a b 0) = 0 := tv_f fun q => by have := q.1; unfold sIn at this; change 0 < M.1 126 (sNm a 0) at this; omega
        rw [if_pos c2, if_pos d]
        exact r
      · rw [if_neg c2]
        by_cases c3 : M.1 126 (sNm b 0) ≤ 0
        · have d : tv (sDf (eOf M) a b 0) = 0 := tv_f fun q => by have := q.2.1; unfold sIn at this; change 0 < M.1 126 (sNm b 0) at this; omega
          rw [if_pos c3, if_pos d]
          exact r
        · rw [if_neg c3, al]
          by_cases g : sAl (eOf M) a b 0
          · have d : tv (sDf (eOf M) a b 0) = 0 := tv_f fun q => q.2.2 g
            rw [if_neg (show ¬ tv (sAl (eOf M) a b 0) = 0 from by rw [tv_t g]; decide), if_pos d]
            have r2 := @m52 (d_X12_areAlike_r125d (a : Int) (b : Int) 0 M).2 a b (pYm_e ea Y) (by rw [ea]; exact ha) (by rw [ea]; exact hb)
            rw [ea] at r2
            exact r2
          · have d : tv (sDf (eOf M) a b 0) = 1 := tv_t ⟨by unfold sIn; show 0 < M.1 126 (sNm a 0); omega, by unfold sIn; show 0 < M.1 126 (sNm b 0); omega, g⟩
            rw [if_pos (tv_f g), if_neg (by omega)]
    · rw [if_neg c1, if_neg c1]
/-! the class's side -/
def pYx (X : jW) (E : pE) : Prop := pSr E ∧ pIr E ∧ pIn E ∧ (0 ≤ E.2.2.2.2 ∧ E.2.2.2.2 ≤ 20) ∧ X.1 78 6 = E.2.2.2.2 ∧ pT X 32 pt_2 E.1 ∧ (∀ q : Nat, ((q / 6 : Nat) : Int) < E.1 0 → pFc X E q) ∧ ∀ m : Nat, ((m / 3 : Nat) : Int) < E.1 0 → pSl X E m
section
variable {X : jW} {E : pE} {a b : Nat}
theorem xol (pa : pSl X E a) (pb : pSl X E b) : d_X7_isOutOfLife_r78d (a : Int) (b : Int) X = tv (sOl E a b) := by
  obtain ⟨a1, a2, a3⟩ := pa
  obtain ⟨b1, b2, b3⟩ := pb
  change X.1 80 a = sDy E a at a2
  change X.1 80 b = sDy E b at b2
  unfold d_X7_isOutOfLife_r78d d_X7_isOutOfLife_r78d_39 d_X7_isOutOfLife_r78d_46 d_X7_isOutOfLife_r78d_200046 d_X7_isOutOfLife_r78d_105 d_X7_isOutOfLife_r78d_200105
  rw [show ((a : Int)).toNat = a from by omega, show ((b : Int)).toNat = b from by omega, a1, b1, a2, b2]
  by_cases g : sOl E a b
  · rw [tv_t g]
    unfold sOl at g
    generalize sCo E a = u at *
    generalize sCo E b = v at *
    generalize sDy E a = p at *
    generalize sDy E b = q at *
    repeat' split
    all_goals first
      | rfl
      | (exfalso; omega)
  · rw [tv_f g]
    unfold sOl at g
    generalize sCo E a = u at *
    generalize sCo E b = v at *
    generalize sDy E a = p at *
    generalize sDy E b = q at *
    repeat' split
    all_goals first
      | rfl
      | (exfalso; omega)
theorem xoa (N : pIn E) (I : pIr E) (hs : 0 ≤ E.2.2.2.2 ∧ E.2.2.2.2 ≤ 20) (ha : ((a / 3 : Nat) : Int) < E.1 0) (hb : ((b / 3 : Nat) : Int) < E.1 0) (u : sCo E a = 0) (v : sCo E b = 5) : tv (sOa E a b) = if sNu E b = -1 then 0 else if j_iabs (j_isub (sDy E b / 366 - sDy E a / 366) (sNu E b)) ≤ E.2.2.2.2 then 0 else 1 := by
  have d1 := (I (a / 3) ha).2.2.1
  have d2 := (I (b / 3) hb).2.2.1
  have n2 := N (b / 3) hb
  change 0 ≤ sDy E a ∧ sDy E a ≤ 146399 at d1
  change 0 ≤ sDy E b ∧ sDy E b ≤ 146399 at d2
  change -256 ≤ sNu E b ∧ sNu E b ≤ 100351 at n2
  rw [j_is (by omega) (by omega) (by omega), j_ib (by omega)]
  by_cases g : sOa E a b
  · rw [tv_t g]
    obtain ⟨g1, g2, g3, g4⟩ := g
    rw [if_neg g3]
    by_cases c : 0 ≤ sDy E b / 366 - sDy E a / 366 - sNu E b
    · rw [if_pos c, if_neg (by omega)]
    · rw [if_neg c, if_neg (by omega)]
  · rw [tv_f g]
    by_cases g3 : sNu E b = -1
    · rw [if_pos g3]
    · rw [if_neg g3]
      have z : ¬ (E.2.2.2.2 < sDy E b / 366 - sDy E a / 366 - sNu E b ∨ E.2.2.2.2 < sNu E b - (sDy E b / 366 - sDy E a / 366)) := fun z => g ⟨u, v, g3, z⟩
      by_cases c : 0 ≤ sDy E b / 366 - sDy E a / 366 - sNu E b
      · rw [if_pos c, if_pos (by omega)]
      · rw [if_neg c, if_pos (by omega)]
theorem xon (h : ¬ (sCo E a = 0 ∧ sCo E b = 5)) : tv (sOa E a b) = 0 := tv_f fun g => h ⟨g.1, g.2.1⟩
theorem x122 (Y : pYx X E) (ha : sMn E a) (hb : sMn E b) : d_X7_reasonFor_r78d_122 (a : Int) (b : Int) X = if tv (sOl E a b) = 0 then (if tv (sOl E b a) = 0 then (if tv (sOa E a b) = 0 then (if tv (sOa E b a) = 0 then 0 else 7) else 7) else 6) else 6 := by
  obtain ⟨S, I, N, hs, h6, T, F, L⟩ := Y
  have pa := L a ha.1
  have pb := L b hb.1
  unfold d_X7_reasonFor_r78d_122
  rw [xol pa pb, xol pb pa]
  obtain ⟨a1, a2, a3⟩ := pa
  obtain ⟨b1, b2, b3⟩ := pb
  change X.1 80 a = sDy E a at a2
  change X.1 80 b = sDy E b at b2
  change X.1 81 a = sNu E a at a3
  change X.1 81 b = sNu E b at b3
  rw [show ((a : Int)).toNat = a from by omega, show ((b : Int)).toNat = b from by omega, a1, b1, a2, b2, a3, b3, h6]
  by_cases c1 : tv (sOl E a b) = 0
  · rw [if_pos c1, if_pos c1]
    by_cases c2 : tv (sOl E b a) = 0
    · rw [if_pos c2, if_pos c2]
      by_cases u0 : sCo E a = 0
      · rw [if_pos u0, @xon E b a (by omega), if_pos (c := (0 : Int) = 0) rfl]
        by_cases v5 : sCo E b = 5
        · rw [if_pos v5, xoa N I hs ha.1 hb.1 u0 v5]
          repeat' split
          all_goals first
            | rfl
            | (exfalso; omega)
        · rw [if_neg v5, @xon E a b (by omega), if_pos (c := (0 : Int) = 0) rfl]
          repeat' split
          all_goals rfl
      · rw [if_neg u0, @xon E a b (by omega), if_pos (c := (0 : Int) = 0) rfl]
        by_cases v0 : sCo E b = 0
        · rw [if_pos v0]
          by_cases u5 : sCo E a = 5
          · rw [if_pos u5, xoa N I hs hb.1 ha.1 v0 u5]
            repeat' split
            all_goals first
              | rfl
              | (exfalso; omega)
          · rw [if_neg u5, @xon E b a (by omega), if_pos (c := (0 : Int) = 0) rfl]
            rfl
        · rw [if_neg v0, @xon E b a (by omega), if_pos (c := (0 : Int) = 0) rfl]
          rfl
    · rw [if_neg c2, if_neg c2]; rfl
  · rw [if_neg c1, if_neg c1]; rfl
theorem x68 (Y : pYx X E) (ha : sMn E a) (hb : sMn E b) : d_X7_reasonFor_r78d_68 (a : Int) (b : Int) X = sW2 E a b := by
  have e := x122 Y ha hb
  obtain ⟨S, I, N, hs, h6, T, F, L⟩ := Y
  have a1 := (L a ha.1).1
  have b1 := (L b hb.1).1
  unfold sW2
  rw [← e]
  unfold d_X7_reasonFor_r78d_68 d_X7_reasonFor_r78d_104
  rw [show ((a : Int)).toNat = a from by omega, show ((b : Int)).toNat = b from by omega, a1, b1]
  generalize d_X7_reasonFor_r78d_122 (a : Int) (b : Int) X = w at *
  clear a1 b1 ha hb L F e
  repeat' split
  all_goals first
    | rfl
    | (exfalso; omega)
theorem xwy (Y : pYx X E) (ha : sMn E a) (hb : sMn E b) : d_X7_reasonFor_r78d (a : Int) (b : Int) X = sWhy E a b := by
  have e := x68 Y ha hb
  obtain ⟨S, I, N, hs, h6, T, F, L⟩ := Y
  have a1 := (L a ha.1).1
  have b1 := (L b hb.1).1
  have d0 := @xdf X E a b 0 S I (by decide) ha.1 hb.1 (F _ (by have := ha.1; omega)) (F _ (by have := hb.1; omega))
  have d1 := @xdf X E a b 1 S I (by decide) ha.1 hb.1 (F _ (by have := ha.1; omega)) (F _ (by have := hb.1; omega))
  rw [show ((0 : Nat) : Int) = 0 from rfl] at d0
  rw [show ((1 : Nat) : Int) = 1 from rfl] at d1
  unfold sWhy sW1
  rw [← e]
  unfold d_X7_reasonFor_r78d
  rw [xap T, d0, d1, show ((a : Int)).toNat = a from by omega, show ((b : Int)).toNat = b from by omega, a1, b1]
  repeat' split
  all_goals first
    | rfl
    | (exfalso; omega)
end
end jG17
