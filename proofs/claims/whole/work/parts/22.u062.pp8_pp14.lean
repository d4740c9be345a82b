section jG59
/-! pure: a TEST read by both: AND, OR -/
theorem bt_a {N : jW} (h : N.1 125 11 = 1) : (N.2.1 125 12 = 1476 → d_X12_behindTest_r125d N = (0, d_X12_next_r125d (mEt (mPu (d_X12_settle_r125d 2 N) 19 ((d_X12_settle_r125d 2 N).1 125 49)) 19 0))) ∧ (N.2.1 125 12 = 498 → d_X12_behindTest_r125d N = (0, d_X12_next_r125d (mEt (mPu (d_X12_settle_r125d 1 N) 20 ((d_X12_settle_r125d 1 N).1 125 49)) 20 0))) := by
  constructor
  · intro e
    unfold d_X12_behindTest_r125d d_X12_behindTest_r125d_22
    rw [if_pos h, if_pos e, if_neg (show ¬ (1 : Int) = 0 from by decide)]
    unfold d_X12_behindTest_r125d_400032 d_X12_behindTest_r125d_47
    rw [if_neg (show ¬ (1 : Int) = 0 from by decide)]
    rfl
  · intro e
    unfold d_X12_behindTest_r125d d_X12_behindTest_r125d_22
    rw [if_pos h, if_neg (show ¬ N.2.1 125 12 = 1476 from by omega), if_pos e, if_pos (show (0 : Int) = 0 from rfl)]
    unfold d_X12_behindTest_r125d_300032 d_X12_behindTest_r125d_47
    rw [if_pos (show (0 : Int) = 0 from rfl)]
    rfl
/-- a sign that leaps, and what stands ahead of it -/
def pPk (s : Int) (cd : Nat → Int) (c : yC) (o a a2 m k k2 : Int) : Prop := (o = -1 ∧ a = a2 ∧ k = k2 ∧ m = 0) ∨ ∃ b l : Int, a2 = b + 2 ∧ k2 = l + 1 ∧ o = b + 1 ∧ yPc cd c a b m k l True ∧ cd b.toNat = (if s = 20 then 11 else 12) ∧ c.2.1 l.toNat = s
def yJ (s o k : Int) (l : yL) : yL := if o = -1 then l else (s, k - 1) :: l
def yLd (o k : Int) (c : yC) : yC := if o = -1 then c else yP (k - 1) c
theorem pk_l {s : Int} {cd : Nat → Int} {c : yC} {o a a2 m k k2 : Int} (h : pPk s cd c o a a2 m k k2) (h0 : 0 ≤ a ∧ 0 ≤ k) : a ≤ a2 ∧ 0 ≤ m ∧ k ≤ k2 ∧ (o = -1 ∨ 0 ≤ o ∧ o = a2 - 1 ∧ a < a2 ∧ k < k2) := by
  rcases h with ⟨h1, h2, h3, h4⟩ | ⟨b, l, h1, h2, h3, h4, h5, h6⟩
  · omega
  · have := pPc_l h4
    omega
theorem pk_c {s : Int} {cd ce : Nat → Int} {c e : yC} {o a a2 m k k2 n : Int} (h : pPk s cd c o a a2 m k k2) (x : ∀ i : Nat, (i : Int) < a2 → ce i = cd i) (g : yUp n c e) (hn : k2 ≤ n) : pPk s ce e o a a2 m k k2 := by
  rcases h with h | ⟨b, l, h1, h2, h3, h4, h5, h6⟩
  · exact Or.inl h
  · have q := pPc_l h4
    exact Or.inr ⟨b, l, h1, h2, h3, yPc_c h4 (fun i hi => x i (by omega)) g (by omega), (x b.toNat (by omega)).trans h5, (g l.toNat (by omega)).1.trans h6⟩
theorem pk_j {s : Int} (hs : s = 19 ∨ s = 20) {X : jW} {c : yC} {o a a2 m n k k2 : Int} (P : pPk s (X.1 97) c o a a2 m k k2) (R : yPc (X.1 97) c a2 (X.1 95 4) n k2 c.1 True) (h0 : 0 ≤ a ∧ 0 ≤ k) : yPc ((d_X2_land_r95d o X).1 97) (yLd o k2 c) a (X.1 95 4) (m + n) k c.1 True ∧ (∀ i : Nat, (i : Int) < a → (d_X2_land_r95d o X).1 97 i = X.1 97 i) ∧ yUp k c (yLd o k2 c) ∧ (d_X2_land_r95d o X).1 95 = X.1 95 ∧ (yLd o k2 c).1 = c.1 ∧ ∀ (M : jW) (l : yL) (e : yC), pA X M l e → pA (d_X2_land_r95d o X) M l e := by
  have F := fr_d_X2_land_r95d o X
  have f95 : (d_X2_land_r95d o X).1 95 = X.1 95 := pF_c F rfl
  have f68 : (d_X2_land_r95d o X).1 68 = X.1 68 := pF_c F rfl
  have f69 : (d_X2_land_r95d o X).1 69 = X.1 69 := pF_c F rfl
  have tr : ∀ (M : jW) (l : yL) (e : yC), pA X M l e → pA (d_X2_land_r95d o X) M l e := by
    intro M l e ⟨h1, h2, h3, h4, h5, h6, h7, h8⟩
    exact ⟨pTk_x h1 f68 f69, h2, h3, by rw [f95]; exact h4, h5, h6, pWs_c h7 (pXr_f F rfl), by rw [f95]; exact h8⟩
  have q := pPc_l R
  rcases P with ⟨h1, h2, h3, h4⟩ | ⟨b, l, h1, h2, h3, h4, h5, h6⟩
  · have x : d_X2_land_r95d o X = X := if_pos (by omega)
    have y : yLd o k2 c = c := if_pos h1
    rw [x, y, h2, h3, h4, Int.zero_add]
    exact ⟨R, fun _ _ => rfl, yUp_r, rfl, rfl, fun _ _ _ z => z⟩
  · have q4 := pPc_l h4
    have x : d_X2_land_r95d o X = vu X 97 (b + 1).toNat (X.1 95 4) := by
      unfold d_X2_land_r95d
      rw [if_neg (by omega), if_neg (by omega), h3]
      rfl
    have y : yLd o k2 c = yP l c := (if_neg (by omega)).trans (by rw [h2, show l + 1 - 1 = l from by omega])
    have nb : ∀ i : Nat, i ≠ (b + 1).toNat → (d_X2_land_r95d o X).1 97 i = X.1 97 i := fun i hi => by rw [x]; exact vu_n (by omega)
    have eb : (d_X2_land_r95d o X).1 97 (b + 1).toNat = X.1 95 4 := by rw [x]; exact vu_e rfl
    have up : yUp k c (yP l c) := fun i hi => ⟨rfl, sU_n (by omega)⟩
    have P1 : yPc ((d_X2_land_r95d o X).1 97) (yP l c) a b m k l True := pPc_c h4 (fun i i1 i2 => nb i (by omega)) (fun i i1 i2 => ⟨rfl, sU_n (by omega)⟩)
    have R1 : yPc ((d_X2_land_r95d o X).1 97) (yP l c) (b + 2) (X.1 95 4) n (l + 1) c.1 True := by
      rw [← h1, ← h2]
      exact pPc_c R (fun i i1 i2 => nb i (by omega)) (fun i i1 i2 => ⟨rfl, sU_n (by omega)⟩)
    rw [y]
    refine ⟨?_, fun i hi => nb i (by omega), up, f95, rfl, tr⟩
    exact pP_j (s := if s = 20 then 1 else 0) (g := s) (by
      rcases hs with e | e
      · right; exact ⟨e, if_neg (by omega)⟩
      · left; exact ⟨e, if_pos e⟩) P1 R1 ((nb b.toNat (by omega)).trans h5) eb h6 (sU_e rfl)
theorem lp_e {X : jW} {o : Int} (h : 0 ≤ X.1 95 4 ∧ X.1 95 4 + 1 < 1200) : (d_X2_leap_r95d o X).1 = X.1 95 4 + 1 ∧ (d_X2_leap_r95d o X).2.1 95 4 = X.1 95 4 + 2 ∧ (d_X2_leap_r95d o X).2.1 95 5 = X.1 95 5 ∧ (∀ i : Nat, (i : Int) < X.1 95 4 → (d_X2_leap_r95d o X).2.1 97 i = X.1 97 i) ∧ (d_X2_leap_r95d o X).2.1 97 (X.1 95 4).toNat = o ∧ ∀ (M : jW) (l : yL) (e : yC), pA X M l e → pA (d_X2_leap_r95d o X).2 M l e := by
  obtain ⟨a1, a2, a3, a4, a5, a6, a7⟩ := em_e (o := o) (X := X) (by omega)
  obtain ⟨b1, b2, b3, b4, b5, b6, b7⟩ := em_e (o := 0) (X := d_X2_emit_r95d o X) (by omega)
  refine ⟨?_, ?_, b4.trans a4, fun i hi => (b2 i (by omega)).trans (a2 i hi), (b2 _ (by omega)).trans a3, fun M l e h => pA_em (pA_em h (by omega)) (by omega)⟩
  · show (d_X2_emit_r95d 0 (d_X2_emit_r95d o X)).1 95 4 - 1 = _
    omega
  · show (d_X2_emit_r95d 0 (d_X2_emit_r95d o X)).1 95 4 = _
    omega
def g77 (K4 : Int → Int → jW → Int × jW) (l2 l3 : Int) (W : jW) : Int × jW := if d_X9_wordOf_r68_r17d (d_X2_land_r95d l2 W) = 0 then K4 (d_X2_leap_r95d 11 (d_X2_land_r95d l2 W)).1 (l3 + 1) (d_X9_step_r68d (d_X2_leap_r95d 11 (d_X2_land_r95d l2 W)).2) else (1, d_X2_land_r95d l2 W)
def gT17 (P : jW → Int × jW) (K4 : Int → Int → jW → Int × jW) : Nat → Int → Int → Int → Int → jW → Int × jW
  | 0, _, _, _, _, W => (0, W)
  | r + 1, l2, l3, l4, l5, W => if 400 ≤ l5 then g77 K4 l2 l3 W else if (P W).1 = 0 then (0, (P W).2) else if d_X9_wordOf_r68_r16d (d_X2_land_r95d l4 (P W).2) = 0 then gT17 P K4 r l2 l3 (d_X2_leap_r95d 12 (d_X2_land_r95d l4 (P W).2)).1 (l5 + 1) (d_X9_step_r68d (d_X2_leap_r95d 12 (d_X2_land_r95d l4 (P W).2)).2) else g77 K4 l2 l3 (d_X2_land_r95d l4 (P W).2)
def gT4 (P : jW → Int × jW) : Nat → Int → Int → jW → Int × jW
  | 0, _, _, W => (0, W)
  | r + 1, l2, l3, W => if 400 ≤ l3 then (0, vu W 68 2 (W.1 68 3)) else gT17 P (fun l2 l3 W => gT4 P r l2 l3 W) 401 l2 l3 (-1) 0 W
def gTs (P : jW → Int × jW) (W : jW) : Int × jW := gT4 P 401 (-1) 0 W
theorem yj_l {s o k : Int} {l : yL} : ((yJ s o k l).length : Int) = l.length + o01 o := by
  unfold yJ o01
  by_cases c : o = -1
  · rw [if_pos c, if_pos c]; omega
  · rw [if_neg c, if_neg c]
    show ((l.length + 1 : Nat) : Int) = _
    omega
theorem yj_s {l : yL} (h : yS0 l) {l2 l4 k1 k2 : Int} : yS2 (yJ 19 l4 k2 (yJ 20 l2 k1 l)) ∧ (∀ c, yse 2 (yJ 19 l4 k2 (yJ 20 l2 k1 l)) c = (yJ 20 l2 k1 l, yLd l4 k2 c)) ∧ (∀ c, yse 1 (yJ 19 l4 k2 (yJ 20 l2 k1 l)) c = (l, yLd l2 k1 (yLd l4 k2 c))) ∧ yIn (yJ 19 l4 k2 (yJ 20 l2 k1 l)) = yIn l ∧ (yCo l = 0 → yCo (yJ 19 l4 k2 (yJ 20 l2 k1 l)) = 0) := by
  have A : ∀ (k : Int) (c : yC), 2 ≤ k → yse k (yJ 20 l2 k1 l) c = (yJ 20 l2 k1 l, c) := by
    intro k c hk
    by_cases q : l2 = -1
    · have e : yJ 20 l2 k1 l = l := if_pos q
      rw [e]; exact h k c (by omega)
    · have e : yJ 20 l2 k1 l = (20, k1 - 1) :: l := if_neg q
      rw [e]; exact if_neg (by show ¬ k ≤ 1; omega)
  have A1 : ∀ c : yC, yse 1 (yJ 20 l2 k1 l) c = (l, yLd l2 k1 c) := by
    intro c
    by_cases q : l2 = -1
    · have e : yJ 20 l2 k1 l = l := if_pos q
      have e2 : yLd l2 k1 c = c := if_pos q
      rw [e, e2]; exact h 1 c (by decide)
    · have e : yJ 20 l2 k1 l = (20, k1 - 1) :: l := if_neg q
      have e2 : yLd l2 k1 c = yP (k1 - 1) c := if_neg q
      rw [e, e2]; exact (if_pos (show (1 : Int) ≤ pbd 20 from by decide)).trans ((if_pos (show (20 : Int) = 19 ∨ (20 : Int) = 20 from by decide)).trans (h 1 _ (by decide)))
  have A2 : yIn (yJ 20 l2 k1 l) = yIn l ∧ (yCo l = 0 → yCo (yJ 20 l2 k1 l) = 0) := by
    by_cases q : l2 = -1
    · have e : yJ 20 l2 k1 l = l := if_pos q
      rw [e]; exact ⟨rfl, fun z => z⟩
    · have e : yJ 20 l2 k1 l = (20, k1 - 1) :: l := if_neg q
      rw [e]; exact ⟨if_neg (show ¬ (30 : Int) ≤ 20 from by decide), fun _ => (if_neg (show ¬ ((6 : Int) ≤ 20 ∧ (20 : Int) ≤ 9) from by decide)).trans (if_neg (show ¬ ((10 : Int) ≤ 20 ∧ (20 : Int) ≤ 12) from by decide))⟩
  generalize yJ 20 l2 k1 l = L at *
  by_cases q : l4 = -1
  · have e : yJ 19 l4 k2 L = L := if_pos q
    have e2 : ∀ c, yLd l4 k2 c = c := fun c => if_pos q
    rw [e]
    exact ⟨fun k c hk => A k c (by omega), fun c => by rw [e2]; exact A 2 c (by decide), fun c => by rw [e2]; exact A1 c, A2.1, A2.2⟩
  · have e : yJ 19 l4 k2 L = (19, k2 - 1) :: L := if_neg q
    have e2 : ∀ c, yLd l4 k2 c = yP (k2 - 1) c := fun c => if_neg q
    rw [e]
    exact ⟨fun k c hk => if_neg (by show ¬ k ≤ 2; omega), fun c => by rw [e2]; exact (if_pos (show (2 : Int) ≤ pbd 19 from by decide)).trans ((if_pos (show (19 : Int) = 19 ∨ (19 : Int) = 20 from by decide)).trans (A 2 _ (by decide))), fun c => by rw [e2]; exact (if_pos (show (1 : Int) ≤ pbd 19 from by decide)).trans ((if_pos (show (19 : Int) = 19 ∨ (19 : Int) = 20 from by decide)).trans (A1 _)), (if_neg (show ¬ (30 : Int) ≤ 19 from by decide)).trans A2.1, fun _ => (if_neg (show ¬ ((6 : Int) ≤ 19 ∧ (19 : Int) ≤ 9) from by decide)).trans (if_neg (show ¬ ((10 : Int) ≤ 19 ∧ (19 : Int) ≤ 12) from by decide))⟩
/-- AND or OR is read: s its sign, v the class's -/
theorem ao_e {X N : jW} {k L : yL} {e g : yC} {j s v : Int} (hA : pA X N k e) (hj : 1 ≤ j ∧ j ≤ 6) (ht : N.1 125 11 = 1) (hw : N.2.1 125 12 = 1476 ∨ N.2.1 125 12 = 498) (hy : yse j k e = (L, g)) (hg : 0 ≤ g.1) (hx : X.1 95 4 + 1 < 1200) : pA (d_X9_step_r68d (d_X2_leap_r95d v X).2) (d_X12_next_r125d (mEt (mPu (d_X12_settle_r125d j N) s ((d_X12_settle_r125d j N).1 125 49)) s 0)) ((s, g.1) :: L) (yE s 0 g) ∧ N.1 125 9 + 2 ≤ (d_X12_next_r125d (mEt (mPu (d_X12_settle_r125d j N) s ((d_X12_settle_r125d j N).1 125 49)) s 0)).1 125 9 ∧ (d_X12_next_r125d (mEt (mPu (d_X12_settle_r125d j N) s ((d_X12_settle_r125d j N).1 125 49)) s 0)).1 125 56 = N.1 125 56 ∧ (d_X9_step_r68d (d_X2_leap_r95d v X).2).1 97 = (d_X2_leap_r95d v X).2.1 97 ∧ (d_X9_step_r68d (d_X2_leap_r95d v X).2).1 95 = (d_X2_leap_r95d v X).2.1 95 := by
  obtain ⟨l1, l2, l3, l4, l5, l6⟩ := lp_e (o := v) (X := X) ⟨hA.2.2.2.2.2.2.2, hx⟩
  have p9 := pA_9 hA
  have w2 := wd_2 hA.1 ht (by omega)
  have se := se_y hj p9.2.2.1 hA.2.1
  have yl := yse_l (k := j) k e
  rw [hy] at se yl
  have yl2 : g.1 + (L.length : Int) ≤ e.1 + k.length := yl.2
  have se2 : pY (d_X12_settle_r125d j N) L g := se
  have kb := hA.2.2.2.2.2.1
  have z : ((s, g.1) :: L).length = L.length + 1 := rfl
  have e49 : (d_X12_settle_r125d j N).1 125 49 = g.1 := se2.2.2.1
  rw [e49]
  obtain ⟨a1, a2, a3, a4, a5⟩ := pA_mn (l6 N k e hA) (pMt_t pMt_se (pMt_t pMt_pu pMt_et)) (pMo_t pMo_se (pMo_t pMo_pu pMo_et)) (et_y (o := s) (a := 0) (pu_y (o := s) (a := g.1) se2)) ⟨by show 0 ≤ g.1 + 1; omega, by rw [z]; show g.1 + 1 + ((L.length + 1 : Nat) : Int) ≤ _; omega⟩
  exact ⟨a1, by omega, a5, a3, a4⟩
theorem ts_17 {P : jW → Int × jW} {d : Int} (hP : pPl P d) {l : yL} (hl : yS0 l) (hi : yIn l ≠ 31) (hc : yCo l = 0) {cd : Nat → Int} {a lf f B : Int} {c0 : yC} (h0 : 0 ≤ a ∧ 0 ≤ c0.1) (hB : 812 ≤ B) : ∀ (n : Nat) (X M : jW) (l2 l3 l4 l5 : Int) (r4 r17 r : Nat) (c : yC) (b1 k1 m1 m2 : Int), 401 - M.1 125 9 ≤ n → pA X M (yJ 19 l4 c.1 (yJ 20 l2 k1 l)) c → M.1 125 56 = d → X.1 95 4 + (yJ 19 l4 c.1 (yJ 20 l2 k1 l)).length ≤ 2 * M.1 125 9 → B ≤ (r : Int) + 2 * M.1 125 9 → pPk 20 (X.1 97) c l2 a b1 m1 c0.1 k1 → pPk 19 (X.1 97) c l4 b1 (X.1 95 4) m2 k1 c.1 → (0 ≤ l3 ∧ 2 * l3 ≤ M.1 125 9 ∧ (r4 : Int) + l3 = 400) → (0 ≤ l5 ∧ 2 * l5 ≤ M.1 125 9 ∧ (r17 : Int) + l5 = 401) → lf + m1 + m2 = X.1 95 5 → (∀ i : Nat, (i : Int) < a → X.1 97 i = cd i) → yUp c0.1 c0 c → f ≤ M.1 125 9 → pTo d 1 l cd a lf c0 f B (gT17 P (fun l2 l3 W => gT4 P r4 l2 l3 W) r17 l2 l3 l4 l5 X) (d_X12_readExpression_r125d_20 r 1 0 M) nAo := by
  intro n
  induction n with
  | zero =>
    intro X M l2 l3 l4 l5 r4 r17 r c b1 k1 m1 m2 hn hA
    have := pA_9 hA
    omega
  | succ n ih =>
    intro X M l2 l3 l4 l5 r4 r17 r c b1 k1 m1 m2 hn hA hd hb hr P2 P4 i3 i5 hlf hcd hup hf
    have p9 := pA_9 hA
    obtain ⟨q, rfl⟩ : ∃ q, r17 = q + 1 := ⟨r17 - 1, by omega⟩
    show pTo d 1 l cd a lf c0 f B (if 400 ≤ l5 then _ else if (P X).1 = 0 then (0, (P X).2) else if d_X9_wordOf_r68_r16d (d_X2_land_r95d l4 (P X).2) = 0 then gT17 P (fun l2 l3 W => gT4 P r4 l2 l3 W) q l2 l3 (d_X2_leap_r95d 12 (d_X2_land_r95d l4 (P X).2)).1 (l5 + 1) (d_X9_step_r68d (d_X2_leap_r95d 12 (d_X2_land_r95d l4 (P X).2)).2) else g77 (fun l2 l3 W => gT4 P r4 l2 l3 W) l2 l3 (d_X2_land_r95d l4 (P X).2)) _ _
    rw [if_neg (show ¬ 400 ≤ l5 from by omega)]
    obtain ⟨s1, s2, s3, s4, s5⟩ := yj_s hl (l2 := l2) (l4 := l4) (k1 := k1) (k2 := c.1)
    rcases hP X M _ c r hA hd hb (by omega) s1 (by rw [s4]; exact hi) (s5 hc) with ⟨z, bd⟩ | ⟨z, N, s, k, e, g, R1, R2, R3, R4, R5, R6, R7, R8, R9, R10, R11, R12⟩
    · rw [if_pos z]
      exact Or.inl ⟨rfl, bd⟩
    rw [if_neg (show ¬ (P X).1 = 0 from by omega), R1]
    generalize (P X).2 = X1 at *
    have pN := pA_9 R3
    have hR := pPc_l R10
    have l2p := pk_l P2 h0
    have l4p := pk_l P4 (by omega)
    have len1 : ((yJ 19 l4 c.1 (yJ 20 l2 k1 l)).length : Int) = (yJ 20 l2 k1 l).length + o01 l4 := yj_l
    have len2 : ((yJ 20 l2 k1 l).length : Int) = l.length + o01 l2 := yj_l
    have o4 : 0 ≤ o01 l4 ∧ o01 l4 ≤ 1 := by unfold o01; split <;> omega
    have o2 : 0 ≤ o01 l2 ∧ o01 l2 ≤ 1 := by unfold o01; split <;> omega
    have P4a : pPk 19 (X1.1 97) g l4 b1 (X.1 95 4) m2 k1 c.1 := pk_c P4 (fun i hi => R8 i hi) R9 (Int.le_refl _)
    obtain ⟨J1, J2, J3, J4, J5, J6⟩ := pk_j (Or.inl rfl) P4a R10 (by omega)
    have A2 := J6 N k e R3
    have y2 : yse 2 k e = (yJ 20 l2 k1 l, yLd l4 c.1 g) := by
      rw [← yse_t (show (2 : Int) ≤ 3 from by decide) k e, R6]
      exact s2 g
    have y1 : yse 1 k e = (l, yLd l2 k1 (yLd l4 c.1 g)) := by
      rw [← yse_t (show (1 : Int) ≤ 3 from by decide) k e, R6]
      exact s3 g
    generalize hX2 : d_X2_land_r95d l4 X1 = X2 at *
    generalize hc2 : yLd l4 c.1 g = c2 at *
    have x4 : X2.1 95 4 = X1.1 95 4 := by rw [J4]
    have x5 : X2.1 95 5 = X1.1 95 5 := by rw [J4]
    have P2a : pPk 20 (X2.1 97) c2 l2 a b1 m1 c0.1 k1 := pk_c P2 (fun i hi => (J2 i hi).trans (R8 i (by omega))) (yUp_t (n := k1) (k := k1) (fun i hi => R9 i (by omega)) J3 (Int.le_refl _)) (Int.le_refl _)
    have cdX2 : ∀ i : Nat, (i : Int) < a → X2.1 97 i = cd i := fun i hi => (J2 i (by omega)).trans ((R8 i (by omega)).trans (hcd i hi))
    have upc2 : yUp c0.1 c0 c2 := yUp_t hup (yUp_t (n := k1) (k := k1) (fun i hi => R9 i (by omega)) J3 (Int.le_refl _)) (by omega)
    have bad := R3.2.2.1
    obtain ⟨u, rfl⟩ : ∃ u, s = u + 1 := ⟨s - 1, by omega⟩
    rw [wo_16 A2.1 A2.2.2.2.2.2.2.1]
    by_cases tA : N.1 125 11 = 1 ∧ N.2.1 125 12 = 1476
    · have e0 : (if N.1 125 11 = 1 then wIx (N.2.1 125 12) [1476] 0 else -1) = 0 := by
        rw [if_pos tA.1]; exact if_pos tA.2
      rw [if_pos e0, (yx_s bad).2.2.2.1, (bt_a tA.1).1 tA.2]
      obtain ⟨a1, a2, a3, a4, a5⟩ := ao_e (s := 19) (v := 12) A2 ⟨by decide, by decide⟩ tA.1 (Or.inl tA.2) y2 (by omega) (by omega)
      obtain ⟨v1, v2, v3, v4, v5, v6⟩ := lp_e (o := 12) (X := X2) ⟨by omega, by omega⟩
      show pTo d 1 l cd a lf c0 f B _ (d_X12_readExpression_r125d_20 u 1 0 (d_X12_next_r125d (mEt (mPu (d_X12_settle_r125d 2 N) 19 ((d_X12_settle_r125d 2 N).1 125 49)) 19 0))) _
      generalize d_X12_next_r125d (mEt (mPu (d_X12_settle_r125d 2 N) 19 ((d_X12_settle_r125d 2 N).1 125 49)) 19 0) = M2 at *
      rw [v1]
      generalize (d_X2_leap_r95d 12 X2).2 = X3 at *
      have yj : yJ 19 (X2.1 95 4 + 1) (yE 19 0 c2).1 (yJ 20 l2 k1 l) = (19, c2.1) :: yJ 20 l2 k1 l := (if_neg (by omega)).trans (by rw [show (yE 19 0 c2).1 - 1 = c2.1 from (show c2.1 + 1 - 1 = c2.1 from by omega)])
      have zz : ((19, c2.1) :: yJ 20 l2 k1 l).length = (yJ 20 l2 k1 l).length + 1 := rfl
      have upE : yUp c2.1 c2 (yE 19 0 c2) := yE_u (by omega)
      refine ih (d_X9_step_r68d X3) M2 l2 l3 (X2.1 95 4 + 1) (l5 + 1) r4 q u (yE 19 0 c2) b1 k1 m1 (m2 + (X1.1 95 5 - X.1 95 5)) (by omega) (by rw [yj]; exact a1) (a3.trans R4) ?_ (by omega) (pk_c P2a (fun i hi => by rw [a4]; exact v4 i (by omega)) upE (by omega)) ?_ ⟨i3.1, by omega, i3.2.2⟩ ⟨by omega, by omega, by omega⟩ ?_ (fun i hi => by rw [a4, v4 i (by omega)]; exact cdX2 i hi) (yUp_t upc2 upE (by omega)) (by omega)
      · rw [yj, zz, a5, v2]; omega
      · refine Or.inr ⟨X2.1 95 4, c2.1, by rw [a5, v2], rfl, rfl, ?_, ?_, sU_e rfl⟩
        · rw [a4, x4, J5]
          exact yPc_c J1 (fun i hi => v4 i (by omega)) upE (by omega)
        · rw [a4, v5, if_neg (by decide)]
      · rw [a5, v3, x5]; omega
    have e0 : ¬ (if N.1 125 11 = 1 then wIx (N.2.1 125 12) [1476] 0 else -1) = 0 := by
      by_cases c1 : N.1 125 11 = 1
      · rw [if_pos c1]
        have : wIx (N.2.1 125 12) [1476] 0 = -1 := if_neg (fun z => tA ⟨c1, z⟩)
        rw [this]; decide
      · rw [if_neg c1]; decide
    rw [if_neg e0]
    unfold g77
    have J1a : yPc (X2.1 97) c2 b1 (X2.1 95 4) (m2 + (X1.1 95 5 - X.1 95 5)) k1 c2.1 True := by
      rw [x4, J5]; exact J1
    obtain ⟨K1, K2, K3, K4, K5, K6⟩ := pk_j (Or.inr rfl) P2a J1a h0
    have A3 := K6 N k e A2
    generalize hX3 : d_X2_land_r95d l2 X2 = X3 at *
    generalize hc3 : yLd l2 k1 c2 = c3 at *
    have w4 : X3.1 95 4 = X1.1 95 4 := by rw [K4, x4]
    have w5 : X3.1 95 5 = X1.1 95 5 := by rw [K4, x5]
    have cdX3 : ∀ i : Nat, (i : Int) < a → X3.1 97 i = cd i := fun i hi => (K2 i hi).trans (cdX2 i hi)
    have upc3 : yUp c0.1 c0 c3 := yUp_t upc2 K3 (Int.le_refl _)
    rw [wo_17 A3.1 A3.2.2.2.2.2.2.1]
    by_cases tO : N.1 125 11 = 1 ∧ N.2.1 125 12 = 498
    · have e1 : (if N.1 125 11 = 1 then wIx (N.2.1 125 12) [498] 0 else -1) = 0 := by
        rw [if_pos tO.1]; exact if_pos tO.2
      rw [if_pos e1, (yx_s bad).2.2.2.1, (bt_a tO.1).2 tO.2]
      obtain ⟨a1, a2, a3, a4, a5⟩ := ao_e (s := 20) (v := 11) A3 ⟨by decide, by decide⟩ tO.1 (Or.inr tO.2) y1 (by omega) (by omega)
      obtain ⟨v1, v2, v3, v4, v5, v6⟩ := lp_e (o := 11) (X := X3) ⟨by omega, by omega⟩
      show pTo d 1 l cd a lf c0 f B (gT4 P r4 (d_X2_leap_r95d 11 X3).1 (l3 + 1) (d_X9_step_r68d (d_X2_leap_r95d 11 X3).2)) (d_X12_readExpression_r125d_20 u 1 0 (d_X12_next_r125d (mEt (mPu (d_X12_settle_r125d 1 N) 20 ((d_X12_settle_r125d 1 N).1 125 49)) 20 0))) _
      generalize d_X12_next_r125d (mEt (mPu (d_X12_settle_r125d 1 N) 20 ((d_X12_settle_r125d 1 N).1 125 49)) 20 0) = M2 at *
      rw [v1]
      generalize (d_X2_leap_r95d 11 X3).2 = X4 at *
      obtain ⟨q4, rfl⟩ : ∃ q4, r4 = q4 + 1 := ⟨r4 - 1, by omega⟩
      show pTo d 1 l cd a lf c0 f B (if 400 ≤ l3 + 1 then _ else gT17 P (fun l2 l3 W => gT4 P q4 l2 l3 W) 401 (X3.1 95 4 + 1) (l3 + 1) (-1) 0 (d_X9_step_r68d X4)) _ _
      rw [if_neg (show ¬ 400 ≤ l3 + 1 from by omega)]
      have yj : yJ 19 (-1) (yE 20 0 c3).1 (yJ 20 (X3.1 95 4 + 1) (c3.1 + 1) l) = (20, c3.1) :: l := (if_pos rfl).trans ((if_neg (by omega)).trans (by rw [show c3.1 + 1 - 1 = c3.1 from by omega]))
      have zz : ((20, c3.1) :: l).length = l.length + 1 := rfl
      have upE : yUp c3.1 c3 (yE 20 0 c3) := yE_u (by omega)
      refine ih (d_X9_step_r68d X4) M2 (X3.1 95 4 + 1) (l3 + 1) (-1) 0 q4 401 u (yE 20 0 c3) (X3.1 95 4 + 2) (c3.1 + 1) (m1 + (m2 + (X1.1 95 5 - X.1 95 5))) 0 (by omega) (by rw [yj]; exact a1) (a3.trans R4) ?_ (by omega) ?_ (Or.inl ⟨rfl, by rw [a5, v2], rfl, rfl⟩) ⟨by omega, by omega, by omega⟩ ⟨by omega, by omega, by omega⟩ ?_ (fun i hi => by rw [a4, v4 i (by omega)]; exact cdX3 i hi) (yUp_t upc3 upE (by omega)) (by omega)
      · rw [yj, zz, a5, v2]; omega
      · refine Or.inr ⟨X3.1 95 4, c3.1, rfl, rfl, rfl, ?_, ?_, sU_e rfl⟩
        · rw [a4, w4, ← x4, K5]
          exact yPc_c K1 (fun i hi => v4 i (by omega)) upE (by omega)
        · rw [a4, v5, if_pos rfl]
      · rw [a5, v3, w5]; omega
    have e1 : ¬ (if N.1 125 11 = 1 then wIx (N.2.1 125 12) [498] 0 else -1) = 0 := by
      by_cases c1 : N.1 125 11 = 1
      · rw [if_pos c1]
        have : wIx (N.2.1 125 12) [498] 0 = -1 := if_neg (fun z => tO ⟨c1, z⟩)
        rw [this]; decide
      · rw [if_neg c1]; decide
    rw [if_neg e1]
    refine Or.inr ⟨rfl, N, u + 1, k, e, c3, rfl, by omega, A3, R4, by omega, y1, ?_, cdX3, upc3, ?_, R11.trans s4, fun h1 => ⟨fun h => tA ⟨h1, h⟩, fun h => tO ⟨h1, h⟩⟩⟩
    · show X3.1 95 4 + (l.length : Int) ≤ _
      omega
    · show yPc (X3.1 97) c3 a (X3.1 95 4) (X3.1 95 5 - lf) c0.1 c3.1 True
      rw [w4, ← x4, w5, K5, show X1.1 95 5 - lf = m1 + (m2 + (X1.1 95 5 - X.1 95 5)) from by omega]
      exact K1
theorem ts_e {P : jW → Int × jW} {d : Int} (hP : pPl P d) : pTz (gTs P) d := by
  intro X M l c r hA hd hb hr hl hi hc
  have p9 := pA_9 hA
  show pTo d 1 l _ _ _ c _ _ (if (400 : Int) ≤ 0 then (0, vu X 68 2 (X.1 68 3)) else gT17 P (fun l2 l3 W => gT4 P 400 l2 l3 W) 401 (-1) 0 (-1) 0 X) _ _
  rw [if_neg (by decide)]
  have yj : yJ 19 (-1) c.1 (yJ 20 (-1) c.1 l) = l := (if_pos rfl).trans (if_pos rfl)
  exact ts_17 hP hl hi hc ⟨hA.2.2.2.2.2.2.2, hA.2.2.2.2.2.1.1⟩ hr 401 X M (-1) 0 (-1) 0 400 401 r c (X.1 95 4) c.1 0 0 (by omega) (by rw [yj]; exact hA) hd (by rw [yj]; exact hb) (Int.le_refl _) (Or.inl ⟨rfl, rfl, rfl, rfl⟩) (Or.inl ⟨rfl, rfl, rfl, rfl⟩) ⟨by decide, by omega, by decide⟩ ⟨by decide, by omega, by decide⟩ (by omega) (fun _ _ => rfl) yUp_r (Int.le_refl _)
end jG59

section jG60
/-! pure: the class's readers at each depth -/
def gNf (l2 : Int) (q : Int × jW) : Int × jW := if q.1 = 0 then (0, q.2) else (1, xNt l2 q.2)
theorem gNf_i {l2 : Int} {c : Prop} [Decidable c] {x y : Int × jW} : gNf l2 (if c then x else y) = if c then gNf l2 x else gNf l2 y := by
  by_cases h : c
  · rw [if_pos h, if_pos h]
  · rw [if_neg h, if_neg h]
theorem gNf_0 {l2 : Int} {W : jW} : gNf l2 (0, W) = (0, W) := if_pos rfl
theorem gNf_1 {l2 : Int} {W : jW} : gNf l2 (1, W) = (1, xNt l2 W) := if_neg (by show ¬ (1 : Int) = 0; decide)
theorem fq_8 : d_X2_readFactor_r95_c8d = gFa (fun W => (0, vu W 68 2 (W.1 68 3))) := funext fun _ => rfl
theorem s105_8 {K4 : Int → Int → jW → Int × jW} {l2 l3 : Int} {W : jW} : d_X2_readSum_r95_c8d_105 K4 l2 l3 W = g105 K4 l2 l3 W := by
  unfold d_X2_readSum_r95_c8d_105 g105 xEm
  by_cases c : l2 = -1
  · rw [if_pos c, if_pos c]; rfl
  · rw [if_neg c, if_neg c]; rfl
theorem s47_8 {K4 : Int → Int → jW → Int × jW} {K17 : Int → Int → Int → Int → jW → Int × jW} {l2 l3 l5 : Int} {W : jW} : d_X2_readSum_r95_c8d_47 K4 K17 l2 l3 l5 W = g47 K4 K17 l2 l3 l5 W := by
  show (if d_X9_isSign_r68d 42 W = 0 then (if d_X9_isSign_r68d 47 W = 0 then d_X2_readSum_r95_c8d_105 K4 l2 l3 W else K17 l2 l3 6 (l5 + 1) (d_X9_step_r68d W)) else K17 l2 l3 5 (l5 + 1) (d_X9_step_r68d W)) = _
  rw [s105_8]
  rfl
theorem s17_8 {K4 : Int → Int → jW → Int × jW} : ∀ (r : Nat) (l2 l3 l4 l5 : Int) (W : jW), d_X2_readSum_r95_c8d_17 K4 r l2 l3 l4 l5 W = gS17 d_X2_readFactor_r95_c8d K4 r l2 l3 l4 l5 W
  | 0, _, _, _, _, _ => rfl
  | r + 1, l2, l3, l4, l5, W => by
    have g : (fun l2 l3 l4 l5 W => d_X2_readSum_r95_c8d_17 K4 r l2 l3 l4 l5 W) = fun l2 l3 l4 l5 W => gS17 d_X2_readFactor_r95_c8d K4 r l2 l3 l4 l5 W := funext fun l2 => funext fun l3 => funext fun l4 => funext fun l5 => funext fun W => s17_8 r l2 l3 l4 l5 W
    show (if 400 ≤ l5 then d_X2_readSum_r95_c8d_105 K4 l2 l3 W else if (d_X2_readFactor_r95_c8d W).1 = 0 then (0, (d_X2_readFactor_r95_c8d W).2) else (if l4 = -1 then d_X2_readSum_r95_c8d_47 K4 (fun l2 l3 l4 l5 W => d_X2_readSum_r95_c8d_17 K4 r l2 l3 l4 l5 W) l2 l3 l5 (d_X2_readFactor_r95_c8d W).2 else d_X2_readSum_r95_c8d_47 K4 (fun l2 l3 l4 l5 W => d_X2_readSum_r95_c8d_17 K4 r l2 l3 l4 l5 W) l2 l3 l5 (d_X2_emit_r95d l4 (d_X2_readFactor_r95_c8d W).2))) = _
    rw [g, s105_8, s47_8, s47_8]
    have x : ∀ Z : jW, (if l4 = -1 then g47 K4 (fun l2 l3 l4 l5 W => gS17 d_X2_readFactor_r95_c8d K4 r l2 l3 l4 l5 W) l2 l3 l5 Z else g47 K4 (fun l2 l3 l4 l5 W => gS17 d_X2_readFactor_r95_c8d K4 r l2 l3 l4 l5 W) l2 l3 l5 (d_X2_emit_r95d l4 Z)) = g47 K4 (fun l2 l3 l4 l5 W => gS17 d_X2_readFactor_r95_c8d K4 r l2 l3 l4 l5 W) l2 l3 l5 (xEm l4 Z) := by
      intro Z
      unfold xEm
      by_cases c : l4 = -1
      · rw [if_pos c, if_pos c]
      · rw [if_neg c, if_neg c]
    rw [x]
    rfl
theorem s4_8 : ∀ (r : Nat) (l2 l3 : Int) (W : jW), d_X2_readSum_r95_c8d_4 r l2 l3 W = gS4 d_X2_readFactor_r95_c8d r l2 l3 W
  | 0, _, _, _ => rfl
  | r + 1, l2, l3, W => by
    have g : (fun l2 l3 W => d_X2_readSum_r95_c8d_4 r l2 l3 W) = fun l2 l3 W => gS4 d_X2_readFactor_r95_c8d r l2 l3 W := funext fun l2 => funext fun l3 => funext fun W => s4_8 r l2 l3 W
    show (if 400 ≤ l3 then (0, vu W 68 2 (W.1 68 3)) else d_X2_readSum_r95_c8d_17 (fun l2 l3 W => d_X2_readSum_r95_c8d_4 r l2 l3 W) 401 l2 l3 (-1) 0 W) = _
    rw [g, s17_8]
    rfl
theorem sq_8 : d_X2_readSum_r95_c8d = gSm d_X2_readFactor_r95_c8d := funext fun W => s4_8 401 (-1) 0 W
theorem p229_8 {l2 : Int} {W : jW} : d_X2_readPlain_r95_c8d_229 l2 W = (1, xNt l2 W) := by
  unfold d_X2_readPlain_r95_c8d_229 xNt
  by_cases c : l2 = 0
  · rw [if_pos c, if_pos c]; rfl
  · rw [if_neg c, if_neg c]; rfl
theorem p46_8 {l2 : Int} {W : jW} : d_X2_readPlain_r95_c8d_46 l2 W = gN (gBo d_X2_readSum_r95_c8d (fun W => (0, vu W 68 2 (W.1 68 3)))) l2 W := by
  show _ = gNf l2 (gBo d_X2_readSum_r95_c8d (fun W => (0, vu W 68 2 (W.1 68 3))) W)
  unfold gBo
  unfold gCm
  simp only [gNf_i, gNf_0, gNf_1]
  unfold d_X2_readPlain_r95_c8d_46 d_X2_readPlain_r95_c8d_190 d_X2_readPlain_r95_c8d_1000190 d_X2_readPlain_r95_c8d_900190
  simp only [p229_8]
  rfl
theorem p4_8 : ∀ (r : Nat) (l2 l3 : Int) (W : jW), d_X2_readPlain_r95_c8d_4 r l2 l3 W = gP4 (gBo d_X2_readSum_r95_c8d (fun W => (0, vu W 68 2 (W.1 68 3)))) r l2 l3 W
  | 0, _, _, _ => rfl
  | r + 1, l2, l3, W => by
    show (if 400 ≤ l3 then d_X2_readPlain_r95_c8d_46 l2 W else if d_X9_wordOf_r68_r14d W = 0 then (if l2 = 0 then d_X2_readPlain_r95_c8d_4 r 1 (l3 + 1) (d_X9_step_r68d W) else d_X2_readPlain_r95_c8d_4 r 0 (l3 + 1) (d_X9_step_r68d W)) else d_X2_readPlain_r95_c8d_46 l2 W) = _
    rw [p4_8 r 1 (l3 + 1), p4_8 r 0 (l3 + 1), p46_8]
    rfl
theorem pq_8 : d_X2_readPlain_r95_c8d = gPl (gBo d_X2_readSum_r95_c8d (fun W => (0, vu W 68 2 (W.1 68 3)))) := funext fun W => p4_8 401 0 0 W
theorem t17_8 {K4 : Int → Int → jW → Int × jW} : ∀ (r : Nat) (l2 l3 l4 l5 : Int) (W : jW), d_X2_readTest_r95_c8d_17 K4 r l2 l3 l4 l5 W = gT17 d_X2_readPlain_r95_c8d K4 r l2 l3 l4 l5 W
  | 0, _, _, _, _, _ => rfl
  | r + 1, l2, l3, l4, l5, W => by
    show (if 400 ≤ l5 then d_X2_readTest_r95_c8d_77 K4 l2 l3 W else if (d_X2_readPlain_r95_c8d W).1 = 0 then (0, (d_X2_readPlain_r95_c8d W).2) else if d_X9_wordOf_r68_r16d (d_X2_land_r95d l4 (d_X2_readPlain_r95_c8d W).2) = 0 then d_X2_readTest_r95_c8d_17 K4 r l2 l3 (d_X2_leap_r95d 12 (d_X2_land_r95d l4 (d_X2_readPlain_r95_c8d W).2)).1 (l5 + 1) (d_X9_step_r68d (d_X2_leap_r95d 12 (d_X2_land_r95d l4 (d_X2_readPlain_r95_c8d W).2)).2) else d_X2_readTest_r95_c8d_77 K4 l2 l3 (d_X2_land_r95d l4 (d_X2_readPlain_r95_c8d W).2)) = _
    rw [t17_8 r]
    rfl
theorem t4_8 : ∀ (r : Nat) (l2 l3 : Int) (W : jW), d_X2_readTest_r95_c8d_4 r l2 l3 W = gT4 d_X2_readPlain_r95_c8d r l2 l3 W
  | 0, _, _, _ => rfl
  | r + 1, l2, l3, W => by
    have g : (fun l2 l3 W => d_X2_readTest_r95_c8d_4 r l2 l3 W) = fun l2 l3 W => gT4 d_X2_readPlain_r95_c8d r l2 l3 W := funext fun l2 => funext fun l3 => funext fun W => t4_8 r l2 l3 W
    show (if 400 ≤ l3 then (0, vu W 68 2 (W.1 68 3)) else d_X2_readTest_r95_c8d_17 (fun l2 l3 W => d_X2_readTest_r95_c8d_4 r l2 l3 W) 401 l2 l3 (-1) 0 W) = _
    rw [g, t17_8]
    rfl
theorem tq_8 : d_X2_readTest_r95_c8d = gTs d_X2_readPlain_r95_c8d := funext fun W => t4_8 401 (-1) 0 W
theorem fa_c8 : pFa d_X2_readFactor_r95_c8d 8 := by rw [fq_8]; exact fa_8
theorem sm_c8 : pSm d_X2_readSum_r95_c8d 8 := by rw [sq_8]; exact sm_e fa_c8
theorem pl_c8 : pPl d_X2_readPlain_r95_c8d 8 := by rw [pq_8]; exact pl_e sm_c8 tb_8
theorem ts_c8 : pTz d_X2_readTest_r95_c8d 8 := by rw [tq_8]; exact ts_e pl_c8
theorem fq_7 : d_X2_readFactor_r95_c7d = gFa (gBr d_X2_readSum_r95_c8d) := funext fun _ => rfl
theorem s105_7 {K4 : Int → Int → jW → Int × jW} {l2 l3 : Int} {W : jW} : d_X2_readSum_r95_c7d_105 K4 l2 l3 W = g105 K4 l2 l3 W := by
  unfold d_X2_readSum_r95_c7d_105 g105 xEm
  by_cases c : l2 = -1
  · rw [if_pos c, if_pos c]; rfl
  · rw [if_neg c, if_neg c]; rfl
theorem s47_7 {K4 : Int → Int → jW → Int × jW} {K17 : Int → Int → Int → Int → jW → Int × jW} {l2 l3 l5 : Int} {W : jW} : d_X2_readSum_r95_c7d_47 K4 K17 l2 l3 l5 W = g47 K4 K17 l2 l3 l5 W := by
  show (if d_X9_isSign_r68d 42 W = 0 then (if d_X9_isSign_r68d 47 W = 0 then d_X2_readSum_r95_c7d_105 K4 l2 l3 W else K17 l2 l3 6 (l5 + 1) (d_X9_step_r68d W)) else K17 l2 l3 5 (l5 + 1) (d_X9_step_r68d W)) = _
  rw [s105_7]
  rfl
theorem s17_7 {K4 : Int → Int → jW → Int × jW} : ∀ (r : Nat) (l2 l3 l4 l5 : Int) (W : jW), d_X2_readSum_r95_c7d_17 K4 r l2 l3 l4 l5 W = gS17 d_X2_readFactor_r95_c7d K4 r l2 l3 l4 l5 W
  | 0, _, _, _, _, _ => rfl
  | r + 1, l2, l3, l4, l5, W => by
    have g : (fun l2 l3 l4 l5 W => d_X2_readSum_r95_c7d_17 K4 r l2 l3 l4 l5 W) = fun l2 l3 l4 l5 W => gS17 d_X2_readFactor_r95_c7d K4 r l2 l3 l4 l5 W := funext fun l2 => funext fun l3 => funext fun l4 => funext fun l5 => funext fun W => s17_7 r l2 l3 l4 l5 W
    show (if 400 ≤ l5 then d_X2_readSum_r95_c7d_105 K4 l2 l3 W else if (d_X2_readFactor_r95_c7d W).1 = 0 then (0, (d_X2_readFactor_r95_c7d W).2) else (if l4 = -1 then d_X2_readSum_r95_c7d_47 K4 (fun l2 l3 l4 l5 W => d_X2_readSum_r95_c7d_17 K4 r l2 l3 l4 l5 W) l2 l3 l5 (d_X2_readFactor_r95_c7d W).2 else d_X2_readSum_r95_c7d_47 K4 (fun l2 l3 l4 l5 W => d_X2_readSum_r95_c7d_17 K4 r l2 l3 l4 l5 W) l2 l3 l5 (d_X2_emit_r95d l4 (d_X2_readFactor_r95_c7d W).2))) = _
    rw [g, s105_7, s47_7, s47_7]
    have x : ∀ Z : jW, (if l4 = -1 then g47 K4 (fun l2 l3 l4 l5 W => gS17 d_X2_readFactor_r95_c7d K4 r l2 l3 l4 l5 W) l2 l3 l5 Z else g47 K4 (fun l2 l3 l4 l5 W => gS17 d_X2_readFactor_r95_c7d K4 r l2 l3 l4 l5 W) l2 l3 l5 (d_X2_emit_r95d l4 Z)) = g47 K4 (fun l2 l3 l4 l5 W => gS17 d_X2_readFactor_r95_c7d K4 r l2 l3 l4 l5 W) l2 l3 l5 (xEm l4 Z) := by
      intro Z
      unfold xEm
      by_cases c : l4 = -1
      · rw [if_pos c, if_pos c]
      · rw [if_neg c, if_neg c]
    rw [x]
    rfl
theorem s4_7 : ∀ (r : Nat) (l2 l3 : Int) (W : jW), d_X2_readSum_r95_c7d_4 r l2 l3 W = gS4 d_X2_readFactor_r95_c7d r l2 l3 W
  | 0, _, _, _ => rfl
  | r + 1, l2, l3, W => by
    have g : (fun l2 l3 W => d_X2_readSum_r95_c7d_4 r l2 l3 W) = fun l2 l3 W => gS4 d_X2_readFactor_r95_c7d r l2 l3 W := funext fun l2 => funext fun l3 => funext fun W => s4_7 r l2 l3 W
    show (if 400 ≤ l3 then (0, vu W 68 2 (W.1 68 3)) else d_X2_readSum_r95_c7d_17 (fun l2 l3 W => d_X2_readSum_r95_c7d_4 r l2 l3 W) 401 l2 l3 (-1) 0 W) = _
    rw [g, s17_7]
    rfl
theorem sq_7 : d_X2_readSum_r95_c7d = gSm d_X2_readFactor_r95_c7d := funext fun W => s4_7 401 (-1) 0 W
theorem p229_7 {l2 : Int} {W : jW} : d_X2_readPlain_r95_c7d_229 l2 W = (1, xNt l2 W) := by
  unfold d_X2_readPlain_r95_c7d_229 xNt
  by_cases c : l2 = 0
  · rw [if_pos c, if_pos c]; rfl
  · rw [if_neg c, if_neg c]; rfl
theorem p46_7 {l2 : Int} {W : jW} : d_X2_readPlain_r95_c7d_46 l2 W = gN (gBo d_X2_readSum_r95_c7d (gTb d_X2_readTest_r95_c8d)) l2 W := by
  show _ = gNf l2 (gBo d_X2_readSum_r95_c7d (gTb d_X2_readTest_r95_c8d) W)
  unfold gBo gTb
  unfold gCm
  simp only [gNf_i, gNf_0, gNf_1]
  unfold d_X2_readPlain_r95_c7d_46 d_X2_readPlain_r95_c7d_190 d_X2_readPlain_r95_c7d_1000190 d_X2_readPlain_r95_c7d_900190
  simp only [p229_7]
  rfl
theorem p4_7 : ∀ (r : Nat) (l2 l3 : Int) (W : jW), d_X2_readPlain_r95_c7d_4 r l2 l3 W = gP4 (gBo d_X2_readSum_r95_c7d (gTb d_X2_readTest_r95_c8d)) r l2 l3 W
  | 0, _, _, _ => rfl
  | r + 1, l2, l3, W => by
    show (if 400 ≤ l3 then d_X2_readPlain_r95_c7d_46 l2 W else if d_X9_wordOf_r68_r14d W = 0 then (if l2 = 0 then d_X2_readPlain_r95_c7d_4 r 1 (l3 + 1) (d_X9_step_r68d W) else d_X2_readPlain_r95_c7d_4 r 0 (l3 + 1) (d_X9_step_r68d W)) else d_X2_readPlain_r95_c7d_46 l2 W) = _
    rw [p4_7 r 1 (l3 + 1), p4_7 r 0 (l3 + 1), p46_7]
    rfl
theorem pq_7 : d_X2_readPlain_r95_c7d = gPl (gBo d_X2_readSum_r95_c7d (gTb d_X2_readTest_r95_c8d)) := funext fun W => p4_7 401 0 0 W
theorem t17_7 {K4 : Int → Int → jW → Int × jW} : ∀ (r : Nat) (l2 l3 l4 l5 : Int) (W : jW), d_X2_readTest_r95_c7d_17 K4 r l2 l3 l4 l5 W = gT17 d_X2_readPlain_r95_c7d K4 r l2 l3 l4 l5 W
  | 0, _, _, _, _, _ => rfl
  | r + 1, l2, l3, l4, l5, W => by
    show (if 400 ≤ l5 then d_X2_readTest_r95_c7d_77 K4 l2 l3 W else if (d_X2_readPlain_r95_c7d W).1 = 0 then (0, (d_X2_readPlain_r95_c7d W).2) else if d_X9_wordOf_r68_r16d (d_X2_land_r95d l4 (d_X2_readPlain_r95_c7d W).2) = 0 then d_X2_readTest_r95_c7d_17 K4 r l2 l3 (d_X2_leap_r95d 12 (d_X2_land_r95d l4 (d_X2_readPlain_r95_c7d W).2)).1 (l5 + 1) (d_X9_step_r68d (d_X2_leap_r95d 12 (d_X2_land_r95d l4 (d_X2_readPlain_r95_c7d W).2)).2) else d_X2_readTest_r95_c7d_77 K4 l2 l3 (d_X2_land_r95d l4 (d_X2_readPlain_r95_c7d W).2)) = _
    rw [t17_7 r]
    rfl
theorem t4_7 : ∀ (r : Nat) (l2 l3 : Int) (W : jW), d_X2_readTest_r95_c7d_4 r l2 l3 W = gT4 d_X2_readPlain_r95_c7d r l2 l3 W
  | 0, _, _, _ => rfl
  | r + 1, l2, l3, W => by
    have g : (fun l2 l3 W => d_X2_readTest_r95_c7d_4 r l2 l3 W) = fun l2 l3 W => gT4 d_X2_readPlain_r95_c7d r l2 l3 W := funext fun l2 => funext fun l3 => funext fun W => t4_7 r l2 l3 W
    show (if 400 ≤ l3 then (0, vu W 68 2 (W.1 68 3)) else d_X2_readTest_r95_c7d_17 (fun l2 l3 W => d_X2_readTest_r95_c7d_4 r l2 l3 W) 401 l2 l3 (-1) 0 W) = _
    rw [g, t17_7]
    rfl
theorem tq_7 : d_X2_readTest_r95_c7d = gTs d_X2_readPlain_r95_c7d := funext fun W => t4_7 401 (-1) 0 W
theorem fa_c7 : pFa d_X2_readFactor_r95_c7d 7 := by rw [fq_7]; exact fa_e ⟨by decide, by decide⟩ sm_c8
theorem sm_c7 : pSm d_X2_readSum_r95_c7d 7 := by rw [sq_7]; exact sm_e fa_c7
theorem pl_c7 : pPl d_X2_readPlain_r95_c7d 7 := by rw [pq_7]; exact pl_e sm_c7 (tb_e ⟨by decide, by decide⟩ ts_c8)
theorem ts_c7 : pTz d_X2_readTest_r95_c7d 7 := by rw [tq_7]; exact ts_e pl_c7
theorem fq_6 : d_X2_readFactor_r95_c6d = gFa (gBr d_X2_readSum_r95_c7d) := funext fun _ => rfl
theorem s105_6 {K4 : Int → Int → jW → Int × jW} {l2 l3 : Int} {W : jW} : d_X2_readSum_r95_c6d_105 K4 l2 l3 W = g105 K4 l2 l3 W := by
  unfold d_X2_readSum_r95_c6d_105 g105 xEm
  by_cases c : l2 = -1
  · rw [if_pos c, if_pos c]; rfl
  · rw [if_neg c, if_neg c]; rfl
theorem s47_6 {K4 : Int → Int → jW → Int × jW} {K17 : Int → Int → Int → Int → jW → Int × jW} {l2 l3 l5 : Int} {W : jW} : d_X2_readSum_r95_c6d_47 K4 K17 l2 l3 l5 W = g47 K4 K17 l2 l3 l5 W := by
  show (if d_X9_isSign_r68d 42 W = 0 then (if d_X9_isSign_r68d 47 W = 0 then d_X2_readSum_r95_c6d_105 K4 l2 l3 W else K17 l2 l3 6 (l5 + 1) (d_X9_step_r68d W)) else K17 l2 l3 5 (l5 + 1) (d_X9_step_r68d W)) = _
  rw [s105_6]
  rfl
theorem s17_6 {K4 : Int → Int → jW → Int × jW} : ∀ (r : Nat) (l2 l3 l4 l5 : Int) (W : jW), d_X2_readSum_r95_c6d_17 K4 r l2 l3 l4 l5 W = gS17 d_X2_readFactor_r95_c6d K4 r l2 l3 l4 l5 W
  | 0, _, _, _, _, _ => rfl
  | r + 1, l2, l3, l4, l5, W => by
    have g : (fun l2 l3 l4 l5 W => d_X2_readSum_r95_c6d_17 K4 r l2 l3 l4 l5 W) = fun l2 l3 l4 l5 W => gS17 d_X2_readFactor_r95_c6d K4 r l2 l3 l4 l5 W := funext fun l2 => funext fun l3 => funext fun l4 => funext fun l5 => funext fun W => s17_6 r l2 l3 l4 l5 W
    show (if 400 ≤ l5 then d_X2_readSum_r95_c6d_105 K4 l2 l3 W else if (d_X2_readFactor_r95_c6d W).1 = 0 then (0, (d_X2_readFactor_r95_c6d W).2) else (if l4 = -1 then d_X2_readSum_r95_c6d_47 K4 (fun l2 l3 l4 l5 W => d_X2_readSum_r95_c6d_17 K4 r l2 l3 l4 l5 W) l2 l3 l5 (d_X2_readFactor_r95_c6d W).2 else d_X2_readSum_r95_c6d_47 K4 (fun l2 l3 l4 l5 W => d_X2_readSum_r95_c6d_17 K4 r l2 l3 l4 l5 W) l2 l3 l5 (d_X2_emit_r95d l4 (d_X2_readFactor_r95_c6d W).2))) = _
    rw [g, s105_6, s47_6, s47_6]
    have x : ∀ Z : jW, (if l4 = -1 then g47 K4 (fun l2 l3 l4 l5 W => gS17 d_X2_readFactor_r95_c6d K4 r l2 l3 l4 l5 W) l2 l3 l5 Z else g47 K4 (fun l2 l3 l4 l5 W => gS17 d_X2_readFactor_r95_c6d K4 r l2 l3 l4 l5 W) l2 l3 l5 (d_X2_emit_r95d l4 Z)) = g47 K4 (fun l2 l3 l4 l5 W => gS17 d_X2_readFactor_r95_c6d K4 r l2 l3 l4 l5 W) l2 l3 l5 (xEm l4 Z) := by
      intro Z
      unfold xEm
      by_cases c : l4 = -1
      · rw [if_pos c, if_pos c]
      · rw [if_neg c, if_neg c]
    rw [x]
    rfl
theorem s4_6 : ∀ (r : Nat) (l2 l3 : Int) (W : jW), d_X2_readSum_r95_c6d_4 r l2 l3 W = gS4 d_X2_readFactor_r95_c6d r l2 l3 W
  | 0, _, _, _ => rfl
  | r + 1, l2, l3, W => by
    have g : (fun l2 l3 W => d_X2_readSum_r95_c6d_4 r l2 l3 W) = fun l2 l3 W => gS4 d_X2_readFactor_r95_c6d r l2 l3 W := funext fun l2 => funext fun l3 => funext fun W => s4_6 r l2 l3 W
    show (if 400 ≤ l3 then (0, vu W 68 2 (W.1 68 3)) else d_X2_readSum_r95_c6d_17 (fun l2 l3 W => d_X2_readSum_r95_c6d_4 r l2 l3 W) 401 l2 l3 (-1) 0 W) = _
    rw [g, s17_6]
    rfl
theorem sq_6 : d_X2_readSum_r95_c6d = gSm d_X2_readFactor_r95_c6d := funext fun W => s4_6 401 (-1) 0 W
theorem p229_6 {l2 : Int} {W : jW} : d_X2_readPlain_r95_c6d_229 l2 W = (1, xNt l2 W) := by
  unfold d_X2_readPlain_r95_c6d_229 xNt
  by_cases c : l2 = 0
  · rw [if_pos c, if_pos c]; rfl
  · rw [if_neg c, if_neg c]; rfl
theorem p46_6 {l2 : Int} {W : jW} : d_X2_readPlain_r95_c6d_46 l2 W = gN (gBo d_X2_readSum_r95_c6d (gTb d_X2_readTest_r95_c7d)) l2 W := by
  show _ = gNf l2 (gBo d_X2_readSum_r95_c6d (gTb d_X2_readTest_r95_c7d) W)
  unfold gBo gTb
  unfold gCm
  simp only [gNf_i, gNf_0, gNf_1]
  unfold d_X2_readPlain_r95_c6d_46 d_X2_readPlain_r95_c6d_190 d_X2_readPlain_r95_c6d_1000190 d_X2_readPlain_r95_c6d_900190
  simp only [p229_6]
  rfl
theorem p4_6 : ∀ (r : Nat) (l2 l3 : Int) (W : jW), d_X2_readPlain_r95_c6d_4 r l2 l3 W = gP4 (gBo d_X2_readSum_r95_c6d (gTb d_X2_readTest_r95_c7d)) r l2 l3 W
  | 0, _, _, _ => rfl
  | r + 1, l2, l3, W => by
    show (if 400 ≤ l3 then d_X2_readPlain_r95_c6d_46 l2 W else if d_X9_wordOf_r68_r14d W = 0 then (if l2 = 0 then d_X2_readPlain_r95_c6d_4 r 1 (l3 + 1) (d_X9_step_r68d W) else d_X2_readPlain_r95_c6d_4 r 0 (l3 + 1) (d_X9_step_r68d W)) else d_X2_readPlain_r95_c6d_46 l2 W) = _
    rw [p4_6 r 1 (l3 + 1), p4_6 r 0 (l3 + 1), p46_6]
    rfl
theorem pq_6 : d_X2_readPlain_r95_c6d = gPl (gBo d_X2_readSum_r95_c6d (gTb d_X2_readTest_r95_c7d)) := funext fun W => p4_6 401 0 0 W
theorem t17_6 {K4 : Int → Int → jW → Int × jW} : ∀ (r : Nat) (l2 l3 l4 l5 : Int) (W : jW), d_X2_readTest_r95_c6d_17 K4 r l2 l3 l4 l5 W = gT17 d_X2_readPlain_r95_c6d K4 r l2 l3 l4 l5 W
  | 0, _, _, _, _, _ => rfl
  | r + 1, l2, l3, l4, l5, W => by
    show (if 400 ≤ l5 then d_X2_readTest_r95_c6d_77 K4 l2 l3 W else if (d_X2_readPlain_r95_c6d W).1 = 0 then (0, (d_X2_readPlain_r95_c6d W).2) else if d_X9_wordOf_r68_r16d (d_X2_land_r95d l4 (d_X2_readPlain_r95_c6d W).2) = 0 then d_X2_readTest_r95_c6d_17 K4 r l2 l3 (d_X2_leap_r95d 12 (d_X2_land_r95d l4 (d_X2_readPlain_r95_c6d W).2)).1 (l5 + 1) (d_X9_step_r68d (d_X2_leap_r95d 12 (d_X2_land_r95d l4 (d_X2_readPlain_r95_c6d W).2)).2) else d_X2_readTest_r95_c6d_77 K4 l2 l3 (d_X2_land_r95d l4 (d_X2_readPlain_r95_c6d W).2)) = _
    rw [t17_6 r]
    rfl
theorem t4_6 : ∀ (r : Nat) (l2 l3 : Int) (W : jW), d_X2_readTest_r95_c6d_4 r l2 l3 W = gT4 d_X2_readPlain_r95_c6d r l2 l3 W
  | 0, _, _, _ => rfl
  | r + 1, l2, l3, W => by
    have g : (fun l2 l3 W => d_X2_readTest_r95_c6d_4 r l2 l3 W) = fun l2 l3 W => gT4 d_X2_readPlain_r95_c6d r l2 l3 W := funext fun l2 => funext fun l3 => funext fun W => t4_6 r l2 l3 W
    show (if 400 ≤ l3 then (0, vu W 68 2 (W.1 68 3)) else d_X2_readTest_r95_c6d_17 (fun l2 l3 W => d_X2_readTest_r95_c6d_4 r l2 l3 W) 401 l2 l3 (-1) 0 W) = _
    rw [g, t17_6]
    rfl
theorem tq_6 : d_X2_readTest_r95_c6d = gTs d_X2_readPlain_r95_c6d := funext fun W => t4_6 401 (-1) 0 W
theorem fa_c6 : pFa d_X2_readFactor_r95_c6d 6 := by rw [fq_6]; exact fa_e ⟨by decide, by decide⟩ sm_c7
theorem sm_c6 : pSm d_X2_readSum_r95_c6d 6 := by rw [sq_6]; exact sm_e fa_c6
theorem pl_c6 : pPl d_X2_readPlain_r95_c6d 6 := by rw [pq_6]; exact pl_e sm_c6 (tb_e ⟨by decide, by decide⟩ ts_c7)
theorem ts_c6 : pTz d_X2_readTest_r95_c6d 6 := by rw [tq_6]; exact ts_e pl_c6
theorem fq_5 : d_X2_readFactor_r95_c5d = gFa (gBr d_X2_readSum_r95_c6d) := funext fun _ => rfl
theorem s105_5 {K4 : Int → Int → jW → Int × jW} {l2 l3 : Int} {W : jW} : d_X2_readSum_r95_c5d_105 K4 l2 l3 W = g105 K4 l2 l3 W := by
  unfold d_X2_readSum_r95_c5d_105 g105 xEm
  by_cases c : l2 = -1
  · rw [if_pos c, if_pos c]; rfl
  · rw [if_neg c, if_neg c]; rfl
theorem s47_5 {K4 : Int → Int → jW → Int × jW} {K17 : Int → Int → Int → Int → jW → Int × jW} {l2 l3 l5 : Int} {W : jW} : d_X2_readSum_r95_c5d_47 K4 K17 l2 l3 l5 W = g47 K4 K17 l2 l3 l5 W := by
  show (if d_X9_isSign_r68d 42 W = 0 then (if d_X9_isSign_r68d 47 W = 0 then d_X2_readSum_r95_c5d_105 K4 l2 l3 W else K17 l2 l3 6 (l5 + 1) (d_X9_step_r68d W)) else K17 l2 l3 5 (l5 + 1) (d_X9_step_r68d W)) = _
  rw [s105_5]
  rfl
theorem s17_5 {K4 : Int → Int → jW → Int × jW} : ∀ (r : Nat) (l2 l3 l4 l5 : Int) (W : jW), d_X2_readSum_r95_c5d_17 K4 r l2 l3 l4 l5 W = gS17 d_X2_readFactor_r95_c5d K4 r l2 l3 l4 l5 W
  | 0, _, _, _, _, _ => rfl
  | r + 1, l2, l3, l4, l5, W => by
    have g : (fun l2 l3 l4 l5 W => d_X2_readSum_r95_c5d_17 K4 r l2 l3 l4 l5 W) = fun l2 l3 l4 l5 W => gS17 d_X2_readFactor_r95_c5d K4 r l2 l3 l4 l5 W := funext fun l2 => funext fun l3 => funext fun l4 => funext fun l5 => funext fun W => s17_5 r l2 l3 l4 l5 W
    show (if 400 ≤ l5 then d_X2_readSum_r95_c5d_105 K4 l2 l3 W else if (d_X2_readFactor_r95_c5d W).1 = 0 then (0, (d_X2_readFactor_r95_c5d W).2) else (if l4 = -1 then d_X2_readSum_r95_c5d_47 K4 (fun l2 l3 l4 l5 W => d_X2_readSum_r95_c5d_17 K4 r l2 l3 l4 l5 W) l2 l3 l5 (d_X2_readFactor_r95_c5d W).2 else d_X2_readSum_r95_c5d_47 K4 (fun l2 l3 l4 l5 W => d_X2_readSum_r95_c5d_17 K4 r l2 l3 l4 l5 W) l2 l3 l5 (d_X2_emit_r95d l4 (d_X2_readFactor_r95_c5d W).2))) = _
    rw [g, s105_5, s47_5, s47_5]
    have x : ∀ Z : jW, (if l4 = -1 then g47 K4 (fun l2 l3 l4 l5 W => gS17 d_X2_readFactor_r95_c5d K4 r l2 l3 l4 l5 W) l2 l3 l5 Z else g47 K4 (fun l2 l3 l4 l5 W => gS17 d_X2_readFactor_r95_c5d K4 r l2 l3 l4 l5 W) l2 l3 l5 (d_X2_emit_r95d l4 Z)) = g47 K4 (fun l2 l3 l4 l5 W => gS17 d_X2_readFactor_r95_c5d K4 r l2 l3 l4 l5 W) l2 l3 l5 (xEm l4 Z) := by
      intro Z
      unfold xEm
      by_cases c : l4 = -1
      · rw [if_pos c, if_pos c]
      · rw [if_neg c, if_neg c]
    rw [x]
    rfl
theorem s4_5 : ∀ (r : Nat) (l2 l3 : Int) (W : jW), d_X2_readSum_r95_c5d_4 r l2 l3 W = gS4 d_X2_readFactor_r95_c5d r l2 l3 W
  | 0, _, _, _ => rfl
  | r + 1, l2, l3, W => by
    have g : (fun l2 l3 W => d_X2_readSum_r95_c5d_4 r l2 l3 W) = fun l2 l3 W => gS4 d_X2_readFactor_r95_c5d r l2 l3 W := funext fun l2 => funext fun l3 => funext fun W => s4_5 r l2 l3 W
    show (if 400 ≤ l3 then (0, vu W 68 2 (W.1 68 3)) else d_X2_readSum_r95_c5d_17 (fun l2 l3 W => d_X2_readSum_r95_c5d_4 r l2 l3 W) 401 l2 l3 (-1) 0 W) = _
    rw [g, s17_5]
    rfl
theorem sq_5 : d_X2_readSum_r95_c5d = gSm d_X2_readFactor_r95_c5d := funext fun W => s4_5 401 (-1) 0 W
theorem p229_5 {l2 : Int} {W : jW} : d_X2_readPlain_r95_c5d_229 l2 W = (1, xNt l2 W) := by
  unfold d_X2_readPlain_r95_c5d_229 xNt
  by_cases c : l2 = 0
  · rw [if_pos c, if_pos c]; rfl
  · rw [if_neg c, if_neg c]; rfl
theorem p46_5 {l2 : Int} {W : jW} : d_X2_readPlain_r95_c5d_46 l2 W = gN (gBo d_X2_readSum_r95_c5d (gTb d_X2_readTest_r95_c6d)) l2 W := by
  show _ = gNf l2 (gBo d_X2_readSum_r95_c5d (gTb d_X2_readTest_r95_c6d) W)
  unfold gBo gTb
  unfold gCm
  simp only [gNf_i, gNf_0, gNf_1]
  unfold d_X2_readPlain_r95_c5d_46 d_X2_readPlain_r95_c5d_190 d_X2_readPlain_r95_c5d_1000190 d_X2_readPlain_r95_c5d_900190
  simp only [p229_5]
  rfl
theorem p4_5 : ∀ (r : Nat) (l2 l3 : Int) (W : jW), d_X2_readPlain_r95_c5d_4 r l2 l3 W = gP4 (gBo d_X2_readSum_r95_c5d (gTb d_X2_readTest_r95_c6d)) r l2 l3 W
  | 0, _, _, _ => rfl
  | r + 1, l2, l3, W => by
    show (if 400 ≤ l3 then d_X2_readPlain_r95_c5d_46 l2 W else if d_X9_wordOf_r68_r14d W = 0 then (if l2 = 0 then d_X2_readPlain_r95_c5d_4 r 1 (l3 + 1) (d_X9_step_r68d W) else d_X2_readPlain_r95_c5d_4 r 0 (l3 + 1) (d_X9_step_r68d W)) else d_X2_readPlain_r95_c5d_46 l2 W) = _
    rw [p4_5 r 1 (l3 + 1), p4_5 r 0 (l3 + 1), p46_5]
    rfl
theorem pq_5 : d_X2_readPlain_r95_c5d = gPl (gBo d_X2_readSum_r95_c5d (gTb d_X2_readTest_r95_c6d)) := funext fun W => p4_5 401 0 0 W
theorem t17_5 {K4 : Int → Int → jW → Int × jW} : ∀ (r : Nat) (l2 l3 l4 l5 : Int) (W : jW), d_X2_readTest_r95_c5d_17 K4 r l2 l3 l4 l5 W = gT17 d_X2_readPlain_r95_c5d K4 r l2 l3 l4 l5 W
  | 0, _, _, _, _, _ => rfl
  | r + 1, l2, l3, l4, l5, W => by
    show (if 400 ≤ l5 then d_X2_readTest_r95_c5d_77 K4 l2 l3 W else if (d_X2_readPlain_r95_c5d W).1 = 0 then (0, (d_X2_readPlain_r95_c5d W).2) else if d_X9_wordOf_r68_r16d (d_X2_land_r95d l4 (d_X2_readPlain_r95_c5d W).2) = 0 then d_X2_readTest_r95_c5d_17 K4 r l2 l3 (d_X2_leap_r95d 12 (d_X2_land_r95d l4 (d_X2_readPlain_r95_c5d W).2)).1 (l5 + 1) (d_X9_step_r68d (d_X2_leap_r95d 12 (d_X2_land_r95d l4 (d_X2_readPlain_r95_c5d W).2)).2) else d_X2_readTest_r95_c5d_77 K4 l2 l3 (d_X2_land_r95d l4 (d_X2_readPlain_r95_c5d W).2)) = _
    rw [t17_5 r]
    rfl
theorem t4_5 : ∀ (r : Nat) (l2 l3 : Int) (W : jW), d_X2_readTest_r95_c5d_4 r l2 l3 W = gT4 d_X2_readPlain_r95_c5d r l2 l3 W
  | 0, _, _, _ => rfl
  | r + 1, l2, l3, W => by
    have g : (fun l2 l3 W => d_X2_readTest_r95_c5d_4 r l2 l3 W) = fun l2 l3 W => gT4 d_X2_readPlain_r95_c5d r l2 l3 W := funext fun l2 => funext fun l3 => funext fun W => t4_5 r l2 l3 W
    show (if 400 ≤ l3 then (0, vu W 68 2 (W.1 68 3)) else d_X2_readTest_r95_c5d_17 (fun l2 l3 W => d_X2_readTest_r95_c5d_4 r l2 l3 W) 401 l2 l3 (-1) 0 W) = _
    rw [g, t17_5]
    rfl
theorem tq_5 : d_X2_readTest_r95_c5d = gTs d_X2_readPlain_r95_c5d := funext fun W => t4_5 401 (-1) 0 W
theorem fa_c5 : pFa d_X2_readFactor_r95_c5d 5 := by rw [fq_5]; exact fa_e ⟨by decide, by decide⟩ sm_c6
theorem sm_c5 : pSm d_X2_readSum_r95_c5d 5 := by rw [sq_5]; exact sm_e fa_c5
theorem pl_c5 : pPl d_X2_readPlain_r95_c5d 5 := by rw [pq_5]; exact pl_e sm_c5 (tb_e ⟨by decide, by decide⟩ ts_c6)
theorem ts_c5 : pTz d_X2_readTest_r95_c5d 5 := by rw [tq_5]; exact ts_e pl_c5
theorem fq_4 : d_X2_readFactor_r95_c4d = gFa (gBr d_X2_readSum_r95_c5d) := funext fun _ => rfl
theorem s105_4 {K4 : Int → Int → jW → Int × jW} {l2 l3 : Int} {W : jW} : d_X2_readSum_r95_c4d_105 K4 l2 l3 W = g105 K4 l2 l3 W := by
  unfold d_X2_readSum_r95_c4d_105 g105 xEm
  by_cases c : l2 = -1
  · rw [if_pos c, if_pos c]; rfl
  · rw [if_neg c, if_neg c]; rfl
theorem s47_4 {K4 : Int → Int → jW → Int × jW} {K17 : Int → Int → Int → Int → jW → Int × jW} {l2 l3 l5 : Int} {W : jW} : d_X2_readSum_r95_c4d_47 K4 K17 l2 l3 l5 W = g47 K4 K17 l2 l3 l5 W := by
  show (if d_X9_isSign_r68d 42 W = 0 then (if d_X9_isSign_r68d 47 W = 0 then d_X2_readSum_r95_c4d_105 K4 l2 l3 W else K17 l2 l3 6 (l5 + 1) (d_X9_step_r68d W)) else K17 l2 l3 5 (l5 + 1) (d_X9_step_r68d W)) = _
  rw [s105_4]
  rfl
theorem s17_4 {K4 : Int → Int → jW → Int × jW} : ∀ (r : Nat) (l2 l3 l4 l5 : Int) (W : jW), d_X2_readSum_r95_c4d_17 K4 r l2 l3 l4 l5 W = gS17 d_X2_readFactor_r95_c4d K4 r l2 l3 l4 l5 W
  | 0, _, _, _, _, _ => rfl
  | r + 1, l2, l3, l4, l5, W => by
    have g : (fun l2 l3 l4 l5 W => d_X2_readSum_r95_c4d_17 K4 r l2 l3 l4 l5 W) = fun l2 l3 l4 l5 W => gS17 d_X2_readFactor_r95_c4d K4 r l2 l3 l4 l5 W := funext fun l2 => funext fun l3 => funext fun l4 => funext fun l5 => funext fun W => s17_4 r l2 l3 l4 l5 W
    show (if 400 ≤ l5 then d_X2_readSum_r95_c4d_105 K4 l2 l3 W else if (d_X2_readFactor_r95_c4d W).1 = 0 then (0, (d_X2_readFactor_r95_c4d W).2) else (if l4 = -1 then d_X2_readSum_r95_c4d_47 K4 (fun l2 l3 l4 l5 W => d_X2_readSum_r95_c4d_17 K4 r l2 l3 l4 l5 W) l2 l3 l5 (d_X2_readFactor_r95_c4d W).2 else d_X2_readSum_r95_c4d_47 K4 (fun l2 l3 l4 l5 W => d_X2_readSum_r95_c4d_17 K4 r l2 l3 l4 l5 W) l2 l3 l5 (d_X2_emit_r95d l4 (d_X2_readFactor_r95_c4d W).2))) = _
    rw [g, s105_4, s47_4, s47_4]
    have x : ∀ Z : jW, (if l4 = -1 then g47 K4 (fun l2 l3 l4 l5 W => gS17 d_X2_readFactor_r95_c4d K4 r l2 l3 l4 l5 W) l2 l3 l5 Z else g47 K4 (fun l2 l3 l4 l5 W => gS17 d_X2_readFactor_r95_c4d K4 r l2 l3 l4 l5 W) l2 l3 l5 (d_X2_emit_r95d l4 Z)) = g47 K4 (fun l2 l3 l4 l5 W => gS17 d_X2_readFactor_r95_c4d K4 r l2 l3 l4 l5 W) l2 l3 l5 (xEm l4 Z) := by
      intro Z
      unfold xEm
      by_cases c : l4 = -1
      · rw [if_pos c, if_pos c]
      · rw [if_neg c, if_neg c]
    rw [x]
    rfl
theorem s4_4 : ∀ (r : Nat) (l2 l3 : Int) (W : jW), d_X2_readSum_r95_c4d_4 r l2 l3 W = gS4 d_X2_readFactor_r95_c4d r l2 l3 W
  | 0, _, _, _ => rfl
  | r + 1, l2, l3, W => by
    have g : (fun l2 l3 W => d_X2_readSum_r95_c4d_4 r l2 l3 W) = fun l2 l3 W => gS4 d_X2_readFactor_r95_c4d r l2 l3 W := funext fun l2 => funext fun l3 => funext fun W => s4_4 r l2 l3 W
    show (if 400 ≤ l3 then (0, vu W 68 2 (W.1 68 3)) else d_X2_readSum_r95_c4d_17 (fun l2 l3 W => d_X2_readSum_r95_c4d_4 r l2 l3 W) 401 l2 l3 (-1) 0 W) = _
    rw [g, s17_4]
    rfl
theorem sq_4 : d_X2_readSum_r95_c4d = gSm d_X2_readFactor_r95_c4d := funext fun W => s4_4 401 (-1) 0 W
theorem p229_4 {l2 : Int} {W : jW} : d_X2_readPlain_r95_c4d_229 l2 W = (1, xNt l2 W) := by
  unfold d_X2_readPlain_r95_c4d_229 xNt
  by_cases c : l2 = 0
  · rw [if_pos c, if_pos c]; rfl
  · rw [if_neg c, if_neg c]; rfl
theorem p46_4 {l2 : Int} {W : jW} : d_X2_readPlain_r95_c4d_46 l2 W = gN (gBo d_X2_readSum_r95_c4d (gTb d_X2_readTest_r95_c5d)) l2 W := by
  show _ = gNf l2 (gBo d_X2_readSum_r95_c4d (gTb d_X2_readTest_r95_c5d) W)
  unfold gBo gTb
  unfold gCm
  simp only [gNf_i, gNf_0, gNf_1]
  unfold d_X2_readPlain_r95_c4d_46 d_X2_readPlain_r95_c4d_190 d_X2_readPlain_r95_c4d_1000190 d_X2_readPlain_r95_c4d_900190
  simp only [p229_4]
  rfl
theorem p4_4 : ∀ (r : Nat) (l2 l3 : Int) (W : jW), d_X2_readPlain_r95_c4d_4 r l2 l3 W = gP4 (gBo d_X2_readSum_r95_c4d (gTb d_X2_readTest_r95_c5d)) r l2 l3 W
  | 0, _, _, _ => rfl
  | r + 1, l2, l3, W => by
    show (if 400 ≤ l3 then d_X2_readPlain_r95_c4d_46 l2 W else if d_X9_wordOf_r68_r14d W = 0 then (if l2 = 0 then d_X2_readPlain_r95_c4d_4 r 1 (l3 + 1) (d_X9_step_r68d W) else d_X2_readPlain_r95_c4d_4 r 0 (l3 + 1) (d_X9_step_r68d W)) else d_X2_readPlain_r95_c4d_46 l2 W) = _
    rw [p4_4 r 1 (l3 + 1), p4_4 r 0 (l3 + 1), p46_4]
    rfl
theorem pq_4 : d_X2_readPlain_r95_c4d = gPl (gBo d_X2_readSum_r95_c4d (gTb d_X2_readTest_r95_c5d)) := funext fun W => p4_4 401 0 0 W
theorem t17_4 {K4 : Int → Int → jW → Int × jW} : ∀ (r : Nat) (l2 l3 l4 l5 : Int) (W : jW), d_X2_readTest_r95_c4d_17 K4 r l2 l3 l4 l5 W = gT17 d_X2_readPlain_r95_c4d K4 r l2 l3 l4 l5 W
  | 0, _, _, _, _, _ => rfl
  | r + 1, l2, l3, l4, l5, W => by
    show (if 400 ≤ l5 then d_X2_readTest_r95_c4d_77 K4 l2 l3 W else if (d_X2_readPlain_r95_c4d W).1 = 0 then (0, (d_X2_readPlain_r95_c4d W).2) else if d_X9_wordOf_r68_r16d (d_X2_land_r95d l4 (d_X2_readPlain_r95_c4d W).2) = 0 then d_X2_readTest_r95_c4d_17 K4 r l2 l3 (d_X2_leap_r95d 12 (d_X2_land_r95d l4 (d_X2_readPlain_r95_c4d W).2)).1 (l5 + 1) (d_X9_step_r68d (d_X2_leap_r95d 12 (d_X2_land_r95d l4 (d_X2_readPlain_r95_c4d W).2)).2) else d_X2_readTest_r95_c4d_77 K4 l2 l3 (d_X2_land_r95d l4 (d_X2_readPlain_r95_c4d W).2)) = _
    rw [t17_4 r]
    rfl
theorem t4_4 : ∀ (r : Nat) (l2 l3 : Int) (W : jW), d_X2_readTest_r95_c4d_4 r l2 l3 W = gT4 d_X2_readPlain_r95_c4d r l2 l3 W
  | 0, _, _, _ => rfl
  | r + 1, l2, l3, W => by
    have g : (fun l2 l3 W => d_X2_readTest_r95_c4d_4 r l2 l3 W) = fun l2 l3 W => gT4 d_X2_readPlain_r95_c4d r l2 l3 W := funext fun l2 => funext fun l3 => funext fun W => t4_4 r l2 l3 W
    show (if 400 ≤ l3 then (0, vu W 68 2 (W.1 68 3)) else d_X2_readTest_r95_c4d_17 (fun l2 l3 W => d_X2_readTest_r95_c4d_4 r l2 l3 W) 401 l2 l3 (-1) 0 W) = _
    rw [g, t17_4]
    rfl
theorem tq_4 : d_X2_readTest_r95_c4d = gTs d_X2_readPlain_r95_c4d := funext fun W => t4_4 401 (-1) 0 W
theorem fa_c4 : pFa d_X2_readFactor_r95_c4d 4 := by rw [fq_4]; exact fa_e ⟨by decide, by decide⟩ sm_c5
theorem sm_c4 : pSm d_X2_readSum_r95_c4d 4 := by rw [sq_4]; exact sm_e fa_c4
theorem pl_c4 : pPl d_X2_readPlain_r95_c4d 4 := by rw [pq_4]; exact pl_e sm_c4 (tb_e ⟨by decide, by decide⟩ ts_c5)
theorem ts_c4 : pTz d_X2_readTest_r95_c4d 4 := by rw [tq_4]; exact ts_e pl_c4
theorem fq_3 : d_X2_readFactor_r95_c3d = gFa (gBr d_X2_readSum_r95_c4d) := funext fun _ => rfl
theorem s105_3 {K4 : Int → Int → jW → Int × jW} {l2 l3 : Int} {W : jW} : d_X2_readSum_r95_c3d_105 K4 l2 l3 W = g105 K4 l2 l3 W := by
  unfold d_X2_readSum_r95_c3d_105 g105 xEm
  by_cases c : l2 = -1
  · rw [if_pos c, if_pos c]; rfl
  · rw [if_neg c, if_neg c]; rfl
theorem s47_3 {K4 : Int → Int → jW → Int × jW} {K17 : Int → Int → Int → Int → jW → Int × jW} {l2 l3 l5 : Int} {W : jW} : d_X2_readSum_r95_c3d_47 K4 K17 l2 l3 l5 W = g47 K4 K17 l2 l3 l5 W := by
  show (if d_X9_isSign_r68d 42 W = 0 then (if d_X9_isSign_r68d 47 W = 0 then d_X2_readSum_r95_c3d_105 K4 l2 l3 W else K17 l2 l3 6 (l5 + 1) (d_X9_step_r68d W)) else K17 l2 l3 5 (l5 + 1) (d_X9_step_r68d W)) = _
  rw [s105_3]
  rfl
theorem s17_3 {K4 : Int → Int → jW → Int × jW} : ∀ (r : Nat) (l2 l3 l4 l5 : Int) (W : jW), d_X2_readSum_r95_c3d_17 K4 r l2 l3 l4 l5 W = gS17 d_X2_readFactor_r95_c3d K4 r l2 l3 l4 l5 W
  | 0, _, _, _, _, _ => rfl
  | r + 1, l2, l3, l4, l5, W => by
    have g : (fun l2 l3 l4 l5 W => d_X2_readSum_r95_c3d_17 K4 r l2 l3 l4 l5 W) = fun l2 l3 l4 l5 W => gS17 d_X2_readFactor_r95_c3d K4 r l2 l3 l4 l5 W := funext fun l2 => funext fun l3 => funext fun l4 => funext fun l5 => funext fun W => s17_3 r l2 l3 l4 l5 W
    show (if 400 ≤ l5 then d_X2_readSum_r95_c3d_105 K4 l2 l3 W else if (d_X2_readFactor_r95_c3d W).1 = 0 then (0, (d_X2_readFactor_r95_c3d W).2) else (if l4 = -1 then d_X2_readSum_r95_c3d_47 K4 (fun l2 l3 l4 l5 W => d_X2_readSum_r95_c3d_17 K4 r l2 l3 l4 l5 W) l2 l3 l5 (d_X2_readFactor_r95_c3d W).2 else d_X2_readSum_r95_c3d_47 K4 (fun l2 l3 l4 l5 W => d_X2_readSum_r95_c3d_17 K4 r l2 l3 l4 l5 W) l2 l3 l5 (d_X2_emit_r95d l4 (d_X2_readFactor_r95_c3d W).2))) = _
    rw [g, s105_3, s47_3, s47_3]
    have x : ∀ Z : jW, (if l4 = -1 then g47 K4 (fun l2 l3 l4 l5 W => gS17 d_X2_readFactor_r95_c3d K4 r l2 l3 l4 l5 W) l2 l3 l5 Z else g47 K4 (fun l2 l3 l4 l5 W => gS17 d_X2_readFactor_r95_c3d K4 r l2 l3 l4 l5 W) l2 l3 l5 (d_X2_emit_r95d l4 Z)) = g47 K4 (fun l2 l3 l4 l5 W => gS17 d_X2_readFactor_r95_c3d K4 r l2 l3 l4 l5 W) l2 l3 l5 (xEm l4 Z) := by
      intro Z
      unfold xEm
      by_cases c : l4 = -1
      · rw [if_pos c, if_pos c]
      · rw [if_neg c, if_neg c]
    rw [x]
    rfl
theorem s4_3 : ∀ (r : Nat) (l2 l3 : Int) (W : jW), d_X2_readSum_r95_c3d_4 r l2 l3 W = gS4 d_X2_readFactor_r95_c3d r l2 l3 W
  | 0, _, _, _ => rfl
  | r + 1, l2, l3, W => by
    have g : (fun l2 l3 W => d_X2_readSum_r95_c3d_4 r l2 l3 W) = fun l2 l3 W => gS4 d_X2_readFactor_r95_c3d r l2 l3 W := funext fun l2 => funext fun l3 => funext fun W => s4_3 r l2 l3 W
    show (if 400 ≤ l3 then (0, vu W 68 2 (W.1 68 3)) else d_X2_readSum_r95_c3d_17 (fun l2 l3 W => d_X2_readSum_r95_c3d_4 r l2 l3 W) 401 l2 l3 (-1) 0 W) = _
    rw [g, s17_3]
    rfl
theorem sq_3 : d_X2_readSum_r95_c3d = gSm d_X2_readFactor_r95_c3d := funext fun W => s4_3 401 (-1) 0 W
theorem p229_3 {l2 : Int} {W : jW} : d_X2_readPlain_r95_c3d_229 l2 W = (1, xNt l2 W) := by
  unfold d_X2_readPlain_r95_c3d_229 xNt
  by_cases c : l2 = 0
  · rw [if_pos c, if_pos c]; rfl
  · rw [if_neg c, if_neg c]; rfl
theorem p46_3 {l2 : Int} {W : jW} : d_X2_readPlain_r95_c3d_46 l2 W = gN (gBo d_X2_readSum_r95_c3d (gTb d_X2_readTest_r95_c4d)) l2 W := by
  show _ = gNf l2 (gBo d_X2_readSum_r95_c3d (gTb d_X2_readTest_r95_c4d) W)
  unfold gBo gTb
  unfold gCm
  simp only [gNf_i, gNf_0, gNf_1]
  unfold d_X2_readPlain_r95_c3d_46 d_X2_readPlain_r95_c3d_190 d_X2_readPlain_r95_c3d_1000190 d_X2_readPlain_r95_c3d_900190
  simp only [p229_3]
  rfl
theorem p4_3 : ∀ (r : Nat) (l2 l3 : Int) (W : jW), d_X2_readPlain_r95_c3d_4 r l2 l3 W = gP4 (gBo d_X2_readSum_r95_c3d (gTb d_X2_readTest_r95_c4d)) r l2 l3 W
  | 0, _, _, _ => rfl
  | r + 1, l2, l3, W => by
    show (if 400 ≤ l3 then d_X2_readPlain_r95_c3d_46 l2 W else if d_X9_wordOf_r68_r14d W = 0 then (if l2 = 0 then d_X2_readPlain_r95_c3d_4 r 1 (l3 + 1) (d_X9_step_r68d W) else d_X2_readPlain_r95_c3d_4 r 0 (l3 + 1) (d_X9_step_r68d W)) else d_X2_readPlain_r95_c3d_46 l2 W) = _
    rw [p4_3 r 1 (l3 + 1), p4_3 r 0 (l3 + 1), p46_3]
    rfl
theorem pq_3 : d_X2_readPlain_r95_c3d = gPl (gBo d_X2_readSum_r95_c3d (gTb d_X2_readTest_r95_c4d)) := funext fun W => p4_3 401 0 0 W
theorem t17_3 {K4 : Int → Int → jW → Int × jW} : ∀ (r : Nat) (l2 l3 l4 l5 : Int) (W : jW), d_X2_readTest_r95_c3d_17 K4 r l2 l3 l4 l5 W = gT17 d_X2_readPlain_r95_c3d K4 r l2 l3 l4 l5 W
  | 0, _, _, _, _, _ => rfl
  | r + 1, l2, l3, l4, l5, W => by
    show (if 400 ≤ l5 then d_X2_readTest_r95_c3d_77 K4 l2 l3 W else if (d_X2_readPlain_r95_c3d W).1 = 0 then (0, (d_X2_readPlain_r95_c3d W).2) else if d_X9_wordOf_r68_r16d (d_X2_land_r95d l4 (d_X2_readPlain_r95_c3d W).2) = 0 then d_X2_readTest_r95_c3d_17 K4 r l2 l3 (d_X2_leap_r95d 12 (d_X2_land_r95d l4 (d_X2_readPlain_r95_c3d W).2)).1 (l5 + 1) (d_X9_step_r68d (d_X2_leap_r95d 12 (d_X2_land_r95d l4 (d_X2_readPlain_r95_c3d W).2)).2) else d_X2_readTest_r95_c3d_77 K4 l2 l3 (d_X2_land_r95d l4 (d_X2_readPlain_r95_c3d W).2)) = _
    rw [t17_3 r]
    rfl
theorem t4_3 : ∀ (r : Nat) (l2 l3 : Int) (W : jW), d_X2_readTest_r95_c3d_4 r l2 l3 W = gT4 d_X2_readPlain_r95_c3d r l2 l3 W
  | 0, _, _, _ => rfl
  | r + 1, l2, l3, W => by
    have g : (fun l2 l3 W => d_X2_readTest_r95_c3d_4 r l2 l3 W) = fun l2 l3 W => gT4 d_X2_readPlain_r95_c3d r l2 l3 W := funext fun l2 => funext fun l3 => funext fun W => t4_3 r l2 l3 W
    show (if 400 ≤ l3 then (0, vu W 68 2 (W.1 68 3)) else d_X2_readTest_r95_c3d_17 (fun l2 l3 W => d_X2_readTest_r95_c3d_4 r l2 l3 W) 401 l2 l3 (-1) 0 W) = _
    rw [g, t17_3]
    rfl
theorem tq_3 : d_X2_readTest_r95_c3d = gTs d_X2_readPlain_r95_c3d := funext fun W => t4_3 401 (-1) 0 W
theorem fa_c3 : pFa d_X2_readFactor_r95_c3d 3 := by rw [fq_3]; exact fa_e ⟨by decide, by decide⟩ sm_c4
theorem sm_c3 : pSm d_X2_readSum_r95_c3d 3 := by rw [sq_3]; exact sm_e fa_c3
theorem pl_c3 : pPl d_X2_readPlain_r95_c3d 3 := by rw [pq_3]; exact pl_e sm_c3 (tb_e ⟨by decide, by decide⟩ ts_c4)
theorem ts_c3 : pTz d_X2_readTest_r95_c3d 3 := by rw [tq_3]; exact ts_e pl_c3
theorem fq_2 : d_X2_readFactor_r95_c2d = gFa (gBr d_X2_readSum_r95_c3d) := funext fun _ => rfl
theorem s105_2 {K4 : Int → Int → jW → Int × jW} {l2 l3 : Int} {W : jW} : d_X2_readSum_r95_c2d_105 K4 l2 l3 W = g105 K4 l2 l3 W := by
  unfold d_X2_readSum_r95_c2d_105 g105 xEm
  by_cases c : l2 = -1
  · rw [if_pos c, if_pos c]; rfl
  · rw [if_neg c, if_neg c]; rfl
theorem s47_2 {K4 : Int → Int → jW → Int × jW} {K17 : Int → Int → Int → Int → jW → Int × jW} {l2 l3 l5 : Int} {W : jW} : d_X2_readSum_r95_c2d_47 K4 K17 l2 l3 l5 W = g47 K4 K17 l2 l3 l5 W := by
  show (if d_X9_isSign_r68d 42 W = 0 then (if d_X9_isSign_r68d 47 W = 0 then d_X2_readSum_r95_c2d_105 K4 l2 l3 W else K17 l2 l3 6 (l5 + 1) (d_X9_step_r68d W)) else K17 l2 l3 5 (l5 + 1) (d_X9_step_r68d W)) = _
  rw [s105_2]
  rfl
theorem s17_2 {K4 : Int → Int → jW → Int × jW} : ∀ (r : Nat) (l2 l3 l4 l5 : Int) (W : jW), d_X2_readSum_r95_c2d_17 K4 r l2 l3 l4 l5 W = gS17 d_X2_readFactor_r95_c2d K4 r l2 l3 l4 l5 W
  | 0, _, _, _, _, _ => rfl
  | r + 1, l2, l3, l4, l5, W => by
    have g : (fun l2 l3 l4 l5 W => d_X2_readSum_r95_c2d_17 K4 r l2 l3 l4 l5 W) = fun l2 l3 l4 l5 W => gS17 d_X2_readFactor_r95_c2d K4 r l2 l3 l4 l5 W := funext fun l2 => funext fun l3 => funext fun l4 => funext fun l5 => funext fun W => s17_2 r l2 l3 l4 l5 W
    show (if 400 ≤ l5 then d_X2_readSum_r95_c2d_105 K4 l2 l3 W else if (d_X2_readFactor_r95_c2d W).1 = 0 then (0, (d_X2_readFactor_r95_c2d W).2) else (if l4 = -1 then d_X2_readSum_r95_c2d_47 K4 (fun l2 l3 l4 l5 W => d_X2_readSum_r95_c2d_17 K4 r l2 l3 l4 l5 W) l2 l3 l5 (d_X2_readFactor_r95_c2d W).2 else d_X2_readSum_r95_c2d_47 K4 (fun l2 l3 l4 l5 W => d_X2_readSum_r95_c2d_17 K4 r l2 l3 l4 l5 W) l2 l3 l5 (d_X2_emit_r95d l4 (d_X2_readFactor_r95_c2d W).2))) = _
    rw [g, s105_2, s47_2, s47_2]
    have x : ∀ Z : jW, (if l4 = -1 then g47 K4 (fun l2 l3 l4 l5 W => gS17 d_X2_readFactor_r95_c2d K4 r l2 l3 l4 l5 W) l2 l3 l5 Z else g47 K4 (fun l2 l3 l4 l5 W => gS17 d_X2_readFactor_r95_c2d K4 r l2 l3 l4 l5 W) l2 l3 l5 (d_X2_emit_r95d l4 Z)) = g47 K4 (fun l2 l3 l4 l5 W => gS17 d_X2_readFactor_r95_c2d K4 r l2 l3 l4 l5 W) l2 l3 l5 (xEm l4 Z) := by
      intro Z
      unfold xEm
      by_cases c : l4 = -1
      · rw [if_pos c, if_pos c]
      · rw [if_neg c, if_neg c]
    rw [x]
    rfl
theorem s4_2 : ∀ (r : Nat) (l2 l3 : Int) (W : jW), d_X2_readSum_r95_c2d_4 r l2 l3 W = gS4 d_X2_readFactor_r95_c2d r l2 l3 W
  | 0, _, _, _ => rfl
  | r + 1, l2, l3, W => by
    have g : (fun l2 l3 W => d_X2_readSum_r95_c2d_4 r l2 l3 W) = fun l2 l3 W => gS4 d_X2_readFactor_r95_c2d r l2 l3 W := funext fun l2 => funext fun l3 => funext fun W => s4_2 r l2 l3 W
    show (if 400 ≤ l3 then (0, vu W 68 2 (W.1 68 3)) else d_X2_readSum_r95_c2d_17 (fun l2 l3 W => d_X2_readSum_r95_c2d_4 r l2 l3 W) 401 l2 l3 (-1) 0 W) = _
    rw [g, s17_2]
    rfl
theorem sq_2 : d_X2_readSum_r95_c2d = gSm d_X2_readFactor_r95_c2d := funext fun W => s4_2 401 (-1) 0 W
theorem p229_2 {l2 : Int} {W : jW} : d_X2_readPlain_r95_c2d_229 l2 W = (1, xNt l2 W) := by
  unfold d_X2_readPlain_r95_c2d_229 xNt
  by_cases c : l2 = 0
  · rw [if_pos c, if_pos c]; rfl
  · rw [if_neg c, if_neg c]; rfl
theorem p46_2 {l2 : Int} {W : jW} : d_X2_readPlain_r95_c2d_46 l2 W = gN (gBo d_X2_readSum_r95_c2d (gTb d_X2_readTest_r95_c3d)) l2 W := by
  show _ = gNf l2 (gBo d_X2_readSum_r95_c2d (gTb d_X2_readTest_r95_c3d) W)
  unfold gBo gTb
  unfold gCm
  simp only [gNf_i, gNf_0, gNf_1]
  unfold d_X2_readPlain_r95_c2d_46 d_X2_readPlain_r95_c2d_190 d_X2_readPlain_r95_c2d_1000190 d_X2_readPlain_r95_c2d_900190
  simp only [p229_2]
  rfl
theorem p4_2 : ∀ (r : Nat) (l2 l3 : Int) (W : jW), d_X2_readPlain_r95_c2d_4 r l2 l3 W = gP4 (gBo d_X2_readSum_r95_c2d (gTb d_X2_readTest_r95_c3d)) r l2 l3 W
  | 0, _, _, _ => rfl
  | r + 1, l2, l3, W => by
    show (if 400 ≤ l3 then d_X2_readPlain_r95_c2d_46 l2 W else if d_X9_wordOf_r68_r14d W = 0 then (if l2 = 0 then d_X2_readPlain_r95_c2d_4 r 1 (l3 + 1) (d_X9_step_r68d W) else d_X2_readPlain_r95_c2d_4 r 0 (l3 + 1) (d_X9_step_r68d W)) else d_X2_readPlain_r95_c2d_46 l2 W) = _
    rw [p4_2 r 1 (l3 + 1), p4_2 r 0 (l3 + 1), p46_2]
    rfl
theorem pq_2 : d_X2_readPlain_r95_c2d = gPl (gBo d_X2_readSum_r95_c2d (gTb d_X2_readTest_r95_c3d)) := funext fun W => p4_2 401 0 0 W
theorem t17_2 {K4 : Int → Int → jW → Int × jW} : ∀ (r : Nat) (l2 l3 l4 l5 : Int) (W : jW), d_X2_readTest_r95_c2d_17 K4 r l2 l3 l4 l5 W = gT17 d_X2_readPlain_r95_c2d K4 r l2 l3 l4 l5 W
  | 0, _, _, _, _, _ => rfl
  | r + 1, l2, l3, l4, l5, W => by
    show (if 400 ≤ l5 then d_X2_readTest_r95_c2d_77 K4 l2 l3 W else if (d_X2_readPlain_r95_c2d W).1 = 0 then (0, (d_X2_readPlain_r95_c2d W).2) else if d_X9_wordOf_r68_r16d (d_X2_land_r95d l4 (d_X2_readPlain_r95_c2d W).2) = 0 then d_X2_readTest_r95_c2d_17 K4 r l2 l3 (d_X2_leap_r95d 12 (d_X2_land_r95d l4 (d_X2_readPlain_r95_c2d W).2)).1 (l5 + 1) (d_X9_step_r68d (d_X2_leap_r95d 12 (d_X2_land_r95d l4 (d_X2_readPlain_r95_c2d W).2)).2) else d_X2_readTest_r95_c2d_77 K4 l2 l3 (d_X2_land_r95d l4 (d_X2_readPlain_r95_c2d W).2)) = _
    rw [t17_2 r]
    rfl
theorem t4_2 : ∀ (r : Nat) (l2 l3 : Int) (W : jW), d_X2_readTest_r95_c2d_4 r l2 l3 W = gT4 d_X2_readPlain_r95_c2d r l2 l3 W
  | 0, _, _, _ => rfl
  | r + 1, l2, l3, W => by
    have g : (fun l2 l3 W => d_X2_readTest_r95_c2d_4 r l2 l3 W) = fun l2 l3 W => gT4 d_X2_readPlain_r95_c2d r l2 l3 W := funext fun l2 => funext fun l3 => funext fun W => t4_2 r l2 l3 W
    show (if 400 ≤ l3 then (0, vu W 68 2 (W.1 68 3)) else d_X2_readTest_r95_c2d_17 (fun l2 l3 W => d_X2_readTest_r95_c2d_4 r l2 l3 W) 401 l2 l3 (-1) 0 W) = _
    rw [g, t17_2]
    rfl
theorem tq_2 : d_X2_readTest_r95_c2d = gTs d_X2_readPlain_r95_c2d := funext fun W => t4_2 401 (-1) 0 W
theorem fa_c2 : pFa d_X2_readFactor_r95_c2d 2 := by rw [fq_2]; exact fa_e ⟨by decide, by decide⟩ sm_c3
theorem sm_c2 : pSm d_X2_readSum_r95_c2d 2 := by rw [sq_2]; exact sm_e fa_c2
theorem pl_c2 : pPl d_X2_readPlain_r95_c2d 2 := by rw [pq_2]; exact pl_e sm_c2 (tb_e ⟨by decide, by decide⟩ ts_c3)
theorem ts_c2 : pTz d_X2_readTest_r95_c2d 2 := by rw [tq_2]; exact ts_e pl_c2
theorem fq_1 : d_X2_readFactor_r95_c1d = gFa (gBr d_X2_readSum_r95_c2d) := funext fun _ => rfl
theorem s105_1 {K4 : Int → Int → jW → Int × jW} {l2 l3 : Int} {W : jW} : d_X2_readSum_r95_c1d_105 K4 l2 l3 W = g105 K4 l2 l3 W := by
  unfold d_X2_readSum_r95_c1d_105 g105 xEm
  by_cases c : l2 = -1
  · rw [if_pos c, if_pos c]; rfl
  · rw [if_neg c, if_neg c]; rfl
theorem s47_1 {K4 : Int → Int → jW → Int × jW} {K17 : Int → Int → Int → Int → jW → Int × jW} {l2 l3 l5 : Int} {W : jW} : d_X2_readSum_r95_c1d_47 K4 K17 l2 l3 l5 W = g47 K4 K17 l2 l3 l5 W := by
  show (if d_X9_isSign_r68d 42 W = 0 then (if d_X9_isSign_r68d 47 W = 0 then d_X2_readSum_r95_c1d_105 K4 l2 l3 W else K17 l2 l3 6 (l5 + 1) (d_X9_step_r68d W)) else K17 l2 l3 5 (l5 + 1) (d_X9_step_r68d W)) = _
  rw [s105_1]
  rfl
theorem s17_1 {K4 : Int → Int → jW → Int × jW} : ∀ (r : Nat) (l2 l3 l4 l5 : Int) (W : jW), d_X2_readSum_r95_c1d_17 K4 r l2 l3 l4 l5 W = gS17 d_X2_readFactor_r95_c1d K4 r l2 l3 l4 l5 W
  | 0, _, _, _, _, _ => rfl
  | r + 1, l2, l3, l4, l5, W => by
    have g : (fun l2 l3 l4 l5 W => d_X2_readSum_r95_c1d_17 K4 r l2 l3 l4 l5 W) = fun l2 l3 l4 l5 W => gS17 d_X2_readFactor_r95_c1d K4 r l2 l3 l4 l5 W := funext fun l2 => funext fun l3 => funext fun l4 => funext fun l5 => funext fun W => s17_1 r l2 l3 l4 l5 W
    show (if 400 ≤ l5 then d_X2_readSum_r95_c1d_105 K4 l2 l3 W else if (d_X2_readFactor_r95_c1d W).1 = 0 then (0, (d_X2_readFactor_r95_c1d W).2) else (if l4 = -1 then d_X2_readSum_r95_c1d_47 K4 (fun l2 l3 l4 l5 W => d_X2_readSum_r95_c1d_17 K4 r l2 l3 l4 l5 W) l2 l3 l5 (d_X2_readFactor_r95_c1d W).2 else d_X2_readSum_r95_c1d_47 K4 (fun l2 l3 l4 l5 W => d_X2_readSum_r95_c1d_17 K4 r l2 l3 l4 l5 W) l2 l3 l5 (d_X2_emit_r95d l4 (d_X2_readFactor_r95_c1d W).2))) = _
    rw [g, s105_1, s47_1, s47_1]
    have x : ∀ Z : jW, (if l4 = -1 then g47 K4 (fun l2 l3 l4 l5 W => gS17 d_X2_readFactor_r95_c1d K4 r l2 l3 l4 l5 W) l2 l3 l5 Z else g47 K4 (fun l2 l3 l4 l5 W => gS17 d_X2_readFactor_r95_c1d K4 r l2 l3 l4 l5 W) l2 l3 l5 (d_X2_emit_r95d l4 Z)) = g47 K4 (fun l2 l3 l4 l5 W => gS17 d_X2_readFactor_r95_c1d K4 r l2 l3 l4 l5 W) l2 l3 l5 (xEm l4 Z) := by
      intro Z
      unfold xEm
      by_cases c : l4 = -1
      · rw [if_pos c, if_pos c]
      · rw [if_neg c, if_neg c]
    rw [x]
    rfl
theorem s4_1 : ∀ (r : Nat) (l2 l3 : Int) (W : jW), d_X2_readSum_r95_c1d_4 r l2 l3 W = gS4 d_X2_readFactor_r95_c1d r l2 l3 W
  | 0, _, _, _ => rfl
  | r + 1, l2, l3, W => by
    have g : (fun l2 l3 W => d_X2_readSum_r95_c1d_4 r l2 l3 W) = fun l2 l3 W => gS4 d_X2_readFactor_r95_c1d r l2 l3 W := funext fun l2 => funext fun l3 => funext fun W => s4_1 r l2 l3 W
    show (if 400 ≤ l3 then (0, vu W 68 2 (W.1 68 3)) else d_X2_readSum_r95_c1d_17 (fun l2 l3 W => d_X2_readSum_r95_c1d_4 r l2 l3 W) 401 l2 l3 (-1) 0 W) = _
    rw [g, s17_1]
    rfl
theorem sq_1 : d_X2_readSum_r95_c1d = gSm d_X2_readFactor_r95_c1d := funext fun W => s4_1 401 (-1) 0 W
theorem p229_1 {l2 : Int} {W : jW} : d_X2_readPlain_r95_c1d_229 l2 W = (1, xNt l2 W) := by
  unfold d_X2_readPlain_r95_c1d_229 xNt
  by_cases c : l2 = 0
  · rw [if_pos c, if_pos c]; rfl
  · rw [if_neg c, if_neg c]; rfl
theorem p46_1 {l2 : Int} {W : jW} : d_X2_readPlain_r95_c1d_46 l2 W = gN (gBo d_X2_readSum_r95_c1d (gTb d_X2_readTest_r95_c2d)) l2 W := by
  show _ = gNf l2 (gBo d_X2_readSum_r95_c1d (gTb d_X2_readTest_r95_c2d) W)
  unfold gBo gTb
  unfold gCm
  simp only [gNf_i, gNf_0, gNf_1]
  unfold d_X2_readPlain_r95_c1d_46 d_X2_readPlain_r95_c1d_190 d_X2_readPlain_r95_c1d_1000190 d_X2_readPlain_r95_c1d_900190
  simp only [p229_1]
  rfl
theorem p4_1 : ∀ (r : Nat) (l2 l3 : Int) (W : jW), d_X2_readPlain_r95_c1d_4 r l2 l3 W = gP4 (gBo d_X2_readSum_r95_c1d (gTb d_X2_readTest_r95_c2d)) r l2 l3 W
  | 0, _, _, _ => rfl
  | r + 1, l2, l3, W => by
    show (if 400 ≤ l3 then d_X2_readPlain_r95_c1d_46 l2 W else if d_X9_wordOf_r68_r14d W = 0 then (if l2 = 0 then d_X2_readPlain_r95_c1d_4 r 1 (l3 + 1) (d_X9_step_r68d W) else d_X2_readPlain_r95_c1d_4 r 0 (l3 + 1) (d_X9_step_r68d W)) else d_X2_readPlain_r95_c1d_46 l2 W) = _
    rw [p4_1 r 1 (l3 + 1), p4_1 r 0 (l3 + 1), p46_1]
    rfl
theorem pq_1 : d_X2_readPlain_r95_c1d = gPl (gBo d_X2_readSum_r95_c1d (gTb d_X2_readTest_r95_c2d)) := funext fun W => p4_1 401 0 0 W
theorem t17_1 {K4 : Int → Int → jW → Int × jW} : ∀ (r : Nat) (l2 l3 l4 l5 : Int) (W : jW), d_X2_readTest_r95_c1d_17 K4 r l2 l3 l4 l5 W = gT17 d_X2_readPlain_r95_c1d K4 r l2 l3 l4 l5 W
  | 0, _, _, _, _, _ => rfl
  | r + 1, l2, l3, l4, l5, W => by
    show (if 400 ≤ l5 then d_X2_readTest_r95_c1d_77 K4 l2 l3 W else if (d_X2_readPlain_r95_c1d W).1 = 0 then (0, (d_X2_readPlain_r95_c1d W).2) else if d_X9_wordOf_r68_r16d (d_X2_land_r95d l4 (d_X2_readPlain_r95_c1d W).2) = 0 then d_X2_readTest_r95_c1d_17 K4 r l2 l3 (d_X2_leap_r95d 12 (d_X2_land_r95d l4 (d_X2_readPlain_r95_c1d W).2)).1 (l5 + 1) (d_X9_step_r68d (d_X2_leap_r95d 12 (d_X2_land_r95d l4 (d_X2_readPlain_r95_c1d W).2)).2) else d_X2_readTest_r95_c1d_77 K4 l2 l3 (d_X2_land_r95d l4 (d_X2_readPlain_r95_c1d W).2)) = _
    rw [t17_1 r]
    rfl
theorem t4_1 : ∀ (r : Nat) (l2 l3 : Int) (W : jW), d_X2_readTest_r95_c1d_4 r l2 l3 W = gT4 d_X2_readPlain_r95_c1d r l2 l3 W
  | 0, _, _, _ => rfl
  | r + 1, l2, l3, W => by
    have g : (fun l2 l3 W => d_X2_readTest_r95_c1d_4 r l2 l3 W) = fun l2 l3 W => gT4 d_X2_readPlain_r95_c1d r l2 l3 W := funext fun l2 => funext fun l3 => funext fun W => t4_1 r l2 l3 W
    show (if 400 ≤ l3 then (0, vu W 68 2 (W.1 68 3)) else d_X2_readTest_r95_c1d_17 (fun l2 l3 W => d_X2_readTest_r95_c1d_4 r l2 l3 W) 401 l2 l3 (-1) 0 W) = _
    rw [g, t17_1]
    rfl
theorem tq_1 : d_X2_readTest_r95_c1d = gTs d_X2_readPlain_r95_c1d := funext fun W => t4_1 401 (-1) 0 W
theorem fa_c1 : pFa d_X2_readFactor_r95_c1d 1 := by rw [fq_1]; exact fa_e ⟨by decide, by decide⟩ sm_c2
theorem sm_c1 : pSm d_X2_readSum_r95_c1d 1 := by rw [sq_1]; exact sm_e fa_c1
theorem pl_c1 : pPl d_X2_readPlain_r95_c1d 1 := by rw [pq_1]; exact pl_e sm_c1 (tb_e ⟨by decide, by decide⟩ ts_c2)
theorem ts_c1 : pTz d_X2_readTest_r95_c1d 1 := by rw [tq_1]; exact ts_e pl_c1
theorem fq_0 : d_X2_readFactor_r95_c0d = gFa (gBr d_X2_readSum_r95_c1d) := funext fun _ => rfl
theorem s105_0 {K4 : Int → Int → jW → Int × jW} {l2 l3 : Int} {W : jW} : d_X2_readSum_r95_c0d_105 K4 l2 l3 W = g105 K4 l2 l3 W := by
  unfold d_X2_readSum_r95_c0d_105 g105 xEm
  by_cases c : l2 = -1
  · rw [if_pos c, if_pos c]; rfl
  · rw [if_neg c, if_neg c]; rfl
theorem s47_0 {K4 : Int → Int → jW → Int × jW} {K17 : Int → Int → Int → Int → jW → Int × jW} {l2 l3 l5 : Int} {W : jW} : d_X2_readSum_r95_c0d_47 K4 K17 l2 l3 l5 W = g47 K4 K17 l2 l3 l5 W := by
  show (if d_X9_isSign_r68d 42 W = 0 then (if d_X9_isSign_r68d 47 W = 0 then d_X2_readSum_r95_c0d_105 K4 l2 l3 W else K17 l2 l3 6 (l5 + 1) (d_X9_step_r68d W)) else K17 l2 l3 5 (l5 + 1) (d_X9_step_r68d W)) = _
  rw [s105_0]
  rfl
theorem s17_0 {K4 : Int → Int → jW → Int × jW} : ∀ (r : Nat) (l2 l3 l4 l5 : Int) (W : jW), d_X2_readSum_r95_c0d_17 K4 r l2 l3 l4 l5 W = gS17 d_X2_readFactor_r95_c0d K4 r l2 l3 l4 l5 W
  | 0, _, _, _, _, _ => rfl
  | r + 1, l2, l3, l4, l5, W => by
    have g : (fun l2 l3 l4 l5 W => d_X2_readSum_r95_c0d_17 K4 r l2 l3 l4 l5 W) = fun l2 l3 l4 l5 W => gS17 d_X2_readFactor_r95_c0d K4 r l2 l3 l4 l5 W := funext fun l2 => funext fun l3 => funext fun l4 => funext fun l5 => funext fun W => s17_0 r l2 l3 l4 l5 W
    show (if 400 ≤ l5 then d_X2_readSum_r95_c0d_105 K4 l2 l3 W else if (d_X2_readFactor_r95_c0d W).1 = 0 then (0, (d_X2_readFactor_r95_c0d W).2) else (if l4 = -1 then d_X2_readSum_r95_c0d_47 K4 (fun l2 l3 l4 l5 W => d_X2_readSum_r95_c0d_17 K4 r l2 l3 l4 l5 W) l2 l3 l5 (d_X2_readFactor_r95_c0d W).2 else d_X2_readSum_r95_c0d_47 K4 (fun l2 l3 l4 l5 W => d_X2_readSum_r95_c0d_17 K4 r l2 l3 l4 l5 W) l2 l3 l5 (d_X2_emit_r95d l4 (d_X2_readFactor_r95_c0d W).2))) = _
    rw [g, s105_0, s47_0, s47_0]
    have x : ∀ Z : jW, (if l4 = -1 then g47 K4 (fun l2 l3 l4 l5 W => gS17 d_X2_readFactor_r95_c0d K4 r l2 l3 l4 l5 W) l2 l3 l5 Z else g47 K4 (fun l2 l3 l4 l5 W => gS17 d_X2_readFactor_r95_c0d K4 r l2 l3 l4 l5 W) l2 l3 l5 (d_X2_emit_r95d l4 Z)) = g47 K4 (fun l2 l3 l4 l5 W => gS17 d_X2_readFactor_r95_c0d K4 r l2 l3 l4 l5 W) l2 l3 l5 (xEm l4 Z) := by
      intro Z
      unfold xEm
      by_cases c : l4 = -1
      · rw [if_pos c, if_pos c]
      · rw [if_neg c, if_neg c]
    rw [x]
    rfl
theorem s4_0 : ∀ (r : Nat) (l2 l3 : Int) (W : jW), d_X2_readSum_r95_c0d_4 r l2 l3 W = gS4 d_X2_readFactor_r95_c0d r l2 l3 W
  | 0, _, _, _ => rfl
  | r + 1, l2, l3, W => by
    have g : (fun l2 l3 W => d_X2_readSum_r95_c0d_4 r l2 l3 W) = fun l2 l3 W => gS4 d_X2_readFactor_r95_c0d r l2 l3 W := funext fun l2 => funext fun l3 => funext fun W => s4_0 r l2 l3 W
    show (if 400 ≤ l3 then (0, vu W 68 2 (W.1 68 3)) else d_X2_readSum_r95_c0d_17 (fun l2 l3 W => d_X2_readSum_r95_c0d_4 r l2 l3 W) 401 l2 l3 (-1) 0 W) = _
    rw [g, s17_0]
    rfl
theorem sq_0 : d_X2_readSum_r95_c0d = gSm d_X2_readFactor_r95_c0d := funext fun W => s4_0 401 (-1) 0 W
theorem p229_0 {l2 : Int} {W : jW} : d_X2_readPlain_r95_c0d_229 l2 W = (1, xNt l2 W) := by
  unfold d_X2_readPlain_r95_c0d_229 xNt
  by_cases c : l2 = 0
  · rw [if_pos c, if_pos c]; rfl
  · rw [if_neg c, if_neg c]; rfl
theorem p46_0 {l2 : Int} {W : jW} : d_X2_readPlain_r95_c0d_46 l2 W = gN (gBo d_X2_readSum_r95_c0d (gTb d_X2_readTest_r95_c1d)) l2 W := by
  show _ = gNf l2 (gBo d_X2_readSum_r95_c0d (gTb d_X2_readTest_r95_c1d) W)
  unfold gBo gTb
  unfold gCm
  simp only [gNf_i, gNf_0, gNf_1]
  unfold d_X2_readPlain_r95_c0d_46 d_X2_readPlain_r95_c0d_190 d_X2_readPlain_r95_c0d_1000190 d_X2_readPlain_r95_c0d_900190
  simp only [p229_0]
  rfl
theorem p4_0 : ∀ (r : Nat) (l2 l3 : Int) (W : jW), d_X2_readPlain_r95_c0d_4 r l2 l3 W = gP4 (gBo d_X2_readSum_r95_c0d (gTb d_X2_readTest_r95_c1d)) r l2 l3 W
  | 0, _, _, _ => rfl
  | r + 1, l2, l3, W => by
    show (if 400 ≤ l3 then d_X2_readPlain_r95_c0d_46 l2 W else if d_X9_wordOf_r68_r14d W = 0 then (if l2 = 0 then d_X2_readPlain_r95_c0d_4 r 1 (l3 + 1) (d_X9_step_r68d W) else d_X2_readPlain_r95_c0d_4 r 0 (l3 + 1) (d_X9_step_r68d W)) else d_X2_readPlain_r95_c0d_46 l2 W) = _
    rw [p4_0 r 1 (l3 + 1), p4_0 r 0 (l3 + 1), p46_0]
    rfl
theorem pq_0 : d_X2_readPlain_r95_c0d = gPl (gBo d_X2_readSum_r95_c0d (gTb d_X2_readTest_r95_c1d)) := funext fun W => p4_0 401 0 0 W
theorem t17_0 {K4 : Int → Int → jW → Int × jW} : ∀ (r : Nat) (l2 l3 l4 l5 : Int) (W : jW), d_X2_readTest_r95_c0d_17 K4 r l2 l3 l4 l5 W = gT17 d_X2_readPlain_r95_c0d K4 r l2 l3 l4 l5 W
  | 0, _, _, _, _, _ => rfl
  | r + 1, l2, l3, l4, l5, W => by
    show (if 400 ≤ l5 then d_X2_readTest_r95_c0d_77 K4 l2 l3 W else if (d_X2_readPlain_r95_c0d W).1 = 0 then (0, (d_X2_readPlain_r95_c0d W).2) else if d_X9_wordOf_r68_r16d (d_X2_land_r95d l4 (d_X2_readPlain_r95_c0d W).2) = 0 then d_X2_readTest_r95_c0d_17 K4 r l2 l3 (d_X2_leap_r95d 12 (d_X2_land_r95d l4 (d_X2_readPlain_r95_c0d W).2)).1 (l5 + 1) (d_X9_step_r68d (d_X2_leap_r95d 12 (d_X2_land_r95d l4 (d_X2_readPlain_r95_c0d W).2)).2) else d_X2_readTest_r95_c0d_77 K4 l2 l3 (d_X2_land_r95d l4 (d_X2_readPlain_r95_c0d W).2)) = _
    rw [t17_0 r]
    rfl
theorem t4_0 : ∀ (r : Nat) (l2 l3 : Int) (W : jW), d_X2_readTest_r95_c0d_4 r l2 l3 W = gT4 d_X2_readPlain_r95_c0d r l2 l3 W
  | 0, _, _, _ => rfl
  | r + 1, l2, l3, W => by
    have g : (fun l2 l3 W => d_X2_readTest_r95_c0d_4 r l2 l3 W) = fun l2 l3 W => gT4 d_X2_readPlain_r95_c0d r l2 l3 W := funext fun l2 => funext fun l3 => funext fun W => t4_0 r l2 l3 W
    show (if 400 ≤ l3 then (0, vu W 68 2 (W.1 68 3)) else d_X2_readTest_r95_c0d_17 (fun l2 l3 W => d_X2_readTest_r95_c0d_4 r l2 l3 W) 401 l2 l3 (-1) 0 W) = _
    rw [g, t17_0]
    rfl
theorem tq_0 : d_X2_readTest_r95_c0d = gTs d_X2_readPlain_r95_c0d := funext fun W => t4_0 401 (-1) 0 W
theorem fa_c0 : pFa d_X2_readFactor_r95_c0d 0 := by rw [fq_0]; exact fa_e ⟨by decide, by decide⟩ sm_c1
theorem sm_c0 : pSm d_X2_readSum_r95_c0d 0 := by rw [sq_0]; exact sm_e fa_c0
theorem pl_c0 : pPl d_X2_readPlain_r95_c0d 0 := by rw [pq_0]; exact pl_e sm_c0 (tb_e ⟨by decide, by decide⟩ ts_c1)
theorem ts_c0 : pTz d_X2_readTest_r95_c0d 0 := by rw [tq_0]; exact ts_e pl_c0
end jG60

section jG61
/-! pure: a SUM or a TEST of a CLAUSE read by both, whole -/
def pB (X M : jW) (c : yC) : Prop := pTk X M ∧ (M.1 125 49 = c.1 ∧ M.1 148 = c.2.1 ∧ M.1 149 = c.2.2) ∧ M.1 125 14 = 0 ∧ X.1 95 5 = M.1 125 52 ∧ (0 ≤ M.1 125 52 ∧ M.1 125 52 ≤ 60) ∧ (0 ≤ c.1 ∧ c.1 ≤ M.1 125 9) ∧ pWs X ∧ (0 ≤ X.1 95 4 ∧ X.1 95 4 ≤ 2 * M.1 125 9 + 1)
def mEx (M : jW) : jW := vu (vu M 125 55 0) 125 56 0
theorem pB_a {X M : jW} {c : yC} (h : pB X M c) : pA X (mEx M) [] c ∧ (mEx M).1 125 56 = 0 ∧ (mEx M).1 125 9 = M.1 125 9 := by
  obtain ⟨h1, ⟨h2, h3, h4⟩, h5, h6, h7, h8, h9, h10⟩ := h
  have u (i : Nat) (hi : i ≠ 55 ∧ i ≠ 56) : (mEx M).1 125 i = M.1 125 i := (vu_n (by omega)).trans (vu_n (by omega))
  have mt : pMt M (mEx M) := pMt_t (pMt_u (by omega)) (pMt_u (by omega))
  refine ⟨⟨pTk_m h1 mt, ⟨(vu_n (by omega)).trans (vu_e rfl), trivial, (u 49 (by omega)).trans h2, ?_, ?_⟩, (u 14 (by omega)).trans h5, by rw [u 52 (by omega)]; exact h6, by rw [u 52 (by omega)]; exact h7, ?_, h9, h10.1⟩, vu_e rfl, u 9 (by omega)⟩
  · exact (vu_c (by decide)).trans ((vu_c (by decide)).trans h3)
  · exact (vu_c (by decide)).trans ((vu_c (by decide)).trans h4)
  · rw [u 9 (by omega)]
    show 0 ≤ c.1 ∧ c.1 + ((0 : Nat) : Int) ≤ _
    omega
/-- how a SUM or TEST ends at last -/
def pEo (X : jW) (c : yC) (f : Int) (xr : Int × jW) (W : jW) (ts : Prop) : Prop := (xr.1 = 0 ∧ pBd xr.2 W) ∨ (xr.1 = 1 ∧ ∃ g : yC, pTk xr.2 W ∧ (W.1 125 49 = g.1 ∧ W.1 148 = g.2.1 ∧ W.1 149 = g.2.2) ∧ W.1 125 14 = 0 ∧ xr.2.1 95 5 = W.1 125 52 ∧ (0 ≤ W.1 125 52 ∧ W.1 125 52 ≤ 60) ∧ (0 ≤ g.1 ∧ g.1 ≤ W.1 125 9) ∧ pWs xr.2 ∧ (0 ≤ xr.2.1 95 4 ∧ xr.2.1 95 4 ≤ 2 * W.1 125 9) ∧ f < W.1 125 9 ∧ (∀ i : Nat, (i : Int) < X.1 95 4 → xr.2.1 97 i = X.1 97 i) ∧ yUp c.1 c g ∧ ∃ m : Int, m ≤ 60 ∧ yPc (xr.2.1 97) g (X.1 95 4) (xr.2.1 95 4) m c.1 g.1 ts)
theorem eo_e {X Y N : jW} {k : yL} {e c g : yC} {f : Int} {ts : Prop} {z : Int} (hz : z = 1) (h0 : 0 ≤ X.1 95 5) (hA : pA Y N k e) (hf : f < N.1 125 9) (hy : yse 1 k e = ([], g)) (hb : Y.1 95 4 ≤ 2 * N.1 125 9) (h1 : ∀ i : Nat, (i : Int) < X.1 95 4 → Y.1 97 i = X.1 97 i) (h2 : yUp c.1 c g) (h3 : yPc (Y.1 97) g (X.1 95 4) (Y.1 95 4) (Y.1 95 5 - X.1 95 5) c.1 g.1 ts) : pEo X c f (z, Y) (d_X12_settle_r125d 1 N) ts := by
  have p9 := pA_9 hA
  have se := se_y (k := 1) ⟨by decide, by decide⟩ p9.2.2.1 hA.2.1
  have yl := yse_l (k := 1) k e
  rw [hy] at se yl
  have yl2 : g.1 + ((0 : Nat) : Int) ≤ e.1 + k.length := yl.2
  have se2 : pY (d_X12_settle_r125d 1 N) [] g := se
  have mt := pMt_se (M := N) (k := 1)
  have mo := pMo_se (M := N) (k := 1)
  have hP := pPc_l h3
  obtain ⟨a1, a2, a3, a4, a5, a6, a7, a8⟩ := hA
  refine Or.inr ⟨hz, g, pTk_m a1 mt, ⟨se2.2.2.1, se2.2.2.2.1, se2.2.2.2.2⟩, mo.1.trans a3, a4.trans mo.2.1.symm, by rw [mo.2.1]; exact a5, by rw [mt.2.1]; omega, a7, by rw [mt.2.1]; exact ⟨a8, hb⟩, by rw [mt.2.1]; exact hf, h1, h2, Y.1 95 5 - X.1 95 5, by omega, h3⟩
theorem r7_0 {a b : Int} (h : a + (([] : yL).length : Int) ≤ b) : a ≤ b := by
  have z : ([] : yL).length = 0 := rfl
  rw [z] at h
  omega
theorem ex_s {X M : jW} {c : yC} (h : pB X M c) (hb : X.1 95 4 ≤ 2 * M.1 125 9) : pEo X c (M.1 125 9) (d_X2_readSum_r95_c0d X) (d_X12_readExpression_r125d 0 M) False := by
  obtain ⟨A, o0, e9⟩ := pB_a h
  have hr : d_X12_readExpression_r125d 0 M = d_X12_readExpression_r125d_20 1612 0 1 (mEx M) := if_pos rfl
  rw [hr]
  have p9 := pA_9 A
  have q5 := A.2.2.2.1
  have q6 := A.2.2.2.2.1
  rcases sm_c0 X (mEx M) [] c 1612 0 A o0 (by rw [e9]; show X.1 95 4 + ((0 : Nat) : Int) ≤ _; omega) (by omega) (fun _ _ _ => rfl) with ⟨z0, bd⟩ | ⟨z1, N, s, k, e, g, R1, R2, R3, R4, R5, R6, R7, R8, R9, R10, R11, R12, R13⟩
  · exact Or.inl ⟨z0, bd⟩
  have pN := pA_9 R3
  have badN := R3.2.2.1
  obtain ⟨s1, rfl⟩ : ∃ s1, s = s1 + 1 + 1 := ⟨s - 2, by omega⟩
  have inn : d_X12_inner_r125d N = -1 := (in_e pN.2.2.1 R3.2.1).trans R11
  have b4 : d_X12_behindSum_r125d_100062 0 (-1) N = (4, N) := (if_neg (by decide)).trans ((if_pos rfl).trans (if_pos rfl))
  rw [R1, (yx_s badN).1, bs_n R13, inn, b4]
  show pEo X c _ _ (d_X12_readExpression_r125d_20 (s1 + 1) 0 4 N) _
  rw [(yx_s badN).2.2.2.2]
  have y1 : yse 1 k e = ([], g) := by
    rw [← yse_t (show (1 : Int) ≤ 5 from by decide) k e, R6]
    rfl
  rw [e9] at R5
  exact eo_e z1 (by omega) R3 R5 y1 (r7_0 R7) R8 R9 R10
theorem ex_t {X M : jW} {c : yC} (h : pB X M c) (hb : X.1 95 4 ≤ 2 * M.1 125 9) : pEo X c (M.1 125 9) (d_X2_readTest_r95_c0d X) (d_X12_readExpression_r125d 1 M) True := by
  obtain ⟨A, o0, e9⟩ := pB_a h
  have hr : d_X12_readExpression_r125d 1 M = d_X12_readExpression_r125d_20 1612 1 0 (mEx M) := if_neg (by decide)
  rw [hr]
  have p9 := pA_9 A
  have q5 := A.2.2.2.1
  have q6 := A.2.2.2.2.1
  rcases ts_c0 X (mEx M) [] c 1612 A o0 (by rw [e9]; show X.1 95 4 + ((0 : Nat) : Int) ≤ _; omega) (by omega) (fun _ _ _ => rfl) (by show (-1 : Int) ≠ 31; decide) rfl with ⟨z0, bd⟩ | ⟨z1, N, s, k, e, g, R1, R2, R3, R4, R5, R6, R7, R8, R9, R10, R11, R12⟩
  · exact Or.inl ⟨z0, bd⟩
  have pN := pA_9 R3
  have badN := R3.2.2.1
  obtain ⟨s1, rfl⟩ : ∃ s1, s = s1 + 1 + 1 := ⟨s - 2, by omega⟩
  have inn : d_X12_inner_r125d N = -1 := (in_e pN.2.2.1 R3.2.1).trans R11
  rw [R1, (yx_s badN).2.2.2.1, btx_n badN R12 inn, if_pos rfl]
  show pEo X c _ _ (d_X12_readExpression_r125d_20 (s1 + 1) 1 4 N) _
  rw [(yx_s badN).2.2.2.2]
  rw [e9] at R5
  exact eo_e z1 (by omega) R3 R5 R6 (r7_0 R7) R8 R9 R10
/-- the next TOKEN of a CLAUSE -/
theorem pB_n {X M : jW} {c : yC} (h : pB X M c) (ht : M.1 125 11 ≠ 0) : pB (d_X9_step_r68d X) (d_X12_next_r125d M) c ∧ M.1 125 9 < (d_X12_next_r125d M).1 125 9 ∧ (d_X9_step_r68d X).1 95 4 ≤ 2 * (d_X12_next_r125d M).1 125 9 := by
  obtain ⟨⟨t1, t2, t3, t4, t5, t6⟩, ⟨h2, h3, h4⟩, h5, h6, h7, h8, h9, h10⟩ := h
  have q : M.1 125 9 < M.1 125 10 := by
    rcases t6 with a | a | a | a
    · exact absurd a.1 ht
    · omega
    · exact a.2.1
    · exact a.2.1
  have F := fr_d_X12_next_r125d M
  have G := fr_d_X9_step_r68d X
  have n := nx_9 M
  have e95 : (d_X9_step_r68d X).1 95 = X.1 95 := pF_c G rfl
  have f52 := F.1 125 52 rfl
  have f14 := F.1 125 14 rfl
  refine ⟨⟨tk_n t1 t3 (by omega) (by omega), ⟨(F.1 125 49 rfl).trans h2, (pF_c F rfl).trans h3, (pF_c F rfl).trans h4⟩, f14.trans h5, by rw [e95, f52]; exact h6, by rw [f52]; exact h7, by omega, pWs_c h9 (pXr_f G rfl), by rw [e95]; omega⟩, by omega, by rw [e95]; omega⟩
/-- what the class notes, and what the reference writes, leaves reading as it is -/
theorem pB_x {X Y M : jW} {c : yC} (h : pB X M c) (e1 : Y.1 68 = X.1 68) (e2 : Y.1 69 = X.1 69) (e3 : Y.1 95 4 = X.1 95 4) (e4 : Y.1 95 5 = X.1 95 5) (e5 : pXr X Y) : pB Y M c := by
  obtain ⟨h1, h2, h5, h6, h7, h8, h9, h10⟩ := h
  exact ⟨pTk_x h1 e1 e2, h2, h5, e4.trans h6, h7, h8, pWs_c h9 e5, by rw [e3]; exact h10⟩
theorem pB_m {X M N : jW} {c : yC} (h : pB X M c) (t : pMt M N) (o : pMo M N) (e1 : N.1 125 49 = M.1 125 49) (e2 : N.1 148 = M.1 148) (e3 : N.1 149 = M.1 149) : pB X N c := by
  obtain ⟨h1, ⟨h2, h3, h4⟩, h5, h6, h7, h8, h9, h10⟩ := h
  exact ⟨pTk_m h1 t, ⟨e1.trans h2, e2.trans h3, e3.trans h4⟩, o.1.trans h5, h6.trans o.2.1.symm, by rw [o.2.1]; exact h7, by rw [t.2.1]; exact h8, h9, by rw [t.2.1]; exact h10⟩
theorem pB_v {X M : jW} {c : yC} {k : Nat} {x : Int} (h : pB X M c) : pB X (vu M 147 k x) c := pB_m h (pMt_v (by omega)) (pMo_v (by omega)) (vu_n (by omega)) (vu_c (by decide)) (vu_c (by decide))
theorem nt_f {X : jW} {a x : Int} : (d_X2_note_r95d a x X).1 68 = X.1 68 ∧ (d_X2_note_r95d a x X).1 69 = X.1 69 ∧ (d_X2_note_r95d a x X).1 95 = X.1 95 ∧ (d_X2_note_r95d a x X).1 97 = X.1 97 ∧ pXr X (d_X2_note_r95d a x X) := by
  have F := fr_d_X2_note_r95d a x X
  exact ⟨pF_c F rfl, pF_c F rfl, pF_c F rfl, pF_c F rfl, pXr_f F rfl⟩
theorem nt_v {X : jW} {a x n : Int} (h : X.1 95 3 = n + 1) (hn : 0 ≤ n) (ha : 0 ≤ a) : d_X2_note_r95d a x X = vu X 96 (n * 6 + a).toNat x := by
  unfold d_X2_note_r95d
  rw [h, show (n + 1 - 1) * 6 + a = n * 6 + a from by omega, if_neg (by omega)]
  rfl
theorem pB_t {X M : jW} {c : yC} {a x : Int} (h : pB X M c) : pB (d_X2_note_r95d a x X) M c := by
  obtain ⟨e1, e2, e3, e4, e5⟩ := nt_f (X := X) (a := a) (x := x)
  exact pB_x h e1 e2 (by rw [e3]) (by rw [e3]) e5
end jG61

section jG62
/-! pure: the head of a CLAUSE on both sides: words and numbers, faults that stay -/
theorem mu_1 {M : jW} (h : M.1 125 14 = 0) : d_X12_must_r125d 1 M = d_X12_next_r125d M := by
  unfold d_X12_must_r125d d_X12_must_r125d_24
  rw [if_pos h, if_neg (show ¬ (1 : Int) = 0 from by decide), if_pos h]
  rfl
theorem mu_0 {M : jW} (h : M.1 125 14 = 0) : d_X12_must_r125d 0 M = mBad M := by
  have e : (mBad M).1 125 14 = 1 := (vu_n (by omega)).trans (vu_e rfl)
  unfold d_X12_must_r125d d_X12_must_r125d_24
  rw [if_pos h, if_pos (show (0 : Int) = 0 from rfl)]
  show (if (mBad M).1 125 14 = 0 then _ else mBad M) = _
  rw [if_neg (by omega)]
theorem mu_b {M : jW} {a : Int} (h : M.1 125 14 = 1) : d_X12_must_r125d a M = M := by
  unfold d_X12_must_r125d d_X12_must_r125d_24
  rw [if_neg (show ¬ M.1 125 14 = 0 from by omega), if_neg (show ¬ M.1 125 14 = 0 from by omega)]
  rfl
/-- a fault stays -/
def pBf (M N : jW) : Prop := M.1 125 14 = 1 → N.1 125 14 = 1 ∧ N.1 125 13 = M.1 125 13
theorem bf_v {M : jW} {k : Nat} {x : Int} : pBf M (vu M 147 k x) := fun h => ⟨(vu_n (by omega)).trans h, vu_n (by omega)⟩
theorem bf_t {M N P : jW} (h : pBf M N) (g : pBf N P) : pBf M P := fun e => ⟨(g (h e).1).1, (g (h e).1).2.trans (h e).2⟩
theorem bf_p {M : jW} {a b c : Int} : pBf M (d_X12_readPieces_r125d a b c M) := by
  intro h
  unfold d_X12_readPieces_r125d d_X12_readPieces_r125d_26
  have v : ∀ (x y : Int) (i j : Nat), (vu (vu M 147 i x) 147 j y).1 125 14 = 1 ∧ (vu (vu M 147 i x) 147 j y).1 125 13 = M.1 125 13 := fun x y i j => ⟨(vu_n (by omega)).trans ((vu_n (by omega)).trans h), (vu_n (by omega)).trans (vu_n (by omega))⟩
  by_cases c1 : b = 0
  · rw [if_pos c1]; exact v _ _ _ _
  · rw [if_neg c1, if_neg (show ¬ M.1 125 14 = 0 from by omega)]; exact v _ _ _ _
def rU (l2 : Int) (W : jW) : jW := if W.1 125 14 = 0 then (if W.1 125 11 = 1 then (if W.2.1 125 12 = 719722099 then d_X12_readClause_r125d_300338 l2 W else d_X12_readClause_r125d_337 l2 W) else d_X12_readClause_r125d_337 l2 W) else d_X12_readClause_r125d_337 l2 W
def rI (l2 : Int) (W : jW) : jW := if W.1 125 14 = 0 then (if W.1 125 11 = 1 then (if W.2.1 125 12 = 294 then d_X12_readClause_r125d_300294 l2 W else d_X12_readClause_r125d_293 l2 W) else d_X12_readClause_r125d_293 l2 W) else d_X12_readClause_r125d_293 l2 W
theorem rU_d {l2 l4 : Int} {W : jW} : d_X12_readClause_r125d_305 l2 l4 W = rU l2 (d_X12_readPieces_r125d (l2 + 6) l4 1 W) := rfl
theorem rI_0 {l2 : Int} {W : jW} : d_X12_readClause_r125d_200262 l2 W = rI l2 (d_X12_readPieces_r125d (l2 + 4) 0 0 W) := rfl
theorem rI_1 {l2 : Int} {W : jW} : d_X12_readClause_r125d_300262 l2 W = rI l2 (d_X12_readPieces_r125d (l2 + 4) 1 0 W) := rfl
theorem bf_U {M : jW} {l2 : Int} : pBf M (rU l2 M) := by
  intro h
  have e : rU l2 M = vu (d_X12_readPieces_r125d (l2 + 8) 0 1 M) 125 47 (M.1 125 47 + 1) := if_neg (by omega)
  have b := bf_p (M := M) (a := l2 + 8) (b := 0) (c := 1) h
  rw [e]
  exact ⟨(vu_n (by omega)).trans b.1, (vu_n (by omega)).trans b.2⟩
theorem bf_I {M : jW} {l2 : Int} : pBf M (rI l2 M) := by
  intro h
  have e : rI l2 M = rU l2 (d_X12_readPieces_r125d (l2 + 6) 0 1 M) := if_neg (by omega)
  rw [e]
  exact bf_t bf_p bf_U h
theorem bf_262 {M : jW} {l2 : Int} : pBf M (d_X12_readClause_r125d_200262 l2 M) ∧ pBf M (d_X12_readClause_r125d_300262 l2 M) := by
  rw [rI_0, rI_1]
  exact ⟨bf_t bf_p bf_I, bf_t bf_p bf_I⟩
theorem bf_n {M : jW} {a : Int} : pBf M (d_X12_number_r125d a M).2 := by
  intro h
  have e : (d_X12_number_r125d a M).2 = M := by
    unfold d_X12_number_r125d
    by_cases c1 : M.1 125 11 = 2
    · rw [if_pos c1]
      by_cases c2 : a < M.2.1 125 12
      · rw [if_pos c2]; exact mu_b h
      · rw [if_neg c2]; exact mu_b h
    · rw [if_neg c1]; exact mu_b h
  rw [e]
  exact ⟨h, rfl⟩
theorem bf_234 {M : jW} {l1 l2 s1 : Int} : pBf M (d_X12_readClause_r125d_200234 l1 l2 s1 M) := by
  unfold d_X12_readClause_r125d_200234 d_X12_readClause_r125d_257
  by_cases c1 : l1 = 3
  · rw [if_pos c1]; exact bf_t bf_v bf_262.2
  rw [if_neg c1]
  by_cases c2 : l1 = 4
  · rw [if_pos c2]; exact bf_t bf_v bf_262.2
  rw [if_neg c2]
  by_cases c3 : l1 = 7
  · rw [if_pos c3]; exact bf_t bf_v bf_262.2
  rw [if_neg c3]
  by_cases c4 : l1 = 8
  · rw [if_pos c4]; exact bf_t bf_v bf_262.2
  · rw [if_neg c4]; exact bf_t bf_v bf_262.1
theorem bf_209 {M : jW} {l1 l2 s0 s1 : Int} : pBf M (d_X12_readClause_r125d_209 l1 l2 s0 s1 M) := by
  unfold d_X12_readClause_r125d_209
  by_cases c1 : l1 = 6
  · rw [if_pos c1]
    unfold d_X12_readClause_r125d_234
    exact bf_t (bf_t bf_v bf_n) (bf_t bf_v bf_262.1)
  · rw [if_neg c1]; exact bf_t bf_v bf_234
theorem wa_e {M : jW} : d_X12_whatAt_r125d M = if M.1 125 11 = 1 then wIx (M.2.1 125 12) [109758568, 23609, 540146] 0 else -1 := by
  unfold d_X12_whatAt_r125d
  by_cases h : M.1 125 11 = 1
  · rw [if_pos h, if_pos h]
    show _ = (if M.2.1 125 12 = 109758568 then (0 : Int) else (if M.2.1 125 12 = 23609 then (1 : Int) else (if M.2.1 125 12 = 540146 then (2 : Int) else -1)))
    by_cases c0 : M.2.1 125 12 = 109758568
    · rw [if_pos c0, if_pos c0]; rfl
    rw [if_neg c0, if_neg c0]
    by_cases c1 : M.2.1 125 12 = 23609
    · rw [if_pos c1, if_pos c1]; rfl
    rw [if_neg c1, if_neg c1]
    by_cases c2 : M.2.1 125 12 = 540146
    · rw [if_pos c2, if_pos c2]; rfl
    rw [if_neg c2, if_neg c2]
    rfl
  · rw [if_neg h, if_neg h, if_neg h, if_neg h]; rfl
theorem oa_e {M : jW} : d_X12_officeAt_r125d M = if M.1 125 11 = 1 then wIx (M.2.1 125 12) [3829621885317, 676010845682, 539205670066, 773394606] 0 else -1 := by
  unfold d_X12_officeAt_r125d
  by_cases h : M.1 125 11 = 1
  · rw [if_pos h, if_pos h]
    show _ = (if M.2.1 125 12 = 3829621885317 then (0 : Int) else (if M.2.1 125 12 = 676010845682 then (1 : Int) else (if M.2.1 125 12 = 539205670066 then (2 : Int) else (if M.2.1 125 12 = 773394606 then (3 : Int) else -1))))
    by_cases c0 : M.2.1 125 12 = 3829621885317
    · rw [if_pos c0, if_pos c0]; rfl
    rw [if_neg c0, if_neg c0]
    by_cases c1 : M.2.1 125 12 = 676010845682
    · rw [if_pos c1, if_pos c1]; rfl
    rw [if_neg c1, if_neg c1]
    by_cases c2 : M.2.1 125 12 = 539205670066
    · rw [if_pos c2, if_pos c2]; rfl
    rw [if_neg c2, if_neg c2]
    by_cases c3 : M.2.1 125 12 = 773394606
    · rw [if_pos c3, if_pos c3]; rfl
    rw [if_neg c3, if_neg c3]
    rfl
  · rw [if_neg h, if_neg h, if_neg h, if_neg h, if_neg h]; rfl
theorem fe_e {M : jW} : d_X12_feeAt_r125d M = if M.1 125 11 = 1 then wIx (M.2.1 125 12) [71052, 7931589, 24868169159] 0 else -1 := by
  unfold d_X12_feeAt_r125d
  by_cases h : M.1 125 11 = 1
  · rw [if_pos h, if_pos h]
    show _ = (if M.2.1 125 12 = 71052 then (0 : Int) else (if M.2.1 125 12 = 7931589 then (1 : Int) else (if M.2.1 125 12 = 24868169159 then (2 : Int) else -1)))
    by_cases c0 : M.2.1 125 12 = 71052
    · rw [if_pos c0, if_pos c0]; rfl
    rw [if_neg c0, if_neg c0]
    by_cases c1 : M.2.1 125 12 = 7931589
    · rw [if_pos c1, if_pos c1]; rfl
    rw [if_neg c1, if_neg c1]
    by_cases c2 : M.2.1 125 12 = 24868169159
    · rw [if_pos c2, if_pos c2]; rfl
    rw [if_neg c2, if_neg c2]
    rfl
  · rw [if_neg h, if_neg h, if_neg h, if_neg h]; rfl
theorem ga_e {M : jW} : d_X12_groundAt_r125d M = if M.1 125 11 = 1 then wIx (M.2.1 125 12) [2411144, 271941, 595412, 509813861, 23716, 17232476819] 0 else -1 := by
  unfold d_X12_groundAt_r125d
  by_cases h : M.1 125 11 = 1
  · rw [if_pos h, if_pos h]
    show _ = (if M.2.1 125 12 = 2411144 then (0 : Int) else (if M.2.1 125 12 = 271941 then (1 : Int) else (if M.2.1 125 12 = 595412 then (2 : Int) else (if M.2.1 125 12 = 509813861 then (3 : Int) else (if M.2.1 125 12 = 23716 then (4 : Int) else (if M.2.1 125 12 = 17232476819 then (5 : Int) else -1))))))
    by_cases c0 : M.2.1 125 12 = 2411144
    · rw [if_pos c0, if_pos c0]; unfold d_X12_groundAt_r125d_30; rw [if_pos c0]; rfl
    rw [if_neg c0, if_neg c0]
    by_cases c1 : M.2.1 125 12 = 271941
    · rw [if_pos c1, if_pos c1]; unfold d_X12_groundAt_r125d_30; rw [if_neg c0, if_pos c1]; rfl
    rw [if_neg c1, if_neg c1]
    by_cases c2 : M.2.1 125 12 = 595412
    · rw [if_pos c2, if_pos c2]; unfold d_X12_groundAt_r125d_30; rw [if_neg c0, if_neg c1]; rfl
    rw [if_neg c2, if_neg c2]
    by_cases c3 : M.2.1 125 12 = 509813861
    · rw [if_pos c3, if_pos c3]; rfl
    rw [if_neg c3, if_neg c3]
    by_cases c4 : M.2.1 125 12 = 23716
    · rw [if_pos c4, if_pos c4]; rfl
    rw [if_neg c4, if_neg c4]
    by_cases c5 : M.2.1 125 12 = 17232476819
    · rw [if_pos c5, if_pos c5]; rfl
    rw [if_neg c5, if_neg c5]
    rfl
  · rw [if_neg h, if_neg h, if_neg h, if_neg h, if_neg h, if_neg h, if_neg h]; rfl
theorem ka_e {M : jW} : d_X12_kindAt_r125d M = if M.1 125 11 = 1 then (if wIx (M.2.1 125 12) [72760775, 193115668, 591493, 609625254, 2134245, 677454, 6309, 627764, 659105125] 0 = -1 then -1 else if wIx (M.2.1 125 12) [72760775, 193115668, 591493, 609625254, 2134245, 677454, 6309, 627764, 659105125] 0 = 8 then 0 else wIx (M.2.1 125 12) [72760775, 193115668, 591493, 609625254, 2134245, 677454, 6309, 627764, 659105125] 0 + 1) else -1 := by
  unfold d_X12_kindAt_r125d
  by_cases h : M.1 125 11 = 1
  · rw [if_pos h, if_pos h]
    have u : wIx (M.2.1 125 12) [72760775, 193115668, 591493, 609625254, 2134245, 677454, 6309, 627764, 659105125] 0 = (if M.2.1 125 12 = 72760775 then (0 : Int) else (if M.2.1 125 12 = 193115668 then (1 : Int) else (if M.2.1 125 12 = 591493 then (2 : Int) else (if M.2.1 125 12 = 609625254 then (3 : Int) else (if M.2.1 125 12 = 2134245 then (4 : Int) else (if M.2.1 125 12 = 677454 then (5 : Int) else (if M.2.1 125 12 = 6309 then (6 : Int) else (if M.2.1 125 12 = 627764 then (7 : Int) else (if M.2.1 125 12 = 659105125 then (8 : Int) else -1))))))))) := rfl
    rw [u]
    by_cases c0 : M.2.1 125 12 = 659105125
    · rw [if_pos c0]; unfold d_X12_kindAt_r125d_30 d_X12_kindAt_r125d_200059 d_X12_kindAt_r125d_300059 d_X12_kindAt_r125d_400059; rw [c0]; decide
    rw [if_neg c0]
    by_cases c1 : M.2.1 125 12 = 72760775
    · rw [if_pos c1]; unfold d_X12_kindAt_r125d_30 d_X12_kindAt_r125d_200059 d_X12_kindAt_r125d_300059 d_X12_kindAt_r125d_400059; rw [c1]; decide
    rw [if_neg c1]
    by_cases c2 : M.2.1 125 12 = 193115668
    · rw [if_pos c2]; unfold d_X12_kindAt_r125d_30 d_X12_kindAt_r125d_200059 d_X12_kindAt_r125d_300059 d_X12_kindAt_r125d_400059; rw [c2]; decide
    rw [if_neg c2]
    by_cases c3 : M.2.1 125 12 = 591493
    · rw [if_pos c3]; unfold d_X12_kindAt_r125d_90 d_X12_kindAt_r125d_500119 d_X12_kindAt_r125d_600119 d_X12_kindAt_r125d_700119; rw [c3]; decide
    rw [if_neg c3]
    by_cases c4 : M.2.1 125 12 = 609625254
    · rw [if_pos c4]; unfold d_X12_kindAt_r125d_90 d_X12_kindAt_r125d_500119 d_X12_kindAt_r125d_600119 d_X12_kindAt_r125d_700119; rw [c4]; decide
    rw [if_neg c4]
    by_cases c5 : M.2.1 125 12 = 2134245
    · rw [if_pos c5]; unfold d_X12_kindAt_r125d_90 d_X12_kindAt_r125d_500119 d_X12_kindAt_r125d_600119 d_X12_kindAt_r125d_700119; rw [c5]; decide
    rw [if_neg c5]
    by_cases c6 : M.2.1 125 12 = 677454
    · rw [if_pos c6]; unfold d_X12_kindAt_r125d_800166; rw [c6]; decide
    rw [if_neg c6]
    by_cases c7 : M.2.1 125 12 = 6309
    · rw [if_pos c7]; unfold d_X12_kindAt_r125d_900166; rw [c7]; decide
    rw [if_neg c7]
    by_cases c8 : M.2.1 125 12 = 627764
    · rw [if_pos c8]; unfold d_X12_kindAt_r125d_1000166; rw [c8]; decide
    rw [if_neg c8]
    rw [if_neg c1, if_neg c2, if_neg c3, if_neg c4, if_neg c5, if_neg c6, if_neg c7, if_neg c8, if_neg c0, if_pos rfl]; rfl
  · rw [if_neg h, if_neg h, if_neg h, if_neg h, if_neg h, if_neg h, if_neg h, if_neg h, if_neg h, if_neg h]; rfl
end jG62

section jG63
/-! pure: the pieces of a CLAUSE: a SUM, a TEST behind if and unless -/
/-- the class's column y and the reference's places j, j + 1 of CLAUSE i tell of one SUM or TEST -/
def pCq (h cd : Nat → Int) (L : Int) (n : Nat → Int) (c : yC) (i y j : Int) (ts : Prop) : Prop := (h (i * 6 + y).toNat = -1 ∧ n (10 * i + j + 1).toNat = n (10 * i + j).toNat) ∨ ∃ b m : Int, yPc cd c (h (i * 6 + y).toNat) b m (n (10 * i + j).toNat) (n (10 * i + j + 1).toNat) ts ∧ cd b.toNat = 0 ∧ b < L ∧ m ≤ 60 ∧ n (10 * i + j + 1).toNat ≤ c.1
theorem cq_c {h cd h2 cd2 : Nat → Int} {L L2 : Int} {n n2 : Nat → Int} {c c2 : yC} {i y j : Int} {ts : Prop} (P : pCq h cd L n c i y j ts) (e1 : h2 (i * 6 + y).toNat = h (i * 6 + y).toNat) (e2 : ∀ k : Nat, (k : Int) < L → cd2 k = cd k) (e3 : L ≤ L2) (e4 : n2 (10 * i + j).toNat = n (10 * i + j).toNat) (e5 : n2 (10 * i + j + 1).toNat = n (10 * i + j + 1).toNat) (e6 : yUp c.1 c c2) (e7 : c.1 ≤ c2.1) : pCq h2 cd2 L2 n2 c2 i y j ts := by
  unfold pCq
  rw [e1, e4, e5]
  rcases P with ⟨p1, p2⟩ | ⟨b, m, p1, p2, p3, p4, p5⟩
  · exact Or.inl ⟨p1, p2⟩
  · have q := pPc_l p1
    exact Or.inr ⟨b, m, yPc_c p1 (fun k hk => e2 k (by omega)) e6 p5, (e2 b.toNat (by omega)).trans p2, by omega, p4, by omega⟩
/-- what a step of reading leaves: heads but for column y of CLAUSE i, places but for j, j + 1, code up to its end -/
def pNx (i y j : Int) (X M : jW) (c : yC) (X2 M2 : jW) (c2 : yC) : Prop := X2.1 95 3 = X.1 95 3 ∧ M2.1 125 47 = M.1 125 47 ∧ (∀ k : Nat, k ≠ (i * 6 + y).toNat → X2.1 96 k = X.1 96 k) ∧ (∀ k : Nat, k ≠ (10 * i + j).toNat → k ≠ (10 * i + j + 1).toNat → M2.1 147 k = M.1 147 k) ∧ (∀ k : Nat, (k : Int) < X.1 95 4 → X2.1 97 k = X.1 97 k) ∧ yUp c.1 c c2 ∧ X.1 95 4 ≤ X2.1 95 4 ∧ c.1 ≤ c2.1 ∧ M.1 125 9 ≤ M2.1 125 9
theorem pc_0 {X M : jW} {c : yC} {i y j a3 : Int} {ts : Prop} (h : pB X M c) (hi : 0 ≤ i ∧ 0 ≤ j) (hy : X.1 96 (i * 6 + y).toNat = -1) : pB X (d_X12_readPieces_r125d (10 * i + j) 0 a3 M) c ∧ pCq (X.1 96) (X.1 97) (X.1 95 4) ((d_X12_readPieces_r125d (10 * i + j) 0 a3 M).1 147) c i y j ts ∧ pNx i y j X M c X (d_X12_readPieces_r125d (10 * i + j) 0 a3 M) c := by
  have e : d_X12_readPieces_r125d (10 * i + j) 0 a3 M = vu (vu M 147 (10 * i + j).toNat (M.1 125 49)) 147 (10 * i + j + 1).toNat ((vu M 147 (10 * i + j).toNat (M.1 125 49)).1 125 49) := if_pos rfl
  rw [e, vu_n (show ¬ (125 = 147 ∧ 49 = (10 * i + j).toNat) from by omega)]
  refine ⟨pB_v (pB_v h), Or.inl ⟨hy, ?_⟩, rfl, ?_, fun _ _ => rfl, fun k k1 k2 => ?_, fun _ _ => rfl, yUp_r, Int.le_refl _, Int.le_refl _, ?_⟩
  · rw [vu_e rfl, vu_n (by omega), vu_e rfl]
  · rw [vu_n (by omega), vu_n (by omega)]
  · rw [vu_n (by omega), vu_n (by omega)]
  · rw [vu_n (by omega), vu_n (by omega)]; exact Int.le_refl _
/-- the same, read: Rd the class's reader, a3 the reference's sort -/
theorem pc_1 {Rd : jW → Int × jW} {a3 : Int} {ts : Prop} (hE : ∀ (X M : jW) (c : yC), pB X M c → X.1 95 4 ≤ 2 * M.1 125 9 → pEo X c (M.1 125 9) (Rd X) (d_X12_readExpression_r125d a3 M) ts) (hF : ∀ X : jW, (Rd X).2.1 96 = X.1 96 ∧ (Rd X).2.1 95 3 = X.1 95 3) {X M : jW} {c : yC} {i y j : Int} (h : pB X M c) (hb : X.1 95 4 ≤ 2 * M.1 125 9) (h3 : X.1 95 3 = i + 1) (hi : 0 ≤ i ∧ 0 ≤ j ∧ 0 ≤ y) : ((Rd (d_X2_note_r95d y (X.1 95 4) X)).1 = 0 ∧ pBd (Rd (d_X2_note_r95d y (X.1 95 4) X)).2 (d_X12_readPieces_r125d (10 * i + j) 1 a3 M)) ∨ ((Rd (d_X2_note_r95d y (X.1 95 4) X)).1 = 1 ∧ ∃ g : yC, pB (d_X2_emit_r95d 0 (Rd (d_X2_note_r95d y (X.1 95 4) X)).2) (d_X12_readPieces_r125d (10 * i + j) 1 a3 M) g ∧ pCq ((d_X2_emit_r95d 0 (Rd (d_X2_note_r95d y (X.1 95 4) X)).2).1 96) ((d_X2_emit_r95d 0 (Rd (d_X2_note_r95d y (X.1 95 4) X)).2).1 97) ((d_X2_emit_r95d 0 (Rd (d_X2_note_r95d y (X.1 95 4) X)).2).1 95 4) ((d_X12_readPieces_r125d (10 * i + j) 1 a3 M).1 147) g i y j ts ∧ pNx i y j X M c (d_X2_emit_r95d 0 (Rd (d_X2_note_r95d y (X.1 95 4) X)).2) (d_X12_readPieces_r125d (10 * i + j) 1 a3 M) g) := by
  have bad := h.2.2.1
  have e49 := h.2.1.1
  have e : d_X12_readPieces_r125d (10 * i + j) 1 a3 M = vu (d_X12_readExpression_r125d a3 (vu M 147 (10 * i + j).toNat (M.1 125 49))) 147 (10 * i + j + 1).toNat ((d_X12_readExpression_r125d a3 (vu M 147 (10 * i + j).toNat (M.1 125 49))).1 125 49) := (if_neg (by decide)).trans (if_pos bad)
  have v9 : (vu M 147 (10 * i + j).toNat (M.1 125 49)).1 125 9 = M.1 125 9 := vu_n (by omega)
  obtain ⟨n1, n2, n3, n4, n5⟩ := nt_f (X := X) (a := y) (x := X.1 95 4)
  have R := hE (d_X2_note_r95d y (X.1 95 4) X) (vu M 147 (10 * i + j).toNat (M.1 125 49)) c (pB_t (pB_v h)) (by rw [n3, v9]; exact hb)
  have F := fr_d_X12_readExpression_r125d a3 (vu M 147 (10 * i + j).toNat (M.1 125 49))
  have F147 := pF_c F (c := 147) rfl
  have F47 := F.1 125 47 rfl
  have G := hF (d_X2_note_r95d y (X.1 95 4) X)
  have nv := nt_v (X := X) (a := y) (x := X.1 95 4) h3 hi.1 hi.2.2
  have N96 : (d_X2_note_r95d y (X.1 95 4) X).1 96 (i * 6 + y).toNat = X.1 95 4 := by rw [nv]; exact vu_e rfl
  have N96b : ∀ k : Nat, k ≠ (i * 6 + y).toNat → (d_X2_note_r95d y (X.1 95 4) X).1 96 k = X.1 96 k := fun k hk => by rw [nv]; exact vu_n (by omega)
  generalize d_X2_note_r95d y (X.1 95 4) X = X1 at *
  generalize Rd X1 = q at *
  obtain ⟨q1, Y⟩ := q
  rw [e]
  generalize hW : d_X12_readExpression_r125d a3 (vu M 147 (10 * i + j).toNat (M.1 125 49)) = W at *
  rcases R with ⟨z, bd⟩ | ⟨z, g, R1, R2, R3, R4, R5, R6, R7, R8, R9, R10, R11, m, R12, R13⟩
  · exact Or.inl ⟨z, (vu_n (by omega)).trans bd.1, (vu_n (by omega)).trans bd.2⟩
  have Rt := R1.1.2.1
  have Rf := R1.2.2.2.2.1
  rw [n3] at R10 R13
  rw [n4] at R10
  rw [v9] at R9
  have bY : Y.1 95 4 ≤ 2 * W.1 125 9 := R8.2
  have y0 : 0 ≤ Y.1 95 4 := R8.1
  obtain ⟨f1, f2, f3, f4, f5, f6, f7⟩ := em_e (o := 0) (X := Y) ⟨y0, by omega⟩
  have FE := fr_d_X2_emit_r95d 0 Y
  have f96 : (d_X2_emit_r95d 0 Y).1 96 = Y.1 96 := pF_c FE rfl
  have f953 : (d_X2_emit_r95d 0 Y).1 95 3 = Y.1 95 3 := FE.1 95 3 rfl
  have g1 : Y.1 96 = X1.1 96 := G.1
  have g2 : Y.1 95 3 = X1.1 95 3 := G.2
  have hP : 0 ≤ X.1 95 4 ∧ X.1 95 4 < Y.1 95 4 ∧ 1 ≤ m ∧ 0 ≤ c.1 ∧ c.1 < g.1 := pPc_l R13
  refine Or.inr ⟨z, g, ?_, ?_, ?_⟩
  · refine pB_v ⟨pTk_x R1 f5 f6, R2, R3, f4.trans R4, R5, R6, pWs_c R7 f7, ?_⟩
    show 0 ≤ (d_X2_emit_r95d 0 Y).1 95 4 ∧ (d_X2_emit_r95d 0 Y).1 95 4 ≤ _
    omega
  · have k1 : (d_X2_emit_r95d 0 Y).1 96 (i * 6 + y).toNat = X.1 95 4 := by rw [f96, g1]; exact N96
    have k2 : (vu W 147 (10 * i + j + 1).toNat (W.1 125 49)).1 147 (10 * i + j).toNat = c.1 := by
      rw [vu_n (by omega), F147, vu_e rfl]; exact e49
    have k3 : (vu W 147 (10 * i + j + 1).toNat (W.1 125 49)).1 147 (10 * i + j + 1).toNat = g.1 := by
      rw [vu_e rfl]; exact R2.1
    refine Or.inr ⟨Y.1 95 4, m, ?_, f3, ?_, R12, ?_⟩
    · show yPc ((d_X2_emit_r95d 0 Y).1 97) g ((d_X2_emit_r95d 0 Y).1 96 (i * 6 + y).toNat) (Y.1 95 4) m _ _ ts
      rw [k1, k2, k3]
      exact yPc_c R13 (fun k hk => f2 k hk) (yUp_r (k := g.1)) (Int.le_refl _)
    · show Y.1 95 4 < (d_X2_emit_r95d 0 Y).1 95 4
      omega
    · rw [k3]; exact Int.le_refl _
  · refine ⟨?_, ?_, fun k hk => ?_, fun k k1 k2 => ?_, fun k hk => ?_, R11, ?_, by omega, ?_⟩
    · show (d_X2_emit_r95d 0 Y).1 95 3 = _
      rw [f953, g2, n3]
    · rw [vu_n (by omega), F47, vu_n (by omega)]
    · show (d_X2_emit_r95d 0 Y).1 96 k = _
      rw [f96, g1]; exact N96b k hk
    · rw [vu_n (by omega), F147, vu_n (by omega)]
    · show (d_X2_emit_r95d 0 Y).1 97 k = _
      rw [f2 k (by omega)]; exact R10 k hk
    · show _ ≤ (d_X2_emit_r95d 0 Y).1 95 4
      omega
    · rw [vu_n (by omega)]; omega
theorem rd_s (X : jW) : (d_X2_readSum_r95_c0d X).2.1 96 = X.1 96 ∧ (d_X2_readSum_r95_c0d X).2.1 95 3 = X.1 95 3 := by
  have F := fr_d_X2_readSum_r95_c0d X
  exact ⟨pF_c F rfl, F.1 95 3 rfl⟩
theorem rd_t (X : jW) : (d_X2_readTest_r95_c0d X).2.1 96 = X.1 96 ∧ (d_X2_readTest_r95_c0d X).2.1 95 3 = X.1 95 3 := by
  have F := fr_d_X2_readTest_r95_c0d X
  exact ⟨pF_c F rfl, F.1 95 3 rfl⟩
end jG63

section jG64
/-! pure: what stands behind the head of a CLAUSE: SUM, if, unless -/
/-- the head of CLAUSE i -/
def pHn (h n : Nat → Int) (i : Int) : Prop := h (i * 6 + 0).toNat = (if n (10 * i).toNat = 0 then 8 else n (10 * i).toNat - 1) ∧ h (i * 6 + 1).toNat = (if n (10 * i).toNat = 0 then n (10 * i + 2).toNat else n (10 * i + 1).toNat) ∧ h (i * 6 + 2).toNat = (if n (10 * i).toNat = 0 then n (10 * i + 3).toNat else n (10 * i + 2).toNat) ∧ (0 ≤ n (10 * i).toNat ∧ n (10 * i).toNat ≤ 8) ∧ (n (10 * i).toNat = 0 → 0 ≤ n (10 * i + 2).toNat ∧ n (10 * i + 2).toNat ≤ 29 ∧ 0 ≤ n (10 * i + 3).toNat ∧ n (10 * i + 3).toNat ≤ 11) ∧ (n (10 * i).toNat = 1 → 0 ≤ n (10 * i + 1).toNat ∧ n (10 * i + 1).toNat ≤ 5) ∧ (n (10 * i).toNat = 6 → 0 ≤ n (10 * i + 2).toNat ∧ n (10 * i + 2).toNat ≤ 1000000)
def pCz (X M : jW) (c : yC) (i : Int) : Prop := pHn (X.1 96) (M.1 147) i ∧ (M.1 147 (10 * i).toNat ≠ 0 → pCq (X.1 96) (X.1 97) (X.1 95 4) (M.1 147) c i 3 4 False ∧ pCq (X.1 96) (X.1 97) (X.1 95 4) (M.1 147) c i 4 6 True ∧ pCq (X.1 96) (X.1 97) (X.1 95 4) (M.1 147) c i 5 8 True)
theorem pHn_c {h n h2 n2 : Nat → Int} {i : Int} (P : pHn h n i) (hi : 0 ≤ i) (e1 : ∀ k : Nat, i * 6 ≤ k → (k : Int) < i * 6 + 3 → h2 k = h k) (e2 : ∀ k : Nat, 10 * i ≤ k → (k : Int) < 10 * i + 4 → n2 k = n k) : pHn h2 n2 i := by
  unfold pHn
  rw [e1 (i * 6 + 0).toNat (by omega) (by omega), e1 (i * 6 + 1).toNat (by omega) (by omega), e1 (i * 6 + 2).toNat (by omega) (by omega), e2 (10 * i).toNat (by omega) (by omega), e2 (10 * i + 1).toNat (by omega) (by omega), e2 (10 * i + 2).toNat (by omega) (by omega), e2 (10 * i + 3).toNat (by omega) (by omega)]
  exact P
/-- how a CLAUSE ends; X0, M0, c0 where its reading began -/
def pCe (i : Int) (X0 M0 : jW) (c0 : yC) (xr : Int × jW) (W : jW) : Prop := (xr.1 = 0 ∧ pBd xr.2 W) ∨ (xr.1 = 1 ∧ ∃ g : yC, pB xr.2 W g ∧ xr.2.1 95 3 = i + 1 ∧ W.1 125 47 = i + 1 ∧ pCz xr.2 W g i ∧ (∀ k : Nat, (k : Int) < X0.1 95 4 → xr.2.1 97 k = X0.1 97 k) ∧ yUp c0.1 c0 g ∧ X0.1 95 4 ≤ xr.2.1 95 4 ∧ c0.1 ≤ g.1 ∧ (∀ k : Nat, (k : Int) < i * 6 → xr.2.1 96 k = X0.1 96 k) ∧ (∀ k : Nat, (k : Int) < 10 * i → W.1 147 k = M0.1 147 k) ∧ M0.1 125 9 ≤ W.1 125 9)
/-- where reading stands inside of CLAUSE i, its head read -/
def pIc (i : Int) (X0 M0 : jW) (c0 : yC) (X M : jW) (c : yC) : Prop := pB X M c ∧ X.1 95 3 = i + 1 ∧ M.1 125 47 = i ∧ pHn (X.1 96) (M.1 147) i ∧ M.1 147 (10 * i).toNat ≠ 0 ∧ (∀ k : Nat, (k : Int) < X0.1 95 4 → X.1 97 k = X0.1 97 k) ∧ yUp c0.1 c0 c ∧ X0.1 95 4 ≤ X.1 95 4 ∧ c0.1 ≤ c.1 ∧ (∀ k : Nat, (k : Int) < i * 6 → X.1 96 k = X0.1 96 k) ∧ (∀ k : Nat, (k : Int) < 10 * i → M.1 147 k = M0.1 147 k) ∧ M0.1 125 9 ≤ M.1 125 9
theorem in_x {i y j : Int} (hi : 0 ≤ i) (hy : 3 ≤ y ∧ y ≤ 5) (hj : 4 ≤ j) {X0 M0 X M X2 M2 : jW} {c0 c c2 : yC} (P : pIc i X0 M0 c0 X M c) (B : pB X2 M2 c2) (N : pNx i y j X M c X2 M2 c2) : pIc i X0 M0 c0 X2 M2 c2 := by
  obtain ⟨p1, p2, p3, p4, p5, p6, p7, p8, p9, p10, p11, p12⟩ := P
  obtain ⟨n1, n2, n3, n4, n5, n6, n7, n8, n9⟩ := N
  exact ⟨B, n1.trans p2, n2.trans p3, pHn_c p4 hi (fun k k1 k2 => n3 k (by omega)) (fun k k1 k2 => n4 k (by omega) (by omega)), by rw [n4 _ (by omega) (by omega)]; exact p5, fun k hk => (n5 k (by omega)).trans (p6 k hk), yUp_t p7 n6 p9, by omega, by omega, fun k hk => (n3 k (by omega)).trans (p10 k hk), fun k hk => (n4 k (by omega) (by omega)).trans (p11 k hk), by omega⟩
theorem cq_x {i y j y2 j2 : Int} {ts : Prop} (hi : 0 ≤ i) (hy : 3 ≤ y ∧ y ≤ 5) (hj : 4 ≤ j) (hy2 : 3 ≤ y2 ∧ y2 ≤ 5) (hj2 : 4 ≤ j2) (hn : y ≠ y2) (hm : j + 2 ≤ j2 ∨ j2 + 2 ≤ j) {X M X2 M2 : jW} {c c2 : yC} (P : pCq (X.1 96) (X.1 97) (X.1 95 4) (M.1 147) c i y j ts) (N : pNx i y2 j2 X M c X2 M2 c2) : pCq (X2.1 96) (X2.1 97) (X2.1 95 4) (M2.1 147) c2 i y j ts := by
  obtain ⟨n1, n2, n3, n4, n5, n6, n7, n8, n9⟩ := N
  exact cq_c P (n3 _ (by omega)) n5 n7 (n4 _ (by omega) (by omega)) (n4 _ (by omega) (by omega)) n6 n8
/-- a word of a CLAUSE: the next TOKEN, nothing else -/
theorem in_n {i : Int} {X0 M0 X M : jW} {c0 c : yC} (P : pIc i X0 M0 c0 X M c) (ht : M.1 125 11 ≠ 0) : pIc i X0 M0 c0 (d_X9_step_r68d X) (d_X12_next_r125d M) c ∧ (d_X9_step_r68d X).1 95 4 ≤ 2 * (d_X12_next_r125d M).1 125 9 ∧ (d_X9_step_r68d X).1 96 = X.1 96 ∧ (d_X9_step_r68d X).1 97 = X.1 97 ∧ (d_X9_step_r68d X).1 95 = X.1 95 ∧ (d_X12_next_r125d M).1 147 = M.1 147 := by
  obtain ⟨p1, p2, p3, p4, p5, p6, p7, p8, p9, p10, p11, p12⟩ := P
  obtain ⟨b1, b2, b3⟩ := pB_n p1 ht
  have F := fr_d_X12_next_r125d M
  have G := fr_d_X9_step_r68d X
  have e96 : (d_X9_step_r68d X).1 96 = X.1 96 := pF_c G rfl
  have e97 : (d_X9_step_r68d X).1 97 = X.1 97 := pF_c G rfl
  have e95 : (d_X9_step_r68d X).1 95 = X.1 95 := pF_c G rfl
  have e147 : (d_X12_next_r125d M).1 147 = M.1 147 := pF_c F rfl
  refine ⟨⟨b1, by rw [e95]; exact p2, (F.1 125 47 rfl).trans p3, by rw [e96, e147]; exact p4, by rw [e147]; exact p5, by rw [e97]; exact p6, p7, by rw [e95]; exact p8, p9, by rw [e96]; exact p10, by rw [e147]; exact p11, by omega⟩, b3, e96, e97, e95, e147⟩
/-- unless -/
theorem un_e {i : Int} (hi : 0 ≤ i) {X0 M0 X M : jW} {c0 c : yC} {r : Nat} (P : pIc i X0 M0 c0 X M c) (h5 : X.1 96 (i * 6 + 5).toNat = -1) (Q3 : pCq (X.1 96) (X.1 97) (X.1 95 4) (M.1 147) c i 3 4 False) (Q4 : pCq (X.1 96) (X.1 97) (X.1 95 4) (M.1 147) c i 4 6 True) : pCe i X0 M0 c0 (d_X2_readClause_r95d_104 (r + 2) 1 X) (rU (10 * i) M) := by
  have B := P.1
  have bad := B.2.2.1
  have fin : ∀ (X2 M2 : jW) (c2 : yC), pIc i X0 M0 c0 X2 M2 c2 → pCq (X2.1 96) (X2.1 97) (X2.1 95 4) (M2.1 147) c2 i 3 4 False → pCq (X2.1 96) (X2.1 97) (X2.1 95 4) (M2.1 147) c2 i 4 6 True → pCq (X2.1 96) (X2.1 97) (X2.1 95 4) (M2.1 147) c2 i 5 8 True → pCe i X0 M0 c0 (1, X2) (vu M2 125 47 (i + 1)) := by
    intro X2 M2 c2 ⟨p1, p2, p3, p4, p5, p6, p7, p8, p9, p10, p11, p12⟩ q3 q4 q5
    have e147 : (vu M2 125 47 (i + 1)).1 147 = M2.1 147 := vu_c (by decide)
    refine Or.inr ⟨rfl, c2, pB_m p1 (pMt_u (by omega)) (pMo_u (by omega)) (vu_n (by omega)) (vu_c (by decide)) (vu_c (by decide)), p2, vu_e rfl, ⟨by rw [e147]; exact p4, fun _ => by rw [e147]; exact ⟨q3, q4, q5⟩⟩, p6, p7, p8, p9, p10, by rw [e147]; exact p11, ?_⟩
    rw [vu_n (by omega)]; exact p12
  show pCe i X0 M0 c0 (if (2 : Int) ≤ 1 then (1, X) else (if (1 : Int) = 0 then _ else d_X2_readClause_r95d_3300124 (fun l2 W => d_X2_readClause_r95d_104 (r + 1) l2 W) 1 X)) _
  rw [if_neg (by decide), if_neg (by decide)]
  have k2 : ∀ W : jW, d_X2_readClause_r95d_104 (r + 1) (1 + 1) W = (1, W) := fun W => if_pos (by decide)
  show pCe i X0 M0 c0 (if d_X9_wordOf_r68_r13d X = 0 then (if (d_X2_readTest_r95_c0d (d_X2_note_r95d 5 ((d_X9_step_r68d X).1 95 4) (d_X9_step_r68d X))).1 = 0 then (0, (d_X2_readTest_r95_c0d (d_X2_note_r95d 5 ((d_X9_step_r68d X).1 95 4) (d_X9_step_r68d X))).2) else d_X2_readClause_r95d_104 (r + 1) (1 + 1) (d_X2_emit_r95d 0 (d_X2_readTest_r95_c0d (d_X2_note_r95d 5 ((d_X9_step_r68d X).1 95 4) (d_X9_step_r68d X))).2)) else d_X2_readClause_r95d_104 (r + 1) (1 + 1) X) _
  rw [k2, k2, wo_13 B.1 B.2.2.2.2.2.2.1]
  unfold rU
  rw [if_pos bad]
  by_cases t : M.1 125 11 = 1 ∧ M.2.1 125 12 = 719722099
  · have e0 : (if M.1 125 11 = 1 then wIx (M.2.1 125 12) [719722099] 0 else -1) = 0 := by
      rw [if_pos t.1]; exact if_pos t.2
    rw [if_pos e0, if_pos t.1, if_pos t.2]
    obtain ⟨I, hb, e96, e97, e95, e147⟩ := in_n P (by omega)
    have e47 : d_X12_readClause_r125d_300338 (10 * i) M = vu (d_X12_readPieces_r125d (10 * i + 8) 1 1 (d_X12_next_r125d M)) 125 47 ((d_X12_next_r125d M).1 125 47 + 1) := rfl
    rw [e47, I.2.2.1]
    generalize d_X9_step_r68d X = X1 at *
    generalize d_X12_next_r125d M = M1 at *
    rcases pc_1 (fun X M c h g => ex_t h g) rd_t (y := 5) (j := 8) I.1 hb I.2.1 ⟨hi, by decide, by decide⟩ with ⟨z, bd⟩ | ⟨z, g, R1, R2, R3⟩
    · rw [if_pos z]
      exact Or.inl ⟨rfl, (vu_n (by omega)).trans bd.1, (vu_n (by omega)).trans bd.2⟩
    · rw [if_neg (by omega)]
      have q3 : pCq (X1.1 96) (X1.1 97) (X1.1 95 4) (M1.1 147) c i 3 4 False := by rw [e96, e97, e95, e147]; exact Q3
      have q4 : pCq (X1.1 96) (X1.1 97) (X1.1 95 4) (M1.1 147) c i 4 6 True := by rw [e96, e97, e95, e147]; exact Q4
      exact fin _ _ g (in_x hi (by decide) (by decide) I R1 R3) (cq_x hi (by decide) (by decide) (by decide) (by decide) (by decide) (by decide) q3 R3) (cq_x hi (by decide) (by decide) (by decide) (by decide) (by decide) (by decide) q4 R3) R2
  · have e0 : ¬ (if M.1 125 11 = 1 then wIx (M.2.1 125 12) [719722099] 0 else -1) = 0 := by
      by_cases c1 : M.1 125 11 = 1
      · rw [if_pos c1]
        have : wIx (M.2.1 125 12) [719722099] 0 = -1 := if_neg (fun z => t ⟨c1, z⟩)
        rw [this]; decide
      · rw [if_neg c1]; decide
    have e1 : (if M.1 125 11 = 1 then (if M.2.1 125 12 = 719722099 then d_X12_readClause_r125d_300338 (10 * i) M else d_X12_readClause_r125d_337 (10 * i) M) else d_X12_readClause_r125d_337 (10 * i) M) = vu (d_X12_readPieces_r125d (10 * i + 8) 0 1 M) 125 47 (M.1 125 47 + 1) := by
      by_cases c1 : M.1 125 11 = 1
      · rw [if_pos c1, if_neg (fun z => t ⟨c1, z⟩)]; rfl
      · rw [if_neg c1]; rfl
    rw [if_neg e0, e1, P.2.2.1]
    obtain ⟨R1, R2, R3⟩ := pc_0 (a3 := 1) (ts := True) (y := 5) (j := 8) B ⟨hi, by decide⟩ h5
    exact fin _ _ c (in_x hi (by decide) (by decide) P R1 R3) (cq_x hi (by decide) (by decide) (by decide) (by decide) (by decide) (by decide) Q3 R3) (cq_x hi (by decide) (by decide) (by decide) (by decide) (by decide) (by decide) Q4 R3) R2
/-- if, then unless -/
theorem if_e {i : Int} (hi : 0 ≤ i) {X0 M0 X M : jW} {c0 c : yC} (P : pIc i X0 M0 c0 X M c) (h4 : X.1 96 (i * 6 + 4).toNat = -1) (h5 : X.1 96 (i * 6 + 5).toNat = -1) (Q3 : pCq (X.1 96) (X.1 97) (X.1 95 4) (M.1 147) c i 3 4 False) : pCe i X0 M0 c0 (d_X2_readClause_r95d_102 X) (rI (10 * i) M) := by
  have B := P.1
  have bad := B.2.2.1
  show pCe i X0 M0 c0 (if (2 : Int) ≤ 0 then (1, X) else (if (0 : Int) = 0 then d_X2_readClause_r95d_3200124 (fun l2 W => d_X2_readClause_r95d_104 2 l2 W) 0 X else d_X2_readClause_r95d_3300124 (fun l2 W => d_X2_readClause_r95d_104 2 l2 W) 0 X)) _
  rw [if_neg (by decide), if_pos rfl]
  show pCe i X0 M0 c0 (if d_X9_wordOf_r68_r12d X = 0 then (if (d_X2_readTest_r95_c0d (d_X2_note_r95d 4 ((d_X9_step_r68d X).1 95 4) (d_X9_step_r68d X))).1 = 0 then (0, (d_X2_readTest_r95_c0d (d_X2_note_r95d 4 ((d_X9_step_r68d X).1 95 4) (d_X9_step_r68d X))).2) else d_X2_readClause_r95d_104 (0 + 2) 1 (d_X2_emit_r95d 0 (d_X2_readTest_r95_c0d (d_X2_note_r95d 4 ((d_X9_step_r68d X).1 95 4) (d_X9_step_r68d X))).2)) else d_X2_readClause_r95d_104 (0 + 2) 1 X) _
  rw [wo_12 B.1 B.2.2.2.2.2.2.1]
  unfold rI
  rw [if_pos bad]
  by_cases t : M.1 125 11 = 1 ∧ M.2.1 125 12 = 294
  · have e0 : (if M.1 125 11 = 1 then wIx (M.2.1 125 12) [294] 0 else -1) = 0 := by
      rw [if_pos t.1]; exact if_pos t.2
    rw [if_pos e0, if_pos t.1, if_pos t.2]
    obtain ⟨I, hb, e96, e97, e95, e147⟩ := in_n P (by omega)
    have e47 : d_X12_readClause_r125d_300294 (10 * i) M = rU (10 * i) (d_X12_readPieces_r125d (10 * i + 6) 1 1 (d_X12_next_r125d M)) := rfl
    rw [e47]
    generalize d_X9_step_r68d X = X1 at *
    generalize d_X12_next_r125d M = M1 at *
    rcases pc_1 (fun X M c h g => ex_t h g) rd_t (y := 4) (j := 6) I.1 hb I.2.1 ⟨hi, by decide, by decide⟩ with ⟨z, bd⟩ | ⟨z, g, R1, R2, R3⟩
    · rw [if_pos z]
      have q := bf_U (l2 := 10 * i) bd.1
      exact Or.inl ⟨rfl, q.1, q.2.trans bd.2⟩
    · rw [if_neg (by omega)]
      have q3 : pCq (X1.1 96) (X1.1 97) (X1.1 95 4) (M1.1 147) c i 3 4 False := by rw [e96, e97, e95, e147]; exact Q3
      refine un_e (r := 0) hi (in_x hi (by decide) (by decide) I R1 R3) ?_ (cq_x hi (by decide) (by decide) (by decide) (by decide) (by decide) (by decide) q3 R3) R2
      rw [R3.2.2.1 _ (by omega), e96]; exact h5
  · have e0 : ¬ (if M.1 125 11 = 1 then wIx (M.2.1 125 12) [294] 0 else -1) = 0 := by
      by_cases c1 : M.1 125 11 = 1
      · rw [if_pos c1]
        have : wIx (M.2.1 125 12) [294] 0 = -1 := if_neg (fun z => t ⟨c1, z⟩)
        rw [this]; decide
      · rw [if_neg c1]; decide
    have e1 : (if M.1 125 11 = 1 then (if M.2.1 125 12 = 294 then d_X12_readClause_r125d_300294 (10 * i) M else d_X12_readClause_r125d_293 (10 * i) M) else d_X12_readClause_r125d_293 (10 * i) M) = rU (10 * i) (d_X12_readPieces_r125d (10 * i + 6) 0 1 M) := by
      by_cases c1 : M.1 125 11 = 1
      · rw [if_pos c1, if_neg (fun z => t ⟨c1, z⟩)]; rfl
      · rw [if_neg c1]; rfl
    rw [if_neg e0, e1]
    obtain ⟨R1, R2, R3⟩ := pc_0 (a3 := 1) (ts := True) (y := 4) (j := 6) B ⟨hi, by decide⟩ h4
    exact un_e (r := 0) hi (in_x hi (by decide) (by decide) P R1 R3) h5 (cq_x hi (by decide) (by decide) (by decide) (by decide) (by decide) (by decide) Q3 R3) R2
/-- with a SUM, or without -/
theorem su_e {i : Int} (hi : 0 ≤ i) {X0 M0 X M : jW} {c0 c : yC} (P : pIc i X0 M0 c0 X M c) (h3 : X.1 96 (i * 6 + 3).toNat = -1) (h4 : X.1 96 (i * 6 + 4).toNat = -1) (h5 : X.1 96 (i * 6 + 5).toNat = -1) : pCe i X0 M0 c0 (d_X2_readClause_r95d_102 X) (d_X12_readClause_r125d_200262 (10 * i) M) ∧ (X.1 95 4 ≤ 2 * M.1 125 9 → pCe i X0 M0 c0 (d_X2_readClause_r95d_78 X) (d_X12_readClause_r125d_300262 (10 * i) M)) := by
  constructor
  · rw [rI_0]
    obtain ⟨R1, R2, R3⟩ := pc_0 (a3 := 0) (ts := False) (y := 3) (j := 4) P.1 ⟨hi, by decide⟩ h3
    exact if_e hi (in_x hi (by decide) (by decide) P R1 R3) h4 h5 R2
  · intro hb
    rw [rI_1]
    unfold d_X2_readClause_r95d_78
    rcases pc_1 (fun X M c h g => ex_s h g) rd_s (y := 3) (j := 4) P.1 hb P.2.1 ⟨hi, by decide, by decide⟩ with ⟨z, bd⟩ | ⟨z, g, R1, R2, R3⟩
    · rw [if_pos z]
      have q := bf_I (l2 := 10 * i) bd.1
      exact Or.inl ⟨rfl, q.1, q.2.trans bd.2⟩
    · rw [if_neg (by omega)]
      exact if_e hi (in_x hi (by decide) (by decide) P R1 R3) (by rw [R3.2.2.1 _ (by omega)]; exact h4) (by rw [R3.2.2.1 _ (by omega)]; exact h5) R2
end jG64

section jG65
/-! pure: a CLAUSE read by both -/
theorem bd_0 {X M : jW} (T : pTk X M) : pBd (vu X 68 2 (X.1 68 3)) (mBad M) := ⟨(vu_n (by omega)).trans (vu_e rfl), by rw [vu_e rfl]; exact (show (mBad M).1 125 13 = M.1 125 9 from vu_e rfl).trans T.2.1.symm⟩
/-- the tail of the reference's clause, its places cleared -/
def tlC (l1 l2 : Int) (V : jW) : jW := if l1 = 0 then (if (d_X12_number_r125d 29 V).2.1 125 11 = 1 then (if (vu (d_X12_number_r125d 29 V).2 147 (l2 + 2).toNat (d_X12_number_r125d 29 V).1).2.1 125 12 = 113301093 then vu (vu (d_X12_number_r125d 11 (d_X12_must_r125d 1 (vu (d_X12_number_r125d 29 V).2 147 (l2 + 2).toNat (d_X12_number_r125d 29 V).1))).2 147 (l2 + 3).toNat (d_X12_number_r125d 11 (d_X12_must_r125d 1 (vu (d_X12_number_r125d 29 V).2 147 (l2 + 2).toNat (d_X12_number_r125d 29 V).1))).1) 125 47 (V.1 125 47 + 1) else vu (vu (d_X12_number_r125d 11 (d_X12_must_r125d 0 (vu (d_X12_number_r125d 29 V).2 147 (l2 + 2).toNat (d_X12_number_r125d 29 V).1))).2 147 (l2 + 3).toNat (d_X12_number_r125d 11 (d_X12_must_r125d 0 (vu (d_X12_number_r125d 29 V).2 147 (l2 + 2).toNat (d_X12_number_r125d 29 V).1))).1) 125 47 (V.1 125 47 + 1)) else vu (vu (d_X12_number_r125d 11 (d_X12_must_r125d 0 (vu (d_X12_number_r125d 29 V).2 147 (l2 + 2).toNat (d_X12_number_r125d 29 V).1))).2 147 (l2 + 3).toNat (d_X12_number_r125d 11 (d_X12_must_r125d 0 (vu (d_X12_number_r125d 29 V).2 147 (l2 + 2).toNat (d_X12_number_r125d 29 V).1))).1) 125 47 (V.1 125 47 + 1)) else (if l1 = 1 then d_X12_readClause_r125d_209 l1 l2 (d_X12_choice_r125d (d_X12_groundAt_r125d V) V).1 (l2 + 1) (d_X12_choice_r125d (d_X12_groundAt_r125d V) V).2 else (if l1 = 2 then d_X12_readClause_r125d_163 l1 l2 (l2 + 1) V else (if l1 = 3 then d_X12_readClause_r125d_163 l1 l2 (l2 + 1) V else (if l1 = 6 then d_X12_readClause_r125d_209 l1 l2 (d_X12_choice_r125d (d_X12_officeAt_r125d V) V).1 (l2 + 1) (d_X12_choice_r125d (d_X12_officeAt_r125d V) V).2 else (if l1 = 7 then d_X12_readClause_r125d_209 l1 l2 (d_X12_choice_r125d (d_X12_feeAt_r125d V) V).1 (l2 + 1) (d_X12_choice_r125d (d_X12_feeAt_r125d V) V).2 else d_X12_readClause_r125d_200209 l1 l2 (l2 + 1) V)))))
theorem z46 {l1 l2 : Int} (h2 : 0 ≤ l2) : ∀ (j r : Nat) (l3 : Int) (W : jW), 0 ≤ l3 → l3 + j = 10 → j < r → ∃ V : jW, d_X12_readClause_r125d_46 r l1 l2 l3 W = tlC l1 l2 (vu V 147 l2.toNat l1) ∧ (∀ k : Nat, k ≠ 147 → V.1 k = W.1 k) ∧ V.2 = W.2 ∧ (∀ k : Nat, (k : Int) < l2 → V.1 147 k = W.1 147 k)
  | 0, r + 1, l3, W, h0, h, hr => by
    refine ⟨W, ?_, fun _ _ => rfl, rfl, fun _ _ => rfl⟩
    have e : (vu W 147 l2.toNat l1).1 125 47 = W.1 125 47 := vu_n (by omega)
    unfold tlC
    rw [e]
    exact if_pos (by omega)
  | j + 1, r + 1, l3, W, h0, h, hr => by
    obtain ⟨V, e1, e2, e3, e4⟩ := z46 h2 j r (l3 + 1) (vu W 147 (l2 + l3).toNat 0) (by omega) (by omega) (by omega)
    refine ⟨V, (if_neg (by omega)).trans e1, fun k hk => (e2 k hk).trans (vu_c hk), e3, fun k hk => (e4 k hk).trans (vu_n (by omega))⟩
/-- where the reading of the head of CLAUSE i stands: k, u1, u2 the class's columns, l, w1, w2, w3 the reference's places -/
def pQ (i : Int) (X M : jW) (c : yC) (k l u1 u2 w1 w2 w3 : Int) (Y N : jW) : Prop := pB Y N c ∧ Y.1 95 3 = i + 1 ∧ N.1 125 47 = i ∧ Y.1 97 = X.1 97 ∧ Y.1 95 4 = X.1 95 4 ∧ (∀ j : Nat, (j : Int) < i * 6 → Y.1 96 j = X.1 96 j) ∧ (∀ j : Nat, (j : Int) < 10 * i → N.1 147 j = M.1 147 j) ∧ (M.1 125 9 < N.1 125 9 ∧ Y.1 95 4 ≤ 2 * N.1 125 9) ∧ (Y.1 96 (i * 6 + 0).toNat = k ∧ Y.1 96 (i * 6 + 1).toNat = u1 ∧ Y.1 96 (i * 6 + 2).toNat = u2 ∧ Y.1 96 (i * 6 + 3).toNat = -1 ∧ Y.1 96 (i * 6 + 4).toNat = -1 ∧ Y.1 96 (i * 6 + 5).toNat = -1) ∧ (N.1 147 (10 * i).toNat = l ∧ N.1 147 (10 * i + 1).toNat = w1 ∧ N.1 147 (10 * i + 2).toNat = w2 ∧ N.1 147 (10 * i + 3).toNat = w3)
theorem pq_n {i : Int} {X M Y N : jW} {c : yC} {k l u1 u2 w1 w2 w3 : Int} (P : pQ i X M c k l u1 u2 w1 w2 w3 Y N) (ht : N.1 125 11 ≠ 0) : pQ i X M c k l u1 u2 w1 w2 w3 (d_X9_step_r68d Y) (d_X12_next_r125d N) := by
  obtain ⟨p1, p2, p3, p4, p5, p6, p7, p8, p9, p10⟩ := P
  obtain ⟨b1, b2, b3⟩ := pB_n p1 ht
  have F := fr_d_X12_next_r125d N
  have G := fr_d_X9_step_r68d Y
  have e96 : (d_X9_step_r68d Y).1 96 = Y.1 96 := pF_c G rfl
  have e97 : (d_X9_step_r68d Y).1 97 = Y.1 97 := pF_c G rfl
  have e95 : (d_X9_step_r68d Y).1 95 = Y.1 95 := pF_c G rfl
  have e147 : (d_X12_next_r125d N).1 147 = N.1 147 := pF_c F rfl
  exact ⟨b1, by rw [e95]; exact p2, (F.1 125 47 rfl).trans p3, e97.trans p4, by rw [e95]; exact p5, by rw [e96]; exact p6, by rw [e147]; exact p7, ⟨by omega, b3⟩, by rw [e96]; exact p9, by rw [e147]; exact p10⟩
theorem pqn1 {i : Int} (hi : 0 ≤ i) {X M Y N : jW} {c : yC} {k l u1 u2 w1 w2 w3 v : Int} (P : pQ i X M c k l u1 u2 w1 w2 w3 Y N) : pQ i X M c k l v u2 w1 w2 w3 (d_X2_note_r95d 1 v Y) N := by
  obtain ⟨p1, p2, p3, p4, p5, p6, p7, p8, ⟨q0, q1, q2, q3, q4, q5⟩, p10⟩ := P
  obtain ⟨e1, e2, e3, e4, e5⟩ := nt_f (X := Y) (a := 1) (x := v)
  have nv := nt_v (X := Y) (a := 1) (x := v) p2 hi (by decide)
  have o : ∀ j : Nat, j ≠ (i * 6 + 1).toNat → (d_X2_note_r95d 1 v Y).1 96 j = Y.1 96 j := fun j hj => by rw [nv]; exact vu_n (by omega)
  refine ⟨pB_t p1, by rw [e3]; exact p2, p3, e4.trans p4, by rw [e3]; exact p5, fun j hj => (o j (by omega)).trans (p6 j hj), p7, by rw [e3]; exact p8, ⟨(o _ (by omega)).trans q0, by rw [nv]; exact vu_e rfl, (o _ (by omega)).trans q2, (o _ (by omega)).trans q3, (o _ (by omega)).trans q4, (o _ (by omega)).trans q5⟩, p10⟩
theorem pqn2 {i : Int} (hi : 0 ≤ i) {X M Y N : jW} {c : yC} {k l u1 u2 w1 w2 w3 v : Int} (P : pQ i X M c k l u1 u2 w1 w2 w3 Y N) : pQ i X M c k l u1 v w1 w2 w3 (d_X2_note_r95d 2 v Y) N := by
  obtain ⟨p1, p2, p3, p4, p5, p6, p7, p8, ⟨q0, q1, q2, q3, q4, q5⟩, p10⟩ := P
  obtain ⟨e1, e2, e3, e4, e5⟩ := nt_f (X := Y) (a := 2) (x := v)
  have nv := nt_v (X := Y) (a := 2) (x := v) p2 hi (by decide)
  have o : ∀ j : Nat, j ≠ (i * 6 + 2).toNat → (d_X2_note_r95d 2 v Y).1 96 j = Y.1 96 j := fun j hj => by rw [nv]; exact vu_n (by omega)
  refine ⟨pB_t p1, by rw [e3]; exact p2, p3, e4.trans p4, by rw [e3]; exact p5, fun j hj => (o j (by omega)).trans (p6 j hj), p7, by rw [e3]; exact p8, ⟨(o _ (by omega)).trans q0, (o _ (by omega)).trans q1, by rw [nv]; exact vu_e rfl, (o _ (by omega)).trans q3, (o _ (by omega)).trans q4, (o _ (by omega)).trans q5⟩, p10⟩
theorem pq_v {i : Int} (hi : 0 ≤ i) {X M Y N : jW} {c : yC} {k l u1 u2 w1 w2 w3 v : Int} (P : pQ i X M c k l u1 u2 w1 w2 w3 Y N) : pQ i X M c k l u1 u2 v w2 w3 Y (vu N 147 (10 * i + 1).toNat v) ∧ pQ i X M c k l u1 u2 w1 v w3 Y (vu N 147 (10 * i + 2).toNat v) ∧ pQ i X M c k l u1 u2 w1 w2 v Y (vu N 147 (10 * i + 3).toNat v) := by
  obtain ⟨p1, p2, p3, p4, p5, p6, p7, p8, p9, ⟨r0, r1, r2, r3⟩⟩ := P
  have o : ∀ (a j : Nat), j ≠ a → (vu N 147 a v).1 147 j = N.1 147 j := fun a j hj => vu_n (by omega)
  have u : ∀ (a j : Nat), (vu N 147 a v).1 125 j = N.1 125 j := fun a j => vu_n (by omega)
  refine ⟨⟨pB_v p1, p2, (u _ 47).trans p3, p4, p5, p6, fun j hj => (o _ j (by omega)).trans (p7 j hj), by rw [u]; exact p8, p9, (o _ _ (by omega)).trans r0, vu_e rfl, (o _ _ (by omega)).trans r2, (o _ _ (by omega)).trans r3⟩, ⟨pB_v p1, p2, (u _ 47).trans p3, p4, p5, p6, fun j hj => (o _ j (by omega)).trans (p7 j hj), by rw [u]; exact p8, p9, (o _ _ (by omega)).trans r0, (o _ _ (by omega)).trans r1, vu_e rfl, (o _ _ (by omega)).trans r3⟩, ⟨pB_v p1, p2, (u _ 47).trans p3, p4, p5, p6, fun j hj => (o _ j (by omega)).trans (p7 j hj), by rw [u]; exact p8, p9, (o _ _ (by omega)).trans r0, (o _ _ (by omega)).trans r1, (o _ _ (by omega)).trans r2, vu_e rfl⟩⟩
/-- the head is read: what is left -/
theorem pq_e {i : Int} (hi : 0 ≤ i) {X M Y N : jW} {c : yC} {k l u1 u2 w1 w2 w3 : Int} (P : pQ i X M c k l u1 u2 w1 w2 w3 Y N) (hl : 1 ≤ l ∧ l ≤ 8) (hk : k = l - 1) (h1 : u1 = w1) (h2 : u2 = w2) (g1 : l = 1 → 0 ≤ w1 ∧ w1 ≤ 5) (g6 : l = 6 → 0 ≤ w2 ∧ w2 ≤ 1000000) : pCe i X M c (d_X2_readClause_r95d_102 Y) (d_X12_readClause_r125d_200262 (10 * i) N) ∧ pCe i X M c (d_X2_readClause_r95d_78 Y) (d_X12_readClause_r125d_300262 (10 * i) N) := by
  obtain ⟨p1, p2, p3, p4, p5, p6, p7, p8, ⟨q0, q1, q2, q3, q4, q5⟩, ⟨r0, r1, r2, r3⟩⟩ := P
  have I : pIc i X M c Y N c := by
    refine ⟨p1, p2, p3, ⟨?_, ?_, ?_, ?_, ?_, ?_, ?_⟩, by rw [r0]; omega, fun j _ => by rw [p4], yUp_r, by omega, Int.le_refl _, p6, p7, by omega⟩
    · rw [q0, r0, if_neg (by omega)]; exact hk
    · rw [q1, r0, if_neg (by omega), r1]; exact h1
    · rw [q2, r0, if_neg (by omega), r2]; exact h2
    · rw [r0]; omega
    · rw [r0]; exact fun z => absurd z (by omega)
    · rw [r0, r1]; exact g1
    · rw [r0, r2]; exact g6
  have S := su_e hi I q3 q4 q5
  exact ⟨S.1, S.2 p8.2⟩
theorem nu_e {Y N : jW} {c : yC} {a1 a2 : Int} (B : pB Y N c) (ha : 0 ≤ a2 ∧ a2 ≤ 100000) : (N.1 125 11 = 2 ∧ N.2.1 125 12 ≤ a2 ∧ 0 ≤ N.2.1 125 12 ∧ d_X2_readNumber_r95d a1 a2 Y = (1, d_X9_step_r68d (d_X2_note_r95d a1 (N.2.1 125 12) Y)) ∧ d_X12_number_r125d a2 N = (N.2.1 125 12, d_X12_next_r125d N)) ∨ (d_X2_readNumber_r95d a1 a2 Y = (0, vu Y 68 2 (Y.1 68 3)) ∧ (d_X12_number_r125d a2 N).2 = mBad N) := by
  have nb := no_e B.1 (a1 := a2) (by omega)
  have bad := B.2.2.1
  unfold d_X2_readNumber_r95d d_X12_number_r125d
  rw [nb.1]
  by_cases c1 : N.1 125 11 = 2
  · have n0 := nb.2 c1
    rw [if_pos c1, if_pos c1]
    by_cases c2 : N.2.1 125 12 ≤ a2
    · rw [if_pos c2, if_neg (show ¬ a2 < N.2.1 125 12 from by omega), if_neg (show ¬ N.2.1 125 12 = -1 from by omega)]
      refine Or.inl ⟨c1, c2, n0, rfl, ?_⟩
      show (j_l2i (N.2.1 125 12), d_X12_must_r125d 1 N) = _
      rw [mu_1 bad, l2i_e (by omega)]
    · rw [if_neg c2, if_pos (show a2 < N.2.1 125 12 from by omega), if_pos rfl]
      exact Or.inr ⟨rfl, mu_0 bad⟩
  · rw [if_neg c1, if_neg c1, if_pos rfl]
    exact Or.inr ⟨rfl, mu_0 bad⟩
theorem ch_e {N : jW} {v : Int} (bad : N.1 125 14 = 0) : (v = -1 → (d_X12_choice_r125d v N).2 = mBad N) ∧ (v ≠ -1 → d_X12_choice_r125d v N = (v, d_X12_next_r125d N)) := by
  unfold d_X12_choice_r125d
  constructor
  · intro h
    rw [if_pos h]; exact mu_0 bad
  · intro h
    rw [if_neg h]
    show (v, d_X12_must_r125d 1 N) = _
    rw [mu_1 bad]
/-- behind WHICH: TURN has a number more -/
theorem wh_e {i : Int} (hi : 0 ≤ i) {X M Y N : jW} {c : yC} {k l u1 w1 w2 w3 v : Int} (P : pQ i X M c k l u1 0 w1 w2 w3 Y N) (hl : 1 ≤ l ∧ l ≤ 8) (hk : k = l - 1) {R : jW → Int × jW} {wo at_ : Int} (hR : R Y = if wo = -1 then (0, vu Y 68 2 (Y.1 68 3)) else (1, d_X9_step_r68d (d_X2_note_r95d 1 wo Y))) (hw : wo = if N.1 125 11 = 1 then v else -1) (ha : at_ = wo) : ((R Y).1 = 0 ∧ pBd (R Y).2 (d_X12_readClause_r125d_209 l (10 * i) (d_X12_choice_r125d at_ N).1 (10 * i + 1) (d_X12_choice_r125d at_ N).2)) ∨ ((R Y).1 = 1 ∧ ∃ V : jW, pQ i X M c k l wo 0 wo w2 w3 (R Y).2 V ∧ d_X12_readClause_r125d_209 l (10 * i) (d_X12_choice_r125d at_ N).1 (10 * i + 1) (d_X12_choice_r125d at_ N).2 = (if l = 6 then d_X12_readClause_r125d_200262 (10 * i) (vu (d_X12_number_r125d 399 V).2 147 (10 * i + 2).toNat (d_X12_number_r125d 399 V).1) else d_X12_readClause_r125d_200234 l (10 * i) (10 * i + 2) V)) := by
  have B := P.1
  have bad := B.2.2.1
  obtain ⟨c1, c2⟩ := ch_e (N := N) (v := at_) bad
  rw [hR]
  by_cases h : wo = -1
  · rw [if_pos h]
    have b0 := bd_0 B.1
    have b1 := bf_209 (M := (d_X12_choice_r125d at_ N).2) (l1 := l) (l2 := 10 * i) (s0 := (d_X12_choice_r125d at_ N).1) (s1 := 10 * i + 1)
    rw [c1 (ha.trans h)] at b1 ⊢
    have b2 := b1 b0.1
    exact Or.inl ⟨rfl, b2.1, b2.2.trans b0.2⟩
  · rw [if_neg h, c2 (by rw [ha]; exact h), ha]
    have ht : N.1 125 11 = 1 := by
      by_cases q : N.1 125 11 = 1
      · exact q
      · rw [if_neg q] at hw; exact absurd hw h
    refine Or.inr ⟨rfl, vu (d_X12_next_r125d N) 147 (10 * i + 1).toNat wo, (pq_v hi (pq_n (pqn1 hi (v := wo) P) (by omega))).1, rfl⟩
theorem wk_1x {i : Int} (hi : 0 ≤ i) {X M Y N : jW} {c : yC} {k l u1 w1 w2 w3 v : Int} (P : pQ i X M c k l u1 0 w1 w2 w3 Y N) (hk : k = l - 1) {R : jW → Int × jW} {wo at_ : Int} (hR : R Y = if wo = -1 then (0, vu Y 68 2 (Y.1 68 3)) else (1, d_X9_step_r68d (d_X2_note_r95d 1 wo Y))) (hw : wo = if N.1 125 11 = 1 then v else -1) (ha : at_ = wo) (h : l = 1 ∨ l = 2) (gr : l = 1 → wo ≠ -1 → 0 ≤ wo ∧ wo ≤ 5) : pCe i X M c (if (R Y).1 = 0 then (0, (R Y).2) else d_X2_readClause_r95d_102 (R Y).2) (d_X12_readClause_r125d_209 l (10 * i) (d_X12_choice_r125d at_ N).1 (10 * i + 1) (d_X12_choice_r125d at_ N).2) := by
  rcases wh_e hi P (by omega) hk hR hw ha with ⟨z, b⟩ | ⟨z, V, Q, e⟩
  · rw [if_pos z]
    exact Or.inl ⟨rfl, b⟩
  · rw [if_neg (by omega), e, if_neg (show ¬ l = 6 from by omega)]
    unfold d_X12_readClause_r125d_200234
    rw [if_neg (show ¬ l = 3 from by omega), if_neg (show ¬ l = 4 from by omega), if_neg (show ¬ l = 7 from by omega), if_neg (show ¬ l = 8 from by omega)]
    have nw : wo ≠ -1 := fun q => by
      rw [hR, if_pos q] at z
      exact absurd (show (0 : Int) = 1 from z) (by decide)
    exact (pq_e hi (pq_v hi (v := 0) Q).2.1 (by omega) hk rfl rfl (fun q => gr q nw) (fun q => absurd q (by omega))).1
theorem wk_3x {i : Int} (hi : 0 ≤ i) {X M Y N : jW} {c : yC} {k l u1 w1 w2 w3 v : Int} (P : pQ i X M c k l u1 0 w1 w2 w3 Y N) (hk : k = l - 1) {R : jW → Int × jW} {wo at_ : Int} (hR : R Y = if wo = -1 then (0, vu Y 68 2 (Y.1 68 3)) else (1, d_X9_step_r68d (d_X2_note_r95d 1 wo Y))) (hw : wo = if N.1 125 11 = 1 then v else -1) (ha : at_ = wo) (h : l = 3 ∨ l = 7) : pCe i X M c (if (R Y).1 = 0 then (0, (R Y).2) else d_X2_readClause_r95d_78 (R Y).2) (d_X12_readClause_r125d_209 l (10 * i) (d_X12_choice_r125d at_ N).1 (10 * i + 1) (d_X12_choice_r125d at_ N).2) := by
  rcases wh_e hi P (by omega) hk hR hw ha with ⟨z, b⟩ | ⟨z, V, Q, e⟩
  · rw [if_pos z]
    exact Or.inl ⟨rfl, b⟩
  · rw [if_neg (by omega), e, if_neg (show ¬ l = 6 from by omega)]
    have f := (pq_e hi (pq_v hi (v := 0) Q).2.1 (by omega) hk rfl rfl (fun q => absurd q (by omega)) (fun q => absurd q (by omega))).2
    unfold d_X12_readClause_r125d_200234
    rcases h with q | q
    · rw [if_pos q]; exact f
    · rw [if_neg (show ¬ l = 3 from by omega), if_neg (show ¬ l = 4 from by omega), if_pos q]; exact f
theorem wk_6x {i : Int} (hi : 0 ≤ i) {X M Y N : jW} {c : yC} {k l u1 w1 w2 w3 v : Int} (P : pQ i X M c k l u1 0 w1 w2 w3 Y N) (hk : k = l - 1) {R : jW → Int × jW} {wo at_ : Int} (hR : R Y = if wo = -1 then (0, vu Y 68 2 (Y.1 68 3)) else (1, d_X9_step_r68d (d_X2_note_r95d 1 wo Y))) (hw : wo = if N.1 125 11 = 1 then v else -1) (ha : at_ = wo) (h : l = 6) : pCe i X M c (if (R Y).1 = 0 then (0, (R Y).2) else if (d_X2_readNumber_r95d 2 399 (R Y).2).1 = 0 then (0, (d_X2_readNumber_r95d 2 399 (R Y).2).2) else d_X2_readClause_r95d_102 (d_X2_readNumber_r95d 2 399 (R Y).2).2) (d_X12_readClause_r125d_209 l (10 * i) (d_X12_choice_r125d at_ N).1 (10 * i + 1) (d_X12_choice_r125d at_ N).2) := by
  rcases wh_e hi P (by omega) hk hR hw ha with ⟨z, b⟩ | ⟨z, V, Q, e⟩
  · rw [if_pos z]
    exact Or.inl ⟨rfl, b⟩
  · rw [if_neg (show ¬ (R Y).1 = 0 from by omega), e, if_pos h]
    generalize (R Y).2 = Z at *
    rcases nu_e (a1 := 2) (a2 := 399) Q.1 ⟨by decide, by decide⟩ with ⟨q1, q2, q3, q4, q5⟩ | ⟨q1, q2⟩
    · rw [q4, q5, if_neg (show ¬ (1 : Int) = 0 from by decide)]
      exact (pq_e hi (pq_v hi (v := V.2.1 125 12) (pq_n (pqn2 hi (v := V.2.1 125 12) Q) (by omega))).2.1 (by omega) hk rfl rfl (fun q => absurd q (by omega)) (fun _ => by omega)).1
    · rw [q1, q2, if_pos rfl]
      have b0 := bd_0 Q.1.1
      have b1 := bf_t (bf_v (M := mBad V) (k := (10 * i + 2).toNat) (x := (d_X12_number_r125d 399 V).1)) (bf_262 (l2 := 10 * i)).1 b0.1
      exact Or.inl ⟨rfl, b1.1, b1.2.trans b0.2⟩
theorem wk_4x {i : Int} (hi : 0 ≤ i) {X M Y N : jW} {c : yC} {k l w1 w2 w3 : Int} (P : pQ i X M c k l 0 0 w1 w2 w3 Y N) (hk : k = l - 1) (h : l = 4 ∨ l = 5 ∨ l = 8) : ((l = 4 ∨ l = 8) → pCe i X M c (d_X2_readClause_r95d_78 Y) (d_X12_readClause_r125d_200209 l (10 * i) (10 * i + 1) N)) ∧ (l = 5 → pCe i X M c (d_X2_readClause_r95d_102 Y) (d_X12_readClause_r125d_200209 l (10 * i) (10 * i + 1) N)) := by
  have f := pq_e hi (pq_v hi (v := 0) (pq_v hi (v := 0) P).1).2.1 (by omega) hk rfl rfl (fun q => absurd q (by omega)) (fun q => absurd q (by omega))
  unfold d_X12_readClause_r125d_200209 d_X12_readClause_r125d_200234
  rw [if_neg (show ¬ l = 6 from by omega), if_neg (show ¬ l = 3 from by omega)]
  refine ⟨fun q => ?_, fun q => ?_⟩
  · rcases q with q | q
    · rw [if_pos q]; exact f.2
    · rw [if_neg (show ¬ l = 4 from by omega), if_neg (show ¬ l = 7 from by omega), if_pos q]; exact f.2
  · rw [if_neg (show ¬ l = 4 from by omega), if_neg (show ¬ l = 7 from by omega), if_neg (show ¬ l = 8 from by omega)]; exact f.1
theorem oh_e {i : Int} (hi : 0 ≤ i) {X : jW} {k : Int} (h3 : X.1 95 3 = i + 1) : (d_X2_openHead_r95d k X).1 68 = X.1 68 ∧ (d_X2_openHead_r95d k X).1 69 = X.1 69 ∧ (d_X2_openHead_r95d k X).1 95 = X.1 95 ∧ (d_X2_openHead_r95d k X).1 97 = X.1 97 ∧ pXr X (d_X2_openHead_r95d k X) ∧ (∀ j : Nat, (j : Int) < i * 6 → (d_X2_openHead_r95d k X).1 96 j = X.1 96 j) ∧ (d_X2_openHead_r95d k X).1 96 (i * 6 + 0).toNat = k ∧ (d_X2_openHead_r95d k X).1 96 (i * 6 + 1).toNat = 0 ∧ (d_X2_openHead_r95d k X).1 96 (i * 6 + 2).toNat = 0 ∧ (d_X2_openHead_r95d k X).1 96 (i * 6 + 3).toNat = -1 ∧ (d_X2_openHead_r95d k X).1 96 (i * 6 + 4).toNat = -1 ∧ (d_X2_openHead_r95d k X).1 96 (i * 6 + 5).toNat = -1 := by
  have F := fr_d_X2_openHead_r95d k X
  have e : d_X2_openHead_r95d k X = vu (vu (vu (vu (vu (vu X 96 (i * 6 + 0).toNat k) 96 (i * 6 + 1).toNat 0) 96 (i * 6 + 2).toNat 0) 96 (i * 6 + 3).toNat (-1)) 96 (i * 6 + 4).toNat (-1)) 96 (i * 6 + 5).toNat (-1) := by
    unfold d_X2_openHead_r95d
    have v : ∀ (W : jW) (a : Nat) (x : Int), (vu W 96 a x).1 95 3 = W.1 95 3 := fun W a x => vu_n (by omega)
    rw [nt_v (a := 0) h3 hi (by decide), nt_v (a := 1) (by rw [v]; exact h3) hi (by decide), nt_v (a := 2) (by rw [v, v]; exact h3) hi (by decide), nt_v (a := 3) (by rw [v, v, v]; exact h3) hi (by decide), nt_v (a := 4) (by rw [v, v, v, v]; exact h3) hi (by decide), nt_v (a := 5) (by rw [v, v, v, v, v]; exact h3) hi (by decide)]
  refine ⟨pF_c F rfl, pF_c F rfl, pF_c F rfl, pF_c F rfl, pXr_f F rfl, fun j hj => ?_, ?_, ?_, ?_, ?_, ?_, ?_⟩
  · rw [e, vu_n (by omega), vu_n (by omega), vu_n (by omega), vu_n (by omega), vu_n (by omega), vu_n (by omega)]
  · rw [e, vu_n (by omega), vu_n (by omega), vu_n (by omega), vu_n (by omega), vu_n (by omega), vu_e rfl]
  · rw [e, vu_n (by omega), vu_n (by omega), vu_n (by omega), vu_n (by omega), vu_e rfl]
  · rw [e, vu_n (by omega), vu_n (by omega), vu_n (by omega), vu_e rfl]
  · rw [e, vu_n (by omega), vu_n (by omega), vu_e rfl]
  · rw [e, vu_n (by omega), vu_e rfl]
  · rw [e, vu_e rfl]
theorem cz_e {X M : jW} {c : yC} {i : Int} (h : pB X M c) (h3 : X.1 95 3 = i + 1) (h47 : M.1 125 47 = i) (hi : 0 ≤ i ∧ i < 12) : pCe i X M c (d_X2_readClause_r95d X) (d_X12_readClause_r125d M) := by
  have bad := h.2.2.1
  have wo := wo_5 h.1 h.2.2.2.2.2.2.1
  have wr := wIx_r (w := M.2.1 125 12) [72760775, 193115668, 591493, 609625254, 2134245, 677454, 6309, 627764, 659105125] 0 (by decide)
  have wl : ([72760775, 193115668, 591493, 609625254, 2134245, 677454, 6309, 627764, 659105125] : List Int).length = 9 := rfl
  rw [wl] at wr
  unfold d_X2_readClause_r95d d_X12_readClause_r125d
  rw [wo, ka_e]
  by_cases t : M.1 125 11 = 1 ∧ wIx (M.2.1 125 12) [72760775, 193115668, 591493, 609625254, 2134245, 677454, 6309, 627764, 659105125] 0 ≠ -1
  · obtain ⟨t1, t2⟩ := t
    rw [if_pos t1, if_pos t1, if_neg t2, if_neg t2]
    generalize wIx (M.2.1 125 12) [72760775, 193115668, 591493, 609625254, 2134245, 677454, 6309, 627764, 659105125] 0 = k at *
    have hk : 0 ≤ k ∧ k ≤ 8 := by omega
    have hl : (if k = 8 then (0 : Int) else k + 1) ≠ -1 := by
      by_cases q : k = 8
      · rw [if_pos q]; decide
      · rw [if_neg q]; omega
    rw [if_neg hl, if_neg (show ¬ 12 ≤ M.1 125 47 from by omega)]
    unfold d_X12_readClause_r125d_300025
    obtain ⟨b1, b2, b3⟩ := pB_n h (by omega)
    have F := fr_d_X12_next_r125d M
    have G := fr_d_X9_step_r68d X
    have e95 : (d_X9_step_r68d X).1 95 = X.1 95 := pF_c G rfl
    have e96 : (d_X9_step_r68d X).1 96 = X.1 96 := pF_c G rfl
    have e97 : (d_X9_step_r68d X).1 97 = X.1 97 := pF_c G rfl
    have f147 : (d_X12_next_r125d M).1 147 = M.1 147 := pF_c F rfl
    have f47 := F.1 125 47 rfl
    rw [mu_1 bad, if_pos b1.2.2.1, h47]
    obtain ⟨V, z1, z2, z3, z4⟩ := z46 (l1 := if k = 8 then (0 : Int) else k + 1) (l2 := 10 * i) (by omega) 10 11 0 (d_X12_next_r125d M) (by decide) (by decide) (by decide)
    rw [z1]
    have s3 : (d_X9_step_r68d X).1 95 3 = i + 1 := by rw [e95]; exact h3
    obtain ⟨o1, o2, o3, o4, o5, o6, o7, o8, o9, o10, o11, o12⟩ := oh_e (k := k) hi.1 s3
    have BY : pB (d_X2_openHead_r95d k (d_X9_step_r68d X)) (d_X12_next_r125d M) c := pB_x b1 o1 o2 (by rw [o3]) (by rw [o3]) o5
    have mtV : pMt (d_X12_next_r125d M) V := ⟨by rw [z2 125 (by decide)], by rw [z2 125 (by decide)], by rw [z2 125 (by decide)], by rw [z2 125 (by decide)], by rw [z3], z2 131 (by decide)⟩
    have moV : pMo (d_X12_next_r125d M) V := ⟨by rw [z2 125 (by decide)], by rw [z2 125 (by decide)], by rw [z2 125 (by decide)], by rw [z2 125 (by decide)]⟩
    have BV : pB (d_X2_openHead_r95d k (d_X9_step_r68d X)) V c := pB_m BY mtV moV (by rw [z2 125 (by decide)]) (z2 148 (by decide)) (z2 149 (by decide))
    have v47 : V.1 125 47 = i := by rw [z2 125 (by decide), f47]; exact h47
    have v9 : V.1 125 9 = (d_X12_next_r125d M).1 125 9 := by rw [z2 125 (by decide)]
    have Q : ∀ l : Int, pQ i X M c k l 0 0 ((vu V 147 (10 * i).toNat l).1 147 (10 * i + 1).toNat) ((vu V 147 (10 * i).toNat l).1 147 (10 * i + 2).toNat) ((vu V 147 (10 * i).toNat l).1 147 (10 * i + 3).toNat) (d_X2_openHead_r95d k (d_X9_step_r68d X)) (vu V 147 (10 * i).toNat l) := by
      intro l
      refine ⟨pB_v BV, by rw [o3]; exact s3, (vu_n (by omega)).trans v47, o4.trans e97, by rw [o3, e95], fun j hj => by rw [o6 j hj, e96], fun j hj => ?_, ?_, ⟨o7, o8, o9, o10, o11, o12⟩, vu_e rfl, rfl, rfl, rfl⟩
      · rw [vu_n (by omega), z4 j hj, f147]
      · rw [vu_n (by omega), v9, o3]; exact ⟨b2, b3⟩
    generalize d_X2_openHead_r95d k (d_X9_step_r68d X) = Y at *
    have i0 := hi.1
    by_cases k8 : k = 8
    · -- STRIKE
      rw [if_pos k8]
      rw [if_pos k8]
      have P := Q 0
      generalize vu V 147 (10 * i).toNat 0 = N at *
      have tl0 : ∀ (N3 : jW) (x3 : Int), pBd Y N3 ∨ True → True := fun _ _ _ => trivial
      have B := P.1
      have badN := B.2.2.1
      unfold tlC
      rw [if_pos rfl]
      rcases nu_e (a1 := 1) (a2 := 29) B ⟨by decide, by decide⟩ with ⟨q1, q2, q3, q4, q5⟩ | ⟨q1, q2⟩
      · rw [q4, q5, if_neg (show ¬ (1 : Int) = 0 from by decide)]
        have P2 := (pq_v i0 (v := N.2.1 125 12) (pq_n (pqn1 i0 (v := N.2.1 125 12) P) (by omega))).2.1
        have ee : (d_X12_next_r125d N).1 125 11 = (vu (d_X12_next_r125d N) 147 (10 * i + 2).toNat (N.2.1 125 12)).1 125 11 := (vu_n (by omega)).symm
        show pCe i X M c _ (if (d_X12_next_r125d N).1 125 11 = 1 then (if (vu (d_X12_next_r125d N) 147 (10 * i + 2).toNat (N.2.1 125 12)).2.1 125 12 = 113301093 then vu (vu (d_X12_number_r125d 11 (d_X12_must_r125d 1 (vu (d_X12_next_r125d N) 147 (10 * i + 2).toNat (N.2.1 125 12)))).2 147 (10 * i + 3).toNat (d_X12_number_r125d 11 (d_X12_must_r125d 1 (vu (d_X12_next_r125d N) 147 (10 * i + 2).toNat (N.2.1 125 12)))).1) 125 47 (N.1 125 47 + 1) else vu (vu (d_X12_number_r125d 11 (d_X12_must_r125d 0 (vu (d_X12_next_r125d N) 147 (10 * i + 2).toNat (N.2.1 125 12)))).2 147 (10 * i + 3).toNat (d_X12_number_r125d 11 (d_X12_must_r125d 0 (vu (d_X12_next_r125d N) 147 (10 * i + 2).toNat (N.2.1 125 12)))).1) 125 47 (N.1 125 47 + 1)) else vu (vu (d_X12_number_r125d 11 (d_X12_must_r125d 0 (vu (d_X12_next_r125d N) 147 (10 * i + 2).toNat (N.2.1 125 12)))).2 147 (10 * i + 3).toNat (d_X12_number_r125d 11 (d_X12_must_r125d 0 (vu (d_X12_next_r125d N) 147 (10 * i + 2).toNat (N.2.1 125 12)))).1) 125 47 (N.1 125 47 + 1))
        rw [ee]
        have nu29 : 0 ≤ N.2.1 125 12 ∧ N.2.1 125 12 ≤ 29 := ⟨q3, q2⟩
        have n47 : N.1 125 47 = i := P.2.2.1
        generalize N.2.1 125 12 = x1 at *
        generalize vu (d_X12_next_r125d N) 147 (10 * i + 2).toNat x1 = N2 at *
        generalize d_X9_step_r68d (d_X2_note_r95d 1 x1 Y) = Y2 at *
        have B2 := P2.1
        have bad2 := B2.2.2.1
        rw [wo_6 B2.1 B2.2.2.2.2.2.2.1]
        by_cases tc : N2.1 125 11 = 1 ∧ N2.2.1 125 12 = 113301093
        · have e0 : (if N2.1 125 11 = 1 then wIx (N2.2.1 125 12) [113301093] 0 else -1) = 0 := by
            rw [if_pos tc.1]; exact if_pos tc.2
          rw [if_pos e0, if_pos tc.1, if_pos tc.2, mu_1 bad2]
          have P3 := pq_n P2 (by omega)
          generalize d_X12_next_r125d N2 = N3 at *
          generalize d_X9_step_r68d Y2 = Y3 at *
          rcases nu_e (a1 := 2) (a2 := 11) P3.1 ⟨by decide, by decide⟩ with ⟨r1, r2, r3, r4, r5⟩ | ⟨r1, r2⟩
          · rw [r4, r5]
            have P4 := (pq_v i0 (v := N3.2.1 125 12) (pq_n (pqn2 i0 (v := N3.2.1 125 12) P3) (by omega))).2.2
            show pCe i X M c (1, d_X9_step_r68d (d_X2_note_r95d 2 (N3.2.1 125 12) Y3)) (vu (vu (d_X12_next_r125d N3) 147 (10 * i + 3).toNat (N3.2.1 125 12)) 125 47 (N.1 125 47 + 1))
            rw [n47]
            generalize N3.2.1 125 12 = x2 at *
            generalize vu (d_X12_next_r125d N3) 147 (10 * i + 3).toNat x2 = N4 at *
            generalize d_X9_step_r68d (d_X2_note_r95d 2 x2 Y3) = Y4 at *
            obtain ⟨p1, p2, p3, p4, p5, p6, p7, p8, ⟨g0, g1, g2, g3, g4, g5⟩, ⟨s0, s1, s2, s4⟩⟩ := P4
            have e147 : (vu N4 125 47 (i + 1)).1 147 = N4.1 147 := vu_c (by decide)
            refine Or.inr ⟨rfl, c, pB_m p1 (pMt_u (by omega)) (pMo_u (by omega)) (vu_n (by omega)) (vu_c (by decide)) (vu_c (by decide)), p2, vu_e rfl, ⟨?_, fun z => ?_⟩, fun j _ => by show Y4.1 97 j = _; rw [p4], yUp_r, by show _ ≤ Y4.1 95 4; omega, Int.le_refl _, p6, by rw [e147]; exact p7, by rw [vu_n (by omega)]; omega⟩
            · rw [e147]
              show pHn (Y4.1 96) (N4.1 147) i
              refine ⟨?_, ?_, ?_, ?_, ?_, ?_, ?_⟩
              · rw [g0, s0, if_pos rfl]; exact k8
              · rw [g1, s0, if_pos rfl, s2]
              · rw [g2, s0, if_pos rfl, s4]
              · rw [s0]; exact ⟨by decide, by decide⟩
              · intro _; rw [s2, s4]; omega
              · rw [s0]; exact fun z => absurd z (by decide)
              · rw [s0]; exact fun z => absurd z (by decide)
            · rw [e147, s0] at z; exact absurd rfl z
          · rw [r1]
            have b0 := bd_0 P3.1.1
            rw [r2]
            exact Or.inl ⟨rfl, (vu_n (by omega)).trans ((vu_n (by omega)).trans b0.1), (vu_n (by omega)).trans ((vu_n (by omega)).trans b0.2)⟩
        · have e0 : ¬ (if N2.1 125 11 = 1 then wIx (N2.2.1 125 12) [113301093] 0 else -1) = 0 := by
            by_cases c1 : N2.1 125 11 = 1
            · rw [if_pos c1]
              have : wIx (N2.2.1 125 12) [113301093] 0 = -1 := if_neg (fun z => tc ⟨c1, z⟩)
              rw [this]; decide
            · rw [if_neg c1]; decide
          rw [if_neg e0, mu_0 bad2]
          have b0 := bd_0 B2.1
          have fn : pCe i X M c (0, vu Y2 68 2 (Y2.1 68 3)) (vu (vu (d_X12_number_r125d 11 (mBad N2)).2 147 (10 * i + 3).toNat (d_X12_number_r125d 11 (mBad N2)).1) 125 47 (N.1 125 47 + 1)) := by
            have b1 := bf_n (a := 11) b0.1
            exact Or.inl ⟨rfl, (vu_n (by omega)).trans ((vu_n (by omega)).trans b1.1), (vu_n (by omega)).trans ((vu_n (by omega)).trans (b1.2.trans b0.2))⟩
          by_cases c1 : N2.1 125 11 = 1
          · rw [if_pos c1, if_neg (fun z => tc ⟨c1, z⟩)]; exact fn
          · rw [if_neg c1]; exact fn
      · rw [q1, q2, if_pos rfl]
        have b0 := bd_0 B.1
        have fn : ∀ a : Int, pCe i X M c (0, vu Y 68 2 (Y.1 68 3)) (vu (vu (d_X12_number_r125d 11 (d_X12_must_r125d a (vu (mBad N) 147 (10 * i + 2).toNat (d_X12_number_r125d 29 N).1))).2 147 (10 * i + 3).toNat (d_X12_number_r125d 11 (d_X12_must_r125d a (vu (mBad N) 147 (10 * i + 2).toNat (d_X12_number_r125d 29 N).1))).1) 125 47 (N.1 125 47 + 1)) := by
          intro a
          have b1 := bf_v (M := mBad N) (k := (10 * i + 2).toNat) (x := (d_X12_number_r125d 29 N).1) b0.1
          rw [mu_b b1.1]
          have b2 := bf_n (a := 11) b1.1
          exact Or.inl ⟨rfl, (vu_n (by omega)).trans ((vu_n (by omega)).trans b2.1), (vu_n (by omega)).trans ((vu_n (by omega)).trans (b2.2.trans (b1.2.trans b0.2)))⟩
        by_cases c1 : (mBad N).1 125 11 = 1
        · rw [if_pos c1]
          by_cases c2 : (vu (mBad N) 147 (10 * i + 2).toNat (d_X12_number_r125d 29 N).1).2.1 125 12 = 113301093
          · rw [if_pos c2]; exact fn 1
          · rw [if_neg c2]; exact fn 0
        · rw [if_neg c1]; exact fn 0
    · rw [if_neg k8, if_neg k8]
      have P := Q (k + 1)
      generalize vu V 147 (10 * i).toNat (k + 1) = N at *
      have ww := P.1.2.2.2.2.2.2.1
      have tk := P.1.1
      unfold tlC
      rw [if_neg (show ¬ k + 1 = 0 from by omega)]
      by_cases k0 : k = 0
      · rw [if_pos k0, if_pos (show k + 1 = 1 from by omega)]
        have gr : d_X9_wordOf_r68_r7d Y ≠ -1 → 0 ≤ d_X9_wordOf_r68_r7d Y ∧ d_X9_wordOf_r68_r7d Y ≤ 5 := fun hn => by
          have w7 := wo_7 tk ww
          by_cases c1 : N.1 125 11 = 1
          · rw [if_pos c1] at w7
            rcases wIx_r (w := N.2.1 125 12) [2411144, 271941, 595412, 509813861, 23716, 17232476819] 0 (by decide) with r | r
            · exact absurd (w7.trans r) hn
            · rw [show ([2411144, 271941, 595412, 509813861, 23716, 17232476819] : List Int).length = 6 from rfl] at r
              omega
          · rw [if_neg c1] at w7
            exact absurd w7 hn
        exact wk_1x i0 P (by omega) (R := d_X2_readWhich_r95_r7d) rfl (wo_7 tk ww) (ga_e.trans (wo_7 tk ww).symm) (by omega) (fun _ => gr)
      rw [if_neg k0]
      by_cases k1 : k = 1
      · rw [if_pos k1, if_neg (show ¬ k + 1 = 1 from by omega), if_pos (show k + 1 = 2 from by omega)]
        unfold d_X12_readClause_r125d_163
        exact wk_1x i0 P (by omega) (R := d_X2_readWhich_r95_r8d) rfl (wo_8 tk ww) (wa_e.trans (wo_8 tk ww).symm) (by omega) (fun q => absurd q (by omega))
      rw [if_neg k1]
      by_cases k2 : k = 2
      · rw [if_pos k2, if_neg (show ¬ k + 1 = 1 from by omega), if_neg (show ¬ k + 1 = 2 from by omega), if_pos (show k + 1 = 3 from by omega)]
        unfold d_X12_readClause_r125d_163
        exact wk_3x i0 P (by omega) (R := d_X2_readWhich_r95_r8d) rfl (wo_8 tk ww) (wa_e.trans (wo_8 tk ww).symm) (by omega)
      rw [if_neg k2]
      by_cases k3 : k = 3
      · rw [if_pos k3, if_neg (show ¬ k + 1 = 1 from by omega), if_neg (show ¬ k + 1 = 2 from by omega), if_neg (show ¬ k + 1 = 3 from by omega), if_neg (show ¬ k + 1 = 6 from by omega), if_neg (show ¬ k + 1 = 7 from by omega)]
        exact (wk_4x i0 P (by omega) (by omega)).1 (by omega)
      rw [if_neg k3]
      by_cases k4 : k = 4
      · rw [if_pos k4, if_neg (show ¬ k + 1 = 1 from by omega), if_neg (show ¬ k + 1 = 2 from by omega), if_neg (show ¬ k + 1 = 3 from by omega), if_neg (show ¬ k + 1 = 6 from by omega), if_neg (show ¬ k + 1 = 7 from by omega)]
        exact (wk_4x i0 P (by omega) (by omega)).2 (by omega)
      rw [if_neg k4]
      by_cases k5 : k = 5
      · rw [if_pos k5, if_neg (show ¬ k + 1 = 1 from by omega), if_neg (show ¬ k + 1 = 2 from by omega), if_neg (show ¬ k + 1 = 3 from by omega), if_pos (show k + 1 = 6 from by omega)]
        exact wk_6x i0 P (by omega) (R := d_X2_readWhich_r95_r9d) rfl (wo_9 tk ww) (oa_e.trans (wo_9 tk ww).symm) (by omega)
      rw [if_neg k5]
      by_cases k6 : k = 6
      · rw [if_pos k6, if_neg (show ¬ k + 1 = 1 from by omega), if_neg (show ¬ k + 1 = 2 from by omega), if_neg (show ¬ k + 1 = 3 from by omega), if_neg (show ¬ k + 1 = 6 from by omega), if_pos (show k + 1 = 7 from by omega)]
        exact wk_3x i0 P (by omega) (R := d_X2_readWhich_r95_r10d) rfl (wo_10 tk ww) (fe_e.trans (wo_10 tk ww).symm) (by omega)
      rw [if_neg k6]
      by_cases k7 : k = 7
      · rw [if_neg k2, if_neg k3, if_neg k6, if_pos k7, if_neg (show ¬ k + 1 = 1 from by omega), if_neg (show ¬ k + 1 = 2 from by omega), if_neg (show ¬ k + 1 = 3 from by omega), if_neg (show ¬ k + 1 = 6 from by omega), if_neg (show ¬ k + 1 = 7 from by omega)]
        exact (wk_4x i0 P (by omega) (by omega)).1 (by omega)
      exact absurd hk (by omega)
  · have e : (if M.1 125 11 = 1 then wIx (M.2.1 125 12) [72760775, 193115668, 591493, 609625254, 2134245, 677454, 6309, 627764, 659105125] 0 else -1) = -1 := by
      by_cases c1 : M.1 125 11 = 1
      · rw [if_pos c1]; exact Decidable.byContradiction (fun z => t ⟨c1, z⟩)
      · rw [if_neg c1]
    have e2 : (if M.1 125 11 = 1 then (if wIx (M.2.1 125 12) [72760775, 193115668, 591493, 609625254, 2134245, 677454, 6309, 627764, 659105125] 0 = -1 then -1 else if wIx (M.2.1 125 12) [72760775, 193115668, 591493, 609625254, 2134245, 677454, 6309, 627764, 659105125] 0 = 8 then 0 else wIx (M.2.1 125 12) [72760775, 193115668, 591493, 609625254, 2134245, 677454, 6309, 627764, 659105125] 0 + 1) else -1) = -1 := by
      by_cases c1 : M.1 125 11 = 1
      · have w : wIx (M.2.1 125 12) [72760775, 193115668, 591493, 609625254, 2134245, 677454, 6309, 627764, 659105125] 0 = -1 := Decidable.byContradiction (fun z => t ⟨c1, z⟩)
        rw [if_pos c1, w, if_pos rfl]
      · rw [if_neg c1]
    rw [e, e2, if_pos rfl, if_pos rfl]
    show pCe i X M c _ (d_X12_must_r125d 0 M)
    rw [mu_0 bad]
    exact Or.inl ⟨rfl, bd_0 h.1⟩
end jG65
