section jG18
/-! pure: SOULS as known on a DAY -/
def sNl (E : pE) : Nat := 3 * (E.1 0).toNat
def sG0 (E : pE) (d : Int) (m : Nat) : Int := if m < sNl E ∧ ¬ sCo E m = -1 ∧ E.1 (23 + 90 * (m / 3)) ≤ d then (m : Int) else -1
abbrev sS2 := (Nat → Int) × List Int
def sJn (g : Nat → Int) (p q : Int) : Nat → Int := fun m => if g m = max p q then min p q else g m
def sCj (E : pE) (g : Nat → Int) (p q : Int) : Prop := ∀ a b : Nat, a < sNl E → b < sNl E → g a = p → g b = q → sWhy E a b = 0
abbrev sBk (E : pE) (k : Nat) (g : Nat → Int) (d : Int) : Prop := E.1 (18142 + 3 * k) ≤ d ∧ ¬ g (E.1 (18140 + 3 * k)).toNat = -1 ∧ ¬ g (E.1 (18141 + 3 * k)).toNat = -1 ∧ ¬ g (E.1 (18140 + 3 * k)).toNat = g (E.1 (18141 + 3 * k)).toNat
noncomputable def sBs (E : pE) (d : Int) (k : Nat) (s : sS2) : sS2 := if sBk E k s.1 d then (if tv (sCj E s.1 (s.1 (E.1 (18140 + 3 * k)).toNat) (s.1 (E.1 (18141 + 3 * k)).toNat)) = 0 then (s.1, s.2 ++ [(k : Int)]) else (sJn s.1 (s.1 (E.1 (18140 + 3 * k)).toNat) (s.1 (E.1 (18141 + 3 * k)).toNat), s.2)) else s
noncomputable def sGk (E : pE) (d : Int) : Nat → sS2
  | 0 => (sG0 E d, [])
  | k + 1 => sBs E d k (sGk E d k)
noncomputable def sGs (E : pE) (d : Int) : sS2 := sGk E d (E.1 2).toNat
/-- bonds name MENTIONS that are there -/
def pIj (E : pE) : Prop := (0 ≤ E.1 2 ∧ E.1 2 ≤ 200) ∧ ∀ k : Nat, (k : Int) < E.1 2 → (0 ≤ E.1 (18140 + 3 * k) ∧ E.1 (18140 + 3 * k) < 3 * E.1 0) ∧ (0 ≤ E.1 (18141 + 3 * k) ∧ E.1 (18141 + 3 * k) < 3 * E.1 0)
/-- what SOULS are like -/
def sGi (E : pE) (g : Nat → Int) : Prop := ∀ m : Nat, m < sNl E → g m = -1 ∨ (sMn E m ∧ 0 ≤ g m ∧ g m ≤ (m : Int) ∧ g (g m).toNat = g m)
theorem sG0_i {E : pE} {d : Int} : sGi E (sG0 E d) := by
  intro m hm
  unfold sG0
  by_cases c : m < sNl E ∧ ¬ sCo E m = -1 ∧ E.1 (23 + 90 * (m / 3)) ≤ d
  · refine Or.inr ⟨⟨by have := c.1; unfold sNl at this; omega, c.2.1⟩, ?_⟩
    rw [if_pos c, show ((m : Int)).toNat = m from by omega, if_pos c]
    omega
  · rw [if_neg c]
    exact Or.inl rfl
theorem sJn_i {E : pE} {g : Nat → Int} {p q : Nat} (h : sGi E g) (hp : p < sNl E) (hq : q < sNl E) (ep : g p = (p : Int)) (eq : g q = (q : Int)) : sGi E (sJn g p q) := by
  intro m hm
  unfold sJn
  rcases h m hm with z | ⟨z1, z2, z3, z4⟩
  · rw [z, if_neg (by omega)]
    exact Or.inl rfl
  · refine Or.inr ⟨z1, ?_⟩
    by_cases c : g m = max (p : Int) (q : Int)
    · rw [if_pos c]
      refine ⟨by omega, by omega, ?_⟩
      by_cases w : p ≤ q
      · rw [show (min (p : Int) (q : Int)).toNat = p from by omega, ep]
        split <;> omega
      · rw [show (min (p : Int) (q : Int)).toNat = q from by omega, eq]
        split <;> omega
    · rw [if_neg c]
      refine ⟨z2, z3, ?_⟩
      rw [z4, if_neg c]
theorem sBs_i {E : pE} {d : Int} {k : Nat} {s : sS2} (J : pIj E) (hk : (k : Int) < E.1 2) (h : sGi E s.1) : sGi E (sBs E d k s).1 := by
  unfold sBs
  have j := J.2 k hk
  by_cases c : sBk E k s.1 d
  · rw [if_pos c]
    by_cases t : tv (sCj E s.1 (s.1 (E.1 (18140 + 3 * k)).toNat) (s.1 (E.1 (18141 + 3 * k)).toNat)) = 0
    · rw [if_pos t]; exact h
    · rw [if_neg t]
      obtain ⟨c1, c2, c3, c4⟩ := c
      have ha : (E.1 (18140 + 3 * k)).toNat < sNl E := by unfold sNl; omega
      have hb : (E.1 (18141 + 3 * k)).toNat < sNl E := by unfold sNl; omega
      rcases h _ ha with z | ⟨z1, z2, z3, z4⟩
      · exact absurd z c2
      · rcases h _ hb with y | ⟨y1, y2, y3, y4⟩
        · exact absurd y c3
        · have r := @sJn_i E s.1 (s.1 (E.1 (18140 + 3 * k)).toNat).toNat (s.1 (E.1 (18141 + 3 * k)).toNat).toNat h (by omega) (by omega) (by rw [z4]; omega) (by rw [y4]; omega)
          rw [show (((s.1 (E.1 (18140 + 3 * k)).toNat).toNat : Nat) : Int) = s.1 (E.1 (18140 + 3 * k)).toNat from by omega, show (((s.1 (E.1 (18141 + 3 * k)).toNat).toNat : Nat) : Int) = s.1 (E.1 (18141 + 3 * k)).toNat from by omega] at r
          exact r
  · rw [if_neg c]; exact h
theorem sGk_i {E : pE} {d : Int} (J : pIj E) : ∀ k : Nat, (k : Int) ≤ E.1 2 → sGi E (sGk E d k).1 := by
  intro k
  induction k with
  | zero => intro _; exact sG0_i
  | succ k ih => intro h; exact sBs_i J (by omega) (ih (by omega))
theorem sGs_i {E : pE} {d : Int} (J : pIj E) : sGi E (sGs E d).1 := sGk_i J _ (by have := J.1; omega)
theorem sGk_l {E : pE} {d : Int} : ∀ k : Nat, (sGk E d k).2.length ≤ k := by
  intro k
  induction k with
  | zero => exact Nat.le_refl 0
  | succ k ih =>
    show (sBs E d k (sGk E d k)).2.length ≤ k + 1
    unfold sBs
    repeat' split
    · show ((sGk E d k).2 ++ [(k : Int)]).length ≤ k + 1
      rw [List.length_append]
      show (sGk E d k).2.length + 1 ≤ k + 1
      omega
    · show (sGk E d k).2.length ≤ k + 1
      omega
    · omega
/-! the reference's side -/
theorem c29_s {K : Int → Int → Int → Int → Int → jW → Int × jW} {r : Nat} {p q n a b : Int} {W : jW} : d_X12_canJoin_r125d_29 K (r + 1) p q 1 n a b W = if n ≤ b then K p q 1 n (a + 1) W else if W.1 139 a.toNat = p then (if W.1 139 b.toNat = q then (if (d_X12_why_r125d a b W).1 = 0 then d_X12_canJoin_r125d_29 K r p q 1 n a (b + 1) (d_X12_why_r125d a b W).2 else d_X12_canJoin_r125d_29 K r p q 0 n a (b + 1) (d_X12_why_r125d a b W).2) else d_X12_canJoin_r125d_29 K r p q 1 n a (b + 1) W) else K p q 1 n (a + 1) W := rfl
theorem c29_0 {K : Int → Int → Int → Int → Int → jW → Int × jW} {r : Nat} {p q n a b : Int} {W : jW} : d_X12_canJoin_r125d_29 K (r + 1) p q 0 n a b W = K p q 0 n (a + 1) W := by
  show (if n ≤ b then K p q 0 n (a + 1) W else K p q 0 n (a + 1) W) = _
  by_cases c : n ≤ b
  · rw [if_pos c]
  · rw [if_neg c]
theorem c29_e {K : Int → Int → Int → Int → Int → jW → Int × jW} {E : pE} {G : Nat → Int} {p q : Int} {n a : Nat} (hn : n = sNl E) (ha : a < n) (hp : p ≠ -1) (hq : q ≠ -1) (gi : sGi E G) : ∀ (r b : Nat) (W : jW), n - b < r → b ≤ n → eOf W = E → pYm W → W.1 139 = G → ∃ (f : Int) (V : jW), d_X12_canJoin_r125d_29 K r p q 1 (n : Int) (a : Int) (b : Int) W = K p q f (n : Int) ((a : Int) + 1) V ∧ eOf V = E ∧ pYm V ∧ V.1 139 = G ∧ ((f = 1 ∧ ∀ c : Nat, b ≤ c → c < n → G a = p → G c = q → sWhy E a c = 0) ∨ (f = 0 ∧ ∃ c : Nat, c < n ∧ G a = p ∧ G c = q ∧ sWhy E a c ≠ 0)) := by
  intro r
  induction r with
  | zero => intros; exfalso; omega
  | succ r ih =>
    intro b W hr hb eW Y eG
    rw [c29_s, show ((a : Int)).toNat = a from by omega, show ((b : Int)).toNat = b from by omega, eG]
    by_cases c : (n : Int) ≤ (b : Int)
    · rw [if_pos c]
      exact ⟨1, W, rfl, eW, Y, eG, Or.inl ⟨rfl, fun c c1 c2 => by omega⟩⟩
    · rw [if_neg c]
      by_cases c1 : G a = p
      · rw [if_pos c1]
        by_cases c2 : G b = q
        · rw [if_pos c2]
          have ma : sMn (eOf W) a := by
            rcases gi a (by omega) with z | z
            · exact absurd (c1.symm.trans z) hp
            · rw [eW]; exact z.1
          have mb : sMn (eOf W) b := by
            rcases gi b (by omega) with z | z
            · exact absurd (c2.symm.trans z) hq
            · rw [eW]; exact z.1
          have w := mwy Y ma mb
          have F := fr_d_X12_why_r125d (a : Int) (b : Int) W
          have e2 := eo_f F rfl rfl rfl rfl rfl
          have g2 : (d_X12_why_r125d (a : Int) (b : Int) W).2.1 139 = G := (pF_c F rfl).trans eG
          rw [w, eW]
          by_cases c3 : sWhy E a b = 0
          · rw [if_pos c3]
            obtain ⟨f, V, v1, v2, v3, v4, v5⟩ := ih (b + 1) _ (by omega) (by omega) (e2.trans eW) (pYm_e e2 Y) g2
            rw [show ((b + 1 : Nat) : Int) = (b : Int) + 1 from by omega] at v1
            refine ⟨f, V, v1, v2, v3, v4, ?_⟩
            rcases v5 with ⟨f1, f2⟩ | f2
            · refine Or.inl ⟨f1, fun c k1 k2 k3 k4 => ?_⟩
              by_cases e : c = b
              · rw [e]; exact c3
              · exact f2 c (by omega) k2 k3 k4
            · exact Or.inr f2
          · rw [if_neg c3]
            obtain ⟨r', rfl⟩ : ∃ r', r = r' + 1 := ⟨r - 1, by omega⟩
            rw [c29_0]
            exact ⟨0, _, rfl, e2.trans eW, pYm_e e2 Y, g2, Or.inr ⟨rfl, b, by omega, c1, c2, c3⟩⟩
        · rw [if_neg c2]
          obtain ⟨f, V, v1, v2, v3, v4, v5⟩ := ih (b + 1) W (by omega) (by omega) eW Y eG
          rw [show ((b + 1 : Nat) : Int) = (b : Int) + 1 from by omega] at v1
          refine ⟨f, V, v1, v2, v3, v4, ?_⟩
          rcases v5 with ⟨f1, f2⟩ | f2
          · refine Or.inl ⟨f1, fun c k1 k2 k3 k4 => ?_⟩
            by_cases e : c = b
            · rw [e] at k4; exact absurd k4 c2
            · exact f2 c (by omega) k2 k3 k4
          · exact Or.inr f2
      · rw [if_neg c1]
        exact ⟨1, W, rfl, eW, Y, eG, Or.inl ⟨rfl, fun c _ _ k3 => absurd k3 c1⟩⟩
theorem c15_s {r : Nat} {p q n a : Int} {W : jW} : d_X12_canJoin_r125d_15 (r + 1) p q 1 n a W = if n ≤ a then (1, W) else d_X12_canJoin_r125d_29 (fun l1 l2 l3 l4 l5 W => d_X12_canJoin_r125d_15 r l1 l2 l3 l4 l5 W) 601 p q 1 n a 0 W := by
  show (if n ≤ a then ((1 : Int), W) else if (1 : Int) = 0 then _ else d_X12_canJoin_r125d_29 (fun l1 l2 l3 l4 l5 W => d_X12_canJoin_r125d_15 r l1 l2 l3 l4 l5 W) 601 p q 1 n a 0 W) = _
  rw [if_neg (show ¬ (1 : Int) = 0 from by decide)]
theorem c15_0 {r : Nat} {p q n a : Int} {W : jW} : (d_X12_canJoin_r125d_15 r p q 0 n a W).1 = 0 := by
  cases r with
  | zero => rfl
  | succ r =>
    show (if n ≤ a then ((0 : Int), W) else (0, W)).1 = 0
    by_cases c : n ≤ a
    · rw [if_pos c]
    · rw [if_neg c]
set_option maxRecDepth 100000 in
theorem c15_e {E : pE} {G : Nat → Int} {p q : Int} {n : Nat} (hn : n = sNl E) (h6 : n ≤ 600) (hp : p ≠ -1) (hq : q ≠ -1) (gi : sGi E G) : ∀ (r a : Nat) (W : jW), n - a < r → a ≤ n → eOf W = E → pYm W → W.1 139 = G → ((d_X12_canJoin_r125d_15 r p q 1 (n : Int) (a : Int) W).1 = 1 ∧ ∀ b c : Nat, a ≤ b → b < n → c < n → G b = p → G c = q → sWhy E b c = 0) ∨ ((d_X12_canJoin_r125d_15 r p q 1 (n : Int) (a : Int) W).1 = 0 ∧ ∃ b c : Nat, b < n ∧ c < n ∧ G b = p ∧ G c = q ∧ sWhy E b c ≠ 0) := by
  intro r
  induction r with
  | zero => intros; exfalso; omega
  | succ r ih =>
    intro a W hr ha eW Y eG
    rw [c15_s]
    by_cases c : (n : Int) ≤ (a : Int)
    · rw [if_pos c]
      exact Or.inl ⟨rfl, fun b c b1 b2 => by omega⟩
    · rw [if_neg c]
      obtain ⟨f, V, v1, v2, v3, v4, v5⟩ := @c29_e (fun l1 l2 l3 l4 l5 W => d_X12_canJoin_r125d_15 r l1 l2 l3 l4 l5 W) E G p q n a hn (by omega) hp hq gi 601 0 W (by omega) (by omega) eW Y eG
      rw [show ((0 : Nat) : Int) = 0 from rfl] at v1
      rw [v1]
      rcases v5 with ⟨f1, f2⟩ | ⟨f1, c, k1, k2, k3, k4⟩
      · rw [f1]
        have z := ih (a + 1) V (by omega) (by omega) v2 v3 v4
        rw [show ((a + 1 : Nat) : Int) = (a : Int) + 1 from by omega] at z
        rcases z with ⟨z1, z2⟩ | z1
        · refine Or.inl ⟨z1, fun b c b1 b2 b3 b4 b5 => ?_⟩
          by_cases e : b = a
          · rw [e] at b4 ⊢; exact f2 c (by omega) b3 b4 b5
          · exact z2 b c (by omega) b2 b3 b4 b5
        · exact Or.inr z1
      · rw [f1]
        exact Or.inr ⟨c15_0, a, c, by omega, k1, k2, k3, k4⟩
theorem mcj {W : jW} {p q : Int} (Y : pYm W) (h2 : 0 ≤ W.1 126 0 ∧ W.1 126 0 ≤ 200) (hp : p ≠ -1) (hq : q ≠ -1) (gi : sGi (eOf W) (W.1 139)) : (d_X12_canJoin_r125d p q W).1 = tv (sCj (eOf W) (W.1 139) p q) := by
  unfold d_X12_canJoin_r125d
  have hn : ((sNl (eOf W) : Nat) : Int) = 3 * W.1 126 0 := by unfold sNl; show ((3 * (W.1 126 0).toNat : Nat) : Int) = _; omega
  rw [← hn]
  rcases @c15_e (eOf W) (W.1 139) p q (sNl (eOf W)) rfl (by omega) hp hq gi 601 0 W (by omega) (by omega) rfl Y rfl with ⟨z1, z2⟩ | ⟨z1, b, c, k1, k2, k3, k4, k5⟩
  · exact z1.trans (tv_t fun a b ha hb ga gb => z2 a b (by omega) ha hb ga gb).symm
  · exact z1.trans (tv_f fun h => k5 (h b c k1 k2 k3 k4)).symm
theorem j26_s {r : Nat} {lo hi i : Int} {W : jW} : d_X12_join2_r125d_26 (r + 1) lo hi i W = if 3 * W.1 126 0 ≤ i then W else d_X12_join2_r125d_26 r lo hi (i + 1) (vu W 139 i.toNat (if W.1 139 i.toNat = hi then lo else W.1 139 i.toNat)) := by
  show (if 3 * W.1 126 0 ≤ i then W else if W.1 139 i.toNat = hi then _ else _) = _
  by_cases c : 3 * W.1 126 0 ≤ i
  · rw [if_pos c, if_pos c]
  · rw [if_neg c, if_neg c]
    by_cases g : W.1 139 i.toNat = hi
    · rw [if_pos g, if_pos g]; rfl
    · rw [if_neg g, if_neg g]; rfl
theorem j26_e {lo hi : Int} {n : Nat} : ∀ (r i : Nat) (W : jW), 3 * W.1 126 0 = (n : Int) → n - i < r → i ≤ n → (∀ b j : Nat, ¬ (b = 139 ∧ i ≤ j ∧ j < n) → (d_X12_join2_r125d_26 r lo hi (i : Int) W).1 b j = W.1 b j) ∧ (d_X12_join2_r125d_26 r lo hi (i : Int) W).2 = W.2 ∧ ∀ m : Nat, i ≤ m → m < n → (d_X12_join2_r125d_26 r lo hi (i : Int) W).1 139 m = if W.1 139 m = hi then lo else W.1 139 m := by
  intro r
  induction r with
  | zero => intros; exfalso; omega
  | succ r ih =>
    intro i W hn hr hi'
    rw [j26_s, show ((i : Int)).toNat = i from by omega, hn]
    by_cases c : (n : Int) ≤ (i : Int)
    · rw [if_pos c]
      exact ⟨fun _ _ _ => rfl, rfl, fun m m1 m2 => by omega⟩
    · rw [if_neg c]
      have z := ih (i + 1) (vu W 139 i (if W.1 139 i = hi then lo else W.1 139 i)) (by rw [vu_n (by omega)]; exact hn) (by omega) (by omega)
      rw [show ((i + 1 : Nat) : Int) = (i : Int) + 1 from by omega] at z
      obtain ⟨z1, z2, z3⟩ := z
      refine ⟨fun b j h => (z1 b j (by omega)).trans (vu_n (by omega)), z2, fun m m1 m2 => ?_⟩
      by_cases e : m = i
      · rw [e, z1 139 i (by omega)]
        exact vu_e rfl
      · rw [z3 m (by omega) m2, vu_n (by omega)]
theorem mjn {W : jW} {p q : Int} (h2 : 0 ≤ W.1 126 0 ∧ W.1 126 0 ≤ 200) : (∀ b j : Nat, b ≠ 139 → (d_X12_join2_r125d p q W).1 b j = W.1 b j) ∧ (d_X12_join2_r125d p q W).2 = W.2 ∧ ∀ m : Nat, m < sNl (eOf W) → (d_X12_join2_r125d p q W).1 139 m = sJn (W.1 139) p q m := by
  have e : d_X12_join2_r125d p q W = d_X12_join2_r125d_26 601 (min p q) (max p q) 0 W := by
    unfold d_X12_join2_r125d d_X12_join2_r125d_10 d_X12_join2_r125d_21
    by_cases c : q ≤ p
    · rw [if_pos c, if_pos c, show min p q = q from by omega, show max p q = p from by omega]
    · rw [if_neg c, if_neg c, show min p q = p from by omega, show max p q = q from by omega]
  have hn : 3 * W.1 126 0 = ((sNl (eOf W) : Nat) : Int) := by unfold sNl; show _ = ((3 * (W.1 126 0).toNat : Nat) : Int); omega
  obtain ⟨z1, z2, z3⟩ := @j26_e (min p q) (max p q) (sNl (eOf W)) 601 0 W hn (by omega) (by omega)
  rw [show ((0 : Nat) : Int) = 0 from rfl] at z1 z2 z3
  rw [e]
  exact ⟨fun b j h => z1 b j (by omega), z2, fun m hm => z3 m (by omega) hm⟩
def pGm (M : jW) (E : pE) (s : sS2) : Prop := (∀ m : Nat, m < sNl E → M.1 139 m = s.1 m) ∧ M.1 125 31 = (s.2.length : Int) ∧ ∀ i : Nat, i < s.2.length → M.1 140 i = nth s.2 i
theorem sCj_c {E : pE} {g h : Nat → Int} {p q : Int} (e : ∀ m, m < sNl E → g m = h m) : sCj E g p q ↔ sCj E h p q := by
  constructor
  · intro z a b ha hb ga gb; exact z a b ha hb ((e a ha).trans ga) ((e b hb).trans gb)
  · intro z a b ha hb ga gb; exact z a b ha hb ((e a ha).symm.trans ga) ((e b hb).symm.trans gb)
theorem sGi_c {E : pE} {g h : Nat → Int} (e : ∀ m, m < sNl E → g m = h m) (z : sGi E h) : sGi E g := by
  intro m hm
  rcases z m hm with y | ⟨y1, y2, y3, y4⟩
  · exact Or.inl ((e m hm).trans y)
  · refine Or.inr ⟨y1, by rw [e m hm]; exact y2, by rw [e m hm]; exact y3, ?_⟩
    rw [e m hm, e _ (by omega)]
    exact y4
theorem f67_s {r : Nat} {d k : Int} {W : jW} : d_X12_find_r125d_67 (r + 1) d k W = if W.1 126 2 ≤ k then W else if W.1 126 (18140 + 3 * k + 2).toNat ≤ d ∧ ¬ W.1 139 (W.1 126 (18140 + 3 * k).toNat).toNat = -1 ∧ ¬ W.1 139 (W.1 126 (18140 + 3 * k + 1).toNat).toNat = -1 ∧ ¬ W.1 139 (W.1 126 (18140 + 3 * k).toNat).toNat = W.1 139 (W.1 126 (18140 + 3 * k + 1).toNat).toNat then (if (d_X12_canJoin_r125d (W.1 139 (W.1 126 (18140 + 3 * k).toNat).toNat) (W.1 139 (W.1 126 (18140 + 3 * k + 1).toNat).toNat) W).1 = 0 then d_X12_find_r125d_67 r d (k + 1) (vu (vu (d_X12_canJoin_r125d (W.1 139 (W.1 126 (18140 + 3 * k).toNat).toNat) (W.1 139 (W.1 126 (18140 + 3 * k + 1).toNat).toNat) W).2 140 (W.1 125 31).toNat k) 125 31 (W.1 125 31 + 1)) else d_X12_find_r125d_67 r d (k + 1) (d_X12_join2_r125d (W.1 139 (W.1 126 (18140 + 3 * k).toNat).toNat) (W.1 139 (W.1 126 (18140 + 3 * k + 1).toNat).toNat) (d_X12_canJoin_r125d (W.1 139 (W.1 126 (18140 + 3 * k).toNat).toNat) (W.1 139 (W.1 126 (18140 + 3 * k + 1).toNat).toNat) W).2)) else d_X12_find_r125d_67 r d (k + 1) W := by
  show (if W.1 126 2 ≤ k then W else if d < W.1 126 (18140 + 3 * k + 2).toNat then _ else if W.1 139 (W.1 126 (18140 + 3 * k).toNat).toNat = -1 then _ else if W.1 139 (W.1 126 (18140 + 3 * k + 1).toNat).toNat = -1 then _ else if W.1 139 (W.1 126 (18140 + 3 * k).toNat).toNat = W.1 139 (W.1 126 (18140 + 3 * k + 1).toNat).toNat then _ else if (d_X12_canJoin_r125d (W.1 139 (W.1 126 (18140 + 3 * k).toNat).toNat) (W.1 139 (W.1 126 (18140 + 3 * k + 1).toNat).toNat) W).1 = 0 then _ else _) = _
  generalize W.1 139 (W.1 126 (18140 + 3 * k).toNat).toNat = x
  generalize W.1 139 (W.1 126 (18140 + 3 * k + 1).toNat).toNat = y
  repeat' split
  all_goals first
    | rfl
    | (exfalso; omega)
/-- nothing but SOULS is found anew -/
def pFi (M N : jW) : Prop := pF [(125, 29), (125, 32), (125, 58), (137, 0), (138, 0), (139, 0), (140, 0)] M N
theorem f67_e {E : pE} {d : Int} (J : pIj E) : ∀ (r k : Nat) (W : jW), (E.1 2).toNat - k < r → (k : Int) ≤ E.1 2 → eOf W = E → pYm W → (0 ≤ W.1 126 0 ∧ W.1 126 0 ≤ 200) → pGm W E (sGk E d k) → pGm (d_X12_find_r125d_67 r d (k : Int) W) E (sGs E d) := by
  intro r
  induction r with
  | zero => intros; exfalso; omega
  | succ r ih =>
    intro k W hr hk eW Y h2 G
    have w2 : W.1 126 = E.1 := congrArg (fun z : pE => z.1) eW
    rw [f67_s, w2]
    have j0 := J.1
    by_cases c : E.1 2 ≤ (k : Int)
    · rw [if_pos c]
      unfold sGs
      rw [show (E.1 2).toNat = k from by omega]
      exact G
    · rw [if_neg c]
      have jk := J.2 k (by omega)
      have gi := @sGk_i E d J k hk
      obtain ⟨g1, g2, g3⟩ := id G
      have ha : (E.1 (18140 + 3 * k)).toNat < sNl E := by unfold sNl; omega
      have hb : (E.1 (18141 + 3 * k)).toNat < sNl E := by unfold sNl; omega
      rw [show (18140 + 3 * (k : Int) + 2).toNat = 18142 + 3 * k from by omega, show (18140 + 3 * (k : Int) + 1).toNat = 18141 + 3 * k from by omega, show (18140 + 3 * (k : Int)).toNat = 18140 + 3 * k from by omega, g1 _ ha, g1 _ hb]
      have nx : ∀ (V : jW), eOf V = E → pYm V → (0 ≤ V.1 126 0 ∧ V.1 126 0 ≤ 200) → pGm V E (sGk E d (k + 1)) → pGm (d_X12_find_r125d_67 r d ((k : Int) + 1) V) E (sGs E d) := fun V v1 v2 v3 v4 => by
        have z := ih (k + 1) V (by omega) (by omega) v1 v2 v3 v4
        rw [show ((k + 1 : Nat) : Int) = (k : Int) + 1 from by omega] at z
        exact z
      have st : sGk E d (k + 1) = sBs E d k (sGk E d k) := rfl
      by_cases b : sBk E k (sGk E d k).1 d
      · rw [if_pos b]
        obtain ⟨b1, b2, b3, b4⟩ := id b
        have gw : sGi (eOf W) (W.1 139) := by rw [eW]; exact sGi_c g1 gi
        have cj := mcj Y h2 b2 b3 gw
        rw [eW, tv_c (sCj_c g1)] at cj
        have F := fr_d_X12_canJoin_r125d ((sGk E d k).1 (E.1 (18140 + 3 * k)).toNat) ((sGk E d k).1 (E.1 (18141 + 3 * k)).toNat) W
        have e2 := eo_f F rfl rfl rfl rfl rfl
        generalize d_X12_canJoin_r125d ((sGk E d k).1 (E.1 (18140 + 3 * k)).toNat) ((sGk E d k).1 (E.1 (18141 + 3 * k)).toNat) W = x at *
        rw [cj]
        by_cases t : tv (sCj E (sGk E d k).1 ((sGk E d k).1 (E.1 (18140 + 3 * k)).toNat) ((sGk E d k).1 (E.1 (18141 + 3 * k)).toNat)) = 0
        · rw [if_pos t, g2]
          have e3 : eOf (vu (vu x.2 140 (((sGk E d k).2.length : Int)).toNat (k : Int)) 125 31 (((sGk E d k).2.length : Int) + 1)) = E := by
            rw [← eW, ← e2]
            unfold eOf
            rw [vu_c (by decide), vu_c (by decide), vu_c (by decide), vu_c (by decide), vu_c (by decide), vu_c (by decide), vu_c (by decide), vu_c (by decide), vu_n (by omega), vu_n (by omega)]
          have e6 : (vu (vu x.2 140 (((sGk E d k).2.length : Int)).toNat (k : Int)) 125 31 (((sGk E d k).2.length : Int) + 1)).1 126 = W.1 126 := (congrArg (fun z : pE => z.1) e3).trans w2.symm
          refine nx _ e3 (pYm_e (e3.trans eW.symm) Y) (by rw [e6]; exact h2) ?_
          rw [st]
          unfold sBs
          rw [if_pos b, if_pos t]
          have l1 : ((sGk E d k).2 ++ [(k : Int)]).length = (sGk E d k).2.length + 1 := by rw [List.length_append]; rfl
          refine ⟨fun m hm => ?_, ?_, fun i hi => ?_⟩
          · rw [vu_n (by omega), vu_n (by omega), pF_c F rfl]
            exact g1 m hm
          · show _ = ((((sGk E d k).2 ++ [(k : Int)]).length : Nat) : Int)
            rw [l1, vu_e rfl]
            omega
          · change i < ((sGk E d k).2 ++ [(k : Int)]).length at hi
            rw [l1] at hi
            rw [vu_n (by omega)]
            show _ = nth ((sGk E d k).2 ++ [(k : Int)]) i
            by_cases e : i < (sGk E d k).2.length
            · rw [vu_n (by omega), nth_l _ _ _ e, pF_c F rfl]
              exact g3 i e
            · have z := nth_r (sGk E d k).2 [(k : Int)] 0
              rw [show (sGk E d k).2.length + 0 = i from by omega] at z
              rw [z]
              exact vu_e (by omega)
        · rw [if_neg t]
          have x0 : x.2.1 126 = W.1 126 := congrArg (fun z : pE => z.1) e2
          obtain ⟨j1, j2, j3⟩ := @mjn x.2 ((sGk E d k).1 (E.1 (18140 + 3 * k)).toNat) ((sGk E d k).1 (E.1 (18141 + 3 * k)).toNat) (by rw [x0]; exact h2)
          rw [e2, eW] at j3
          have e3 : eOf (d_X12_join2_r125d ((sGk E d k).1 (E.1 (18140 + 3 * k)).toNat) ((sGk E d k).1 (E.1 (18141 + 3 * k)).toNat) x.2) = E := by
            refine Eq.trans (b := eOf x.2) ?_ (e2.trans eW)
            unfold eOf
            rw [show (d_X12_join2_r125d ((sGk E d k).1 (E.1 (18140 + 3 * k)).toNat) ((sGk E d k).1 (E.1 (18141 + 3 * k)).toNat) x.2).1 126 = x.2.1 126 from funext fun j => j1 126 j (by decide), show (d_X12_join2_r125d ((sGk E d k).1 (E.1 (18140 + 3 * k)).toNat) ((sGk E d k).1 (E.1 (18141 + 3 * k)).toNat) x.2).1 132 = x.2.1 132 from funext fun j => j1 132 j (by decide), show (d_X12_join2_r125d ((sGk E d k).1 (E.1 (18140 + 3 * k)).toNat) ((sGk E d k).1 (E.1 (18141 + 3 * k)).toNat) x.2).1 133 = x.2.1 133 from funext fun j => j1 133 j (by decide), show (d_X12_join2_r125d ((sGk E d k).1 (E.1 (18140 + 3 * k)).toNat) ((sGk E d k).1 (E.1 (18141 + 3 * k)).toNat) x.2).1 134 = x.2.1 134 from funext fun j => j1 134 j (by decide), j1 125 27 (by decide)]
          generalize d_X12_join2_r125d ((sGk E d k).1 (E.1 (18140 + 3 * k)).toNat) ((sGk E d k).1 (E.1 (18141 + 3 * k)).toNat) x.2 = V at *
          have e6 : V.1 126 = W.1 126 := (congrArg (fun z : pE => z.1) e3).trans w2.symm
          refine nx V e3 (pYm_e (e3.trans eW.symm) Y) (by rw [e6]; exact h2) ?_
          rw [st]
          unfold sBs
          rw [if_pos b, if_neg t]
          refine ⟨fun m hm => ?_, ?_, fun i hi => ?_⟩
          · rw [j3 m hm]
            unfold sJn
            rw [pF_c F rfl, g1 m hm]
          · rw [j1 125 31 (by decide), F.1 125 31 rfl]
            exact g2
          · rw [j1 140 i (by decide), pF_c F rfl]
            exact g3 i hi
      · rw [if_neg b]
        refine nx W eW Y h2 ?_
        rw [st]
        unfold sBs
        rw [if_neg b]
        exact G
theorem f17_s {r m : Nat} {d : Int} {W : jW} (I : pIr (eOf W)) (h2 : 0 ≤ W.1 126 0 ∧ W.1 126 0 ≤ 200) : d_X12_find_r125d_17 (r + 1) d (m : Int) W = if 3 * W.1 126 0 ≤ (m : Int) then d_X12_find_r125d_67 201 d 0 W else d_X12_find_r125d_17 r d ((m : Int) + 1) (vu W 139 m (sG0 (eOf W) d m)) := by
  show (if 3 * W.1 126 0 ≤ (m : Int) then d_X12_find_r125d_67 201 d 0 W else if 0 ≤ (m : Int) / 3 ∧ (m : Int) / 3 ≤ W.1 126 0 - 1 then (if W.1 126 (20 + 90 * ((m : Int) / 3)).toNat = 0 then (if d < W.1 126 (20 + 90 * ((m : Int) / 3) + 3).toNat then _ else _) else (if W.1 126 (20 + 90 * ((m : Int) / 3)).toNat = 1 then (if 2 ≤ (m : Int) % 3 then _ else if d < W.1 126 (20 + 90 * ((m : Int) / 3) + 3).toNat then _ else _) else if 1 ≤ (m : Int) % 3 then _ else if d < W.1 126 (20 + 90 * ((m : Int) / 3) + 3).toNat then _ else _)) else _) = _
  by_cases c : 3 * W.1 126 0 ≤ (m : Int)
  · rw [if_pos c, if_pos c]
  · rw [if_neg c, if_neg c, if_pos (by omega)]
    have b := (I (m / 3) (show ((m / 3 : Nat) : Int) < W.1 126 0 from by omega)).1
    change 0 ≤ W.1 126 (20 + 90 * (m / 3)) ∧ W.1 126 (20 + 90 * (m / 3)) ≤ 5 at b
    have v : sG0 (eOf W) d m = if (if W.1 126 (20 + 90 * (m / 3)) = 0 then (3 : Int) else if W.1 126 (20 + 90 * (m / 3)) = 1 then 2 else 1) ≤ ((m % 3 : Nat) : Int) ∨ d < W.1 126 (23 + 90 * (m / 3)) then -1 else (m : Int) := by
      unfold sG0 sCo sRo sNl
      show (if m < 3 * (W.1 126 0).toNat ∧ ¬ (if (if W.1 126 (20 + 90 * (m / 3)) = 0 then (3 : Int) else if W.1 126 (20 + 90 * (m / 3)) = 1 then 2 else 1) ≤ ((m % 3 : Nat) : Int) then (-1 : Int) else if W.1 126 (20 + 90 * (m / 3)) = 0 then ((m % 3 : Nat) : Int) else if W.1 126 (20 + 90 * (m / 3)) = 1 then 3 + ((m % 3 : Nat) : Int) else 3 + W.1 126 (20 + 90 * (m / 3))) = -1 ∧ W.1 126 (23 + 90 * (m / 3)) ≤ d then (m : Int) else -1) = _
      repeat' split
      all_goals first
        | rfl
        | (exfalso; omega)
    rw [v, show (20 + 90 * ((m : Int) / 3)).toNat = 20 + 90 * (m / 3) from by omega, show (20 + 90 * ((m : Int) / 3) + 3).toNat = 23 + 90 * (m / 3) from by omega]
    repeat' split
    all_goals first
      | rfl
      | (exfalso; omega)
end jG18

section jG19
/-! pure: SOULS found by the reference -/
theorem f17_e {E : pE} {d : Int} (J : pIj E) : ∀ (r m : Nat) (W : jW), sNl E - m < r → m ≤ sNl E → eOf W = E → pYm W → (0 ≤ W.1 126 0 ∧ W.1 126 0 ≤ 200) → (∀ j : Nat, j < m → W.1 139 j = sG0 E d j) → W.1 125 31 = 0 → pGm (d_X12_find_r125d_17 r d (m : Int) W) E (sGs E d) := by
  intro r
  induction r with
  | zero => intros; exfalso; omega
  | succ r ih =>
    intro m W hr hm eW Y h2 G w0
    have w2 : W.1 126 = E.1 := congrArg (fun z : pE => z.1) eW
    have hn : 3 * W.1 126 0 = ((sNl E : Nat) : Int) := by unfold sNl; rw [← w2]; omega
    rw [f17_s (by rw [eW]; exact eW ▸ Y.2.1) h2, hn]
    by_cases c : ((sNl E : Nat) : Int) ≤ (m : Int)
    · rw [if_pos c]
      refine f67_e J 201 0 W (by have := J.1; omega) (by have := J.1; omega) eW Y h2 ⟨fun j hj => G j (by omega), w0, fun i hi => absurd hi (Nat.not_lt_zero _)⟩
    · rw [if_neg c, eW]
      have e3 : eOf (vu W 139 m (sG0 E d m)) = E := by
        refine Eq.trans (b := eOf W) ?_ eW
        unfold eOf
        rw [vu_c (by decide), vu_c (by decide), vu_c (by decide), vu_c (by decide), vu_c (by decide)]
      have z := ih (m + 1) (vu W 139 m (sG0 E d m)) (by omega) (by omega) e3 (pYm_e (e3.trans eW.symm) Y) (by rw [vu_n (by omega)]; exact h2) (fun j hj => ?_) (by rw [vu_n (by omega)]; exact w0)
      · rw [show ((m + 1 : Nat) : Int) = (m : Int) + 1 from by omega] at z
        exact z
      · by_cases e : j = m
        · rw [e]; exact vu_e rfl
        · rw [vu_n (by omega)]; exact G j (by omega)
theorem mfi {M : jW} {d : Int} (Y : pYm M) (J : pIj (eOf M)) (h2 : 0 ≤ M.1 126 0 ∧ M.1 126 0 ≤ 200) : pGm (d_X12_find_r125d d M) (eOf M) (sGs (eOf M) d) := by
  unfold d_X12_find_r125d
  have e3 : eOf (vu (vu (vu M 125 28 d) 125 31 0) 125 57 (-1)) = eOf M := by
    unfold eOf
    rw [vu_c (by decide), vu_c (by decide), vu_c (by decide), vu_c (by decide), vu_c (by decide), vu_c (by decide), vu_c (by decide), vu_c (by decide), vu_c (by decide), vu_c (by decide), vu_c (by decide), vu_c (by decide), vu_n (by omega), vu_n (by omega), vu_n (by omega)]
  refine f17_e J 601 0 _ ?_ (by omega) e3 (pYm_e e3 Y) ?_ (fun j hj => absurd hj (Nat.not_lt_zero _)) ?_
  · have : sNl (eOf M) ≤ 600 := by unfold sNl; show 3 * (M.1 126 0).toNat ≤ 600; omega
    omega
  · rw [vu_n (by omega), vu_n (by omega), vu_n (by omega)]; exact h2
  · rw [vu_n (by omega)]; exact vu_e rfl
/-! the first of a kind from a place on -/
def isF (P : Nat → Prop) (N k : Nat) (v : Int) : Prop := (v = -1 ∧ ∀ j : Nat, k ≤ j → j < N → ¬ P j) ∨ ∃ j : Nat, v = (j : Int) ∧ k ≤ j ∧ j < N ∧ P j ∧ ∀ i : Nat, k ≤ i → i < j → ¬ P i
theorem isF_u {P Q : Nat → Prop} {N k : Nat} {v w : Int} (h : isF P N k v) (g : isF Q N k w) (e : ∀ j : Nat, k ≤ j → j < N → (P j ↔ Q j)) : v = w := by
  rcases h with ⟨h1, h2⟩ | ⟨j, h1, h2, h3, h4, h5⟩
  · rcases g with ⟨g1, g2⟩ | ⟨i, g1, g2, g3, g4, g5⟩
    · rw [h1, g1]
    · exact absurd ((e i g2 g3).2 g4) (h2 i g2 g3)
  · rcases g with ⟨g1, g2⟩ | ⟨i, g1, g2, g3, g4, g5⟩
    · exact absurd ((e j h2 h3).1 h4) (g2 j h2 h3)
    · rw [h1, g1]
      rcases Nat.lt_trichotomy i j with z | z | z
      · exact absurd ((e i g2 g3).2 g4) (h5 i g2 z)
      · rw [z]
      · exact absurd ((e j h2 h3).1 h4) (g5 j h2 z)
def sFt (g : Nat → Int) (s : Int) : Nat → Nat → Int
  | 0, _ => -1
  | c + 1, k => if g k = s then (k : Int) else sFt g s c (k + 1)
def ft (g : Nat → Int) (s : Int) (N k : Nat) : Int := sFt g s (N - k) k
theorem ft_y {g : Nat → Int} {s : Int} {N k : Nat} (h : k < N) (e : g k = s) : ft g s N k = (k : Int) := by
  unfold ft
  rw [show N - k = (N - (k + 1)) + 1 from by omega]
  exact if_pos e
theorem ft_n {g : Nat → Int} {s : Int} {N k : Nat} (h : k < N) (e : g k ≠ s) : ft g s N k = ft g s N (k + 1) := by
  unfold ft
  rw [show N - k = (N - (k + 1)) + 1 from by omega]
  exact if_neg e
theorem ft_o {g : Nat → Int} {s : Int} {N k : Nat} (h : N ≤ k) : ft g s N k = -1 := by
  unfold ft
  rw [show N - k = 0 from by omega]
  rfl
theorem ft_i {g : Nat → Int} {s : Int} {N : Nat} : ∀ (c k : Nat), N - k = c → isF (fun j => g j = s) N k (ft g s N k) := by
  intro c
  induction c with
  | zero =>
    intro k h
    rw [ft_o (by omega)]
    exact Or.inl ⟨rfl, fun j j1 j2 => by omega⟩
  | succ c ih =>
    intro k h
    by_cases e : g k = s
    · rw [ft_y (by omega) e]
      exact Or.inr ⟨k, rfl, by omega, by omega, e, fun i i1 i2 => by omega⟩
    · rw [ft_n (by omega) e]
      rcases ih (k + 1) (by omega) with ⟨h1, h2⟩ | ⟨j, h1, h2, h3, h4, h5⟩
      · refine Or.inl ⟨h1, fun j j1 j2 => ?_⟩
        by_cases q : j = k
        · rw [q]; exact e
        · exact h2 j (by omega) j2
      · refine Or.inr ⟨j, h1, by omega, h3, h4, fun i i1 i2 => ?_⟩
        by_cases q : i = k
        · rw [q]; exact e
        · exact h5 i (by omega) i2
theorem ft_f {g : Nat → Int} {s : Int} {N k : Nat} : isF (fun j => g j = s) N k (ft g s N k) := ft_i _ k rfl
def nxt (g : Nat → Int) (N m : Nat) : Int := if g m = -1 then -1 else ft g (g m) N (m + 1)
theorem nxt_s {g : Nat → Int} {N m : Nat} {s : Int} (h : g m = s) (hs : s ≠ -1) : nxt g N m = ft g s N (m + 1) := by
  unfold nxt
  rw [if_neg (by rw [h]; exact hs), h]
/-! the class's side: may two SOULS be one? -/
theorem y24_s {K : Int → Int → Int → jW → Int} {r : Nat} {q x n y o : Int} {X : jW} : d_X7_mayBeOne_r78d_24 K (r + 1) q x n y o X = if y = -1 then K q (X.1 83 x.toNat) (n + 1) X else if 600 ≤ o then K q (X.1 83 x.toNat) (n + 1) X else if d_X7_reasonFor_r78d x y X = 0 then d_X7_mayBeOne_r78d_24 K r q x n (X.1 83 y.toNat) (o + 1) X else 0 := rfl
theorem y24_e {K : Int → Int → Int → jW → Int} {E : pE} {X : jW} {g : Nat → Int} {N x : Nat} {q n : Int} (Y : pYx X E) (hN : N = sNl E) (h6 : N ≤ 600) (gi : sGi E g) (hq : q ≠ -1) (mx : sMn E x) (nx : ∀ m : Nat, m < N → X.1 83 m = nxt g N m) : ∀ (r k o : Nat), N - k < r → o ≤ k → (d_X7_mayBeOne_r78d_24 K r q (x : Int) n (ft g q N k) (o : Int) X = K q (X.1 83 x) (n + 1) X ∧ ∀ c : Nat, k ≤ c → c < N → g c = q → sWhy E x c = 0) ∨ (d_X7_mayBeOne_r78d_24 K r q (x : Int) n (ft g q N k) (o : Int) X = 0 ∧ ∃ c : Nat, c < N ∧ g c = q ∧ sWhy E x c ≠ 0) := by
  have main : ∀ (c r k o : Nat), N - k = c → N - k < r → o ≤ k → (d_X7_mayBeOne_r78d_24 K r q (x : Int) n (ft g q N k) (o : Int) X = K q (X.1 83 x) (n + 1) X ∧ ∀ c : Nat, k ≤ c → c < N → g c = q → sWhy E x c = 0) ∨ (d_X7_mayBeOne_r78d_24 K r q (x : Int) n (ft g q N k) (o : Int) X = 0 ∧ ∃ c : Nat, c < N ∧ g c = q ∧ sWhy E x c ≠ 0) := by
    intro c
    induction c with
    | zero =>
      intro r k o hc hr ho
      obtain ⟨r', rfl⟩ : ∃ r', r = r' + 1 := ⟨r - 1, by omega⟩
      rw [ft_o (by omega), y24_s, if_pos rfl, show ((x : Int)).toNat = x from by omega]
      exact Or.inl ⟨rfl, fun c c1 c2 => by omega⟩
    | succ c ih =>
      intro r k o hc hr ho
      by_cases e : g k = q
      · obtain ⟨r', rfl⟩ : ∃ r', r = r' + 1 := ⟨r - 1, by omega⟩
        have mk : sMn E k := by
          rcases gi k (by omega) with z | z
          · exact absurd (e.symm.trans z) hq
          · exact z.1
        rw [ft_y (by omega) e, y24_s, if_neg (show ¬ (k : Int) = -1 from by omega), if_neg (show ¬ (600 : Int) ≤ (o : Int) from by omega), xwy Y mx mk, show ((k : Int)).toNat = k from by omega, nx k (by omega), nxt_s e hq]
        by_cases w : sWhy E x k = 0
        · rw [if_pos w]
          have z := ih r' (k + 1) (o + 1) (by omega) (by omega) (by omega)
          rw [show ((o + 1 : Nat) : Int) = (o : Int) + 1 from by omega] at z
          rcases z with ⟨z1, z2⟩ | z
          · refine Or.inl ⟨z1, fun c c1 c2 c3 => ?_⟩
            by_cases e : c = k
            · rw [e]; exact w
            · exact z2 c (by omega) c2 c3
          · exact Or.inr z
        · rw [if_neg w]
          exact Or.inr ⟨rfl, k, by omega, e, w⟩
      · rw [ft_n (by omega) e]
        rcases ih r (k + 1) o (by omega) (by omega) (by omega) with ⟨z1, z2⟩ | z
        · refine Or.inl ⟨z1, fun c c1 c2 c3 => ?_⟩
          by_cases q : c = k
          · rw [q] at c3; exact absurd c3 e
          · exact z2 c (by omega) c2 c3
        · exact Or.inr z
  exact fun r k o => main _ r k o rfl
theorem y5_s {r : Nat} {q x n : Int} {X : jW} : d_X7_mayBeOne_r78d_5 (r + 1) q x n X = if x = -1 then 1 else if 600 ≤ n then 1 else d_X7_mayBeOne_r78d_24 (fun l2 l3 l4 W => d_X7_mayBeOne_r78d_5 r l2 l3 l4 W) 601 q x n q 0 X := rfl
theorem y5_e {E : pE} {X : jW} {g : Nat → Int} {N q : Nat} {p : Int} (Y : pYx X E) (hN : N = sNl E) (h6 : N ≤ 600) (gi : sGi E g) (hp : p ≠ -1) (hq : q < N) (eq : g q = (q : Int)) (nx : ∀ m : Nat, m < N → X.1 83 m = nxt g N m) : ∀ (c r k n : Nat), N - k = c → N - k < r → n ≤ k → (d_X7_mayBeOne_r78d_5 r (q : Int) (ft g p N k) (n : Int) X = 1 ∧ ∀ a b : Nat, k ≤ a → a < N → b < N → g a = p → g b = (q : Int) → sWhy E a b = 0) ∨ (d_X7_mayBeOne_r78d_5 r (q : Int) (ft g p N k) (n : Int) X = 0 ∧ ∃ a b : Nat, a < N ∧ b < N ∧ g a = p ∧ g b = (q : Int) ∧ sWhy E a b ≠ 0) := by
  have f0 : ft g (q : Int) N 0 = (q : Int) := by
    refine isF_u ft_f (Or.inr ⟨q, rfl, by omega, hq, eq, fun i i1 i2 z => ?_⟩) (fun j _ _ => Iff.rfl)
    rcases gi i (by omega) with y | ⟨y1, y2, y3, y4⟩
    · have z' : g i = (q : Int) := z
      omega
    · have z' : g i = (q : Int) := z
      omega
  intro c
  induction c with
  | zero =>
    intro r k n hc hr hn
    obtain ⟨r', rfl⟩ : ∃ r', r = r' + 1 := ⟨r - 1, by omega⟩
    rw [ft_o (by omega), y5_s, if_pos rfl]
    exact Or.inl ⟨rfl, fun a b a1 a2 => by omega⟩
  | succ c ih =>
    intro r k n hc hr hn
    by_cases e : g k = p
    · obtain ⟨r', rfl⟩ : ∃ r', r = r' + 1 := ⟨r - 1, by omega⟩
      have mk : sMn E k := by
        rcases gi k (by omega) with z | z
        · exact absurd (e.symm.trans z) hp
        · exact z.1
      rw [ft_y (by omega) e, y5_s, if_neg (show ¬ (k : Int) = -1 from by omega), if_neg (show ¬ (600 : Int) ≤ (n : Int) from by omega)]
      have w := @y24_e (fun l2 l3 l4 W => d_X7_mayBeOne_r78d_5 r' l2 l3 l4 W) E X g N k (q : Int) (n : Int) Y hN h6 gi (by omega) mk nx 601 0 0 (by omega) (by omega)
      rw [f0, show ((0 : Nat) : Int) = 0 from rfl] at w
      rcases w with ⟨w1, w2⟩ | ⟨w1, b, b1, b2, b3⟩
      · rw [w1, nx k (by omega), nxt_s e hp]
        have z := ih r' (k + 1) (n + 1) (by omega) (by omega) (by omega)
        rw [show ((n + 1 : Nat) : Int) = (n : Int) + 1 from by omega] at z
        rcases z with ⟨z1, z2⟩ | z
        · refine Or.inl ⟨z1, fun a b a1 a2 a3 a4 a5 => ?_⟩
          by_cases e : a = k
          · rw [e]; exact w2 b (by omega) a3 a5
          · exact z2 a b (by omega) a2 a3 a4 a5
        · exact Or.inr z
      · rw [w1]
        exact Or.inr ⟨rfl, k, b, by omega, b1, e, b2, b3⟩
    · rw [ft_n (by omega) e]
      rcases ih r (k + 1) n (by omega) (by omega) (by omega) with ⟨z1, z2⟩ | z
      · refine Or.inl ⟨z1, fun a b a1 a2 a3 a4 a5 => ?_⟩
        by_cases q : a = k
        · rw [q] at a4; exact absurd a4 e
        · exact z2 a b (by omega) a2 a3 a4 a5
      · exact Or.inr z
theorem ymo {E : pE} {X : jW} {g : Nat → Int} {N p q : Nat} (Y : pYx X E) (hN : N = sNl E) (h6 : N ≤ 600) (gi : sGi E g) (hp : p < N) (ep : g p = (p : Int)) (hq : q < N) (eq : g q = (q : Int)) (nx : ∀ m : Nat, m < N → X.1 83 m = nxt g N m) : d_X7_mayBeOne_r78d (p : Int) (q : Int) X = tv (sCj E g (p : Int) (q : Int)) := by
  have f0 : ft g (p : Int) N 0 = (p : Int) := by
    refine isF_u ft_f (Or.inr ⟨p, rfl, by omega, hp, ep, fun i i1 i2 z => ?_⟩) (fun j _ _ => Iff.rfl)
    have z' : g i = (p : Int) := z
    rcases gi i (by omega) with y | ⟨y1, y2, y3, y4⟩
    · omega
    · omega
  unfold d_X7_mayBeOne_r78d
  have w := @y5_e E X g N q (p : Int) Y hN h6 gi (by omega) hq eq nx _ 601 0 0 rfl (by omega) (by omega)
  rw [f0, show ((0 : Nat) : Int) = 0 from rfl] at w
  rcases w with ⟨w1, w2⟩ | ⟨w1, a, b, a1, a2, a3, a4, a5⟩
  · exact w1.trans (tv_t fun a b ha hb ga gb => w2 a b (by omega) (by omega) (by omega) ga gb).symm
  · exact w1.trans (tv_f fun h => a5 (h a b (by omega) (by omega) a3 a4)).symm
/-! the class's side: two chains become one -/
theorem g16_s {r : Nat} {lo la x y n : Int} {X : jW} : d_X7_merge_r78d_16 (r + 1) lo la x y n X = if 600 ≤ n then vu X 83 la.toNat x else if y = -1 then vu X 83 la.toNat x else if x = -1 ∨ y ≤ x then d_X7_merge_r78d_16 r lo y x ((vu X 83 la.toNat y).1 83 y.toNat) (n + 1) (vu (vu X 83 la.toNat y) 82 y.toNat lo) else d_X7_merge_r78d_16 r lo x ((vu X 83 la.toNat x).1 83 x.toNat) y (n + 1) (vu X 83 la.toNat x) := by
  show (if 600 ≤ n then _ else if y = -1 then _ else if x = -1 then _ else if y ≤ x then _ else _) = _
  repeat' split
  all_goals first
    | rfl
    | (exfalso; omega)
section
variable {E : pE} {g : Nat → Int} {N lo hi : Nat}
theorem sJn_l (h : lo < hi) {m : Nat} : sJn g (lo : Int) (hi : Int) m = if g m = (hi : Int) then (lo : Int) else g m := by
  unfold sJn
  rw [show max (lo : Int) (hi : Int) = (hi : Int) from by omega, show min (lo : Int) (hi : Int) = (lo : Int) from by omega]
theorem g16_e (h6 : N ≤ 600) (hl : lo < hi) (hh : hi < N) : ∀ (c r la n : Nat) (W : jW), N - la ≤ c → c < r → la < N → n ≤ la → (g la = (lo : Int) ∨ g la = (hi : Int)) → (∀ m : Nat, m < N → W.1 82 m = if g m = (hi : Int) ∧ m ≤ la then (lo : Int) else g m) → (∀ m : Nat, m < N → m ≠ la → W.1 83 m = if (g m = (lo : Int) ∨ g m = (hi : Int)) ∧ m < la then nxt (sJn g (lo : Int) (hi : Int)) N m else nxt g N m) → (∀ m : Nat, m < N → (d_X7_merge_r78d_16 r (lo : Int) (la : Int) (ft g (lo : Int) N (la + 1)) (ft g (hi : Int) N (la + 1)) (n : Int) W).1 82 m = sJn g (lo : Int) (hi : Int) m) ∧ ∀ m : Nat, m < N → (d_X7_merge_r78d_16 r (lo : Int) (la : Int) (ft g (lo : Int) N (la + 1)) (ft g (hi : Int) N (la + 1)) (n : Int) W).1 83 m = nxt (sJn g (lo : Int) (hi : Int)) N m := by
  have jl : ∀ m : Nat, (sJn g (lo : Int) (hi : Int) m = (lo : Int) ↔ (g m = (lo : Int) ∨ g m = (hi : Int))) := fun m => by
    rw [sJn_l hl]
    by_cases c : g m = (hi : Int)
    · rw [if_pos c]; exact ⟨fun _ => Or.inr c, fun _ => rfl⟩
    · rw [if_neg c]; exact ⟨Or.inl, fun z => z.resolve_right c⟩
  -- who is of neither stays
  have ot : ∀ m : Nat, g m ≠ (lo : Int) → g m ≠ (hi : Int) → nxt g N m = nxt (sJn g (lo : Int) (hi : Int)) N m := fun m m1 m2 => by
    have e : sJn g (lo : Int) (hi : Int) m = g m := by rw [sJn_l hl, if_neg m2]
    unfold nxt
    rw [e]
    by_cases z : g m = -1
    · rw [if_pos z, if_pos z]
    · rw [if_neg z, if_neg z]
      refine isF_u ft_f ft_f (fun j _ _ => ?_)
      show g j = g m ↔ sJn g (lo : Int) (hi : Int) j = g m
      rw [sJn_l hl]
      by_cases c : g j = (hi : Int)
      · rw [if_pos c]
        exact ⟨fun y => absurd (y.symm.trans c) m2, fun y => absurd y.symm m1⟩
      · rw [if_neg c]
  have nu : ∀ m : Nat, (g m = (lo : Int) ∨ g m = (hi : Int)) → nxt (sJn g (lo : Int) (hi : Int)) N m = ft (sJn g (lo : Int) (hi : Int)) (lo : Int) N (m + 1) := fun m h => nxt_s ((jl m).2 h) (by omega)
  intro c
  induction c with
  | zero => intros; exfalso; omega
  | succ c ih =>
    intro r la n W hc hr hla hn ul i1 i2
    obtain ⟨r', rfl⟩ : ∃ r', r = r' + 1 := ⟨r - 1, by omega⟩
    rw [g16_s, if_neg (show ¬ (600 : Int) ≤ (n : Int) from by omega), show ((la : Int)).toNat = la from by omega]
    have fx := @ft_f g (lo : Int) N (la + 1)
    have fy := @ft_f g (hi : Int) N (la + 1)
    generalize hx : ft g (lo : Int) N (la + 1) = x at *
    generalize hy : ft g (hi : Int) N (la + 1) = y at *
    by_cases c1 : y = -1
    · rw [if_pos c1]
      have nh : ∀ j : Nat, la + 1 ≤ j → j < N → ¬ g j = (hi : Int) := by
        rcases fy with ⟨_, z⟩ | ⟨j, z, _⟩
        · exact z
        · exfalso; omega
      refine ⟨fun m hm => ?_, fun m hm => ?_⟩
      · rw [vu_n (by omega), i1 m hm, sJn_l hl]
        by_cases c2 : g m = (hi : Int)
        · rw [if_pos c2, if_pos ⟨c2, Nat.le_of_not_lt fun z => nh m z hm c2⟩]
        · rw [if_neg c2, if_neg (fun z => c2 z.1)]
      · by_cases e : m = la
        · rw [e, vu_e rfl, nu la ul]
          refine isF_u fx ft_f (fun j j1 j2 => ?_)
          show g j = (lo : Int) ↔ sJn g (lo : Int) (hi : Int) j = (lo : Int)
          rw [jl]
          exact ⟨Or.inl, fun z => z.resolve_right (nh j j1 j2)⟩
        · rw [vu_n (by omega), i2 m hm e]
          by_cases u : g m = (lo : Int) ∨ g m = (hi : Int)
          · by_cases ml : m < la
            · rw [if_pos ⟨u, ml⟩]
            · rw [if_neg (fun z => ml z.2), nu m u]
              have gl : g m = (lo : Int) := u.resolve_right (nh m (by omega) hm)
              rw [nxt_s gl (by omega)]
              refine isF_u ft_f ft_f (fun j j1 j2 => ?_)
              show g j = (lo : Int) ↔ sJn g (lo : Int) (hi : Int) j = (lo : Int)
              rw [jl]
              exact ⟨Or.inl, fun z => z.resolve_right (nh j (by omega) j2)⟩
          · rw [if_neg (fun z => u z.1)]
            exact ot m (fun z => u (Or.inl z)) (fun z => u (Or.inr z))
    · rw [if_neg c1]
      obtain ⟨b, b1, b2, b3, b4, b5⟩ : ∃ j : Nat, y = (j : Int) ∧ la + 1 ≤ j ∧ j < N ∧ g j = (hi : Int) ∧ ∀ i : Nat, la + 1 ≤ i → i < j → ¬ g i = (hi : Int) := by
        rcases fy with ⟨z, _⟩ | z
        · exact absurd z c1
        · exact z
      by_cases c2 : x = -1 ∨ y ≤ x
      · rw [if_pos c2, b1, show ((b : Int)).toNat = b from by omega]
        -- no low one up to b
        have nl : ∀ j : Nat, la + 1 ≤ j → j ≤ b → ¬ g j = (lo : Int) := by
          intro j j1 j2 j3
          rcases fx with ⟨z1, z2⟩ | ⟨a, z1, z2, z3, z4, z5⟩
          · exact z2 j j1 (by omega) j3
          · have j3' : g j = (lo : Int) := j3
            have z4' : g a = (lo : Int) := z4
            rcases Nat.lt_trichotomy j a with q | q | q
            · exact z5 j j1 q j3
            · have : j = b := by omega
              rw [this] at j3'
              omega
            · omega
        have fx2 : x = ft g (lo : Int) N (b + 1) := by
          rw [← hx]
          have fx' := @ft_f g (lo : Int) N (la + 1)
          refine isF_u (P := fun j => g j = (lo : Int) ∧ b + 1 ≤ j) (N := N) (k := la + 1) ?_ (Q := fun j => g j = (lo : Int) ∧ b + 1 ≤ j) ?_ (fun _ _ _ => Iff.rfl)
          · rcases fx' with ⟨z1, z2⟩ | ⟨a, z1, z2, z3, z4, z5⟩
            · exact Or.inl ⟨z1, fun j j1 j2 j3 => z2 j j1 j2 j3.1⟩
            · exact Or.inr ⟨a, z1, z2, z3, ⟨z4, Nat.lt_of_not_le fun q => nl a z2 q z4⟩, fun i i1 i2 i3 => z5 i i1 i2 i3.1⟩
          · rcases @ft_f g (lo : Int) N (b + 1) with ⟨z1, z2⟩ | ⟨a, z1, z2, z3, z4, z5⟩
            · exact Or.inl ⟨z1, fun j j1 j2 j3 => z2 j j3.2 j2 j3.1⟩
            · exact Or.inr ⟨a, z1, by omega, z3, ⟨z4, z2⟩, fun i i1 i2 i3 => z5 i i3.2 i2 i3.1⟩
        have y2 : (vu W 83 la (b : Int)).1 83 b = ft g (hi : Int) N (b + 1) := by
          rw [vu_n (by omega), i2 b b3 (by omega), if_neg (by omega), nxt_s b4 (by omega)]
        rw [y2, fx2]
        have z := ih r' b (n + 1) (vu (vu W 83 la (b : Int)) 82 b (lo : Int)) (by omega) (by omega) b3 (by omega) (Or.inr b4) (fun m hm => ?_) (fun m hm me => ?_)
        · rw [show ((n + 1 : Nat) : Int) = (n : Int) + 1 from by omega] at z
          exact z
        · by_cases e : m = b
          · rw [e, vu_e rfl, if_pos ⟨b4, Nat.le_refl _⟩]
          · rw [vu_n (by omega), vu_n (by omega), i1 m hm]
            by_cases c3 : g m = (hi : Int)
            · by_cases c4 : m ≤ la
              · rw [if_pos ⟨c3, c4⟩, if_pos ⟨c3, by omega⟩]
              · rw [if_neg (fun z => c4 z.2), if_neg (fun z => b5 m (by omega) (by have := z.2; omega) c3)]
            · rw [if_neg (fun z => c3 z.1), if_neg (fun z => c3 z.1)]
        · by_cases e : m = la
          · rw [e, vu_n (by omega), vu_e rfl, if_pos ⟨ul, by omega⟩, nu la ul]
            refine (isF_u ft_f (Or.inr ⟨b, rfl, b2, b3, (jl b).2 (Or.inr b4), fun i i1 i2 i3 => ?_⟩) (fun _ _ _ => Iff.rfl)).symm
            rcases (jl i).1 i3 with q | q
            · exact nl i i1 (by omega) q
            · exact b5 i i1 i2 q
          · rw [vu_n (by omega), vu_n (by omega), i2 m hm e]
            by_cases c3 : (g m = (lo : Int) ∨ g m = (hi : Int)) ∧ m < la
            · rw [if_pos c3, if_pos ⟨c3.1, by omega⟩]
            · rw [if_neg c3]
              by_cases c4 : (g m = (lo : Int) ∨ g m = (hi : Int)) ∧ m < b
              · exfalso
                rcases c4.1 with q | q
                · exact nl m (by omega) (by omega) q
                · exact b5 m (by omega) c4.2 q
              · rw [if_neg c4]
      · rw [if_neg c2]
        obtain ⟨a, a1, a2, a3, a4, a5⟩ : ∃ j : Nat, x = (j : Int) ∧ la + 1 ≤ j ∧ j < N ∧ g j = (lo : Int) ∧ ∀ i : Nat, la + 1 ≤ i → i < j → ¬ g i = (lo : Int) := by
          rcases fx with ⟨z, _⟩ | z
          · exact absurd (Or.inl z) c2
          · exact z
        have ab : a < b := by omega
        rw [a1, show ((a : Int)).toNat = a from by omega]
        have x2 : (vu W 83 la (a : Int)).1 83 a = ft g (lo : Int) N (a + 1) := by
          rw [vu_n (by omega), i2 a a3 (by omega), if_neg (by omega), nxt_s a4 (by omega)]
        have fy2 : y = ft g (hi : Int) N (a + 1) := by
          rw [b1]
          exact isF_u (Or.inr ⟨b, rfl, by omega, b3, b4, fun i i1 i2 => b5 i (by omega) i2⟩) ft_f (fun _ _ _ => Iff.rfl)
        rw [x2, fy2]
        have z := ih r' a (n + 1) (vu W 83 la (a : Int)) (by omega) (by omega) a3 (by omega) (Or.inl a4) (fun m hm => ?_) (fun m hm me => ?_)
        · rw [show ((n + 1 : Nat) : Int) = (n : Int) + 1 from by omega] at z
          exact z
        · rw [vu_n (by omega), i1 m hm]
          by_cases c3 : g m = (hi : Int)
          · by_cases c4 : m ≤ la
            · rw [if_pos ⟨c3, c4⟩, if_pos ⟨c3, by omega⟩]
            · rw [if_neg (fun z => c4 z.2), if_neg (fun z => b5 m (by omega) (by have := z.2; omega) c3)]
          · rw [if_neg (fun z => c3 z.1), if_neg (fun z => c3 z.1)]
        · by_cases e : m = la
          · rw [e, vu_e rfl, if_pos ⟨ul, by omega⟩, nu la ul]
            refine (isF_u ft_f (Or.inr ⟨a, rfl, a2, a3, (jl a).2 (Or.inl a4), fun i i1 i2 i3 => ?_⟩) (fun _ _ _ => Iff.rfl)).symm
            rcases (jl i).1 i3 with q | q
            · exact a5 i i1 i2 q
            · exact b5 i i1 (by omega) q
          · rw [vu_n (by omega), i2 m hm e]
            by_cases c3 : (g m = (lo : Int) ∨ g m = (hi : Int)) ∧ m < la
            · rw [if_pos c3, if_pos ⟨c3.1, by omega⟩]
            · rw [if_neg c3]
              by_cases c4 : (g m = (lo : Int) ∨ g m = (hi : Int)) ∧ m < a
              · exfalso
                rcases c4.1 with q | q
                · exact a5 m (by omega) c4.2 q
                · exact b5 m (by omega) (by omega) q
              · rw [if_neg c4]
theorem xmg {X : jW} (h6 : N ≤ 600) (hl : lo < hi) (hh : hi < N) (el : g lo = (lo : Int)) (eh : g hi = (hi : Int)) (gi : ∀ m : Nat, m < N → g m = -1 ∨ (0 ≤ g m ∧ g m ≤ (m : Int))) (x1 : ∀ m : Nat, m < N → X.1 82 m = g m) (x2 : ∀ m : Nat, m < N → X.1 83 m = nxt g N m) : (∀ m : Nat, m < N → (d_X7_merge_r78d (lo : Int) (hi : Int) X).1 82 m = sJn g (lo : Int) (hi : Int) m) ∧ ∀ m : Nat, m < N → (d_X7_merge_r78d (lo : Int) (hi : Int) X).1 83 m = nxt (sJn g (lo : Int) (hi : Int)) N m := by
  unfold d_X7_merge_r78d
  have nlo : ∀ j : Nat, j < N → g j = (lo : Int) → lo ≤ j := fun j j1 j2 => by
    rcases gi j j1 with z | z
    · omega
    · omega
  have nhi : ∀ j : Nat, j < N → g j = (hi : Int) → hi ≤ j := fun j j1 j2 => by
    rcases gi j j1 with z | z
    · omega
    · omega
  have e1 : X.1 83 ((lo : Int)).toNat = ft g (lo : Int) N (lo + 1) := by
    rw [show ((lo : Int)).toNat = lo from by omega, x2 lo (by omega), nxt_s el (by omega)]
  have e2 : (hi : Int) = ft g (hi : Int) N (lo + 1) := isF_u (Or.inr ⟨hi, rfl, by omega, hh, eh, fun i i1 i2 i3 => by have := nhi i (by omega) i3; omega⟩) ft_f (fun _ _ _ => Iff.rfl)
  rw [e1]
  have z := @g16_e g N lo hi h6 hl hh (N - lo) 601 lo 0 X (Nat.le_refl _) (by omega) (by omega) (by omega) (Or.inl el) (fun m hm => ?_) (fun m hm me => ?_)
  · rw [← e2] at z
    exact z
  · rw [x1 m hm, if_neg (fun q => by have := nhi m hm q.1; omega)]
  · rw [x2 m hm]
    rw [if_neg (fun q => by
      rcases q.1 with y | y
      · have := nlo m hm y; omega
      · have := nhi m hm y; omega)]
end
end jG19

section jG20
/-! pure: SOULS found by the class -/
def pGx (X : jW) (E : pE) (s : sS2) : Prop := (∀ m : Nat, m < sNl E → X.1 82 m = s.1 m) ∧ (∀ m : Nat, m < sNl E → X.1 83 m = nxt s.1 (sNl E) m) ∧ X.1 78 13 = (s.2.length : Int) ∧ ∀ i : Nat, i < s.2.length → X.1 84 i = nth s.2 i
theorem pYx_f {l : List (Nat × Nat)} {X N : jW} {E : pE} (F : pF l X N) (ck : (pc l 78 6 || (!tok l 32 pt_2 || ((l.any fun q => Nat.beq q.1 75) || ((l.any fun q => Nat.beq q.1 76) || ((l.any fun q => Nat.beq q.1 77) || ((l.any fun q => Nat.beq q.1 79) || ((l.any fun q => Nat.beq q.1 80) || (l.any fun q => Nat.beq q.1 81)))))))) = false) (Y : pYx X E) : pYx N E := by
  simp only [Bool.or_eq_false_iff] at ck
  obtain ⟨c1, c2, c3, c4, c5, c6, c7, c8⟩ := ck
  obtain ⟨S, I, N', hs, h6, T, Fc, L⟩ := Y
  have c2' : tok l 32 pt_2 = true := by
    cases h : tok l 32 pt_2 with
    | true => rfl
    | false => rw [h] at c2; exact absurd c2 (by decide)
  refine ⟨S, I, N', hs, (F.1 78 6 c1).trans h6, pT_x F c2' T, fun q hq => ?_, fun m hm => ?_⟩
  · unfold pFc
    rw [pF_c F c3, pF_c F c4, pF_c F c5]
    exact Fc q hq
  · unfold pSl
    rw [pF_c F c6, pF_c F c7, pF_c F c8]
    exact L m hm
theorem x22_s {E : pE} {r m : Nat} {d : Int} {X : jW} (T : pT X 32 pt_0 E.1) (L : ((m / 3 : Nat) : Int) < E.1 0 → pSl X E m) : d_X7_asKnown_r78d_22 (r + 1) d (m : Int) X = if X.1 33 3 * 3 ≤ (m : Int) then d_X7_asKnown_r78d_103 201 d 0 (vu X 78 13 0) else d_X7_asKnown_r78d_22 r d ((m : Int) + 1) (vu (vu X 82 m (sG0 E d m)) 83 m (-1)) := by
  have e : X.1 33 3 = E.1 0 := T.1
  have b : 0 ≤ E.1 0 := T.2.1.1
  show (if X.1 33 3 * 3 ≤ (m : Int) then d_X7_asKnown_r78d_103 201 d 0 (vu X 78 13 0) else if X.1 79 ((m : Int)).toNat = -1 then _ else if d_X8_isKnown_r33d ((m : Int) / 3) d X = 0 then _ else _) = _
  by_cases c : X.1 33 3 * 3 ≤ (m : Int)
  · rw [if_pos c, if_pos c]
  · have hl : ((m / 3 : Nat) : Int) < E.1 0 := by omega
    rw [if_neg c, if_neg c, show ((m : Int)).toNat = m from by omega, (L hl).1, kn_33 T (by omega) (by omega), show (20 + 90 * ((m : Int) / 3) + 3).toNat = 23 + 90 * (m / 3) from by omega]
    have v : sG0 E d m = if sCo E m = -1 ∨ d < E.1 (23 + 90 * (m / 3)) then -1 else (m : Int) := by
      unfold sG0 sNl
      repeat' split
      all_goals first
        | rfl
        | (exfalso; omega)
    rw [v]
    repeat' split
    all_goals first
      | rfl
      | (exfalso; omega)
theorem x103_s {r : Nat} {d k P Q : Int} {X : jW} (hk : k < X.1 39 3) (eP : d_X8_at_r39_c1d k X = P) (eQ : d_X8_at_r39_c2d k X = Q) (p0 : 0 ≤ P) (p1 : P / 3 < X.1 33 3) (q0 : 0 ≤ Q) (q1 : Q / 3 < X.1 33 3) : d_X7_asKnown_r78d_103 (r + 1) d k X = if d_X8_isKnown_r39d k d X = 0 then d_X7_asKnown_r78d_103 r d (k + 1) X else if X.1 82 P.toNat = -1 then d_X7_asKnown_r78d_103 r d (k + 1) X else if X.1 82 Q.toNat = -1 then d_X7_asKnown_r78d_103 r d (k + 1) X else if X.1 82 P.toNat = X.1 82 Q.toNat then d_X7_asKnown_r78d_103 r d (k + 1) X else if d_X7_mayBeOne_r78d (X.1 82 P.toNat) (X.1 82 Q.toNat) X = 0 then (if 200 ≤ X.1 78 13 then d_X7_asKnown_r78d_103 r d (k + 1) X else d_X7_asKnown_r78d_103 r d (k + 1) (vu (vu X 84 (X.1 78 13).toNat k) 78 13 (X.1 78 13 + 1))) else d_X7_asKnown_r78d_103 r d (k + 1) (d_X7_merge_r78d (min (X.1 82 P.toNat) (X.1 82 Q.toNat)) (max (X.1 82 P.toNat) (X.1 82 Q.toNat)) X) := by
  show (if X.1 39 3 ≤ k then X else if d_X8_isKnown_r39d k d X = 0 then _ else if d_X8_at_r39_c1d k X < 0 then _ else if X.1 33 3 ≤ d_X8_at_r39_c1d k X / 3 then _ else if d_X8_at_r39_c2d k X < 0 then _ else if X.1 33 3 ≤ d_X8_at_r39_c2d k X / 3 then _ else if X.1 82 (d_X8_at_r39_c1d k X).toNat = -1 then _ else if X.1 82 (d_X8_at_r39_c2d k X).toNat = -1 then _ else if X.1 82 (d_X8_at_r39_c1d k X).toNat = X.1 82 (d_X8_at_r39_c2d k X).toNat then _ else if d_X7_mayBeOne_r78d (X.1 82 (d_X8_at_r39_c1d k X).toNat) (X.1 82 (d_X8_at_r39_c2d k X).toNat) X = 0 then (if 200 ≤ X.1 78 13 then _ else _) else _) = _
  rw [if_neg (show ¬ X.1 39 3 ≤ k from by omega), eP, eQ, if_neg (show ¬ P < 0 from by omega), if_neg (show ¬ X.1 33 3 ≤ P / 3 from by omega), if_neg (show ¬ Q < 0 from by omega), if_neg (show ¬ X.1 33 3 ≤ Q / 3 from by omega)]
  rfl
theorem sCj_s {E : pE} {g : Nat → Int} {p q : Int} : sCj E g p q ↔ sCj E g q p := by
  constructor
  · intro h a b ha hb ga gb; rw [sWhy_s]; exact h b a hb ha gb ga
  · intro h a b ha hb ga gb; rw [sWhy_s]; exact h b a hb ha gb ga
theorem sJn_s {g : Nat → Int} {p q : Int} : sJn g p q = sJn g q p := by
  unfold sJn
  rw [show max p q = max q p from by omega, show min p q = min q p from by omega]
theorem sJn_m {g : Nat → Int} {p q : Int} : sJn g (min p q) (max p q) = sJn g p q := by
  unfold sJn
  rw [show max (min p q) (max p q) = max p q from by omega, show min (min p q) (max p q) = min p q from by omega]
abbrev fwA : List (Nat × Nat) := [(78, 14), (82, 0), (83, 0), (84, 0)]
/-- one bond at the class's -/
theorem x103_k {E : pE} {d : Int} {r k : Nat} {P Q : Nat} {X : jW} {s t : sS2} (Y : pYx X E) (h2 : E.1 0 ≤ 200) (T : pT X 32 pt_0 E.1) (B : pBo X 32 E.1) (hk : (k : Int) < E.1 2) (gi : sGi E s.1) (G : pGx X E s) (hl : s.2.length ≤ k) (hP : (P : Int) < 3 * E.1 0) (hQ : (Q : Int) < 3 * E.1 0) (eP : X.1 40 (3 * k + 1) = (P : Int)) (eQ : X.1 40 (3 * k + 2) = (Q : Int)) (t1 : ¬ (E.1 (18142 + 3 * k) ≤ d ∧ ¬ s.1 P = -1 ∧ ¬ s.1 Q = -1 ∧ ¬ s.1 P = s.1 Q) → t = s) (t2 : (E.1 (18142 + 3 * k) ≤ d ∧ ¬ s.1 P = -1 ∧ ¬ s.1 Q = -1 ∧ ¬ s.1 P = s.1 Q) → tv (sCj E s.1 (s.1 P) (s.1 Q)) = 0 → t = (s.1, s.2 ++ [(k : Int)])) (t3 : (E.1 (18142 + 3 * k) ≤ d ∧ ¬ s.1 P = -1 ∧ ¬ s.1 Q = -1 ∧ ¬ s.1 P = s.1 Q) → ¬ tv (sCj E s.1 (s.1 P) (s.1 Q)) = 0 → t = (sJn s.1 (s.1 P) (s.1 Q), s.2)) : ∃ V : jW, d_X7_asKnown_r78d_103 (r + 1) d (k : Int) X = d_X7_asKnown_r78d_103 r d ((k : Int) + 1) V ∧ pF fwA X V ∧ pGx V E t := by
  obtain ⟨b0, b1, b2⟩ := B
  change X.1 39 3 = E.1 2 at b1
  have bk := (b2 k hk).1
  change X.1 40 (3 * k) = E.1 (18142 + 3 * k) at bk
  have e33 : X.1 33 3 = E.1 0 := T.1
  have c1 : d_X8_at_r39_c1d (k : Int) X = (P : Int) := by
    unfold d_X8_at_r39_c1d
    rw [if_neg (by omega), show ((k : Int) * 3 + 1).toNat = 3 * k + 1 from by omega]
    exact eP
  have c2 : d_X8_at_r39_c2d (k : Int) X = (Q : Int) := by
    unfold d_X8_at_r39_c2d
    rw [if_neg (by omega), show ((k : Int) * 3 + 2).toNat = 3 * k + 2 from by omega]
    exact eQ
  have kn : d_X8_isKnown_r39d (k : Int) d X = if d < E.1 (18142 + 3 * k) then 0 else 1 := by
    unfold d_X8_isKnown_r39d
    rw [if_neg (by omega), show ((k : Int) * 3).toNat = 3 * k from by omega, bk]
    rfl
  obtain ⟨g1, g2, g3, g4⟩ := id G
  have nN : sNl E ≤ 600 := by unfold sNl; omega
  have pN : P < sNl E := by unfold sNl; omega
  have qN : Q < sNl E := by unfold sNl; omega
  rw [x103_s (by omega) c1 c2 (by omega) (by omega) (by omega) (by omega), kn, show ((P : Int)).toNat = P from by omega, show ((Q : Int)).toNat = Q from by omega, g1 P pN, g1 Q qN]
  by_cases cd : E.1 (18142 + 3 * k) ≤ d ∧ ¬ s.1 P = -1 ∧ ¬ s.1 Q = -1 ∧ ¬ s.1 P = s.1 Q
  · obtain ⟨d1, d2, d3, d4⟩ := id cd
    rw [if_neg (show ¬ (if d < E.1 (18142 + 3 * k) then (0 : Int) else 1) = 0 from by rw [if_neg (by omega)]; decide), if_neg d2, if_neg d3, if_neg d4]
    rcases gi P pN with z | ⟨z1, z2, z3, z4⟩
    · exact absurd z d2
    · rcases gi Q qN with y | ⟨y1, y2, y3, y4⟩
      · exact absurd y d3
      · have mo := @ymo E X s.1 (sNl E) (s.1 P).toNat (s.1 Q).toNat Y rfl nN gi (by omega) (by rw [z4]; omega) (by omega) (by rw [y4]; omega) g2
        rw [show (((s.1 P).toNat : Nat) : Int) = s.1 P from by omega, show (((s.1 Q).toNat : Nat) : Int) = s.1 Q from by omega] at mo
        rw [mo]
        by_cases w : tv (sCj E s.1 (s.1 P) (s.1 Q)) = 0
        · rw [if_pos w, if_neg (by omega), g3]
          refine ⟨_, rfl, pF_u (pF_v pF_r rfl) rfl, ?_⟩
          rw [t2 cd w]
          have l1 : (s.2 ++ [(k : Int)]).length = s.2.length + 1 := by rw [List.length_append]; rfl
          refine ⟨fun m hm => ?_, fun m hm => ?_, ?_, fun i hi => ?_⟩
          · rw [vu_n (by omega), vu_n (by omega)]; exact g1 m hm
          · rw [vu_n (by omega), vu_n (by omega)]; exact g2 m hm
          · show _ = (((s.2 ++ [(k : Int)]).length : Nat) : Int)
            rw [l1, vu_e rfl]
            omega
          · change i < (s.2 ++ [(k : Int)]).length at hi
            rw [l1] at hi
            rw [vu_n (by omega)]
            show _ = nth (s.2 ++ [(k : Int)]) i
            by_cases e : i < s.2.length
            · rw [vu_n (by omega), nth_l _ _ _ e]
              exact g4 i e
            · have z := nth_r s.2 [(k : Int)] 0
              rw [show s.2.length + 0 = i from by omega] at z
              rw [z]
              exact vu_e (by omega)
        · rw [if_neg w]
          refine ⟨_, rfl, pF_m (by decide) (fr_d_X7_merge_r78d _ _ _), ?_⟩
          rw [t3 cd w]
          have hm : s.1 P ≠ s.1 Q := d4
          have mg := @xmg s.1 (sNl E) (min (s.1 P) (s.1 Q)).toNat (max (s.1 P) (s.1 Q)).toNat X nN (by omega) (by omega) (by
            by_cases q : s.1 P ≤ s.1 Q
            · rw [show (min (s.1 P) (s.1 Q)).toNat = (s.1 P).toNat from by omega, z4]; omega
            · rw [show (min (s.1 P) (s.1 Q)).toNat = (s.1 Q).toNat from by omega, y4]; omega) (by
            by_cases q : s.1 P ≤ s.1 Q
            · rw [show (max (s.1 P) (s.1 Q)).toNat = (s.1 Q).toNat from by omega, y4]; omega
            · rw [show (max (s.1 P) (s.1 Q)).toNat = (s.1 P).toNat from by omega, z4]; omega) (fun m hm => by
            rcases gi m hm with q | q
            · exact Or.inl q
            · exact Or.inr ⟨q.2.1, q.2.2.1⟩) g1 g2
          rw [show (((min (s.1 P) (s.1 Q)).toNat : Nat) : Int) = min (s.1 P) (s.1 Q) from by omega, show (((max (s.1 P) (s.1 Q)).toNat : Nat) : Int) = max (s.1 P) (s.1 Q) from by omega, sJn_m] at mg
          have F := fr_d_X7_merge_r78d (min (s.1 P) (s.1 Q)) (max (s.1 P) (s.1 Q)) X
          exact ⟨mg.1, mg.2, (F.1 78 13 rfl).trans g3, fun i hi => (congrFun (pF_c F rfl) i).trans (g4 i hi)⟩
  · have e := t1 cd
    rw [e]
    refine ⟨X, ?_, pF_r, G⟩
    repeat' split
    all_goals first
      | rfl
      | (exfalso; omega)
theorem pBo_f {l : List (Nat × Nat)} {X N : jW} {r : Nat → Int} (F : pF l X N) (ck : cok l 32 3 = true) (B : pBo X 32 r) : pBo N 32 r := by
  have c := cok_e F ck
  exact pBo_e c.1 c.2 (fun _ _ => rfl) B
theorem x103_e {E : pE} {d : Int} (J : pIj E) (h2 : E.1 0 ≤ 200) : ∀ (r k : Nat) (X : jW), (E.1 2).toNat - k < r → (k : Int) ≤ E.1 2 → pYx X E → pT X 32 pt_0 E.1 → pBo X 32 E.1 → pGx X E (sGk E d k) → pGx (d_X7_asKnown_r78d_103 r d (k : Int) X) E (sGs E d) ∧ pF fwA X (d_X7_asKnown_r78d_103 r d (k : Int) X) := by
  intro r
  induction r with
  | zero => intros; exfalso; omega
  | succ r ih =>
    intro k X hr hk Y T B G
    have j0 := J.1
    have b1 : X.1 39 3 = E.1 2 := B.2.1
    by_cases c : E.1 2 ≤ (k : Int)
    · have e : d_X7_asKnown_r78d_103 (r + 1) d (k : Int) X = X := by
        show (if X.1 39 3 ≤ (k : Int) then X else _) = X
        exact if_pos (by omega)
      rw [e]
      unfold sGs
      rw [show (E.1 2).toNat = k from by omega]
      exact ⟨G, pF_r⟩
    · have jk := J.2 k (by omega)
      have st : sGk E d (k + 1) = sBs E d k (sGk E d k) := rfl
      have gi := @sGk_i E d J k hk
      have key : ∃ V : jW, d_X7_asKnown_r78d_103 (r + 1) d (k : Int) X = d_X7_asKnown_r78d_103 r d ((k : Int) + 1) V ∧ pF fwA X V ∧ pGx V E (sGk E d (k + 1)) := by
        rw [st]
        rcases (B.2.2 k (by omega)).2 with ⟨p, q⟩ | ⟨p, q⟩
        · change X.1 40 (3 * k + 1) = E.1 (18140 + 3 * k) at p
          change X.1 40 (3 * k + 2) = E.1 (18141 + 3 * k) at q
          refine x103_k (P := (E.1 (18140 + 3 * k)).toNat) (Q := (E.1 (18141 + 3 * k)).toNat) Y h2 T B (by omega) gi G (sGk_l k) (by omega) (by omega) (by omega) (by omega) (fun h => ?_) (fun h w => ?_) (fun h w => ?_)
          · unfold sBs; rw [if_neg h]
          · unfold sBs; rw [if_pos h, if_pos w]
          · unfold sBs; rw [if_pos h, if_neg w]
        · change X.1 40 (3 * k + 1) = E.1 (18141 + 3 * k) at p
          change X.1 40 (3 * k + 2) = E.1 (18140 + 3 * k) at q
          refine x103_k (P := (E.1 (18141 + 3 * k)).toNat) (Q := (E.1 (18140 + 3 * k)).toNat) Y h2 T B (by omega) gi G (sGk_l k) (by omega) (by omega) (by omega) (by omega) (fun h => ?_) (fun h w => ?_) (fun h w => ?_)
          · unfold sBs; rw [if_neg (fun z => h ⟨z.1, z.2.2.1, z.2.1, fun y => z.2.2.2 y.symm⟩)]
          · rw [tv_c sCj_s] at w
            unfold sBs; rw [if_pos ⟨h.1, h.2.2.1, h.2.1, fun y => h.2.2.2 y.symm⟩, if_pos w]
          · rw [tv_c sCj_s] at w
            rw [sJn_s]
            unfold sBs; rw [if_pos ⟨h.1, h.2.2.1, h.2.1, fun y => h.2.2.2 y.symm⟩, if_neg w]
      obtain ⟨V, v1, v2, v3⟩ := key
      rw [v1]
      have z := ih (k + 1) V (by omega) (by omega) (pYx_f v2 rfl Y) (pT_x v2 rfl T) (pBo_f v2 rfl B) v3
      rw [show ((k + 1 : Nat) : Int) = (k : Int) + 1 from by omega] at z
      exact ⟨z.1, pF_t v2 z.2⟩
theorem nxt_0 {E : pE} {d : Int} {m : Nat} : nxt (sG0 E d) (sNl E) m = -1 := by
  unfold nxt
  by_cases c : sG0 E d m = -1
  · rw [if_pos c]
  · rw [if_neg c]
    have e : ∀ j, sG0 E d j = -1 ∨ sG0 E d j = (j : Int) := fun j => by
      unfold sG0
      split
      · exact Or.inr rfl
      · exact Or.inl rfl
    refine isF_u ft_f (Or.inl ⟨rfl, fun j j1 j2 z => ?_⟩) (fun _ _ _ => Iff.rfl)
    have z' : sG0 E d j = sG0 E d m := z
    rcases e j with y | y
    · rw [y] at z'; exact c z'.symm
    · rcases e m with x | x
      · exact c x
      · omega
theorem x22_e {E : pE} {d : Int} (J : pIj E) (h2 : E.1 0 ≤ 200) : ∀ (r m : Nat) (X : jW), sNl E - m < r → m ≤ sNl E → pYx X E → pT X 32 pt_0 E.1 → pBo X 32 E.1 → (∀ j : Nat, j < m → X.1 82 j = sG0 E d j ∧ X.1 83 j = -1) → pGx (d_X7_asKnown_r78d_22 r d (m : Int) X) E (sGs E d) ∧ pF fwA X (d_X7_asKnown_r78d_22 r d (m : Int) X) := by
  intro r
  induction r with
  | zero => intros; exfalso; omega
  | succ r ih =>
    intro m X hr hm Y T B G
    have e33 : X.1 33 3 = E.1 0 := T.1
    have b : 0 ≤ E.1 0 := T.2.1.1
    have hn : X.1 33 3 * 3 = ((sNl E : Nat) : Int) := by unfold sNl; omega
    rw [x22_s T (Y.2.2.2.2.2.2.2 m), hn]
    by_cases c : ((sNl E : Nat) : Int) ≤ (m : Int)
    · rw [if_pos c]
      have F : pF fwA X (vu X 78 13 0) := pF_u pF_r rfl
      have z := x103_e (d := d) J h2 201 0 (vu X 78 13 0) (by have := J.1; omega) (by have := J.1; omega) (pYx_f F rfl Y) (pT_x F rfl T) (pBo_f F rfl B) ⟨fun j hj => ?_, fun j hj => ?_, vu_e rfl, fun i hi => absurd hi (Nat.not_lt_zero _)⟩
      · exact ⟨z.1, pF_t F z.2⟩
      · rw [vu_n (by omega)]; exact (G j (by omega)).1
      · rw [vu_n (by omega), (G j (by omega)).2]
        exact nxt_0.symm
    · rw [if_neg c]
      have F : pF fwA X (vu (vu X 82 m (sG0 E d m)) 83 m (-1)) := pF_v (pF_v pF_r rfl) rfl
      have z := ih (m + 1) _ (by omega) (by omega) (pYx_f F rfl Y) (pT_x F rfl T) (pBo_f F rfl B) (fun j hj => ?_)
      · rw [show ((m + 1 : Nat) : Int) = (m : Int) + 1 from by omega] at z
        exact ⟨z.1, pF_t F z.2⟩
      · by_cases e : j = m
        · rw [e]
          exact ⟨(vu_n (by omega)).trans (vu_e rfl), vu_e rfl⟩
        · rw [vu_n (by omega), vu_n (by omega), vu_n (by omega), vu_n (by omega)]
          exact G j (by omega)
/-- what the class knows of SOULS may be taken while nothing was told since -/
def pKs (X : jW) (E : pE) : Prop := X.1 86 1 = 0 → X.1 86 2 = X.1 32 19 → pGx X E (sGs E (X.1 86 0))
theorem pGx_f {l : List (Nat × Nat)} {X N : jW} {E : pE} {s : sS2} (F : pF l X N) (c1 : (l.any fun q => Nat.beq q.1 82) = false) (c2 : (l.any fun q => Nat.beq q.1 83) = false) (c3 : (l.any fun q => Nat.beq q.1 84) = false) (c4 : pc l 78 13 = false) (G : pGx X E s) : pGx N E s := by
  unfold pGx
  rw [pF_c F c1, pF_c F c2, pF_c F c3, F.1 78 13 c4]
  exact G
theorem xas {E : pE} {X : jW} {d : Int} (J : pIj E) (Y : pYx X E) (T : pT X 32 pt_0 E.1) (B : pBo X 32 E.1) (K : pKs X E) : pGx (d_X7_asKnown_r78d d X) E (sGs E d) ∧ (d_X7_asKnown_r78d d X).1 86 0 = d ∧ (d_X7_asKnown_r78d d X).1 86 1 = 0 ∧ (d_X7_asKnown_r78d d X).1 86 2 = X.1 32 19 := by
  have h2 : 0 ≤ E.1 0 ∧ E.1 0 ≤ 200 := T.2.1
  have F : pF [(86, 0)] X (vu (vu (vu X 86 0 d) 86 1 0) 86 2 (X.1 32 19)) := pF_v (pF_v (pF_v pF_r rfl) rfl) rfl
  have k0 : (vu (vu (vu X 86 0 d) 86 1 0) 86 2 (X.1 32 19)).1 86 0 = d := by rw [vu_n (by omega), vu_n (by omega)]; exact vu_e rfl
  have k1 : (vu (vu (vu X 86 0 d) 86 1 0) 86 2 (X.1 32 19)).1 86 1 = 0 := by rw [vu_n (by omega)]; exact vu_e rfl
  have k2 : (vu (vu (vu X 86 0 d) 86 1 0) 86 2 (X.1 32 19)).1 86 2 = X.1 32 19 := vu_e rfl
  have fresh : pGx (d_X7_asKnown_r78d_22 601 d 0 (vu (vu (vu X 86 0 d) 86 1 0) 86 2 (X.1 32 19))) E (sGs E d) ∧ (d_X7_asKnown_r78d_22 601 d 0 (vu (vu (vu X 86 0 d) 86 1 0) 86 2 (X.1 32 19))).1 86 0 = d ∧ (d_X7_asKnown_r78d_22 601 d 0 (vu (vu (vu X 86 0 d) 86 1 0) 86 2 (X.1 32 19))).1 86 1 = 0 ∧ (d_X7_asKnown_r78d_22 601 d 0 (vu (vu (vu X 86 0 d) 86 1 0) 86 2 (X.1 32 19))).1 86 2 = X.1 32 19 := by
    have z := x22_e J h2.2 601 0 (vu (vu (vu X 86 0 d) 86 1 0) 86 2 (X.1 32 19)) (d := d) (by unfold sNl; omega) (by omega) (pYx_f F rfl Y) (pT_x F rfl T) (pBo_f F rfl B) (fun j hj => absurd hj (Nat.not_lt_zero _))
    refine ⟨z.1, ?_⟩
    have e : (d_X7_asKnown_r78d_22 601 d 0 (vu (vu (vu X 86 0 d) 86 1 0) 86 2 (X.1 32 19))).1 86 = (vu (vu (vu X 86 0 d) 86 1 0) 86 2 (X.1 32 19)).1 86 := pF_c z.2 rfl
    rw [e]
    exact ⟨k0, k1, k2⟩
  unfold d_X7_asKnown_r78d
  by_cases c0 : X.1 86 0 = d
  · rw [if_pos c0]
    by_cases c1 : X.1 86 1 = 0
    · rw [if_pos c1]
      by_cases c2 : X.1 86 2 = X.1 32 19
      · rw [if_pos c2]
        have G := K c1 c2
        rw [c0] at G
        exact ⟨pGx_f F rfl rfl rfl rfl G, k0, k1, k2⟩
      · rw [if_neg c2]; exact fresh
    · rw [if_neg c1]; exact fresh
  · rw [if_neg c0]; exact fresh
end jG20

section jG21
/-! pure: WORTH -/
def sHt (E : pE) (a b i k : Nat) : Prop := 3 * (a / 3) + i ≠ a ∧ 3 * (b / 3) + k ≠ b ∧ sIn E (3 * (a / 3) + i) 0 ∧ sIn E (3 * (a / 3) + i) 1 ∧ sIn E (3 * (b / 3) + k) 0 ∧ sIn E (3 * (b / 3) + k) 1 ∧ sAl E (3 * (a / 3) + i) (3 * (b / 3) + k) 1 ∧ sWhy E (3 * (a / 3) + i) (3 * (b / 3) + k) = 0
def sKn (E : pE) (a b : Nat) : Prop := ∃ i k : Nat, (i : Int) < sRo (E.1 (20 + 90 * (a / 3))) ∧ (k : Int) < sRo (E.1 (20 + 90 * (b / 3))) ∧ sHt E a b i k
theorem k23_s {K : Int → Int → Int → Int → jW → Int × jW} {r : Nat} {a b f i k : Int} {W : jW} : d_X12_areKin_r125d_23 K (r + 1) a b f i k W = if (if W.1 126 (20 + 90 * (b / 3)).toNat = 0 then (3 : Int) else if W.1 126 (20 + 90 * (b / 3)).toNat = 1 then 2 else 1) ≤ k then K a b f (i + 1) W else if f = 0 ∧ ¬ a / 3 * 3 + i = a ∧ ¬ b / 3 * 3 + k = b ∧ ¬ W.1 126 (20 + 90 * ((a / 3 * 3 + i) / 3) + 6 + 28 * ((a / 3 * 3 + i) % 3) + 0).toNat ≤ 0 ∧ ¬ W.1 126 (20 + 90 * ((a / 3 * 3 + i) / 3) + 6 + 28 * ((a / 3 * 3 + i) % 3) + 14).toNat ≤ 0 ∧ ¬ W.1 126 (20 + 90 * ((b / 3 * 3 + k) / 3) + 6 + 28 * ((b / 3 * 3 + k) % 3) + 0).toNat ≤ 0 ∧ ¬ W.1 126 (20 + 90 * ((b / 3 * 3 + k) / 3) + 6 + 28 * ((b / 3 * 3 + k) % 3) + 14).toNat ≤ 0 then (if (d_X12_areAlike_r125d (a / 3 * 3 + i) (b / 3 * 3 + k) 1 W).1 = 0 then d_X12_areKin_r125d_23 K r a b 0 i (k + 1) (d_X12_areAlike_r125d (a / 3 * 3 + i) (b / 3 * 3 + k) 1 W).2 else if (d_X12_why_r125d (a / 3 * 3 + i) (b / 3 * 3 + k) (d_X12_areAlike_r125d (a / 3 * 3 + i) (b / 3 * 3 + k) 1 W).2).1 = 0 then d_X12_areKin_r125d_23 K r a b 1 i (k + 1) (d_X12_why_r125d (a / 3 * 3 + i) (b / 3 * 3 + k) (d_X12_areAlike_r125d (a / 3 * 3 + i) (b / 3 * 3 + k) 1 W).2).2 else d_X12_areKin_r125d_23 K r a b 0 i (k + 1) (d_X12_why_r125d (a / 3 * 3 + i) (b / 3 * 3 + k) (d_X12_areAlike_r125d (a / 3 * 3 + i) (b / 3 * 3 + k) 1 W).2).2) else d_X12_areKin_r125d_23 K r a b (if f = 0 then 0 else 1) i (k + 1) W := by
  show (if W.1 126 (20 + 90 * (b / 3)).toNat = 0 then (if 3 ≤ k then K a b f (i + 1) W else _) else if W.1 126 (20 + 90 * (b / 3)).toNat = 1 then (if 2 ≤ k then K a b f (i + 1) W else _) else if 1 ≤ k then K a b f (i + 1) W else _) = _
  unfold d_X12_areKin_r125d_118 d_X12_areKin_r125d_200119 d_X12_areKin_r125d_300119
  generalize d_X12_areAlike_r125d (a / 3 * 3 + i) (b / 3 * 3 + k) 1 W = x
  generalize d_X12_why_r125d (a / 3 * 3 + i) (b / 3 * 3 + k) x.2 = y
  by_cases c0 : W.1 126 (20 + 90 * (b / 3)).toNat = 0
  · rw [if_pos c0, if_pos c0]
    repeat' split
    all_goals first
      | rfl
      | (exfalso; omega)
  · rw [if_neg c0, if_neg c0]
    by_cases c1 : W.1 126 (20 + 90 * (b / 3)).toNat = 1
    · rw [if_pos c1, if_pos c1]
      repeat' split
      all_goals first
        | rfl
        | (exfalso; omega)
    · rw [if_neg c1, if_neg c1]
      repeat' split
      all_goals first
        | rfl
        | (exfalso; omega)
theorem ro_b {E : pE} {b : Int} : 1 ≤ sRo b ∧ sRo b ≤ 3 := by
  unfold sRo
  repeat' split
  all_goals omega
theorem sMn_r {E : pE} {a i : Nat} (I : pIr E) (h : ((a / 3 : Nat) : Int) < E.1 0) (hi : (i : Int) < sRo (E.1 (20 + 90 * (a / 3)))) : sMn E (3 * (a / 3) + i) := by
  have b := (I (a / 3) h).1
  have r3 := @ro_b E (E.1 (20 + 90 * (a / 3)))
  have d : (3 * (a / 3) + i) / 3 = a / 3 := by omega
  have m : (3 * (a / 3) + i) % 3 = i := by omega
  refine ⟨by rw [d]; exact h, ?_⟩
  unfold sCo
  rw [d, m, if_neg (by omega)]
  repeat' split
  all_goals omega
theorem k23_e {K : Int → Int → Int → Int → jW → Int × jW} {E : pE} {a b i : Nat} (ha : ((a / 3 : Nat) : Int) < E.1 0) (hb : ((b / 3 : Nat) : Int) < E.1 0) (hi : (i : Int) < sRo (E.1 (20 + 90 * (a / 3)))) : ∀ (r k : Nat) (f : Int) (W : jW), 3 - k < r → (f = 0 ∨ f = 1) → eOf W = E → pYm W → ∃ (g : Int) (V : jW), d_X12_areKin_r125d_23 K r (a : Int) (b : Int) f (i : Int) (k : Int) W = K (a : Int) (b : Int) g ((i : Int) + 1) V ∧ eOf V = E ∧ pYm V ∧ ((g = 1 ∧ (f = 1 ∨ ∃ j : Nat, (j : Int) < sRo (E.1 (20 + 90 * (b / 3))) ∧ sHt E a b i j)) ∨ (g = 0 ∧ f = 0 ∧ ∀ j : Nat, k ≤ j → (j : Int) < sRo (E.1 (20 + 90 * (b / 3))) → ¬ sHt E a b i j)) := by
  intro r
  induction r with
  | zero => intros; exfalso; omega
  | succ r ih =>
    intro k f W hr hf eW Y
    have w2 : W.1 126 = E.1 := congrArg (fun z : pE => z.1) eW
    obtain ⟨S, I, N, hs, h1⟩ := id Y
    rw [eW] at S I N
    have r3 := @ro_b E (E.1 (20 + 90 * (b / 3)))
    have ea : (a : Int) / 3 * 3 + (i : Int) = ((3 * (a / 3) + i : Nat) : Int) := by omega
    have eb : (b : Int) / 3 * 3 + (k : Int) = ((3 * (b / 3) + k : Nat) : Int) := by omega
    rw [k23_s, ea, eb, nn0, nn1, nn0, nn1, w2, show (20 + 90 * ((b : Int) / 3)).toNat = 20 + 90 * (b / 3) from by omega]
    change ∃ (g : Int) (V : jW), (if sRo (E.1 (20 + 90 * (b / 3))) ≤ (k : Int) then _ else _) = _ ∧ _
    by_cases c : sRo (E.1 (20 + 90 * (b / 3))) ≤ (k : Int)
    · rw [if_pos c]
      refine ⟨f, W, rfl, eW, Y, ?_⟩
      rcases hf with h | h
      · exact Or.inr ⟨h, h, fun j j1 j2 => by omega⟩
      · exact Or.inl ⟨h, Or.inl h⟩
    · rw [if_neg c]
      have mp := sMn_r I ha hi
      have mq : sMn E (3 * (b / 3) + k) := sMn_r I hb (by omega)
      by_cases cd : f = 0 ∧ ¬ ((3 * (a / 3) + i : Nat) : Int) = (a : Int) ∧ ¬ ((3 * (b / 3) + k : Nat) : Int) = (b : Int) ∧ ¬ E.1 (sNm (3 * (a / 3) + i) 0) ≤ 0 ∧ ¬ E.1 (sNm (3 * (a / 3) + i) 1) ≤ 0 ∧ ¬ E.1 (sNm (3 * (b / 3) + k) 0) ≤ 0 ∧ ¬ E.1 (sNm (3 * (b / 3) + k) 1) ≤ 0
      · rw [if_pos cd]
        obtain ⟨d0, d1, d2, d3, d4, d5, d6⟩ := cd
        have al := @mal W (3 * (a / 3) + i) (3 * (b / 3) + k) 1 (by rw [eW]; exact S) (by rw [eW]; exact I) (by decide) (by rw [w2]; exact mp.1) (by rw [w2]; exact mq.1)
        rw [show ((1 : Nat) : Int) = 1 from rfl, eW] at al
        have F1 := fr_d_X12_areAlike_r125d ((3 * (a / 3) + i : Nat) : Int) ((3 * (b / 3) + k : Nat) : Int) 1 W
        have e1 := eo_f F1 rfl rfl rfl rfl rfl
        generalize d_X12_areAlike_r125d ((3 * (a / 3) + i : Nat) : Int) ((3 * (b / 3) + k : Nat) : Int) 1 W = x at *
        have Y1 := pYm_e e1 Y
        have wy := @mwy x.2 (3 * (a / 3) + i) (3 * (b / 3) + k) Y1 (by rw [e1, eW]; exact mp) (by rw [e1, eW]; exact mq)
        rw [e1, eW] at wy
        have F2 := fr_d_X12_why_r125d ((3 * (a / 3) + i : Nat) : Int) ((3 * (b / 3) + k : Nat) : Int) x.2
        have e2 := eo_f F2 rfl rfl rfl rfl rfl
        generalize d_X12_why_r125d ((3 * (a / 3) + i : Nat) : Int) ((3 * (b / 3) + k : Nat) : Int) x.2 = y at *
        rw [al, wy]
        by_cases g1 : sAl E (3 * (a / 3) + i) (3 * (b / 3) + k) 1
        · rw [if_neg (show ¬ tv (sAl E (3 * (a / 3) + i) (3 * (b / 3) + k) 1) = 0 from by rw [tv_t g1]; decide)]
          by_cases g2 : sWhy E (3 * (a / 3) + i) (3 * (b / 3) + k) = 0
          · rw [if_pos g2]
            obtain ⟨g, V, v1, v2, v3, v4⟩ := ih (k + 1) 1 y.2 (by omega) (Or.inr rfl) (e2.trans (e1.trans eW)) (pYm_e e2 Y1)
            rw [show ((k + 1 : Nat) : Int) = (k : Int) + 1 from by omega] at v1
            refine ⟨g, V, v1, v2, v3, ?_⟩
            rcases v4 with ⟨z1, z2⟩ | ⟨z1, z2, z3⟩
            · exact Or.inl ⟨z1, Or.inr ⟨k, by omega, by omega, by omega, by unfold sIn; omega, by unfold sIn; omega, by unfold sIn; omega, by unfold sIn; omega, g1, g2⟩⟩
            · exact absurd z2 (by decide)
          · rw [if_neg g2]
            obtain ⟨g, V, v1, v2, v3, v4⟩ := ih (k + 1) 0 y.2 (by omega) (Or.inl rfl) (e2.trans (e1.trans eW)) (pYm_e e2 Y1)
            rw [show ((k + 1 : Nat) : Int) = (k : Int) + 1 from by omega] at v1
            refine ⟨g, V, v1, v2, v3, ?_⟩
            rcases v4 with ⟨z1, z2⟩ | ⟨z1, z2, z3⟩
            · exact Or.inl ⟨z1, Or.inr (z2.resolve_left (by decide))⟩
            · refine Or.inr ⟨z1, d0, fun j j1 j2 j3 => ?_⟩
              by_cases e : j = k
              · rw [e] at j3; exact g2 j3.2.2.2.2.2.2.2
              · exact z3 j (by omega) j2 j3
        · rw [if_pos (tv_f g1)]
          obtain ⟨g, V, v1, v2, v3, v4⟩ := ih (k + 1) 0 x.2 (by omega) (Or.inl rfl) (e1.trans eW) Y1
          rw [show ((k + 1 : Nat) : Int) = (k : Int) + 1 from by omega] at v1
          refine ⟨g, V, v1, v2, v3, ?_⟩
          rcases v4 with ⟨z1, z2⟩ | ⟨z1, z2, z3⟩
          · exact Or.inl ⟨z1, Or.inr (z2.resolve_left (by decide))⟩
          · refine Or.inr ⟨z1, d0, fun j j1 j2 j3 => ?_⟩
            by_cases e : j = k
            · rw [e] at j3; exact g1 j3.2.2.2.2.2.2.1
            · exact z3 j (by omega) j2 j3
      · rw [if_neg cd, show (if f = 0 then (0 : Int) else 1) = f from by
          rcases hf with h | h
          · rw [h, if_pos rfl]
          · rw [h, if_neg (by decide)]]
        obtain ⟨g, V, v1, v2, v3, v4⟩ := ih (k + 1) f W (by omega) hf eW Y
        rw [show ((k + 1 : Nat) : Int) = (k : Int) + 1 from by omega] at v1
        refine ⟨g, V, v1, v2, v3, ?_⟩
        rcases v4 with z | ⟨z1, z2, z3⟩
        · exact Or.inl z
        · refine Or.inr ⟨z1, z2, fun j j1 j2 j3 => ?_⟩
          by_cases e : j = k
          · rw [e] at j3
            obtain ⟨y1, y2, y3, y4, y5, y6, _⟩ := j3
            unfold sIn at y3 y4 y5 y6
            exact cd ⟨z2, by omega, by omega, by omega, by omega, by omega, by omega⟩
          · exact z3 j (by omega) j2 j3
theorem k5_s {r : Nat} {a b f i : Int} {W : jW} : d_X12_areKin_r125d_5 (r + 1) a b f i W = if (if W.1 126 (20 + 90 * (a / 3)).toNat = 0 then (3 : Int) else if W.1 126 (20 + 90 * (a / 3)).toNat = 1 then 2 else 1) ≤ i then (f, W) else d_X12_areKin_r125d_23 (fun l1 l2 l3 l4 W => d_X12_areKin_r125d_5 r l1 l2 l3 l4 W) 4 a b f i 0 W := by
  show (if W.1 126 (20 + 90 * (a / 3)).toNat = 0 then (if 3 ≤ i then (f, W) else _) else if W.1 126 (20 + 90 * (a / 3)).toNat = 1 then (if 2 ≤ i then (f, W) else _) else if 1 ≤ i then (f, W) else _) = _
  by_cases c0 : W.1 126 (20 + 90 * (a / 3)).toNat = 0
  · rw [if_pos c0, if_pos c0]
  · rw [if_neg c0, if_neg c0]
    by_cases c1 : W.1 126 (20 + 90 * (a / 3)).toNat = 1
    · rw [if_pos c1, if_pos c1]
    · rw [if_neg c1, if_neg c1]
theorem k5_e {E : pE} {a b : Nat} (ha : ((a / 3 : Nat) : Int) < E.1 0) (hb : ((b / 3 : Nat) : Int) < E.1 0) : ∀ (r i : Nat) (f : Int) (W : jW), 3 - i < r → (f = 0 ∨ f = 1) → eOf W = E → pYm W → ((d_X12_areKin_r125d_5 r (a : Int) (b : Int) f (i : Int) W).1 = 1 ∧ (f = 1 ∨ sKn E a b)) ∨ ((d_X12_areKin_r125d_5 r (a : Int) (b : Int) f (i : Int) W).1 = 0 ∧ f = 0 ∧ ∀ j k : Nat, i ≤ j → (j : Int) < sRo (E.1 (20 + 90 * (a / 3))) → (k : Int) < sRo (E.1 (20 + 90 * (b / 3))) → ¬ sHt E a b j k) := by
  intro r
  induction r with
  | zero => intros; exfalso; omega
  | succ r ih =>
    intro i f W hr hf eW Y
    have w2 : W.1 126 = E.1 := congrArg (fun z : pE => z.1) eW
    have r3 := @ro_b E (E.1 (20 + 90 * (a / 3)))
    rw [k5_s, w2, show (20 + 90 * ((a : Int) / 3)).toNat = 20 + 90 * (a / 3) from by omega]
    change ((if sRo (E.1 (20 + 90 * (a / 3))) ≤ (i : Int) then (f, W) else _) : Int × jW).1 = 1 ∧ _ ∨ ((if sRo (E.1 (20 + 90 * (a / 3))) ≤ (i : Int) then (f, W) else _) : Int × jW).1 = 0 ∧ _
    by_cases c : sRo (E.1 (20 + 90 * (a / 3))) ≤ (i : Int)
    · rw [if_pos c]
      rcases hf with h | h
      · exact Or.inr ⟨h, h, fun j k j1 j2 => by omega⟩
      · exact Or.inl ⟨h, Or.inl h⟩
    · rw [if_neg c]
      obtain ⟨g, V, v1, v2, v3, v4⟩ := @k23_e (fun l1 l2 l3 l4 W => d_X12_areKin_r125d_5 r l1 l2 l3 l4 W) E a b i ha hb (by omega) 4 0 f W (by omega) hf eW Y
      rw [show ((0 : Nat) : Int) = 0 from rfl] at v1
      rw [v1]
      have hg : g = 0 ∨ g = 1 := by
        rcases v4 with z | z
        · exact Or.inr z.1
        · exact Or.inl z.1
      have z := ih (i + 1) g V (by omega) hg v2 v3
      rw [show ((i + 1 : Nat) : Int) = (i : Int) + 1 from by omega] at z
      rcases z with ⟨z1, z2⟩ | ⟨z1, z2, z3⟩
      · refine Or.inl ⟨z1, ?_⟩
        rcases z2 with z2 | z2
        · rcases v4 with ⟨y1, y2⟩ | ⟨y1, y2, y3⟩
          · rcases y2 with y2 | ⟨j, j1, j2⟩
            · exact Or.inl y2
            · exact Or.inr ⟨i, j, by omega, j1, j2⟩
          · omega
        · exact Or.inr z2
      · rcases v4 with ⟨y1, y2⟩ | ⟨y1, y2, y3⟩
        · omega
        · refine Or.inr ⟨z1, y2, fun j k j1 j2 j3 j4 => ?_⟩
          by_cases e : j = i
          · rw [e] at j4; exact y3 k (by omega) j3 j4
          · exact z3 j k (by omega) j2 j3 j4
theorem mkn {W : jW} {a b : Nat} (Y : pYm W) (ha : ((a / 3 : Nat) : Int) < W.1 126 0) (hb : ((b / 3 : Nat) : Int) < W.1 126 0) : (d_X12_areKin_r125d (a : Int) (b : Int) W).1 = tv (sKn (eOf W) a b) := by
  unfold d_X12_areKin_r125d
  rcases @k5_e (eOf W) a b ha hb 4 0 0 W (by omega) (Or.inl rfl) rfl Y with ⟨z1, z2⟩ | ⟨z1, z2, z3⟩
  · exact z1.trans (tv_t (z2.resolve_left (by decide))).symm
  · exact z1.trans (tv_f fun ⟨i, k, h1, h2, h3⟩ => z3 i k (by omega) h1 h2 h3).symm
def sAg (E : pE) (a b : Nat) : Prop := (sCo E a = 0 ∧ sCo E b = 5 ∧ ¬ sNu E b = -1) ∨ (sCo E b = 0 ∧ sCo E a = 5 ∧ ¬ sNu E a = -1)
noncomputable def sWo (w1 w2 w3 w4 : Int) (E : pE) (a b : Nat) : Int := (if tv (sIn E a 0 ∧ sIn E b 0) = 0 then 0 else w1) + (if tv (sIn E a 1 ∧ sIn E b 1 ∧ sAl E a b 1) = 0 then 0 else w2) + (if tv (sAg E a b) = 0 then 0 else w3) + (if tv (sKn E a b) = 0 then 0 else w4)
theorem m83 {W : jW} {a b : Nat} {s : Int} (Y : pYm W) (ha : sMn (eOf W) a) (hb : sMn (eOf W) b) : (d_X12_worthOf_r125d_83 (a : Int) (b : Int) s W).1 = s + (if sCo (eOf W) b = 0 ∧ sCo (eOf W) a = 5 ∧ ¬ sNu (eOf W) a = -1 then W.1 125 25 else 0) + (if tv (sKn (eOf W) a b) = 0 then 0 else W.1 125 26) := by
  have pb := mpa Y.2.1 hb
  unfold d_X12_worthOf_r125d_83 d_X12_worthOf_r125d_106 d_X12_worthOf_r125d_99 d_X12_worthOf_r125d_107 d_X12_worthOf_r125d_200107 d_X12_worthOf_r125d_127 d_X12_worthOf_r125d_200127
  rw [mhg Y.2.1 ha, mkn Y ha.1 hb.1]
  generalize d_X12_areKin_r125d (a : Int) (b : Int) W = x
  repeat' split
  all_goals first
    | (exfalso; omega)
    | rfl
    | (dsimp only <;> omega)
theorem m64 {W : jW} {a b : Nat} {s0 s1 : Int} (Y : pYm W) (ha : sMn (eOf W) a) (hb : sMn (eOf W) b) : (d_X12_worthOf_r125d_64 (a : Int) (b : Int) s0 s1 W).1 = s1 + s0 + (if tv (sAg (eOf W) a b) = 0 then 0 else W.1 125 25) + (if tv (sKn (eOf W) a b) = 0 then 0 else W.1 125 26) := by
  have pa := mpa Y.2.1 ha
  unfold d_X12_worthOf_r125d_64 d_X12_worthOf_r125d_99 d_X12_worthOf_r125d_107 d_X12_worthOf_r125d_127 d_X12_worthOf_r125d_200127
  rw [mhg Y.2.1 hb, mkn Y ha.1 hb.1]
  have q := @m83 W a b (s1 + s0) Y ha hb
  generalize d_X12_areKin_r125d (a : Int) (b : Int) W = x
  generalize d_X12_worthOf_r125d_83 (a : Int) (b : Int) (s1 + s0) W = y at *
  by_cases g : sAg (eOf W) a b
  · rw [if_neg (show ¬ tv (sAg (eOf W) a b) = 0 from by rw [tv_t g]; decide)]
    unfold sAg at g
    repeat' split
    all_goals first
      | (exfalso; omega)
      | rfl
      | (rw [q, if_pos (by omega)]; repeat' split; all_goals first | (exfalso; omega) | omega)
      | (dsimp only <;> omega)
  · rw [if_pos (tv_f g)]
    unfold sAg at g
    repeat' split
    all_goals first
      | (exfalso; omega)
      | rfl
      | (rw [q, if_neg (by omega)]; repeat' split; all_goals first | (exfalso; omega) | omega)
      | (dsimp only <;> omega)
theorem m200064 {W : jW} {a b : Nat} {s1 : Int} (Y : pYm W) (ha : sMn (eOf W) a) (hb : sMn (eOf W) b) : (d_X12_worthOf_r125d_200064 (a : Int) (b : Int) s1 W).1 = s1 + (if tv (sAg (eOf W) a b) = 0 then 0 else W.1 125 25) + (if tv (sKn (eOf W) a b) = 0 then 0 else W.1 125 26) := by
  have z : d_X12_worthOf_r125d_200064 (a : Int) (b : Int) s1 W = d_X12_worthOf_r125d_64 (a : Int) (b : Int) 0 s1 W := rfl
  rw [z, m64 Y ha hb]
  omega
theorem mwo {M : jW} {a b : Nat} (Y : pYm M) (ha : sMn (eOf M) a) (hb : sMn (eOf M) b) : (d_X12_worthOf_r125d (a : Int) (b : Int) M).1 = sWo (M.1 125 23) (M.1 125 24) (M.1 125 25) (M.1 125 26) (eOf M) a b := by
  obtain ⟨S, I, N, hs, h1⟩ := id Y
  have F1 := fr_d_X12_areAlike_r125d (a : Int) (b : Int) 1 M
  have e1 := eo_f F1 rfl rfl rfl rfl rfl
  have al := @mal M a b 1 S I (by decide) ha.1 hb.1
  rw [show ((1 : Nat) : Int) = 1 from rfl] at al
  have a5 := F1.1 125 25 rfl
  have a6 := F1.1 125 26 rfl
  have la := @ir_n (eOf M) I a 0 (by decide) ha.1
  have lb := @ir_n (eOf M) I b 0 (by decide) hb.1
  have la1 := @ir_n (eOf M) I a 1 (by decide) ha.1
  have lb1 := @ir_n (eOf M) I b 1 (by decide) hb.1
  change 0 ≤ M.1 126 (sNm a 0) ∧ M.1 126 (sNm a 0) ≤ 12 at la
  change 0 ≤ M.1 126 (sNm b 0) ∧ M.1 126 (sNm b 0) ≤ 12 at lb
  change 0 ≤ M.1 126 (sNm a 1) ∧ M.1 126 (sNm a 1) ≤ 12 at la1
  change 0 ≤ M.1 126 (sNm b 1) ∧ M.1 126 (sNm b 1) ≤ 12 at lb1
  unfold d_X12_worthOf_r125d d_X12_worthOf_r125d_25 d_X12_worthOf_r125d_26 d_X12_worthOf_r125d_200026 d_X12_worthOf_r125d_63 d_X12_worthOf_r125d_200063
  rw [nn0, nn0, nn1, nn1, al]
  generalize hx : d_X12_areAlike_r125d (a : Int) (b : Int) 1 M = x at *
  have Y1 := pYm_e e1 Y
  have p1 : ∀ s, (d_X12_worthOf_r125d_200064 (a : Int) (b : Int) s M).1 = s + (if tv (sAg (eOf M) a b) = 0 then 0 else M.1 125 25) + (if tv (sKn (eOf M) a b) = 0 then 0 else M.1 125 26) := fun s => m200064 Y ha hb
  have p2 : ∀ s, (d_X12_worthOf_r125d_200064 (a : Int) (b : Int) s x.2).1 = s + (if tv (sAg (eOf M) a b) = 0 then 0 else M.1 125 25) + (if tv (sKn (eOf M) a b) = 0 then 0 else M.1 125 26) := fun s => by
    have z := @m200064 x.2 a b s Y1 (by rw [e1]; exact ha) (by rw [e1]; exact hb)
    rw [e1, a5, a6] at z
    exact z
  have p3 : ∀ s0 s1, (d_X12_worthOf_r125d_64 (a : Int) (b : Int) s0 s1 x.2).1 = s1 + s0 + (if tv (sAg (eOf M) a b) = 0 then 0 else M.1 125 25) + (if tv (sKn (eOf M) a b) = 0 then 0 else M.1 125 26) := fun s0 s1 => by
    have z := @m64 x.2 a b s0 s1 Y1 (by rw [e1]; exact ha) (by rw [e1]; exact hb)
    rw [e1, a5, a6] at z
    exact z
  unfold sWo
  have n0 : tv (sIn (eOf M) a 0 ∧ sIn (eOf M) b 0) = if M.1 126 (sNm a 0) ≤ 0 ∨ M.1 126 (sNm b 0) ≤ 0 then 0 else 1 := by
    by_cases g : sIn (eOf M) a 0 ∧ sIn (eOf M) b 0
    · rw [tv_t g]
      unfold sIn at g
      change 0 < M.1 126 (sNm a 0) ∧ 0 < M.1 126 (sNm b 0) at g
      rw [if_neg (by omega)]
    · rw [tv_f g]
      unfold sIn at g
      change ¬ (0 < M.1 126 (sNm a 0) ∧ 0 < M.1 126 (sNm b 0)) at g
      rw [if_pos (by omega)]
  have n1 : tv (sIn (eOf M) a 1 ∧ sIn (eOf M) b 1 ∧ sAl (eOf M) a b 1) = if M.1 126 (sNm a 1) ≤ 0 ∨ M.1 126 (sNm b 1) ≤ 0 then 0 else tv (sAl (eOf M) a b 1) := by
    by_cases g : M.1 126 (sNm a 1) ≤ 0 ∨ M.1 126 (sNm b 1) ≤ 0
    · rw [if_pos g]
      refine tv_f fun z => ?_
      obtain ⟨z1, z2, z3⟩ := z
      unfold sIn at z1 z2
      change 0 < M.1 126 (sNm a 1) at z1
      change 0 < M.1 126 (sNm b 1) at z2
      omega
    · rw [if_neg g]
      refine tv_c ⟨fun z => z.2.2, fun z => ⟨?_, ?_, z⟩⟩
      · show 0 < M.1 126 (sNm a 1)
        omega
      · show 0 < M.1 126 (sNm b 1)
        omega
  rw [n0, n1]
  have t1 := @tv_b (sAl (eOf M) a b 1)
  generalize tv (sAl (eOf M) a b 1) = t at *
  generalize (if tv (sAg (eOf M) a b) = 0 then 0 else M.1 125 25) = u at *
  generalize (if tv (sKn (eOf M) a b) = 0 then 0 else M.1 125 26) = v at *
  repeat' split
  all_goals first
    | (exfalso; omega)
    | (rw [p1] <;> omega)
    | (rw [p2] <;> omega)
    | (rw [p3] <;> omega)
/-! the class's side -/
theorem h51_s {K : Int → Int → Int → jW → Int} {r : Nat} {a b x y : Int} {X : jW} : d_X7_haveKin_r78d_51 K (r + 1) a b x y X = if b / 3 * 3 + 3 ≤ y then K a b (x + 1) X else if y = b ∨ X.1 33 3 ≤ y / 3 ∨ X.1 79 y.toNat = -1 ∨ X.1 76 (y * 2 + 0).toNat < 0 ∨ X.1 76 (y * 2 + 1).toNat < 0 then d_X7_haveKin_r78d_51 K r a b x (y + 1) X else if d_X5_differ_r70d x y 1 X = 0 then (if d_X7_reasonFor_r78d x y X = 0 then 1 else d_X7_haveKin_r78d_51 K r a b x (y + 1) X) else d_X7_haveKin_r78d_51 K r a b x (y + 1) X := by
  show (if b / 3 * 3 + 3 ≤ y then K a b (x + 1) X else if y = b then _ else if X.1 33 3 ≤ y / 3 then _ else if X.1 79 y.toNat = -1 then _ else if X.1 76 (y * 2 + 0).toNat < 0 then _ else if X.1 76 (y * 2 + 1).toNat < 0 then _ else if d_X5_differ_r70d x y 1 X = 0 then (if d_X7_reasonFor_r78d x y X = 0 then 1 else _) else _) = _
  repeat' split
  all_goals first
    | rfl
    | (exfalso; omega)
theorem fc_in {X : jW} {E : pE} {m w : Nat} (hw : w < 2) (f : pFc X E (2 * m + w)) (hl : 0 ≤ E.1 (sNm m w)) : X.1 76 (2 * m + w) < 0 ↔ ¬ sIn E m w := by
  have z := f.1
  rw [fcN_s hw] at z
  rw [z]
  unfold sIn
  by_cases c : E.1 (sNm m w) = 0
  · rw [if_pos c]; omega
  · rw [if_neg c]; omega
theorem co_r {E : pE} {b k : Nat} (I : pIr E) (hb : ((b / 3 : Nat) : Int) < E.1 0) (hk : k < 3) : sCo E (3 * (b / 3) + k) = -1 ↔ ¬ (k : Int) < sRo (E.1 (20 + 90 * (b / 3))) := by
  constructor
  · intro h z
    exact (sMn_r I hb z).2 h
  · intro h
    unfold sCo
    rw [show (3 * (b / 3) + k) / 3 = b / 3 from by omega, show (3 * (b / 3) + k) % 3 = k from by omega, if_pos (by omega)]
section
variable {E : pE} {X : jW} {a b : Nat}
theorem h51_e {K : Int → Int → Int → jW → Int} {i : Nat} (Y : pYx X E) (e33 : X.1 33 3 = E.1 0) (ha : ((a / 3 : Nat) : Int) < E.1 0) (hb : ((b / 3 : Nat) : Int) < E.1 0) (hi : (i : Int) < sRo (E.1 (20 + 90 * (a / 3)))) (i1 : 3 * (a / 3) + i ≠ a) (i2 : sIn E (3 * (a / 3) + i) 0) (i3 : sIn E (3 * (a / 3) + i) 1) : ∀ (r k : Nat), 3 - k < r → k ≤ 3 → (d_X7_haveKin_r78d_51 K r (a : Int) (b : Int) ((3 * (a / 3) + i : Nat) : Int) ((3 * (b / 3) + k : Nat) : Int) X = 1 ∧ ∃ j : Nat, (j : Int) < sRo (E.1 (20 + 90 * (b / 3))) ∧ sHt E a b i j) ∨ (d_X7_haveKin_r78d_51 K r (a : Int) (b : Int) ((3 * (a / 3) + i : Nat) : Int) ((3 * (b / 3) + k : Nat) : Int) X = K (a : Int) (b : Int) (((3 * (a / 3) + i : Nat) : Int) + 1) X ∧ ∀ j : Nat, k ≤ j → (j : Int) < sRo (E.1 (20 + 90 * (b / 3))) → ¬ sHt E a b i j) := by
  obtain ⟨S, I, N, hs, h6, T, F, L⟩ := id Y
  have mx := sMn_r I ha hi
  have r3 := @ro_b E (E.1 (20 + 90 * (b / 3)))
  intro r
  induction r with
  | zero => intros; exfalso; omega
  | succ r ih =>
    intro k hr hk
    rw [h51_s]
    by_cases c : (b : Int) / 3 * 3 + 3 ≤ ((3 * (b / 3) + k : Nat) : Int)
    · rw [if_pos c]
      exact Or.inr ⟨rfl, fun j j1 j2 => by omega⟩
    · rw [if_neg c]
      have hk3 : k < 3 := by omega
      have dl : ((((3 * (b / 3) + k) / 3 : Nat)) : Int) < E.1 0 := by omega
      have f0 := F (2 * (3 * (b / 3) + k) + 0) (by omega)
      have f1 := F (2 * (3 * (b / 3) + k) + 1) (by omega)
      have z0 := fc_in (by decide) f0 (ir_n I (by decide) dl).1
      have z1 := fc_in (by decide) f1 (ir_n I (by decide) dl).1
      rw [show (((3 * (b / 3) + k : Nat) : Int)).toNat = 3 * (b / 3) + k from by omega, show (((3 * (b / 3) + k : Nat) : Int) * 2 + 0).toNat = 2 * (3 * (b / 3) + k) + 0 from by omega, show (((3 * (b / 3) + k : Nat) : Int) * 2 + 1).toNat = 2 * (3 * (b / 3) + k) + 1 from by omega, (L _ dl).1]
      have cr := co_r I hb hk3
      have ihk := ih (k + 1) (by omega) (by omega)
      rw [show ((3 * (b / 3) + (k + 1) : Nat) : Int) = ((3 * (b / 3) + k : Nat) : Int) + 1 from by omega] at ihk
      have rest : ¬ ((k : Int) < sRo (E.1 (20 + 90 * (b / 3))) ∧ sHt E a b i k) → (d_X7_haveKin_r78d_51 K r (a : Int) (b : Int) ((3 * (a / 3) + i : Nat) : Int) (((3 * (b / 3) + k : Nat) : Int) + 1) X = 1 ∧ ∃ j : Nat, (j : Int) < sRo (E.1 (20 + 90 * (b / 3))) ∧ sHt E a b i j) ∨ (d_X7_haveKin_r78d_51 K r (a : Int) (b : Int) ((3 * (a / 3) + i : Nat) : Int) (((3 * (b / 3) + k : Nat) : Int) + 1) X = K (a : Int) (b : Int) (((3 * (a / 3) + i : Nat) : Int) + 1) X ∧ ∀ j : Nat, k ≤ j → (j : Int) < sRo (E.1 (20 + 90 * (b / 3))) → ¬ sHt E a b i j) := fun nh => by
        rcases ihk with z | ⟨z1, z2⟩
        · exact Or.inl z
        · refine Or.inr ⟨z1, fun j j1 j2 j3 => ?_⟩
          by_cases e : j = k
          · rw [e] at j2 j3; exact nh ⟨j2, j3⟩
          · exact z2 j (by omega) j2 j3
      by_cases cd : ((3 * (b / 3) + k : Nat) : Int) = (b : Int) ∨ X.1 33 3 ≤ ((3 * (b / 3) + k : Nat) : Int) / 3 ∨ sCo E (3 * (b / 3) + k) = -1 ∨ X.1 76 (2 * (3 * (b / 3) + k) + 0) < 0 ∨ X.1 76 (2 * (3 * (b / 3) + k) + 1) < 0
      · rw [if_pos cd]
        refine rest fun ⟨q1, q2⟩ => ?_
        obtain ⟨y1, y2, y3, y4, y5, y6, y7, y8⟩ := q2
        rcases cd with q | q | q | q | q
        · omega
        · omega
        · exact cr.1 q q1
        · exact z0.1 q y5
        · exact z1.1 q y6
      · rw [if_neg cd]
        have q1 : (k : Int) < sRo (E.1 (20 + 90 * (b / 3))) := Classical.byContradiction fun q => cd (Or.inr (Or.inr (Or.inl (cr.2 q))))
        have n0 : sIn E (3 * (b / 3) + k) 0 := Classical.byContradiction fun q => cd (Or.inr (Or.inr (Or.inr (Or.inl (z0.2 q)))))
        have n1 : sIn E (3 * (b / 3) + k) 1 := Classical.byContradiction fun q => cd (Or.inr (Or.inr (Or.inr (Or.inr (z1.2 q)))))
        have my := sMn_r I hb q1
        have df := @xdf X E (3 * (a / 3) + i) (3 * (b / 3) + k) 1 S I (by decide) mx.1 my.1 (F _ (by have := mx.1; omega)) f1
        rw [show ((1 : Nat) : Int) = 1 from rfl] at df
        rw [df, xwy Y mx my]
        by_cases al : sAl E (3 * (a / 3) + i) (3 * (b / 3) + k) 1
        · rw [if_pos (tv_f fun q => q.2.2 al)]
          by_cases w : sWhy E (3 * (a / 3) + i) (3 * (b / 3) + k) = 0
          · rw [if_pos w]
            exact Or.inl ⟨rfl, k, q1, i1, by omega, i2, i3, n0, n1, al, w⟩
          · rw [if_neg w]
            exact rest fun q => w q.2.2.2.2.2.2.2.2
        · rw [if_neg (show ¬ tv (sDf E (3 * (a / 3) + i) (3 * (b / 3) + k) 1) = 0 from by rw [tv_t ⟨i3, n1, al⟩]; decide)]
          exact rest fun q => al q.2.2.2.2.2.2.2.1
theorem h6_s {r : Nat} {a b x : Int} {X : jW} : d_X7_haveKin_r78d_6 (r + 1) a b x X = if a / 3 * 3 + 3 ≤ x then 0 else if x = a ∨ X.1 33 3 ≤ x / 3 ∨ X.1 79 x.toNat = -1 ∨ X.1 76 (x * 2 + 0).toNat < 0 ∨ X.1 76 (x * 2 + 1).toNat < 0 then d_X7_haveKin_r78d_6 r a b (x + 1) X else d_X7_haveKin_r78d_51 (fun l1 l2 l3 W => d_X7_haveKin_r78d_6 r l1 l2 l3 W) 601 a b x (b / 3 * 3) X := by
  show (if a / 3 * 3 + 3 ≤ x then (0 : Int) else if x = a then _ else if X.1 33 3 ≤ x / 3 then _ else if X.1 79 x.toNat = -1 then _ else if X.1 76 (x * 2 + 0).toNat < 0 then _ else if X.1 76 (x * 2 + 1).toNat < 0 then _ else d_X7_haveKin_r78d_51 (fun l1 l2 l3 W => d_X7_haveKin_r78d_6 r l1 l2 l3 W) 601 a b x (b / 3 * 3) X) = _
  generalize d_X7_haveKin_r78d_51 (fun l1 l2 l3 W => d_X7_haveKin_r78d_6 r l1 l2 l3 W) 601 a b x (b / 3 * 3) X = w
  repeat' split
  all_goals first
    | rfl
    | (exfalso; omega)
theorem h6_e (Y : pYx X E) (e33 : X.1 33 3 = E.1 0) (ha : ((a / 3 : Nat) : Int) < E.1 0) (hb : ((b / 3 : Nat) : Int) < E.1 0) : ∀ (r i : Nat), 3 - i < r → i ≤ 3 → (d_X7_haveKin_r78d_6 r (a : Int) (b : Int) ((3 * (a / 3) + i : Nat) : Int) X = 1 ∧ sKn E a b) ∨ (d_X7_haveKin_r78d_6 r (a : Int) (b : Int) ((3 * (a / 3) + i : Nat) : Int) X = 0 ∧ ∀ j k : Nat, i ≤ j → (j : Int) < sRo (E.1 (20 + 90 * (a / 3))) → (k : Int) < sRo (E.1 (20 + 90 * (b / 3))) → ¬ sHt E a b j k) := by
  obtain ⟨S, I, N, hs, h6, T, F, L⟩ := id Y
  have r3 := @ro_b E (E.1 (20 + 90 * (a / 3)))
  intro r
  induction r with
  | zero => intros; exfalso; omega
  | succ r ih =>
    intro i hr hi
    rw [h6_s]
    by_cases c : (a : Int) / 3 * 3 + 3 ≤ ((3 * (a / 3) + i : Nat) : Int)
    · rw [if_pos c]
      exact Or.inr ⟨rfl, fun j k j1 j2 => by omega⟩
    · rw [if_neg c]
      have hi3 : i < 3 := by omega
      have dl : ((((3 * (a / 3) + i) / 3 : Nat)) : Int) < E.1 0 := by omega
      have f0 := F (2 * (3 * (a / 3) + i) + 0) (by omega)
      have f1 := F (2 * (3 * (a / 3) + i) + 1) (by omega)
      have z0 := fc_in (by decide) f0 (ir_n I (by decide) dl).1
      have z1 := fc_in (by decide) f1 (ir_n I (by decide) dl).1
      rw [show (((3 * (a / 3) + i : Nat) : Int)).toNat = 3 * (a / 3) + i from by omega, show (((3 * (a / 3) + i : Nat) : Int) * 2 + 0).toNat = 2 * (3 * (a / 3) + i) + 0 from by omega, show (((3 * (a / 3) + i : Nat) : Int) * 2 + 1).toNat = 2 * (3 * (a / 3) + i) + 1 from by omega, (L _ dl).1]
      have cr := co_r I ha hi3
      have ihk := ih (i + 1) (by omega) (by omega)
      rw [show ((3 * (a / 3) + (i + 1) : Nat) : Int) = ((3 * (a / 3) + i : Nat) : Int) + 1 from by omega] at ihk
      have rest : (∀ k : Nat, (i : Int) < sRo (E.1 (20 + 90 * (a / 3))) → (k : Int) < sRo (E.1 (20 + 90 * (b / 3))) → ¬ sHt E a b i k) → (d_X7_haveKin_r78d_6 r (a : Int) (b : Int) (((3 * (a / 3) + i : Nat) : Int) + 1) X = 1 ∧ sKn E a b) ∨ (d_X7_haveKin_r78d_6 r (a : Int) (b : Int) (((3 * (a / 3) + i : Nat) : Int) + 1) X = 0 ∧ ∀ j k : Nat, i ≤ j → (j : Int) < sRo (E.1 (20 + 90 * (a / 3))) → (k : Int) < sRo (E.1 (20 + 90 * (b / 3))) → ¬ sHt E a b j k) := fun nh => by
        rcases ihk with z | ⟨z1, z2⟩
        · exact Or.inl z
        · refine Or.inr ⟨z1, fun j k j1 j2 j3 j4 => ?_⟩
          by_cases e : j = i
          · rw [e] at j2 j4; exact nh k j2 j3 j4
          · exact z2 j k (by omega) j2 j3 j4
      by_cases cd : ((3 * (a / 3) + i : Nat) : Int) = (a : Int) ∨ X.1 33 3 ≤ ((3 * (a / 3) + i : Nat) : Int) / 3 ∨ sCo E (3 * (a / 3) + i) = -1 ∨ X.1 76 (2 * (3 * (a / 3) + i) + 0) < 0 ∨ X.1 76 (2 * (3 * (a / 3) + i) + 1) < 0
      · rw [if_pos cd]
        refine rest fun k q1 _ q2 => ?_
        obtain ⟨y1, y2, y3, y4, y5, y6, y7, y8⟩ := q2
        rcases cd with q | q | q | q | q
        · omega
        · omega
        · exact cr.1 q q1
        · exact z0.1 q y3
        · exact z1.1 q y4
      · rw [if_neg cd]
        have q1 : (i : Int) < sRo (E.1 (20 + 90 * (a / 3))) := Classical.byContradiction fun q => cd (Or.inr (Or.inr (Or.inl (cr.2 q))))
        have n0 : sIn E (3 * (a / 3) + i) 0 := Classical.byContradiction fun q => cd (Or.inr (Or.inr (Or.inr (Or.inl (z0.2 q)))))
        have n1 : sIn E (3 * (a / 3) + i) 1 := Classical.byContradiction fun q => cd (Or.inr (Or.inr (Or.inr (Or.inr (z1.2 q)))))
        have w := @h51_e E X a b (fun l1 l2 l3 W => d_X7_haveKin_r78d_6 r l1 l2 l3 W) i Y e33 ha hb q1 (by omega) n0 n1 601 0 (by omega) (by omega)
        rw [show ((3 * (b / 3) + 0 : Nat) : Int) = (b : Int) / 3 * 3 from by omega] at w
        rcases w with ⟨w1, j, j1, j2⟩ | ⟨w1, w2⟩
        · rw [w1]
          exact Or.inl ⟨rfl, i, j, q1, j1, j2⟩
        · rw [w1]
          exact rest fun k _ k1 => w2 k (by omega) k1
theorem xkn (Y : pYx X E) (e33 : X.1 33 3 = E.1 0) (ha : ((a / 3 : Nat) : Int) < E.1 0) (hb : ((b / 3 : Nat) : Int) < E.1 0) : d_X7_haveKin_r78d (a : Int) (b : Int) X = tv (sKn E a b) := by
  unfold d_X7_haveKin_r78d
  have w := @h6_e E X a b Y e33 ha hb 601 0 (by omega) (by omega)
  rw [show ((3 * (a / 3) + 0 : Nat) : Int) = (a : Int) / 3 * 3 from by omega] at w
  rcases w with ⟨w1, w2⟩ | ⟨w1, w2⟩
  · exact w1.trans (tv_t w2).symm
  · exact w1.trans (tv_f fun ⟨i, k, h1, h2, h3⟩ => w2 i k (by omega) h1 h2 h3).symm
theorem xwo (Y : pYx X E) (e33 : X.1 33 3 = E.1 0) (ha : sMn E a) (hb : sMn E b) : d_X7_worthOf_r78d (a : Int) (b : Int) X = if sWhy E a b = 0 then sWo (X.1 78 2) (X.1 78 3) (X.1 78 4) (X.1 78 5) E a b else -1 := by
  obtain ⟨S, I, N, hs, h6, T, F, L⟩ := id Y
  have kn := xkn Y e33 ha.1 hb.1
  have df := @xdf X E a b 1 S I (by decide) ha.1 hb.1 (F _ (by have := ha.1; omega)) (F _ (by have := hb.1; omega))
  rw [show ((1 : Nat) : Int) = 1 from rfl] at df
  have a0 := fc_in (by decide) (F (2 * a + 0) (by have := ha.1; omega)) (ir_n I (by decide) ha.1).1
  have b0 := fc_in (by decide) (F (2 * b + 0) (by have := hb.1; omega)) (ir_n I (by decide) hb.1).1
  have a1 := fc_in (by decide) (F (2 * a + 1) (by have := ha.1; omega)) (ir_n I (by decide) ha.1).1
  have b1 := fc_in (by decide) (F (2 * b + 1) (by have := hb.1; omega)) (ir_n I (by decide) hb.1).1
  obtain ⟨p1, p2, p3⟩ := L a ha.1
  obtain ⟨q1, q2, q3⟩ := L b hb.1
  change X.1 81 a = sNu E a at p3
  change X.1 81 b = sNu E b at q3
  have n0 : tv (sIn E a 0 ∧ sIn E b 0) = if X.1 76 (2 * a + 0) < 0 ∨ X.1 76 (2 * b + 0) < 0 then 0 else 1 := by
    by_cases g : X.1 76 (2 * a + 0) < 0 ∨ X.1 76 (2 * b + 0) < 0
    · rw [if_pos g]
      exact tv_f fun z => g.elim (fun q => a0.1 q z.1) (fun q => b0.1 q z.2)
    · rw [if_neg g]
      exact tv_t ⟨Classical.byContradiction fun q => g (Or.inl (a0.2 q)), Classical.byContradiction fun q => g (Or.inr (b0.2 q))⟩
  have n1 : tv (sIn E a 1 ∧ sIn E b 1 ∧ sAl E a b 1) = if X.1 76 (2 * a + 1) < 0 ∨ X.1 76 (2 * b + 1) < 0 then 0 else 1 - tv (sDf E a b 1) := by
    by_cases g : X.1 76 (2 * a + 1) < 0 ∨ X.1 76 (2 * b + 1) < 0
    · rw [if_pos g]
      exact tv_f fun z => g.elim (fun q => a1.1 q z.1) (fun q => b1.1 q z.2.1)
    · rw [if_neg g]
      have ia : sIn E a 1 := Classical.byContradiction fun q => g (Or.inl (a1.2 q))
      have ib : sIn E b 1 := Classical.byContradiction fun q => g (Or.inr (b1.2 q))
      by_cases al : sAl E a b 1
      · rw [tv_t (show sIn E a 1 ∧ sIn E b 1 ∧ sAl E a b 1 from ⟨ia, ib, al⟩), tv_f (fun z : sDf E a b 1 => z.2.2 al)]
        rfl
      · rw [tv_f (fun z : sIn E a 1 ∧ sIn E b 1 ∧ sAl E a b 1 => al z.2.2), tv_t (show sDf E a b 1 from ⟨ia, ib, al⟩)]
        rfl
  have ag : tv (sAg E a b) = if (sCo E a = 0 ∧ sCo E b = 5 ∧ ¬ sNu E b = -1) ∨ (sCo E b = 0 ∧ sCo E a = 5 ∧ ¬ sNu E a = -1) then 1 else 0 := by
    by_cases g : sAg E a b
    · rw [tv_t g]; unfold sAg at g; rw [if_pos g]
    · rw [tv_f g]; unfold sAg at g; rw [if_neg g]
  have x91 : ∀ l, d_X7_worthOf_r78d_91 (a : Int) (b : Int) l X = l + (if tv (sKn E a b) = 0 then 0 else X.1 78 5) := fun l => by
    unfold d_X7_worthOf_r78d_91 d_X7_worthOf_r78d_110
    rw [kn]
    repeat' split
    all_goals omega
  have x66 : ∀ l, d_X7_worthOf_r78d_66 (a : Int) (b : Int) l X = l + (if tv (sAg E a b) = 0 then 0 else X.1 78 4) + (if tv (sKn E a b) = 0 then 0 else X.1 78 5) := fun l => by
    unfold d_X7_worthOf_r78d_66 d_X7_worthOf_r78d_84
    rw [show ((a : Int)).toNat = a from by omega, show ((b : Int)).toNat = b from by omega, p1, q1, p3, q3, x91, x91, ag]
    generalize (if tv (sKn E a b) = 0 then 0 else X.1 78 5) = v
    by_cases g : (sCo E a = 0 ∧ sCo E b = 5 ∧ ¬ sNu E b = -1) ∨ (sCo E b = 0 ∧ sCo E a = 5 ∧ ¬ sNu E a = -1)
    · rw [if_pos g, if_neg (show ¬ (1 : Int) = 0 from by decide)]
      repeat' split
      all_goals omega
    · rw [if_neg g, if_pos (c := (0 : Int) = 0) rfl]
      repeat' split
      all_goals omega
  have x33 : ∀ l, d_X7_worthOf_r78d_33 (a : Int) (b : Int) l X = l + (if tv (sIn E a 1 ∧ sIn E b 1 ∧ sAl E a b 1) = 0 then 0 else X.1 78 3) + (if tv (sAg E a b) = 0 then 0 else X.1 78 4) + (if tv (sKn E a b) = 0 then 0 else X.1 78 5) := fun l => by
    unfold d_X7_worthOf_r78d_33
    rw [df, show ((a : Int) * 2 + 1).toNat = 2 * a + 1 from by omega, show ((b : Int) * 2 + 1).toNat = 2 * b + 1 from by omega, x66, x66, n1]
    generalize (if tv (sKn E a b) = 0 then 0 else X.1 78 5) = v
    generalize (if tv (sAg E a b) = 0 then 0 else X.1 78 4) = u
    have t1 := @tv_b (sDf E a b 1)
    generalize tv (sDf E a b 1) = t at *
    by_cases g : X.1 76 (2 * a + 1) < 0 ∨ X.1 76 (2 * b + 1) < 0
    · rw [if_pos g, if_pos (c := (0 : Int) = 0) rfl]
      repeat' split
      all_goals omega
    · rw [if_neg g, if_neg (by omega), if_neg (by omega)]
      repeat' split
      all_goals omega
  unfold d_X7_worthOf_r78d sWo
  rw [xwy Y ha hb, show ((a : Int) * 2 + 0).toNat = 2 * a + 0 from by omega, show ((b : Int) * 2 + 0).toNat = 2 * b + 0 from by omega, x33, x33, n0]
  by_cases w : sWhy E a b = 0
  · rw [if_pos w, if_pos w]
    generalize (if tv (sKn E a b) = 0 then 0 else X.1 78 5) = v
    generalize (if tv (sAg E a b) = 0 then 0 else X.1 78 4) = u
    generalize (if tv (sIn E a 1 ∧ sIn E b 1 ∧ sAl E a b 1) = 0 then 0 else X.1 78 3) = t
    repeat' split
    all_goals omega
  · rw [if_neg w, if_neg w]
end
end jG21

section jG22
/-! pure: going through a SOUL's MENTIONS -/
def sFd {α : Type} (g : Nat → Int) (s : Int) (f : α → Nat → α) : Nat → Nat → α → α
  | 0, _, x => x
  | c + 1, k, x => sFd g s f c (k + 1) (if g k = s then f x k else x)
theorem sFd_c {α : Type} {g h : Nat → Int} {s : Int} {f : α → Nat → α} : ∀ (c k : Nat) (x : α), (∀ j, k ≤ j → j < k + c → g j = h j) → sFd g s f c k x = sFd h s f c k x := by
  intro c
  induction c with
  | zero => intro k x _; rfl
  | succ c ih =>
    intro k x e
    show sFd g s f c (k + 1) (if g k = s then f x k else x) = sFd h s f c (k + 1) (if h k = s then f x k else x)
    rw [e k (by omega) (by omega)]
    exact ih (k + 1) _ (fun j j1 j2 => e j (by omega) (by omega))
/-- a chain -/
theorem ch_f {α β : Type} {g : Nat → Int} {N : Nat} {s : Int} (h6 : N ≤ 600) {nx : Nat → Int} (hn : ∀ m : Nat, m < N → g m = s → nx m = ft g s N (m + 1)) (F : Nat → Int → Int → α → β) (f : α → Nat → α) (e : α → β) (s0 : ∀ (r : Nat) (n : Int) (a : α), F (r + 1) (-1) n a = e a) (s1 : ∀ (r m n : Nat) (a : α), m < N → g m = s → n < 600 → F (r + 1) (m : Int) (n : Int) a = F r (nx m) ((n : Int) + 1) (f a m)) : ∀ (c k r n : Nat) (a : α), N - k = c → c < r → n ≤ k → F r (ft g s N k) (n : Int) a = e (sFd g s f c k a) := by
  intro c
  induction c with
  | zero =>
    intro k r n a hc hr hk
    obtain ⟨r', rfl⟩ : ∃ r', r = r' + 1 := ⟨r - 1, by omega⟩
    rw [ft_o (by omega), s0]
    rfl
  | succ c ih =>
    intro k r n a hc hr hk
    show _ = e (sFd g s f c (k + 1) (if g k = s then f a k else a))
    by_cases z : g k = s
    · obtain ⟨r', rfl⟩ : ∃ r', r = r' + 1 := ⟨r - 1, by omega⟩
      rw [ft_y (by omega) z, s1 r' k n a (by omega) z (by omega), hn k (by omega) z, if_pos z]
      have y := ih (k + 1) r' (n + 1) (f a k) (by omega) (by omega) (by omega)
      rw [show ((n + 1 : Nat) : Int) = (n : Int) + 1 from by omega] at y
      exact y
    · rw [ft_n (by omega) z, if_neg z]
      exact ih (k + 1) r n a (by omega) (by omega) (by omega)
/-- a loop over all -/
theorem ml_f {α β : Type} {g : Nat → Int} {N : Nat} {s : Int} (G : Nat → Int → α → β) (f : α → Nat → α) (e : α → β) (s0 : ∀ (r k : Nat) (a : α), N ≤ k → G (r + 1) (k : Int) a = e a) (s1 : ∀ (r k : Nat) (a : α), k < N → G (r + 1) (k : Int) a = G r ((k : Int) + 1) (if g k = s then f a k else a)) : ∀ (c k r : Nat) (a : α), N - k = c → c < r → G r (k : Int) a = e (sFd g s f c k a) := by
  intro c
  induction c with
  | zero =>
    intro k r a hc hr
    obtain ⟨r', rfl⟩ : ∃ r', r = r' + 1 := ⟨r - 1, by omega⟩
    rw [s0 r' k a (by omega)]
    rfl
  | succ c ih =>
    intro k r a hc hr
    obtain ⟨r', rfl⟩ : ∃ r', r = r' + 1 := ⟨r - 1, by omega⟩
    rw [s1 r' k a (by omega)]
    have y := ih (k + 1) r' (if g k = s then f a k else a) (by omega) (by omega)
    rw [show ((k + 1 : Nat) : Int) = (k : Int) + 1 from by omega] at y
    exact y
/-- what is asked of SOULS as known -/
def pXs (X : jW) (E : pE) (g : Nat → Int) : Prop := sGi E g ∧ (0 ≤ E.1 0 ∧ E.1 0 ≤ 200) ∧ X.1 33 3 = E.1 0 ∧ X.1 78 6 = E.2.2.2.2 ∧ (∀ m : Nat, m < sNl E → X.1 82 m = g m) ∧ (∀ m : Nat, m < sNl E → X.1 83 m = nxt g (sNl E) m) ∧ (∀ m : Nat, ((m / 3 : Nat) : Int) < E.1 0 → pSl X E m) ∧ pIr E
def pMs (M : jW) (E : pE) (g : Nat → Int) : Prop := eOf M = E ∧ pIr E ∧ pIn E ∧ (0 ≤ E.2.2.2.2 ∧ E.2.2.2.2 ≤ 20) ∧ sGi E g ∧ (0 ≤ E.1 0 ∧ E.1 0 ≤ 200) ∧ ∀ m : Nat, m < sNl E → M.1 139 m = g m
section
variable {X M : jW} {E : pE} {g : Nat → Int} {s : Int}
theorem xs_6 (P : pXs X E g) : sNl E ≤ 600 := by have := P.2.1; unfold sNl; omega
theorem xs_n (P : pXs X E g) (hs : s ≠ -1) : ∀ m : Nat, m < sNl E → g m = s → X.1 83 m = ft g s (sNl E) (m + 1) := fun m hm e => by rw [P.2.2.2.2.2.1 m hm, nxt_s e hs]
theorem xs_l (P : pXs X E g) {m : Nat} (hm : m < sNl E) : pSl X E m := P.2.2.2.2.2.2.1 m (by have := P.2.1; unfold sNl at hm; omega)
theorem co_b (I : pIr E) {m : Nat} (h : sMn E m) : 0 ≤ sCo E m ∧ sCo E m ≤ 8 := by
  have b := (I (m / 3) h.1).1
  have q := h.2
  have m3 : m % 3 < 3 := Nat.mod_lt _ (by decide)
  unfold sCo sRo at *
  repeat' split
  all_goals first
    | omega
    | (exfalso; rename_i y; rw [if_pos y] at q; exact q rfl)
theorem xs_m (P : pXs X E g) (hs : s ≠ -1) {m : Nat} (hm : m < sNl E) (e : g m = s) : sMn E m := by
  rcases P.1 m hm with z | z
  · exact absurd (e.symm.trans z) hs
  · exact z.1
theorem xs_f (P : pXs X E g) {p : Nat} (hp : p < sNl E) (ep : g p = (p : Int)) : ft g (p : Int) (sNl E) 0 = (p : Int) := by
  refine isF_u ft_f (Or.inr ⟨p, rfl, by omega, hp, ep, fun i i1 i2 z => ?_⟩) (fun j _ _ => Iff.rfl)
  have z' : g i = (p : Int) := z
  rcases P.1 i (by omega) with y | ⟨y1, y2, y3, y4⟩
  · omega
  · omega
theorem ms_3 (P : pMs M E g) : 3 * M.1 126 0 = ((sNl E : Nat) : Int) := by
  have w : M.1 126 = E.1 := congrArg (fun z : pE => z.1) P.1
  have := P.2.2.2.2.2.1
  unfold sNl
  rw [w]
  omega
theorem ms_m (P : pMs M E g) (hs : s ≠ -1) {m : Nat} (hm : m < sNl E) (e : g m = s) : sMn E m := by
  rcases P.2.2.2.2.1 m hm with z | z
  · exact absurd (e.symm.trans z) hs
  · exact z.1
/-! has a SOUL a MENTION of a code by a DAY -/
def sHb (E : pE) (g : Nat → Int) (s w d : Int) : Prop := ∃ m : Nat, m < sNl E ∧ g m = s ∧ sCo E m = w ∧ sDy E m ≤ d
theorem hb_s {r : Nat} {w d m n : Int} : d_X7_hasBy_r78d_6 (r + 1) w d m n X = if m = -1 then 0 else if 600 ≤ n then 0 else if X.1 79 m.toNat = w ∧ ¬ d < X.1 80 m.toNat then 1 else d_X7_hasBy_r78d_6 r w d (X.1 83 m.toNat) (n + 1) X := by
  show (if m = -1 then (0 : Int) else if 600 ≤ n then 0 else if X.1 79 m.toNat = w then (if d < X.1 80 m.toNat then _ else _) else _) = _
  repeat' split
  all_goals first
    | rfl
    | (exfalso; omega)
theorem hb_e (P : pXs X E g) (hs : s ≠ -1) {w d : Int} : ∀ (c k r n : Nat), sNl E - k = c → c < r → n ≤ k → d_X7_hasBy_r78d_6 r w d (ft g s (sNl E) k) (n : Int) X = tv (∃ m : Nat, k ≤ m ∧ m < sNl E ∧ g m = s ∧ sCo E m = w ∧ sDy E m ≤ d) := by
  have h6 := xs_6 P
  intro c
  induction c with
  | zero =>
    intro k r n hc hr hk
    obtain ⟨r', rfl⟩ : ∃ r', r = r' + 1 := ⟨r - 1, by omega⟩
    rw [ft_o (by omega), hb_s, if_pos rfl]
    exact (tv_f fun ⟨m, m1, m2, _⟩ => by omega).symm
  | succ c ih =>
    intro k r n hc hr hk
    by_cases z : g k = s
    · obtain ⟨r', rfl⟩ : ∃ r', r = r' + 1 := ⟨r - 1, by omega⟩
      obtain ⟨l1, l2, l3⟩ := @xs_l X E g P k (by omega)
      change X.1 80 k = sDy E k at l2
      rw [ft_y (by omega) z, hb_s, if_neg (show ¬ (k : Int) = -1 from by omega), if_neg (show ¬ (600 : Int) ≤ (n : Int) from by omega), show ((k : Int)).toNat = k from by omega, l1, l2, xs_n P hs k (by omega) z]
      by_cases q : sCo E k = w ∧ ¬ d < sDy E k
      · rw [if_pos q]
        exact (tv_t ⟨k, by omega, by omega, z, q.1, by omega⟩).symm
      · have y := ih (k + 1) r' (n + 1) (by omega) (by omega) (by omega)
        rw [show ((n + 1 : Nat) : Int) = (n : Int) + 1 from by omega] at y
        rw [if_neg q, y]
        refine tv_c ⟨fun ⟨m, m1, m2⟩ => ⟨m, by omega, m2⟩, fun ⟨m, m1, m2, m3, m4, m5⟩ => ⟨m, ?_, m2, m3, m4, m5⟩⟩
        by_cases e : m = k
        · rw [e] at m4 m5; exact absurd ⟨m4, by omega⟩ q
        · omega
    · rw [ft_n (by omega) z, ih (k + 1) r n (by omega) (by omega) (by omega)]
      refine tv_c ⟨fun ⟨m, m1, m2⟩ => ⟨m, by omega, m2⟩, fun ⟨m, m1, m2, m3, m4, m5⟩ => ⟨m, ?_, m2, m3, m4, m5⟩⟩
      by_cases e : m = k
      · rw [e] at m3; exact absurd m3 z
      · omega
theorem xhb (P : pXs X E g) {p : Nat} (hp : p < sNl E) (ep : g p = (p : Int)) {w d : Int} : d_X7_hasBy_r78d (p : Int) w d X = tv (sHb E g (p : Int) w d) := by
  unfold d_X7_hasBy_r78d
  have y := @hb_e X E g (p : Int) P (by omega) w d _ 0 601 0 rfl (by have := xs_6 P; omega) (by omega)
  rw [xs_f P hp ep, show ((0 : Nat) : Int) = 0 from rfl] at y
  rw [y]
  exact tv_c ⟨fun ⟨m, m1, m2⟩ => ⟨m, m2⟩, fun ⟨m, m2⟩ => ⟨m, by omega, m2⟩⟩
/-! the latest MENTION of a part -/
def sMu (E : pE) (w d : Int) (i : Int) (k : Nat) : Int := if sCo E k = w ∧ sDy E k ≤ d ∧ (i < 0 ∨ sDy E i.toNat ≤ sDy E k) then (k : Int) else i
def sMo (E : pE) (g : Nat → Int) (s w d : Int) : Int := sFd g s (sMu E w d) (sNl E) 0 (-1)
theorem mo_s {r : Nat} {s w d i k : Int} : d_X12_mentionOf_r125d_6 (r + 1) s w d i k M = if 3 * M.1 126 0 ≤ k then i else d_X12_mentionOf_r125d_6 r s w d (if M.1 139 k.toNat = s ∧ d_X12_partOf_r125d k M = w ∧ ¬ d < d_X12_dayAt_r125d k M ∧ (i < 0 ∨ ¬ d_X12_dayAt_r125d k M < d_X12_dayAt_r125d i M) then k else i) (k + 1) M := by
  show (if 3 * M.1 126 0 ≤ k then i else if M.1 139 k.toNat = s then (if d_X12_partOf_r125d k M = w then (if d < d_X12_dayAt_r125d k M then _ else if i < 0 then _ else if d_X12_dayAt_r125d k M < d_X12_dayAt_r125d i M then _ else _) else _) else _) = _
  repeat' split
  all_goals first
    | rfl
    | (exfalso; omega)
theorem mmo (P : pMs M E g) (hs : s ≠ -1) {w d : Int} (hw : 0 ≤ w ∧ w ≤ 5) : d_X12_mentionOf_r125d s w d M = sMo E g s w d := by
  have h3 := ms_3 P
  have b := P.2.2.2.2.2.1
  unfold d_X12_mentionOf_r125d sMo
  have key := @ml_f Int Int g (sNl E) s (fun r k i => if i < 0 ∨ 0 ≤ i then d_X12_mentionOf_r125d_6 r s w d i k M else 0) (sMu E w d) (fun i => i) (fun r k i hk => by
    show (if i < 0 ∨ 0 ≤ i then d_X12_mentionOf_r125d_6 (r + 1) s w d i (k : Int) M else 0) = i
    rw [if_pos (by omega), mo_s, if_pos (by omega)]) (fun r k i hk => by
    show (if i < 0 ∨ 0 ≤ i then d_X12_mentionOf_r125d_6 (r + 1) s w d i (k : Int) M else 0) = (if (if g k = s then sMu E w d i k else i) < 0 ∨ 0 ≤ (if g k = s then sMu E w d i k else i) then d_X12_mentionOf_r125d_6 r s w d (if g k = s then sMu E w d i k else i) ((k : Int) + 1) M else 0)
    rw [if_pos (by omega), if_pos (by omega), mo_s, if_neg (by omega), show ((k : Int)).toNat = k from by omega, P.2.2.2.2.2.2 k hk]
    congr 1
    by_cases z : g k = s
    · have mn := ms_m P hs hk z
      have pa := @mpa M k (by rw [P.1]; exact P.2.1) (by rw [P.1]; exact mn)
      rw [P.1] at pa
      have dk : d_X12_dayAt_r125d (k : Int) M = sDy E k := by rw [mdy, P.1]
      unfold sMu
      rw [if_pos z, dk]
      by_cases i0 : i < 0
      · by_cases q : sCo E k = w ∧ sDy E k ≤ d
        · rw [if_pos ⟨z, by omega, by omega, Or.inl i0⟩, if_pos ⟨q.1, q.2, Or.inl i0⟩]
        · rw [if_neg (fun y => q ⟨by omega, by omega⟩), if_neg (fun y => q ⟨y.1, y.2.1⟩)]
      · have di : d_X12_dayAt_r125d i M = sDy E i.toNat := by
          have y := @mdy M i.toNat
          rw [show ((i.toNat : Nat) : Int) = i from by omega, P.1] at y
          exact y
        rw [di]
        by_cases q : sCo E k = w ∧ sDy E k ≤ d ∧ (i < 0 ∨ sDy E i.toNat ≤ sDy E k)
        · rw [if_pos ⟨z, by omega, by omega, by omega⟩, if_pos q]
        · rw [if_neg (fun y => q ⟨by omega, by omega, by omega⟩), if_neg q]
    · rw [if_neg (fun y => z y.1), if_neg z]) (sNl E) 0 601 (-1) rfl (by unfold sNl; omega)
  simp only [show ((-1 : Int) < 0 ∨ (0 : Int) ≤ -1) = True from by simp, if_true] at key
  exact key
/-! SPANS -/
abbrev sT4 := Int × Int × Int × Int
def sSu (E : pE) (t : sT4) (m : Nat) : sT4 :=
  (if sCo E m = 0 then max t.1 (sDy E m) else if sCo E m = 2 then max t.1 (sDy E m - 18300) else if sCo E m = 5 ∧ ¬ sNu E m = -1 then max t.1 (j_imul (j_isub (j_isub (sDy E m / 366) (sNu E m)) E.2.2.2.2) 366) else t.1,
   if sCo E m = 5 ∧ ¬ sNu E m = -1 then min (min t.2.1 (sDy E m)) (j_isub (j_iadd (j_imul (j_iadd (j_isub (sDy E m / 366) (sNu E m)) E.2.2.2.2) 366) 366) 1) else min t.2.1 (if 1 ≤ sCo E m ∧ sCo E m ≤ 4 then sDy E m - 5124 else sDy E m),
   max t.2.2.1 (if sCo E m = 1 then sDy E m - 366 else sDy E m),
   if sCo E m = 5 then min t.2.2.2 (sDy E m) else t.2.2.2)
def sSf (t : sT4) : sT4 := (max 0 (min 146399 (max t.1 (t.2.2.1 - 40260))), max 0 (min 146399 t.2.1), max 0 (min 146399 t.2.2.1), max 0 (min 146399 (min t.2.2.2 (t.2.1 + 40260))))
def sSn (E : pE) (g : Nat → Int) (s : Int) : sT4 := sSf (sFd g s (sSu E) (sNl E) 0 (0, 146399, 0, 146399))
theorem rs_s {r : Nat} {b c e f m n : Int} (hq : 0 ≤ X.1 79 m.toNat ∧ X.1 79 m.toNat ≤ 8) : d_X7_readSpan_r78d_18 (r + 1) b c e f m n X = if m = -1 then d_X7_readSpan_r78d_253 b c e f X else if 600 ≤ n then d_X7_readSpan_r78d_253 b c e f X else d_X7_readSpan_r78d_18 r (if X.1 79 m.toNat = 0 then max b (X.1 80 m.toNat) else if X.1 79 m.toNat = 2 then max b (X.1 80 m.toNat - 18300) else if X.1 79 m.toNat = 5 ∧ ¬ X.1 81 m.toNat = -1 then max b (j_imul (j_isub (j_isub (X.1 80 m.toNat / 366) (X.1 81 m.toNat)) (X.1 78 6)) 366) else b) (if X.1 79 m.toNat = 5 ∧ ¬ X.1 81 m.toNat = -1 then min (min c (X.1 80 m.toNat)) (j_isub (j_iadd (j_imul (j_iadd (j_isub (X.1 80 m.toNat / 366) (X.1 81 m.toNat)) (X.1 78 6)) 366) 366) 1) else min c (if 1 ≤ X.1 79 m.toNat ∧ X.1 79 m.toNat ≤ 4 then X.1 80 m.toNat - 5124 else X.1 80 m.toNat)) (max e (if X.1 79 m.toNat = 1 then X.1 80 m.toNat - 366 else X.1 80 m.toNat)) (if X.1 79 m.toNat = 5 then min f (X.1 80 m.toNat) else f) (X.1 83 m.toNat) (n + 1) X := by
  show (if m = -1 then _ else if 600 ≤ n then _ else if X.1 79 m.toNat < 1 then _ else if 4 < X.1 79 m.toNat then _ else _) = _
  unfold d_X7_readSpan_r78d_73 d_X7_readSpan_r78d_75 d_X7_readSpan_r78d_103 d_X7_readSpan_r78d_238
  by_cases c1 : m = -1
  · rw [if_pos c1, if_pos c1]
  · rw [if_neg c1, if_neg c1]
    by_cases c2 : 600 ≤ n
    · rw [if_pos c2, if_pos c2]
    · rw [if_neg c2, if_neg c2]
      generalize X.1 79 m.toNat = q at *
      have z : q = 0 ∨ q = 1 ∨ q = 2 ∨ q = 3 ∨ q = 4 ∨ q = 5 ∨ q = 6 ∨ q = 7 ∨ q = 8 := by omega
      rcases z with rfl | rfl | rfl | rfl | rfl | rfl | rfl | rfl | rfl
      · rfl
      · rfl
      · rfl
      · rfl
      · rfl
      · by_cases y : X.1 81 m.toNat = -1
        · rw [if_neg (show ¬ (5 : Int) < 1 from by decide), if_pos (show (4 : Int) < 5 from by decide), if_neg (show ¬ (5 : Int) = 1 from by decide), if_neg (show ¬ (5 : Int) = 0 from by decide), if_neg (show ¬ (5 : Int) = 2 from by decide), if_pos (c := (5 : Int) = 5) rfl, if_pos y, if_neg (show ¬ (5 : Int) = 0 from by decide), if_neg (show ¬ (5 : Int) = 2 from by decide), if_neg (fun h : (5 : Int) = 5 ∧ ¬ X.1 81 m.toNat = -1 => h.2 y), if_neg (fun h : (5 : Int) = 5 ∧ ¬ X.1 81 m.toNat = -1 => h.2 y)]
          rfl
        · rw [if_neg (show ¬ (5 : Int) < 1 from by decide), if_pos (show (4 : Int) < 5 from by decide), if_neg (show ¬ (5 : Int) = 1 from by decide), if_neg (show ¬ (5 : Int) = 0 from by decide), if_neg (show ¬ (5 : Int) = 2 from by decide), if_pos (c := (5 : Int) = 5) rfl, if_neg y, if_neg (show ¬ (5 : Int) = 0 from by decide), if_neg (show ¬ (5 : Int) = 2 from by decide), if_pos (show (5 : Int) = 5 ∧ ¬ X.1 81 m.toNat = -1 from ⟨rfl, y⟩), if_pos (show (5 : Int) = 5 ∧ ¬ X.1 81 m.toNat = -1 from ⟨rfl, y⟩)]
          rfl
      · rfl
      · rfl
      · rfl
theorem xsp (P : pXs X E g) {p : Nat} (hp : p < sNl E) (ep : g p = (p : Int)) : (d_X7_readSpan_r78d (p : Int) X).1 85 0 = (sSn E g (p : Int)).1 ∧ (d_X7_readSpan_r78d (p : Int) X).1 85 1 = (sSn E g (p : Int)).2.1 ∧ (d_X7_readSpan_r78d (p : Int) X).1 85 2 = (sSn E g (p : Int)).2.2.1 ∧ (d_X7_readSpan_r78d (p : Int) X).1 85 3 = (sSn E g (p : Int)).2.2.2 := by
  have h6 := xs_6 P
  have fin : ∀ b c e f : Int, (d_X7_readSpan_r78d_253 b c e f X).1 85 0 = (sSf (b, c, e, f)).1 ∧ (d_X7_readSpan_r78d_253 b c e f X).1 85 1 = (sSf (b, c, e, f)).2.1 ∧ (d_X7_readSpan_r78d_253 b c e f X).1 85 2 = (sSf (b, c, e, f)).2.2.1 ∧ (d_X7_readSpan_r78d_253 b c e f X).1 85 3 = (sSf (b, c, e, f)).2.2.2 := fun b c e f => by
    have st : ∀ (r : Nat) (i : Int) (W : jW), d_X7_readSpan_r78d_301 (r + 1) i W = if 4 ≤ i then W else d_X7_readSpan_r78d_301 r (i + 1) (vu W 85 i.toNat (max 0 (min 146399 (W.1 85 i.toNat)))) := fun _ _ _ => rfl
    unfold d_X7_readSpan_r78d_253
    rw [st 4, if_neg (by decide), st 3, if_neg (by decide), st 2, if_neg (by decide), st 1, if_neg (by decide), st 0, if_pos (by decide)]
    refine ⟨?_, ?_, ?_, ?_⟩
    · rw [vu_n (by decide), vu_n (by decide), vu_n (by decide), vu_e (by decide), vu_n (by decide), vu_n (by decide), vu_n (by decide), vu_e (by decide)]
      rfl
    · rw [vu_n (by decide), vu_n (by decide), vu_e (by decide), vu_n (by decide), vu_n (by decide), vu_n (by decide), vu_e (by decide)]
      rfl
    · rw [vu_n (by decide), vu_e (by decide), vu_n (by decide), vu_n (by decide), vu_n (by decide), vu_e (by decide)]
      rfl
    · rw [vu_e (by decide), vu_n (by decide), vu_n (by decide), vu_n (by decide), vu_e (by decide)]
      rfl
  have key := @ch_f sT4 jW g (sNl E) (p : Int) h6 (fun m => X.1 83 m) (xs_n P (by omega)) (fun r m n t => d_X7_readSpan_r78d_18 r t.1 t.2.1 t.2.2.1 t.2.2.2 m n X) (sSu E) (fun t => d_X7_readSpan_r78d_253 t.1 t.2.1 t.2.2.1 t.2.2.2 X) (fun r n t => by
    show d_X7_readSpan_r78d_18 (r + 1) t.1 t.2.1 t.2.2.1 t.2.2.2 (-1) n X = _
    show (if (-1 : Int) = -1 then d_X7_readSpan_r78d_253 t.1 t.2.1 t.2.2.1 t.2.2.2 X else _) = _
    rw [if_pos rfl]) (fun r m n t hm hz hn => by
    obtain ⟨l1, l2, l3⟩ := @xs_l X E g P m hm
    change X.1 80 m = sDy E m at l2
    change X.1 81 m = sNu E m at l3
    show d_X7_readSpan_r78d_18 (r + 1) t.1 t.2.1 t.2.2.1 t.2.2.2 (m : Int) (n : Int) X = _
    rw [rs_s (by rw [show ((m : Int)).toNat = m from by omega, l1]; exact co_b P.2.2.2.2.2.2.2 (xs_m P (by omega) hm hz)), if_neg (show ¬ (m : Int) = -1 from by omega), if_neg (show ¬ (600 : Int) ≤ (n : Int) from by omega), show ((m : Int)).toNat = m from by omega, l1, l2, l3, P.2.2.2.1]
    rfl) (sNl E) 0 601 0 (0, 146399, 0, 146399) rfl (by omega) (by omega)
  rw [xs_f P hp ep, show ((0 : Nat) : Int) = 0 from rfl] at key
  have key' : d_X7_readSpan_r78d (p : Int) X = d_X7_readSpan_r78d_253 (sFd g (p : Int) (sSu E) (sNl E) 0 (0, 146399, 0, 146399)).1 (sFd g (p : Int) (sSu E) (sNl E) 0 (0, 146399, 0, 146399)).2.1 (sFd g (p : Int) (sSu E) (sNl E) 0 (0, 146399, 0, 146399)).2.2.1 (sFd g (p : Int) (sSu E) (sNl E) 0 (0, 146399, 0, 146399)).2.2.2 X := key
  rw [key']
  exact fin _ _ _ _
/-! first DAY, relief -/
def sFy (E : pE) (g : Nat → Int) (s d : Int) : Int := sFd g s (fun x m => min x (sDy E m)) (sNl E) 0 d
theorem xfd (P : pXs X E g) {p : Nat} (hp : p < sNl E) (ep : g p = (p : Int)) {d : Int} : d_X7_firstDay_r78d (p : Int) d X = sFy E g (p : Int) d := by
  have h6 := xs_6 P
  have key := @ch_f Int Int g (sNl E) (p : Int) h6 (fun m => X.1 83 m) (xs_n P (by omega)) (fun r m n t => d_X7_firstDay_r78d_8 r t m n X) (fun x m => min x (sDy E m)) (fun t => t) (fun r n t => by
    show (if (-1 : Int) = -1 then t else _) = t
    rw [if_pos rfl]) (fun r m n t hm hz hn => by
    have l2 := (@xs_l X E g P m hm).2.1
    change X.1 80 m = sDy E m at l2
    show (if (m : Int) = -1 then t else if 600 ≤ (n : Int) then t else d_X7_firstDay_r78d_8 r (min t (X.1 80 ((m : Int)).toNat)) (X.1 83 ((m : Int)).toNat) ((n : Int) + 1) X) = _
    rw [if_neg (show ¬ (m : Int) = -1 from by omega), if_neg (show ¬ (600 : Int) ≤ (n : Int) from by omega), show ((m : Int)).toNat = m from by omega, l2]) (sNl E) 0 601 0 d rfl (by omega) (by omega)
  rw [xs_f P hp ep, show ((0 : Nat) : Int) = 0 from rfl] at key
  exact key
def sRe (E : pE) (g : Nat → Int) (s a b : Int) : Int := sFd g s (fun x m => if sCo E m = 7 ∧ a ≤ sDy E m ∧ sDy E m ≤ b then j_iadd x (sNu E m) else x) (sNl E) 0 0
theorem xre (P : pXs X E g) {p : Nat} (hp : p < sNl E) (ep : g p = (p : Int)) {a b : Int} : d_X7_reliefOf_r78d (p : Int) a b X = sRe E g (p : Int) a b := by
  have h6 := xs_6 P
  have key := @ch_f Int Int g (sNl E) (p : Int) h6 (fun m => X.1 83 m) (xs_n P (by omega)) (fun r m n t => d_X7_reliefOf_r78d_9 r a b t m n X) (fun x m => if sCo E m = 7 ∧ a ≤ sDy E m ∧ sDy E m ≤ b then j_iadd x (sNu E m) else x) (fun t => t) (fun r n t => by
    show (if (-1 : Int) = -1 then t else _) = t
    rw [if_pos rfl]) (fun r m n t hm hz hn => by
    obtain ⟨l1, l2, l3⟩ := @xs_l X E g P m hm
    change X.1 80 m = sDy E m at l2
    change X.1 81 m = sNu E m at l3
    show (if (m : Int) = -1 then t else if 600 ≤ (n : Int) then t else if X.1 79 ((m : Int)).toNat = 7 then (if X.1 80 ((m : Int)).toNat < a then _ else if b < X.1 80 ((m : Int)).toNat then _ else _) else _) = _
    rw [if_neg (show ¬ (m : Int) = -1 from by omega), if_neg (show ¬ (600 : Int) ≤ (n : Int) from by omega), show ((m : Int)).toNat = m from by omega, l1, l2]
    show (if sCo E m = 7 then (if sDy E m < a then d_X7_reliefOf_r78d_9 r a b t (X.1 83 ((m : Int)).toNat) ((n : Int) + 1) X else if b < sDy E m then d_X7_reliefOf_r78d_9 r a b t (X.1 83 ((m : Int)).toNat) ((n : Int) + 1) X else d_X7_reliefOf_r78d_9 r a b (j_iadd t (X.1 81 ((m : Int)).toNat)) (X.1 83 ((m : Int)).toNat) ((n : Int) + 1) X) else d_X7_reliefOf_r78d_9 r a b t (X.1 83 ((m : Int)).toNat) ((n : Int) + 1) X) = d_X7_reliefOf_r78d_9 r a b (if sCo E m = 7 ∧ a ≤ sDy E m ∧ sDy E m ≤ b then j_iadd t (sNu E m) else t) (X.1 83 m) ((n : Int) + 1) X
    rw [show ((m : Int)).toNat = m from by omega, l3]
    repeat' split
    all_goals first
      | rfl
      | (exfalso; omega)) (sNl E) 0 601 0 0 rfl (by omega) (by omega)
  rw [xs_f P hp ep, show ((0 : Nat) : Int) = 0 from rfl] at key
  exact key
end
end jG22

section jG23
/-! pure: what a SOUL's MENTIONS tell, the reference's side -/
theorem sMo_a {E : pE} {g : Nat → Int} {s w d : Int} : ∀ (c k : Nat) (i : Int), k + c = sNl E → ((i = -1 ∧ ∀ m : Nat, m < k → g m = s → ¬ (sCo E m = w ∧ sDy E m ≤ d)) ∨ ∃ m : Nat, i = (m : Int) ∧ m < sNl E ∧ g m = s ∧ sCo E m = w ∧ sDy E m ≤ d) → (sFd g s (sMu E w d) c k i = -1 ∧ ∀ m : Nat, m < sNl E → g m = s → ¬ (sCo E m = w ∧ sDy E m ≤ d)) ∨ ∃ m : Nat, sFd g s (sMu E w d) c k i = (m : Int) ∧ m < sNl E ∧ g m = s ∧ sCo E m = w ∧ sDy E m ≤ d := by
  intro c
  induction c with
  | zero =>
    intro k i hk h
    rcases h with ⟨h1, h2⟩ | h
    · exact Or.inl ⟨h1, fun m hm => h2 m (by omega)⟩
    · exact Or.inr h
  | succ c ih =>
    intro k i hk h
    refine ih (k + 1) _ (by omega) ?_
    by_cases z : g k = s
    · rw [if_pos z]
      unfold sMu
      by_cases q : sCo E k = w ∧ sDy E k ≤ d ∧ (i < 0 ∨ sDy E i.toNat ≤ sDy E k)
      · rw [if_pos q]
        exact Or.inr ⟨k, rfl, by omega, z, q.1, q.2.1⟩
      · rw [if_neg q]
        rcases h with ⟨h1, h2⟩ | h
        · refine Or.inl ⟨h1, fun m hm hs hw => ?_⟩
          by_cases e : m = k
          · rw [e] at hw
            exact q ⟨hw.1, hw.2, Or.inl (by omega)⟩
          · exact h2 m (by omega) hs hw
        · exact Or.inr h
    · rw [if_neg z]
      rcases h with ⟨h1, h2⟩ | h
      · refine Or.inl ⟨h1, fun m hm hs => ?_⟩
        by_cases e : m = k
        · rw [e] at hs; exact absurd hs z
        · exact h2 m (by omega) hs
      · exact Or.inr h
theorem sMo_p {E : pE} {g : Nat → Int} {s w d : Int} : (sMo E g s w d = -1 ∧ ∀ m : Nat, m < sNl E → g m = s → ¬ (sCo E m = w ∧ sDy E m ≤ d)) ∨ ∃ m : Nat, sMo E g s w d = (m : Int) ∧ m < sNl E ∧ g m = s ∧ sCo E m = w ∧ sDy E m ≤ d := sMo_a (sNl E) 0 (-1) (by omega) (Or.inl ⟨rfl, fun m hm => absurd hm (Nat.not_lt_zero _)⟩)
theorem sMo_h {E : pE} {g : Nat → Int} {s w d : Int} : sMo E g s w d = -1 ↔ ¬ sHb E g s w d := by
  rcases @sMo_p E g s w d with ⟨h1, h2⟩ | ⟨m, h1, h2, h3, h4, h5⟩
  · exact ⟨fun _ ⟨m, m1, m2, m3, m4⟩ => h2 m m1 m2 ⟨m3, m4⟩, fun _ => h1⟩
  · exact ⟨fun h => by omega, fun h => absurd ⟨m, h2, h3, h4, h5⟩ h⟩
/-! MENTIONS of one SOUL may be one -/
def sGw (E : pE) (g : Nat → Int) : Prop := ∀ a b : Nat, a < sNl E → b < sNl E → a ≠ b → g a ≠ -1 → g a = g b → sWhy E a b = 0
theorem sGk_w {E : pE} {d : Int} : ∀ k : Nat, sGw E (sGk E d k).1 := by
  intro k
  induction k with
  | zero =>
    intro a b ha hb n h1 h2
    change sG0 E d a ≠ -1 at h1
    change sG0 E d a = sG0 E d b at h2
    exfalso
    unfold sG0 at h1 h2
    repeat' split at h2
    all_goals omega
  | succ k ih =>
    show sGw E (sBs E d k (sGk E d k)).1
    unfold sBs
    by_cases c : sBk E k (sGk E d k).1 d
    · rw [if_pos c]
      by_cases t : tv (sCj E (sGk E d k).1 ((sGk E d k).1 (E.1 (18140 + 3 * k)).toNat) ((sGk E d k).1 (E.1 (18141 + 3 * k)).toNat)) = 0
      · rw [if_pos t]; exact ih
      · rw [if_neg t]
        have cj : sCj E (sGk E d k).1 ((sGk E d k).1 (E.1 (18140 + 3 * k)).toNat) ((sGk E d k).1 (E.1 (18141 + 3 * k)).toNat) := Classical.byContradiction fun h => t (tv_f h)
        have cs := sCj_s.1 cj
        obtain ⟨_, c2, c3, c4⟩ := c
        generalize (sGk E d k).1 (E.1 (18140 + 3 * k)).toNat = p at *
        generalize (sGk E d k).1 (E.1 (18141 + 3 * k)).toNat = q at *
        intro a b ha hb n h1 h2
        change sJn (sGk E d k).1 p q a ≠ -1 at h1
        change sJn (sGk E d k).1 p q a = sJn (sGk E d k).1 p q b at h2
        unfold sJn at h1 h2
        have ihab := ih a b ha hb n
        have cab := cj a b ha hb
        have sab := cs a b ha hb
        generalize (sGk E d k).1 a = x at *
        generalize (sGk E d k).1 b = y at *
        by_cases e : x = y
        · refine ihab (fun z => h1 ?_) e
          rw [if_neg (by omega)]
          exact z
        · rcases Int.le_total p q with pq | pq
          · rw [show max p q = q from by omega, show min p q = p from by omega] at h2
            by_cases xq : x = q
            · rw [if_pos xq] at h2
              by_cases yq : y = q
              · exact absurd (xq.trans yq.symm) e
              · rw [if_neg yq] at h2
                exact sab xq h2.symm
            · rw [if_neg xq] at h2
              by_cases yq : y = q
              · rw [if_pos yq] at h2
                exact cab h2 yq
              · rw [if_neg yq] at h2
                exact absurd h2 e
          · rw [show max p q = p from by omega, show min p q = q from by omega] at h2
            by_cases xq : x = p
            · rw [if_pos xq] at h2
              by_cases yq : y = p
              · exact absurd (xq.trans yq.symm) e
              · rw [if_neg yq] at h2
                exact cab xq h2.symm
            · rw [if_neg xq] at h2
              by_cases yq : y = p
              · rw [if_pos yq] at h2
                exact sab h2 yq
              · rw [if_neg yq] at h2
                exact absurd h2 e
    · rw [if_neg c]; exact ih
theorem sWhy_0 {E : pE} {a b : Nat} (h : sWhy E a b = 0) : ¬ sFv E a b := by
  intro f
  unfold sWhy sW1 sW2 at h
  rw [if_pos f] at h
  repeat' split at h
  all_goals omega
theorem sGw_u {E : pE} {g : Nat → Int} {s : Int} (W : sGw E g) (hs : s ≠ -1) {a b : Nat} (ha : a < sNl E) (hb : b < sNl E) (ga : g a = s) (gb : g b = s) (ca : sCo E a = 0) (cb : sCo E b = 0) : a = b := Classical.byContradiction fun n => sWhy_0 (W a b ha hb n (by omega) (by omega)) (Or.inl ⟨ca, cb⟩)
/-- the birth of a SOUL at the class's -/
theorem bi_s {X : jW} {r : Nat} {m n : Int} : d_X7_birthOf_r78d_4 (r + 1) m n X = if m = -1 then -1 else if 600 ≤ n then -1 else if X.1 79 m.toNat = 0 then m else d_X7_birthOf_r78d_4 r (X.1 83 m.toNat) (n + 1) X := rfl
theorem bi_e {X : jW} {E : pE} {g : Nat → Int} {s : Int} (P : pXs X E g) (hs : s ≠ -1) : ∀ (c k r n : Nat), sNl E - k = c → c < r → n ≤ k → (d_X7_birthOf_r78d_4 r (ft g s (sNl E) k) (n : Int) X = -1 ∧ ∀ m : Nat, k ≤ m → m < sNl E → g m = s → sCo E m ≠ 0) ∨ ∃ m : Nat, d_X7_birthOf_r78d_4 r (ft g s (sNl E) k) (n : Int) X = (m : Int) ∧ m < sNl E ∧ g m = s ∧ sCo E m = 0 := by
  have h6 := xs_6 P
  intro c
  induction c with
  | zero =>
    intro k r n hc hr hk
    obtain ⟨r', rfl⟩ : ∃ r', r = r' + 1 := ⟨r - 1, by omega⟩
    rw [ft_o (by omega), bi_s, if_pos rfl]
    exact Or.inl ⟨rfl, fun m m1 m2 => by omega⟩
  | succ c ih =>
    intro k r n hc hr hk
    by_cases z : g k = s
    · obtain ⟨r', rfl⟩ : ∃ r', r = r' + 1 := ⟨r - 1, by omega⟩
      have l1 := (@xs_l X E g P k (by omega)).1
      rw [ft_y (by omega) z, bi_s, if_neg (show ¬ (k : Int) = -1 from by omega), if_neg (show ¬ (600 : Int) ≤ (n : Int) from by omega), show ((k : Int)).toNat = k from by omega, l1, xs_n P hs k (by omega) z]
      by_cases q : sCo E k = 0
      · rw [if_pos q]
        exact Or.inr ⟨k, rfl, by omega, z, q⟩
      · have y := ih (k + 1) r' (n + 1) (by omega) (by omega) (by omega)
        rw [show ((n + 1 : Nat) : Int) = (n : Int) + 1 from by omega] at y
        rw [if_neg q]
        rcases y with ⟨y1, y2⟩ | y
        · refine Or.inl ⟨y1, fun m m1 m2 m3 => ?_⟩
          by_cases e : m = k
          · rw [e]; exact q
          · exact y2 m (by omega) m2 m3
        · exact Or.inr y
    · rw [ft_n (by omega) z]
      rcases ih (k + 1) r n (by omega) (by omega) (by omega) with ⟨y1, y2⟩ | y
      · refine Or.inl ⟨y1, fun m m1 m2 m3 => ?_⟩
        by_cases e : m = k
        · rw [e] at m3; exact absurd m3 z
        · exact y2 m (by omega) m2 m3
      · exact Or.inr y
theorem xbi {X : jW} {E : pE} {g : Nat → Int} (P : pXs X E g) (G : sGw E g) {p : Nat} (hp : p < sNl E) (ep : g p = (p : Int)) : d_X7_birthOf_r78d (p : Int) X = sMo E g (p : Int) 0 146399 := by
  have h6 := xs_6 P
  unfold d_X7_birthOf_r78d
  have y := @bi_e X E g (p : Int) P (by omega) _ 0 601 0 rfl (by omega) (by omega)
  rw [xs_f P hp ep, show ((0 : Nat) : Int) = 0 from rfl] at y
  rcases y with ⟨y1, y2⟩ | ⟨m, y1, y2, y3, y4⟩
  · rcases @sMo_p E g (p : Int) 0 146399 with ⟨h1, h2⟩ | ⟨m, h1, h2, h3, h4, h5⟩
    · rw [y1, h1]
    · exact absurd h4 (y2 m (by omega) h2 h3)
  · rcases @sMo_p E g (p : Int) 0 146399 with ⟨h1, h2⟩ | ⟨j, h1, h2, h3, h4, h5⟩
    · refine absurd ⟨y4, ?_⟩ (h2 m y2 y3)
      have mn := xs_m P (by omega) y2 y3
      exact (P.2.2.2.2.2.2.2 (m / 3) mn.1).2.2.1.2
    · rw [y1, h1, sGw_u G (by omega) y2 h2 y3 h3 y4 h4]
/-! SPANS by the reference -/
abbrev tpl (W : jW) : sT4 := (W.1 125 32, W.1 125 33, W.1 125 34, W.1 125 35)
theorem t4 {W : jW} {t : sT4} (h1 : W.1 125 32 = t.1) (h2 : W.1 125 33 = t.2.1) (h3 : W.1 125 34 = t.2.2.1) (h4 : W.1 125 35 = t.2.2.2) : tpl W = t := by
  show (W.1 125 32, W.1 125 33, W.1 125 34, W.1 125 35) = t
  rw [h1, h2, h3, h4]
theorem s195 {l2 l3 s0 s1 : Int} {W : jW} : tpl (d_X12_addSpan_r125d_195 l2 l3 s0 s1 W) = (if l2 = 2 then max (W.1 125 32) (l3 - 18300) else W.1 125 32, W.1 125 33, max s1 s0, W.1 125 35) := by
  unfold d_X12_addSpan_r125d_195 d_X12_addSpan_r125d_222
  refine t4 ?_ ?_ ?_ ?_
  all_goals repeat' split
  all_goals dsimp only
  all_goals repeat (first | rw [vu_e rfl] | rw [vu_n (by decide)])
  all_goals omega
theorem s170 {l2 l3 s0 s1 : Int} {W : jW} : tpl (d_X12_addSpan_r125d_170 l2 l3 s0 s1 W) = (if l2 = 2 then max (W.1 125 32) (l3 - 18300) else W.1 125 32, min s0 s1, max (W.1 125 34) (if l2 = 1 then l3 - 366 else l3), W.1 125 35) := by
  have e : ∀ v j, j ≠ 33 → (vu W 125 33 v).1 125 j = W.1 125 j := fun v j hj => vu_n (by omega)
  have e3 : ∀ v, (vu W 125 33 v).1 125 33 = v := fun v => vu_e rfl
  unfold d_X12_addSpan_r125d_170
  by_cases c : s0 ≤ s1
  · rw [if_pos c]
    by_cases c1 : l2 = 1
    · rw [if_pos c1, s195, e _ 32 (by decide), e3, e _ 35 (by decide), if_pos c1, show min s0 s1 = s0 from by omega]
    · rw [if_neg c1, s195, e _ 32 (by decide), e3, e _ 35 (by decide), if_neg c1, show min s0 s1 = s0 from by omega]
  · rw [if_neg c]
    by_cases c1 : l2 = 1
    · rw [if_pos c1, s195, e _ 32 (by decide), e3, e _ 35 (by decide), if_pos c1, show min s0 s1 = s1 from by omega]
    · rw [if_neg c1, s195, e _ 32 (by decide), e3, e _ 35 (by decide), if_neg c1, show min s0 s1 = s1 from by omega]
theorem s142 {l2 l3 : Int} {W : jW} : tpl (d_X12_addSpan_r125d_142 l2 l3 W) = (if l2 = 2 then max (W.1 125 32) (l3 - 18300) else W.1 125 32, min (W.1 125 33) (if 1 ≤ l2 ∧ l2 ≤ 4 then l3 - 5124 else l3), max (W.1 125 34) (if l2 = 1 then l3 - 366 else l3), W.1 125 35) := by
  unfold d_X12_addSpan_r125d_142 d_X12_addSpan_r125d_161
  rw [mMan, mWom]
  by_cases c : 1 ≤ l2 ∧ l2 ≤ 4
  · rw [if_pos c]
    by_cases c1 : l2 = 3 ∨ l2 = 1
    · rw [if_neg (show ¬ (if l2 = 3 ∨ l2 = 1 then (1 : Int) else 0) = 0 from by rw [if_pos c1]; decide), s170, show min (l3 - 5124) (W.1 125 33) = min (W.1 125 33) (l3 - 5124) from by omega]
    · rw [if_pos (show (if l2 = 3 ∨ l2 = 1 then (1 : Int) else 0) = 0 from if_neg c1), if_neg (show ¬ (if l2 = 4 ∨ l2 = 2 then (1 : Int) else 0) = 0 from by rw [if_pos (by omega)]; decide), s170, show min (l3 - 5124) (W.1 125 33) = min (W.1 125 33) (l3 - 5124) from by omega]
  · rw [if_neg c, if_pos (show (if l2 = 3 ∨ l2 = 1 then (1 : Int) else 0) = 0 from if_neg (by omega)), if_pos (show (if l2 = 4 ∨ l2 = 2 then (1 : Int) else 0) = 0 from if_neg (by omega)), s170, show min l3 (W.1 125 33) = min (W.1 125 33) l3 from by omega]
end jG23

section jG24
/-! pure: SPANS, years, relief by the reference -/
theorem q4 {a b c d a' b' c' dx9 : Int} (h1 : a = a') (h2 : b = b') (h3 : c = c') (h4 : d = dx9) : ((a, b, c, d) : sT4) = (a', b', c', dx9) := by rw [h1, h2, h3, h4]
theorem s40n {l1 l2 l3 : Int} {W : jW} (h : ¬ l2 = 5) : tpl (d_X12_addSpan_r125d_40 l1 l2 l3 W) = (if l2 = 2 then max (W.1 125 32) (l3 - 18300) else W.1 125 32, min (W.1 125 33) (if 1 ≤ l2 ∧ l2 ≤ 4 then l3 - 5124 else l3), max (W.1 125 34) (if l2 = 1 then l3 - 366 else l3), W.1 125 35) := by
  unfold d_X12_addSpan_r125d_40
  rw [if_neg h, s142]
theorem s142_5 {l3 : Int} {V : jW} : tpl (d_X12_addSpan_r125d_142 5 l3 V) = (V.1 125 32, min (V.1 125 33) l3, max (V.1 125 34) l3, V.1 125 35) := by
  rw [s142, if_neg (by decide), if_neg (by decide), if_neg (by decide)]
def sB5 (E : pE) (m : Nat) : Int := j_imul (j_isub (j_isub (sDy E m / 366) (sNu E m)) E.2.2.2.2) 366
def sC5 (E : pE) (m : Nat) : Int := j_isub (j_iadd (j_imul (j_iadd (j_isub (sDy E m / 366) (sNu E m)) E.2.2.2.2) 366) 366) 1
theorem s40y {a : Nat} {W : jW} (I : pIr (eOf W)) (ha : sMn (eOf W) a) : tpl (d_X12_addSpan_r125d_40 (a : Int) 5 (sDy (eOf W) a) W) = (if sCo (eOf W) a = 5 ∧ ¬ sNu (eOf W) a = -1 then max (W.1 125 32) (sB5 (eOf W) a) else W.1 125 32, if sCo (eOf W) a = 5 ∧ ¬ sNu (eOf W) a = -1 then min (min (W.1 125 33) (sDy (eOf W) a)) (sC5 (eOf W) a) else min (W.1 125 33) (sDy (eOf W) a), max (W.1 125 34) (sDy (eOf W) a), min (W.1 125 35) (sDy (eOf W) a)) := by
  have hg : ∀ x y : Int, d_X12_hasAge_r125d (a : Int) (vu (vu W 125 34 x) 125 35 y) = if sCo (eOf W) a = 5 ∧ ¬ sNu (eOf W) a = -1 then 1 else 0 := fun x y => by
    have e : eOf (vu (vu W 125 34 x) 125 35 y) = eOf W := by
      unfold eOf
      rw [vu_c (by decide), vu_c (by decide), vu_c (by decide), vu_c (by decide), vu_c (by decide), vu_c (by decide), vu_c (by decide), vu_c (by decide), vu_n (by decide), vu_n (by decide)]
    have z := @mhg (vu (vu W 125 34 x) 125 35 y) a (by rw [e]; exact I) (by rw [e]; exact ha)
    rw [e] at z
    exact z
  have s0 : (eOf W).2.2.2.2 = W.1 125 27 := rfl
  unfold d_X12_addSpan_r125d_40
  rw [if_pos (c := (5 : Int) = 5) rfl, hg, hg, hg, hg, mnu]
  show tpl (if _ then _ else _) = (if sCo (eOf W) a = 5 ∧ ¬ sNu (eOf W) a = -1 then max (W.1 125 32) (j_imul (j_isub (j_isub (sDy (eOf W) a / 366) (sNu (eOf W) a)) (W.1 125 27)) 366) else W.1 125 32, if sCo (eOf W) a = 5 ∧ ¬ sNu (eOf W) a = -1 then min (min (W.1 125 33) (sDy (eOf W) a)) (j_isub (j_iadd (j_imul (j_iadd (j_isub (sDy (eOf W) a / 366) (sNu (eOf W) a)) (W.1 125 27)) 366) 366) 1) else min (W.1 125 33) (sDy (eOf W) a), max (W.1 125 34) (sDy (eOf W) a), min (W.1 125 35) (sDy (eOf W) a))
  generalize j_imul (j_isub (j_isub (sDy (eOf W) a / 366) (sNu (eOf W) a)) (W.1 125 27)) 366 = B
  generalize j_isub (j_iadd (j_imul (j_iadd (j_isub (sDy (eOf W) a / 366) (sNu (eOf W) a)) (W.1 125 27)) 366) 366) 1 = C
  generalize sDy (eOf W) a = l3
  by_cases g : sCo (eOf W) a = 5 ∧ ¬ sNu (eOf W) a = -1
  · rw [if_pos g, if_pos g, if_pos g]
    have n1 : ¬ (1 : Int) = 0 := by decide
    rw [if_neg n1, if_neg n1, if_neg n1, if_neg n1]
    repeat' split
    all_goals rw [s142_5]
    all_goals refine q4 ?_ ?_ ?_ ?_
    all_goals repeat (first | rw [vu_e rfl] | rw [vu_n (by decide)])
    all_goals omega
  · rw [if_neg g, if_neg g, if_neg g]
    rw [if_pos (c := (0 : Int) = 0) rfl, if_pos (c := (0 : Int) = 0) rfl, if_pos (c := (0 : Int) = 0) rfl, if_pos (c := (0 : Int) = 0) rfl]
    repeat' split
    all_goals rw [s142_5]
    all_goals refine q4 ?_ ?_ ?_ ?_
    all_goals repeat (first | rw [vu_e rfl] | rw [vu_n (by decide)])
    all_goals omega
theorem mas {k : Nat} {W : jW} (I : pIr (eOf W)) (ha : sMn (eOf W) k) : tpl (d_X12_addSpan_r125d (k : Int) W) = sSu (eOf W) (tpl W) k := by
  have pa := mpa I ha
  have cb := co_b I ha
  unfold d_X12_addSpan_r125d
  rw [mdy]
  have e : ∀ x y : Int, eOf (vu (vu W 125 32 x) 125 33 y) = eOf W := fun x y => by
    unfold eOf
    rw [vu_c (by decide), vu_c (by decide), vu_c (by decide), vu_c (by decide), vu_c (by decide), vu_c (by decide), vu_c (by decide), vu_c (by decide), vu_n (by decide), vu_n (by decide)]
  by_cases c0 : sCo (eOf W) k = 0
  · have p0 : d_X12_partOf_r125d (k : Int) W = 0 := by omega
    rw [p0, if_pos (c := (0 : Int) = 0) rfl]
    unfold sSu
    rw [if_pos c0, if_neg (show ¬ (sCo (eOf W) k = 5 ∧ ¬ sNu (eOf W) k = -1) from by omega), if_neg (show ¬ (1 ≤ sCo (eOf W) k ∧ sCo (eOf W) k ≤ 4) from by omega), if_neg (show ¬ sCo (eOf W) k = 1 from by omega), if_neg (show ¬ sCo (eOf W) k = 5 from by omega)]
    generalize sDy (eOf W) k = l3
    repeat' split
    all_goals rw [s40n (by decide), if_neg (by decide), if_neg (by decide), if_neg (by decide)]
    all_goals refine q4 ?_ ?_ ?_ ?_
    all_goals dsimp only
    all_goals repeat (first | rw [vu_e rfl] | rw [vu_n (by decide)])
    all_goals omega
  · rw [if_neg (by omega)]
    by_cases c5 : sCo (eOf W) k = 5
    · rw [show d_X12_partOf_r125d (k : Int) W = 5 from by omega, s40y I ha]
      unfold sSu
      rw [if_neg c0, if_neg (show ¬ sCo (eOf W) k = 2 from by omega), if_neg (show ¬ (1 ≤ sCo (eOf W) k ∧ sCo (eOf W) k ≤ 4) from by omega), if_neg (show ¬ sCo (eOf W) k = 1 from by omega), if_pos c5]
      rfl
    · rw [s40n (by omega)]
      unfold sSu
      rw [if_neg c0, if_neg (show ¬ (sCo (eOf W) k = 5 ∧ ¬ sNu (eOf W) k = -1) from by omega), if_neg c5, if_neg (show ¬ (sCo (eOf W) k = 5 ∧ ¬ sNu (eOf W) k = -1) from by omega)]
      refine q4 ?_ ?_ ?_ ?_
      · by_cases c2 : sCo (eOf W) k = 2
        · rw [if_pos (by omega), if_pos c2]
        · rw [if_neg (by omega), if_neg c2]
      · by_cases c2 : 1 ≤ sCo (eOf W) k ∧ sCo (eOf W) k ≤ 4
        · rw [if_pos (by omega), if_pos c2]
        · rw [if_neg (by omega), if_neg c2]
      · by_cases c2 : sCo (eOf W) k = 1
        · rw [if_pos (by omega), if_pos c2]
        · rw [if_neg (by omega), if_neg c2]
      · rfl
def sI4 (t : sT4) : Prop := 0 ≤ t.1 ∧ t.2.1 ≤ 146399 ∧ (0 ≤ t.2.2.1 ∧ t.2.2.1 ≤ 146399) ∧ t.2.2.2 ≤ 146399
theorem sSu_i {E : pE} {t : sT4} {m : Nat} (I : pIr E) (h : sMn E m) (q : sI4 t) : sI4 (sSu E t m) := by
  have d := (I (m / 3) h.1).2.2.1
  change 0 ≤ sDy E m ∧ sDy E m ≤ 146399 at d
  obtain ⟨q1, q2, q3, q4⟩ := q
  unfold sI4 sSu
  dsimp only
  refine ⟨?_, ?_, ⟨?_, ?_⟩, ?_⟩
  all_goals repeat' split
  all_goals omega
theorem fs_s {r : Nat} {s k : Int} {W : jW} (h : ¬ 3 * W.1 126 0 ≤ k) : d_X12_findSpan_r125d_26 (r + 1) s k W = d_X12_findSpan_r125d_26 r s (k + 1) (if W.1 139 k.toNat = s then d_X12_addSpan_r125d k W else W) := by
  show (if 3 * W.1 126 0 ≤ k then _ else if W.1 139 k.toNat = s then _ else _) = _
  rw [if_neg h]
  by_cases c : W.1 139 k.toNat = s
  · rw [if_pos c, if_pos c]; rfl
  · rw [if_neg c, if_neg c]; rfl
theorem fs_0 {r : Nat} {s k : Int} {W : jW} (h : 3 * W.1 126 0 ≤ k) (q : sI4 (tpl W)) : tpl (d_X12_findSpan_r125d_26 (r + 1) s k W) = sSf (tpl W) := by
  obtain ⟨q1, q2, q3, q4'⟩ := q
  change 0 ≤ W.1 125 32 at q1
  change W.1 125 33 ≤ 146399 at q2
  change 0 ≤ W.1 125 34 ∧ W.1 125 34 ≤ 146399 at q3
  change W.1 125 35 ≤ 146399 at q4'
  refine t4 ?_ ?_ ?_ ?_
  · show (if 3 * W.1 126 0 ≤ k then _ else _ : jW).1 125 32 = max 0 (min 146399 (max (W.1 125 32) (W.1 125 34 - 40260)))
    rw [if_pos h]
    repeat' split
    all_goals repeat (first | rw [vu_e rfl] | rw [vu_n (by decide)])
    all_goals omega
  · show (if 3 * W.1 126 0 ≤ k then _ else _ : jW).1 125 33 = max 0 (min 146399 (W.1 125 33))
    rw [if_pos h]
    repeat' split
    all_goals repeat (first | rw [vu_e rfl] | rw [vu_n (by decide)])
    all_goals omega
  · show (if 3 * W.1 126 0 ≤ k then _ else _ : jW).1 125 34 = max 0 (min 146399 (W.1 125 34))
    rw [if_pos h]
    repeat' split
    all_goals repeat (first | rw [vu_e rfl] | rw [vu_n (by decide)])
    all_goals omega
  · show (if 3 * W.1 126 0 ≤ k then _ else _ : jW).1 125 35 = max 0 (min 146399 (min (W.1 125 35) (W.1 125 33 + 40260)))
    rw [if_pos h]
    repeat' split
    all_goals repeat (first | rw [vu_e rfl] | rw [vu_n (by decide)])
    all_goals omega
theorem fs_e {E : pE} {g : Nat → Int} {s : Int} (hs : s ≠ -1) : ∀ (c k r : Nat) (W : jW), k + c = sNl E → c < r → pMs W E g → sI4 (tpl W) → tpl (d_X12_findSpan_r125d_26 r s (k : Int) W) = sSf (sFd g s (sSu E) c k (tpl W)) := by
  intro c
  induction c with
  | zero =>
    intro k r W hk hr P q
    obtain ⟨r', rfl⟩ : ∃ r', r = r' + 1 := ⟨r - 1, by omega⟩
    exact fs_0 (by rw [ms_3 P]; omega) q
  | succ c ih =>
    intro k r W hk hr P q
    obtain ⟨r', rfl⟩ : ∃ r', r = r' + 1 := ⟨r - 1, by omega⟩
    rw [fs_s (by rw [ms_3 P]; omega), show ((k : Int)).toNat = k from by omega, P.2.2.2.2.2.2 k (by omega)]
    show _ = sSf (sFd g s (sSu E) c (k + 1) (if g k = s then sSu E (tpl W) k else tpl W))
    by_cases z : g k = s
    · rw [if_pos z, if_pos z]
      have mn := ms_m P hs (by omega) z
      have a := @mas k W (by rw [P.1]; exact P.2.1) (by rw [P.1]; exact mn)
      rw [P.1] at a
      have F := fr_d_X12_addSpan_r125d (k : Int) W
      have P' : pMs (d_X12_addSpan_r125d (k : Int) W) E g := ⟨(eo_f F rfl rfl rfl rfl rfl).trans P.1, P.2.1, P.2.2.1, P.2.2.2.1, P.2.2.2.2.1, P.2.2.2.2.2.1, fun m hm => by rw [pF_c F rfl]; exact P.2.2.2.2.2.2 m hm⟩
      have y := ih (k + 1) r' _ (by omega) (by omega) P' (by rw [a]; exact sSu_i P.2.1 mn q)
      rw [show ((k + 1 : Nat) : Int) = (k : Int) + 1 from by omega, a] at y
      exact y
    · rw [if_neg z, if_neg z]
      have y := ih (k + 1) r' W (by omega) (by omega) P q
      rw [show ((k + 1 : Nat) : Int) = (k : Int) + 1 from by omega] at y
      exact y
theorem msp {M : jW} {E : pE} {g : Nat → Int} {s : Int} (P : pMs M E g) (hs : s ≠ -1) : tpl (d_X12_findSpan_r125d s M) = sSn E g s := by
  unfold d_X12_findSpan_r125d
  have F : pF [(125, 33), (125, 34), (125, 35), (125, 36)] M (vu (vu (vu (vu M 125 32 0) 125 33 146399) 125 34 0) 125 35 146399) := pF_u (pF_u (pF_u (pF_u pF_r rfl) rfl) rfl) rfl
  have P' : pMs (vu (vu (vu (vu M 125 32 0) 125 33 146399) 125 34 0) 125 35 146399) E g := ⟨(eo_f F rfl rfl rfl rfl rfl).trans P.1, P.2.1, P.2.2.1, P.2.2.2.1, P.2.2.2.2.1, P.2.2.2.2.2.1, fun m hm => by rw [pF_c F rfl]; exact P.2.2.2.2.2.2 m hm⟩
  have t : tpl (vu (vu (vu (vu M 125 32 0) 125 33 146399) 125 34 0) 125 35 146399) = (0, 146399, 0, 146399) := by
    refine t4 ?_ ?_ ?_ ?_
    all_goals repeat (first | rw [vu_e rfl] | rw [vu_n (by decide)])
  have b := P.2.2.2.2.2.1
  have y := @fs_e E g s hs (sNl E) 0 601 _ (by omega) (by unfold sNl; omega) P' (by rw [t]; unfold sI4; decide)
  rw [t, show ((0 : Nat) : Int) = 0 from rfl] at y
  exact y
/-! years -/
def sYu (E : pE) (d x : Int) (m : Nat) : Int := if sDy E m ≤ d ∧ (x < 0 ∨ sDy E m < x) then sDy E m else x
theorem yf_r {E : pE} {g : Nat → Int} {s d : Int} (I : pIr E) (gi : sGi E g) (hs : s ≠ -1) : ∀ (c k : Nat) (x y : Int), k + c = sNl E → ((x < 0 ∧ y = d) ∨ (0 ≤ x ∧ y = x ∧ x ≤ d)) → ((sFd g s (sYu E d) c k x < 0 ∧ sFd g s (fun x m => min x (sDy E m)) c k y = d) ∨ (0 ≤ sFd g s (sYu E d) c k x ∧ sFd g s (fun x m => min x (sDy E m)) c k y = sFd g s (sYu E d) c k x ∧ sFd g s (sYu E d) c k x ≤ d)) := by
  intro c
  induction c with
  | zero => intro k x y _ h; exact h
  | succ c ih =>
    intro k x y hk h
    refine ih (k + 1) _ _ (by omega) ?_
    by_cases z : g k = s
    · have mn : sMn E k := by
        rcases gi k (by omega) with q | q
        · exact absurd (z.symm.trans q) hs
        · exact q.1
      have dd := (I (k / 3) mn.1).2.2.1
      change 0 ≤ sDy E k ∧ sDy E k ≤ 146399 at dd
      rw [if_pos z, if_pos z]
      unfold sYu
      dsimp only
      split
      · right; omega
      · omega
    · rw [if_neg z, if_neg z]; exact h
theorem yo_s {r : Nat} {s d x k : Int} {M : jW} : d_X12_yearsOf_r125d_5 (r + 1) s d x k M = if 3 * M.1 126 0 ≤ k then (if 0 ≤ x then j_idiv (d - x) 366 else 0) else d_X12_yearsOf_r125d_5 r s d (if M.1 139 k.toNat = s ∧ ¬ d < d_X12_dayAt_r125d k M ∧ (x < 0 ∨ ¬ x ≤ d_X12_dayAt_r125d k M) then d_X12_dayAt_r125d k M else x) (k + 1) M := by
  show (if 3 * M.1 126 0 ≤ k then (if 0 ≤ x then _ else _) else if M.1 139 k.toNat = s then (if d < d_X12_dayAt_r125d k M then _ else _) else _) = _
  unfold d_X12_yearsOf_r125d_300044
  repeat' split
  all_goals first
    | rfl
    | (exfalso; omega)
theorem myo {M : jW} {E : pE} {g : Nat → Int} {s d : Int} (P : pMs M E g) (hs : s ≠ -1) (hd : 0 ≤ d ∧ d ≤ 146399) : d_X12_yearsOf_r125d s d M = j_idiv (d - sFy E g s d) 366 := by
  have h3 := ms_3 P
  have b := P.2.2.2.2.2.1
  unfold d_X12_yearsOf_r125d
  have key := @ml_f Int Int g (sNl E) s (fun r k x => d_X12_yearsOf_r125d_5 r s d x k M) (sYu E d) (fun x => if 0 ≤ x then j_idiv (d - x) 366 else 0) (fun r k x hk => by
    show d_X12_yearsOf_r125d_5 (r + 1) s d x (k : Int) M = _
    rw [yo_s, if_pos (by omega)]) (fun r k x hk => by
    show d_X12_yearsOf_r125d_5 (r + 1) s d x (k : Int) M = d_X12_yearsOf_r125d_5 r s d (if g k = s then sYu E d x k else x) ((k : Int) + 1) M
    rw [yo_s, if_neg (by omega), show ((k : Int)).toNat = k from by omega, P.2.2.2.2.2.2 k hk, mdy, P.1]
    congr 1
    unfold sYu
    by_cases z : g k = s
    · rw [if_pos z]
      by_cases q : sDy E k ≤ d ∧ (x < 0 ∨ sDy E k < x)
      · rw [if_pos q, if_pos ⟨z, by omega, by omega⟩]
      · rw [if_neg q, if_neg (fun y => q ⟨by omega, by omega⟩)]
    · rw [if_neg z, if_neg (fun y => z y.1)]) (sNl E) 0 601 (-1) rfl (by unfold sNl; omega)
  refine key.trans ?_
  have R := @yf_r E g s d P.2.1 P.2.2.2.2.1 hs (sNl E) 0 (-1) d (by omega) (Or.inl ⟨by decide, rfl⟩)
  unfold sFy
  rcases R with ⟨r1, r2⟩ | ⟨r1, r2, r3⟩
  · rw [r2, if_neg (by omega)]
    rw [show d - d = 0 from by omega]
    rfl
  · rw [r2, if_pos r1]
/-! relief -/
theorem sFd_3 {α : Type} {g : Nat → Int} {s : Int} {f : α → Nat → α} {c k : Nat} {x : α} : sFd g s f (c + 3) k x = sFd g s f c (k + 3) (let x1 := if g k = s then f x k else x; let x2 := if g (k + 1) = s then f x1 (k + 1) else x1; if g (k + 2) = s then f x2 (k + 2) else x2) := rfl
theorem re_s {r : Nat} {s a b x l : Int} {M : jW} : d_X12_reliefOf_r125d_6 (r + 1) s a b x l M = if M.1 126 0 ≤ l then x else d_X12_reliefOf_r125d_6 r s a b (if M.1 126 (20 + 90 * l).toNat = 4 ∧ M.1 139 (3 * l).toNat = s ∧ a ≤ M.1 126 (20 + 90 * l + 2).toNat ∧ M.1 126 (20 + 90 * l + 2).toNat ≤ b then j_iadd x (M.1 126 (20 + 90 * l + 4).toNat) else x + 0) (l + 1) M := by
  show (if M.1 126 0 ≤ l then x else if M.1 126 (20 + 90 * l).toNat = 4 then (if M.1 139 (3 * l).toNat = s then (if a ≤ M.1 126 (20 + 90 * l + 2).toNat ∧ M.1 126 (20 + 90 * l + 2).toNat ≤ b then _ else _) else _) else _) = _
  repeat' split
  all_goals first
    | rfl
    | (exfalso; omega)
theorem co_7 {E : pE} (I : pIr E) {m : Nat} (h : ((m / 3 : Nat) : Int) < E.1 0) : sCo E m = 7 ↔ (m % 3 = 0 ∧ E.1 (20 + 90 * (m / 3)) = 4) := by
  have b := (I (m / 3) h).1
  have m3 : m % 3 < 3 := Nat.mod_lt _ (by decide)
  unfold sCo sRo
  constructor
  · intro q
    repeat' split at q
    all_goals omega
  · intro q
    rw [if_neg (by rw [if_neg (by omega), if_neg (by omega)]; omega), if_neg (by omega), if_neg (by omega)]
    omega
theorem re_e {M : jW} {E : pE} {g : Nat → Int} {s a b : Int} (P : pMs M E g) (hs : s ≠ -1) : ∀ (c l r : Nat) (x : Int), ((l + c : Nat) : Int) = E.1 0 → c < r → d_X12_reliefOf_r125d_6 r s a b x (l : Int) M = sFd g s (fun x m => if sCo E m = 7 ∧ a ≤ sDy E m ∧ sDy E m ≤ b then j_iadd x (sNu E m) else x) (3 * c) (3 * l) x := by
  have w : M.1 126 = E.1 := congrArg (fun z : pE => z.1) P.1
  intro c
  induction c with
  | zero =>
    intro l r x hl hr
    obtain ⟨r', rfl⟩ : ∃ r', r = r' + 1 := ⟨r - 1, by omega⟩
    rw [re_s, w, if_pos (by omega)]
    rfl
  | succ c ih =>
    intro l r x hl hr
    obtain ⟨r', rfl⟩ : ∃ r', r = r' + 1 := ⟨r - 1, by omega⟩
    have N3 : sNl E = 3 * (l + (c + 1)) := by unfold sNl; omega
    rw [re_s, w, if_neg (by omega), show 3 * (c + 1) = 3 * c + 3 from by omega, sFd_3]
    have y := ih (l + 1) r' (if E.1 (20 + 90 * l) = 4 ∧ g (3 * l) = s ∧ a ≤ sDy E (3 * l) ∧ sDy E (3 * l) ≤ b then j_iadd x (sNu E (3 * l)) else x) (by omega) (by omega)
    rw [show ((l + 1 : Nat) : Int) = (l : Int) + 1 from by omega, show 3 * (l + 1) = 3 * l + 3 from by omega] at y
    have d0 : ∀ j, j < 3 → (3 * l + j) / 3 = l := fun j hj => by omega
    have e1 : sDy E (3 * l) = E.1 (22 + 90 * l) := by unfold sDy; rw [show 3 * l / 3 = l from by omega]
    have e2 : sNu E (3 * l) = E.1 (24 + 90 * l) := by unfold sNu; rw [show 3 * l / 3 = l from by omega]
    have c0 := @co_7 E P.2.1 (3 * l) (by rw [show 3 * l / 3 = l from by omega]; omega)
    have c1 := @co_7 E P.2.1 (3 * l + 1) (by rw [d0 1 (by decide)]; omega)
    have c2 := @co_7 E P.2.1 (3 * l + 2) (by rw [d0 2 (by decide)]; omega)
    rw [show 3 * l / 3 = l from by omega] at c0
    rw [show (20 + 90 * (l : Int)).toNat = 20 + 90 * l from by omega, show (20 + 90 * (l : Int) + 2).toNat = 22 + 90 * l from by omega, show (20 + 90 * (l : Int) + 4).toNat = 24 + 90 * l from by omega, show (3 * (l : Int)).toNat = 3 * l from by omega, P.2.2.2.2.2.2 (3 * l) (by omega), ← e1, ← e2, Int.add_zero, y]
    congr 1
    dsimp only
    have n1 : ¬ sCo E (3 * l + 1) = 7 := fun q => by have := (c1.1 q).1; omega
    have n2 : ¬ sCo E (3 * l + 2) = 7 := fun q => by have := (c2.1 q).1; omega
    rw [if_neg (fun q : sCo E (3 * l + 1) = 7 ∧ _ => n1 q.1), if_neg (fun q : sCo E (3 * l + 2) = 7 ∧ _ => n2 q.1)]
    have i1 : ∀ (t : Int), (if g (3 * l + 1) = s then t else t) = t := fun t => by split <;> rfl
    have i2 : ∀ (t : Int), (if g (3 * l + 2) = s then t else t) = t := fun t => by split <;> rfl
    rw [i1, i2]
    by_cases z : g (3 * l) = s
    · rw [if_pos z]
      by_cases q : sCo E (3 * l) = 7 ∧ a ≤ sDy E (3 * l) ∧ sDy E (3 * l) ≤ b
      · rw [if_pos q, if_pos ⟨(c0.1 q.1).2, z, q.2.1, q.2.2⟩]
      · rw [if_neg q, if_neg (fun y => q ⟨c0.2 ⟨by omega, y.1⟩, y.2.2.1, y.2.2.2⟩)]
    · rw [if_neg z, if_neg (fun y => z y.2.1)]
theorem mre {M : jW} {E : pE} {g : Nat → Int} {s a b : Int} (P : pMs M E g) (hs : s ≠ -1) : d_X12_reliefOf_r125d s a b M = sRe E g s a b := by
  have bb := P.2.2.2.2.2.1
  unfold d_X12_reliefOf_r125d sRe
  have y := @re_e M E g s a b P hs (E.1 0).toNat 0 201 0 (by omega) (by omega)
  rw [show ((0 : Nat) : Int) = 0 from rfl] at y
  exact y
end jG24
