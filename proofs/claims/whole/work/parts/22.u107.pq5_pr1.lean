section jG103
/-! pure: all JOININGS, the class (wip/gen/joinx.py) -/
def pXj (W : jW) (w : Nat) (can mus : Nat → Nat → Prop) (wo : Nat → Nat → Int) : Prop := W.1 87 3 = (w : Int) ∧ (∀ a b : Nat, b < a → a < w → (W.1 89 (9 * a + b) = -1 ↔ ¬ can a b) ∧ (can a b → W.1 89 (9 * a + b) = wo a b) ∧ (0 ≤ wo a b ∧ wo a b ≤ 400)) ∧ ∀ a : Nat, a < w → (W.1 90 a = -1 ∧ ∀ b : Nat, b < a → ¬ mus a b) ∨ ∃ b : Nat, b < a ∧ W.1 90 a = (b : Int) ∧ mus a b
def pXa (w : Nat) (bd : Int) (W : jW) (a : pjB) : Prop := W.1 87 10 = a.1 ∧ W.1 87 11 = a.2.1 ∧ -1 ≤ a.1 ∧ (0 ≤ a.1 → ∀ j : Nat, j < w → W.1 92 j = a.2.2.1 j) ∧ ∀ v : Nat, (v : Int) ≤ bd → W.1 94 v = wr (a.2.2.2.1 (v : Int))
def pJf (J : Nat) (W V : jW) : Prop := (∀ c : Nat, c ≠ 87 → c ≠ 91 → c ≠ 92 → c ≠ 93 → c ≠ 94 → V.1 c = W.1 c) ∧ (∀ k : Nat, k ≠ 10 → k ≠ 11 → V.1 87 k = W.1 87 k) ∧ (∀ j : Nat, j < J → V.1 91 j = W.1 91 j) ∧ (∀ k : Nat, k < 10 * J → V.1 93 k = W.1 93 k) ∧ V.2 = W.2
theorem pJf_r {J : Nat} {W : jW} : pJf J W W := ⟨fun _ _ _ _ _ _ => rfl, fun _ _ _ => rfl, fun _ _ => rfl, fun _ _ => rfl, rfl⟩
theorem pJf_t {J : Nat} {W V U : jW} (h : pJf J W V) (i : pJf J V U) : pJf J W U := ⟨fun c a1 a2 a3 a4 a5 => (i.1 c a1 a2 a3 a4 a5).trans (h.1 c a1 a2 a3 a4 a5), fun k a b => (i.2.1 k a b).trans (h.2.1 k a b), fun j hj => (i.2.2.1 j hj).trans (h.2.2.1 j hj), fun k hk => (i.2.2.2.1 k hk).trans (h.2.2.2.1 k hk), i.2.2.2.2.trans h.2.2.2.2⟩
theorem pJf_w {J K : Nat} {W V : jW} (l : J ≤ K) (h : pJf K W V) : pJf J W V := ⟨h.1, h.2.1, fun j hj => h.2.2.1 j (by omega), fun k hk => h.2.2.2.1 k (by omega), h.2.2.2.2⟩
theorem pXj_f {J w : Nat} {can mus : Nat → Nat → Prop} {wo : Nat → Nat → Int} {W V : jW} (h : pJf J W V) (P : pXj W w can mus wo) : pXj V w can mus wo := by
  unfold pXj
  rw [h.1 89 (by decide) (by decide) (by decide) (by decide) (by decide), h.1 90 (by decide) (by decide) (by decide) (by decide) (by decide), h.2.1 3 (by decide) (by decide)]
  exact P
/-- what a JOINING comes to is noted -/
def ntX (l2 l3 : Int) (W : jW) : jW := (if l3 < 0 then (if l3 = (W.1 87 10) then (if (W.1 87 11) ≤ l2 then W else (vuC (vu (vu W 87 10 l3) 87 11 l2) 91 92 (0 : Int).toNat (0 : Int).toNat (9 : Int).toNat)) else W) else (if 14401 ≤ l3 then (if (W.1 87 10) < l3 then (vuC (vu (vu W 87 10 l3) 87 11 l2) 91 92 (0 : Int).toNat (0 : Int).toNat (9 : Int).toNat) else (if l3 = (W.1 87 10) then (if (W.1 87 11) ≤ l2 then W else (vuC (vu (vu W 87 10 l3) 87 11 l2) 91 92 (0 : Int).toNat (0 : Int).toNat (9 : Int).toNat)) else W)) else (if (W.1 87 10) < l3 then (vuC (vu (vu (vu W 94 l3.toNat (j_iadd (W.1 94 l3.toNat) 1)) 87 10 l3) 87 11 l2) 91 92 (0 : Int).toNat (0 : Int).toNat (9 : Int).toNat) else (if l3 = (W.1 87 10) then (if (W.1 87 11) ≤ l2 then (vu W 94 l3.toNat (j_iadd (W.1 94 l3.toNat) 1)) else (vuC (vu (vu (vu W 94 l3.toNat (j_iadd (W.1 94 l3.toNat) 1)) 87 10 l3) 87 11 l2) 91 92 (0 : Int).toNat (0 : Int).toNat (9 : Int).toNat)) else (vu W 94 l3.toNat (j_iadd (W.1 94 l3.toNat) 1))))))
section
variable {can mus : Nat → Nat → Prop} {wo : Nat → Nat → Int} {w : Nat} {bd : Int}
theorem ntJ_e {W : jW} {gr : Nat → Int} {m J : Nat} {ws : Int} {a : pjB} (h9 : w ≤ 9) (A : pXa w bd W a) (hg : ∀ j : Nat, j < w → W.1 91 j = gr j) (hs : 0 ≤ ws ∧ ws ≤ 14400) : pXa w bd (ntX (m : Int) ws W) (upB ws m gr a) ∧ pJf J W (ntX (m : Int) ws W) := by
  obtain ⟨a1, a2, a3, a4, a5⟩ := A
  have tl : ∀ v : Nat, (v : Int) ≤ bd → (vu W 94 ws.toNat (j_iadd (W.1 94 ws.toNat) 1)).1 94 v = wr (if (v : Int) = ws then a.2.2.2.1 (v : Int) + 1 else a.2.2.2.1 (v : Int)) := fun v hv => by
    by_cases z : (v : Int) = ws
    · rw [if_pos z, show ws.toNat = v from by omega]
      refine (vu_e rfl).trans ?_
      rw [a5 v hv, wr_s]
    · rw [if_neg z]
      exact (vu_n (by omega)).trans (a5 v hv)
  have f1 : pJf J W (vu W 94 ws.toNat (j_iadd (W.1 94 ws.toNat) 1)) := ⟨fun c _ _ _ _ h => vu_c h, fun k _ _ => vu_n (by omega), fun j _ => vu_n (by omega), fun k _ => vu_n (by omega), rfl⟩
  have up : pXa w bd (vuC (vu (vu (vu W 94 ws.toNat (j_iadd (W.1 94 ws.toNat) 1)) 87 10 ws) 87 11 (m : Int)) 91 92 (0 : Int).toNat (0 : Int).toNat (9 : Int).toNat) (ws, (m : Int), gr, (fun v => if v = ws then a.2.2.2.1 v + 1 else a.2.2.2.1 v), fun l => if l ≤ ws then a.2.2.2.2 l + 1 else a.2.2.2.2 l) ∧ pJf J W (vuC (vu (vu (vu W 94 ws.toNat (j_iadd (W.1 94 ws.toNat) 1)) 87 10 ws) 87 11 (m : Int)) 91 92 (0 : Int).toNat (0 : Int).toNat (9 : Int).toNat) := by
    have nc : ∀ (U : jW) (c k : Nat), c ≠ 92 → (vuC U 91 92 (0 : Int).toNat (0 : Int).toNat (9 : Int).toNat).1 c k = U.1 c k := fun U c k h => if_neg (fun z => h z.1)
    have yc : ∀ (U : jW) (k : Nat), k < 9 → (vuC U 91 92 (0 : Int).toNat (0 : Int).toNat (9 : Int).toNat).1 92 k = U.1 91 k := fun U k h => by
      have cc : 92 = 92 ∧ (0 : Int).toNat ≤ k ∧ k < (0 : Int).toNat + (9 : Int).toNat := ⟨rfl, Nat.zero_le _, h⟩
      refine (if_pos cc).trans ?_
      rw [show (0 : Int).toNat = 0 from rfl, Nat.zero_add, Nat.sub_zero]
    refine ⟨⟨?_, ?_, by show -1 ≤ ws; omega, fun _ j hj => ?_, fun v hv => ?_⟩, ⟨fun c h1 h2 h3 h4 h5 => funext fun k => ?_, fun k h1 h2 => ?_, fun j hj => ?_, fun k hk => ?_, rfl⟩⟩
    · exact (nc _ 87 10 (by decide)).trans ((vu_n (by decide)).trans (vu_e rfl))
    · exact (nc _ 87 11 (by decide)).trans (vu_e rfl)
    · exact (yc _ j (by omega)).trans (((vu_n (by omega)).trans ((vu_n (by omega)).trans (vu_n (by omega)))).trans (hg j hj))
    · exact (nc _ 94 v (by decide)).trans (((vu_n (by omega)).trans (vu_n (by omega))).trans (tl v hv))
    · exact (nc _ c k h3).trans ((vu_n (by omega)).trans ((vu_n (by omega)).trans (vu_n (by omega))))
    · exact (nc _ 87 k (by decide)).trans ((vu_n (by omega)).trans ((vu_n (by omega)).trans (vu_n (by omega))))
    · exact (nc _ 91 j (by decide)).trans ((vu_n (by omega)).trans ((vu_n (by omega)).trans (vu_n (by omega))))
    · exact (nc _ 93 k (by decide)).trans ((vu_n (by omega)).trans ((vu_n (by omega)).trans (vu_n (by omega))))
  have no : pXa w bd (vu W 94 ws.toNat (j_iadd (W.1 94 ws.toNat) 1)) (a.1, a.2.1, a.2.2.1, (fun v => if v = ws then a.2.2.2.1 v + 1 else a.2.2.2.1 v), fun l => if l ≤ ws then a.2.2.2.2 l + 1 else a.2.2.2.2 l) := ⟨(vu_n (by omega)).trans a1, (vu_n (by omega)).trans a2, a3, fun h j hj => (vu_n (by omega)).trans (a4 h j hj), tl⟩
  unfold ntX upB
  rw [if_neg (show ¬ ws < 0 from by omega), if_neg (show ¬ 14401 ≤ ws from by omega), a1, a2]
  by_cases c1 : a.1 < ws
  · rw [if_pos c1, if_pos (Or.inl c1)]; exact up
  · rw [if_neg c1]
    by_cases c2 : ws = a.1
    · rw [if_pos c2]
      by_cases c3 : a.2.1 ≤ (m : Int)
      · rw [if_pos c3, if_neg (fun h => by omega)]; exact ⟨no, f1⟩
      · rw [if_neg c3, if_pos (Or.inr ⟨c2, by omega⟩)]; exact up
    · rw [if_neg c2, if_neg (fun h => by omega)]; exact ⟨no, f1⟩
/-- what one more adds to a group -/
noncomputable def sGn (can : Nat → Prop) (wo : Nat → Int) (gr : Nat → Int) (g : Int) (j : Nat) : Int := if tv (∃ x : Nat, x < j ∧ gr x = g ∧ ¬ can x) = 0 then wrw wo gr g j else -1
theorem sGn_s {can : Nat → Prop} {wo : Nat → Int} {gr : Nat → Int} {g : Int} {j : Nat} (h : ∀ x : Nat, x < j → 0 ≤ wo x ∧ wo x ≤ 400) : sGn can wo gr g (j + 1) = if gr j = g then (if tv (can j) = 0 then -1 else if sGn can wo gr g j = -1 then -1 else sGn can wo gr g j + wo j) else sGn can wo gr g j := by
  have b := wrw_b (wo := wo) (gr := gr) (x := g) j h
  unfold sGn
  have ex : (∃ x : Nat, x < j + 1 ∧ gr x = g ∧ ¬ can x) ↔ (∃ x : Nat, x < j ∧ gr x = g ∧ ¬ can x) ∨ (gr j = g ∧ ¬ can j) := by
    refine ⟨fun ⟨x, x1, x2⟩ => ?_, fun y => ?_⟩
    · by_cases z : x = j
      · rw [z] at x2; exact Or.inr x2
      · exact Or.inl ⟨x, by omega, x2⟩
    · rcases y with ⟨x, x1, x2⟩ | y
      · exact ⟨x, by omega, x2⟩
      · exact ⟨j, by omega, y⟩
  have wn : wrw wo gr g (j + 1) = wrw wo gr g j + (if g = gr j then wo j else 0) := rfl
  rw [tv_e ex]
  by_cases c1 : gr j = g
  · rw [if_pos c1, wn, if_pos c1.symm]
    by_cases c2 : can j
    · rw [tv_t c2, if_neg (show ¬ (1 : Int) = 0 from by decide)]
      by_cases c3 : ∃ x : Nat, x < j ∧ gr x = g ∧ ¬ can x
      · rw [tv_t (Or.inl c3), tv_t c3, if_neg (show ¬ (1 : Int) = 0 from by decide), if_neg (show ¬ (1 : Int) = 0 from by decide), if_pos rfl]
      · rw [tv_f (fun y => y.elim c3 (fun y => y.2 c2)), tv_f c3, if_pos rfl, if_pos rfl, if_neg (by omega)]
    · rw [tv_f c2, if_pos rfl, tv_t (Or.inr ⟨c1, c2⟩), if_neg (show ¬ (1 : Int) = 0 from by decide)]
  · rw [if_neg c1, wn, if_neg (show ¬ g = gr j from fun y => c1 y.symm), Int.add_zero, tv_e (show ((∃ x : Nat, x < j ∧ gr x = g ∧ ¬ can x) ∨ (gr j = g ∧ ¬ can j)) ↔ (∃ x : Nat, x < j ∧ gr x = g ∧ ¬ can x) from ⟨fun y => y.elim id (fun y => absurd y.1 c1), Or.inl⟩)]
/-- only the gains change -/
def pGf (W V : jW) (lo : Nat) : Prop := (∀ c : Nat, c ≠ 93 → V.1 c = W.1 c) ∧ (∀ k : Nat, k < lo → V.1 93 k = W.1 93 k) ∧ V.2 = W.2
theorem pGf_u {W V : jW} {lo k : Nat} {x : Int} (h : pGf W V lo) (hk : lo ≤ k) : pGf W (vu V 93 k x) lo := ⟨fun c hc => (vu_c hc).trans (h.1 c hc), fun j hj => (vu_n (by omega)).trans (h.2.1 j hj), h.2.2⟩
theorem rg_8 {i m : Nat} {W : jW} : ∀ (c g r : Nat) (V : jW), g + c = m + 1 → c < r → pGf W V (10 * i) → (∀ k : Nat, k < g → V.1 93 (10 * i + k) = 0) → ∃ U : jW, d_X3_readGains_r87d_8 r (i : Int) (m : Int) ((i : Int) * 10) (g : Int) V = d_X3_readGains_r87d_40 9 (i : Int) ((i : Int) * 10) 0 U ∧ pGf W U (10 * i) ∧ ∀ k : Nat, k ≤ m → U.1 93 (10 * i + k) = 0 := by
  intro c
  induction c with
  | zero =>
    intro g r V e hr h q
    obtain ⟨r, rfl⟩ : ∃ z, r = z + 1 := ⟨r - 1, by omega⟩
    exact ⟨V, if_pos (by omega), h, fun k hk => q k (by omega)⟩
  | succ c ih =>
    intro g r V e hr h q
    obtain ⟨r, rfl⟩ : ∃ z, r = z + 1 := ⟨r - 1, by omega⟩
    obtain ⟨U, u1, u2, u3⟩ := ih (g + 1) r (vu V 93 (10 * i + g) 0) (by omega) (by omega) (pGf_u h (by omega)) (fun k hk => by
      by_cases z : k = g
      · exact vu_e (by omega)
      · exact (vu_n (by omega)).trans (q k (by omega)))
    refine ⟨U, ?_, u2, u3⟩
    rw [show ((g + 1 : Nat) : Int) = (g : Int) + 1 from by omega] at u1
    refine (if_neg (by omega)).trans ?_
    rw [show ((i : Int) * 10 + (g : Int)).toNat = 10 * i + g from by omega]
    exact u1
theorem rg_40 {i m : Nat} {W : jW} {gr : Nat → Int} (P : pXj W w can mus wo) (h9 : w ≤ 9) (hi : i < w) (mi : m ≤ i) (hg : ∀ j : Nat, j < i → (0 ≤ gr j ∧ gr j ≤ (m : Int)) ∧ W.1 91 j = gr j) : ∀ (c j r : Nat) (V : jW), j + c = i → c < r → pGf W V (10 * i) → (∀ k : Nat, k ≤ m → V.1 93 (10 * i + k) = sGn (can i) (wo i) gr (k : Int) j) → pGf W (d_X3_readGains_r87d_40 r (i : Int) ((i : Int) * 10) (j : Int) V) (10 * i) ∧ ∀ k : Nat, k ≤ m → (d_X3_readGains_r87d_40 r (i : Int) ((i : Int) * 10) (j : Int) V).1 93 (10 * i + k) = sGn (can i) (wo i) gr (k : Int) i := by
  intro c
  induction c with
  | zero =>
    intro j r V e hr h q
    obtain ⟨r, rfl⟩ : ∃ z, r = z + 1 := ⟨r - 1, by omega⟩
    obtain rfl : j = i := by omega
    have st : d_X3_readGains_r87d_40 (r + 1) (j : Int) ((j : Int) * 10) (j : Int) V = V := if_pos (Int.le_refl _)
    rw [st]
    exact ⟨h, q⟩
  | succ c ih =>
    intro j r V e hr h q
    obtain ⟨r, rfl⟩ : ∃ z, r = z + 1 := ⟨r - 1, by omega⟩
    have gj := hg j (by omega)
    obtain ⟨p1, p2, p3⟩ := P.2.1 i j (by omega) hi
    have e89 : V.1 89 = W.1 89 := h.1 89 (by decide)
    have e91 : V.1 91 j = gr j := by rw [h.1 91 (by decide)]; exact gj.2
    have at' : ((i : Int) * 10 + gr j).toNat = 10 * i + (gr j).toNat := by omega
    have qj := q (gr j).toNat (by omega)
    rw [show (((gr j).toNat : Nat) : Int) = gr j from by omega] at qj
    have hw : ∀ x : Nat, x < j → 0 ≤ wo i x ∧ wo i x ≤ 400 := fun x hx => (P.2.1 i x (by omega) hi).2.2
    have bw := wrw_b (wo := wo i) (gr := gr) (x := gr j) j hw
    have st : d_X3_readGains_r87d_40 (r + 1) (i : Int) ((i : Int) * 10) (j : Int) V = (if W.1 89 (9 * i + j) = -1 then d_X3_readGains_r87d_40 r (i : Int) ((i : Int) * 10) ((j : Int) + 1) (vu V 93 (10 * i + (gr j).toNat) (-1)) else if sGn (can i) (wo i) gr (gr j) j = -1 then d_X3_readGains_r87d_40 r (i : Int) ((i : Int) * 10) ((j : Int) + 1) (vu V 93 (10 * i + (gr j).toNat) (-1)) else d_X3_readGains_r87d_40 r (i : Int) ((i : Int) * 10) ((j : Int) + 1) (vu V 93 (10 * i + (gr j).toNat) (j_iadd (sGn (can i) (wo i) gr (gr j) j) (W.1 89 (9 * i + j))))) := by
      refine (if_neg (by omega)).trans ?_
      unfold d_X3_readGains_r87d_94 d_X3_readGains_r87d_100108 d_X3_readGains_r87d_108
      rw [show ((j : Int)).toNat = j from by omega, e91, at', qj, e89, show ((i : Int) * 9 + (j : Int)).toNat = 9 * i + j from by omega]
    have go : ∀ x : Int, x = (if tv (can i j) = 0 then -1 else if sGn (can i) (wo i) gr (gr j) j = -1 then -1 else sGn (can i) (wo i) gr (gr j) j + wo i j) → pGf W (d_X3_readGains_r87d_40 r (i : Int) ((i : Int) * 10) ((j : Int) + 1) (vu V 93 (10 * i + (gr j).toNat) x)) (10 * i) ∧ ∀ k : Nat, k ≤ m → (d_X3_readGains_r87d_40 r (i : Int) ((i : Int) * 10) ((j : Int) + 1) (vu V 93 (10 * i + (gr j).toNat) x)).1 93 (10 * i + k) = sGn (can i) (wo i) gr (k : Int) i := fun x hx => by
      have y := ih (j + 1) r (vu V 93 (10 * i + (gr j).toNat) x) (by omega) (by omega) (pGf_u h (by omega)) (fun k hk => by
        rw [sGn_s hw]
        by_cases z : gr j = (k : Int)
        · rw [if_pos z, ← z]
          exact (vu_e (by omega)).trans hx
        · rw [if_neg z]
          exact (vu_n (by omega)).trans (q k hk))
      rw [show ((j + 1 : Nat) : Int) = (j : Int) + 1 from by omega] at y
      exact y
    rw [st]
    by_cases c1 : can i j
    · rw [if_neg (fun y => (p1.mp y) c1)]
      by_cases c2 : sGn (can i) (wo i) gr (gr j) j = -1
      · rw [if_pos c2]
        exact go _ (by rw [tv_t c1, if_neg (show ¬ (1 : Int) = 0 from by decide), if_pos c2])
      · rw [if_neg c2]
        refine go _ ?_
        rw [tv_t c1, if_neg (show ¬ (1 : Int) = 0 from by decide), if_neg c2, p2 c1]
        have sb : sGn (can i) (wo i) gr (gr j) j = wrw (wo i) gr (gr j) j := by
          unfold sGn at c2 ⊢
          by_cases z : tv (∃ x : Nat, x < j ∧ gr x = gr j ∧ ¬ can i x) = 0
          · rw [if_pos z]
          · rw [if_neg z] at c2; exact absurd rfl c2
        rw [sb]
        exact j_ia (by omega) (by omega) (by omega)
    · rw [if_pos (p1.mpr c1)]
      exact go _ (by rw [tv_f c1, if_pos rfl])
theorem xrg {i m : Nat} {W : jW} {gr : Nat → Int} (P : pXj W w can mus wo) (h9 : w ≤ 9) (hi : i < w) (mi : m ≤ i) (hg : ∀ j : Nat, j < i → (0 ≤ gr j ∧ gr j ≤ (m : Int)) ∧ W.1 91 j = gr j) : pGf W (d_X3_readGains_r87d (i : Int) (m : Int) W) (10 * i) ∧ ∀ k : Nat, k ≤ m → (d_X3_readGains_r87d (i : Int) (m : Int) W).1 93 (10 * i + k) = sGn (can i) (wo i) gr (k : Int) i := by
  obtain ⟨U, u1, u2, u3⟩ := rg_8 (i := i) (m := m) (W := W) (m + 1) 0 10 W (by omega) (by omega) ⟨fun _ _ => rfl, fun _ _ => rfl, rfl⟩ (fun k hk => absurd hk (Nat.not_lt_zero k))
  have e : d_X3_readGains_r87d (i : Int) (m : Int) W = d_X3_readGains_r87d_40 9 (i : Int) ((i : Int) * 10) ((0 : Nat) : Int) U := u1
  rw [e]
  refine rg_40 P h9 hi mi hg i 0 9 U (by omega) (by omega) u2 (fun k hk => ?_)
  rw [u3 k hk]
  exact (if_pos (tv_f (fun ⟨x, hx, _⟩ => absurd hx (Nat.not_lt_zero x)))).symm
/-- where one more may be put -/
theorem gd_n {i : Nat} {gr : Nat → Int} {g tied : Int} {so : Nat → Int} (hw : ∀ x : Nat, x < i → 0 ≤ wo i x ∧ wo i x ≤ 400) (hm : ∀ a b : Nat, b < a → a ≤ i → (mus a b ↔ so a = so b)) (G : gdP can mus gr i) (gn : ∀ j : Nat, j < i → 0 ≤ gr j) (ht : (tied = -1 ∧ ∀ b : Nat, b < i → ¬ mus i b) ∨ ∃ b : Nat, b < i ∧ tied = gr b ∧ mus i b) : (¬ sGn (can i) (wo i) gr g i < 0 ∧ (tied = -1 ∨ tied = g)) ↔ gdP can mus (sU gr i g) (i + 1) := by
  have b := wrw_b (wo := wo i) (gr := gr) (x := g) i hw
  have s1 : sU gr i g i = g := if_pos rfl
  have s2 : ∀ j : Nat, j < i → sU gr i g j = gr j := fun j hj => if_neg (by omega)
  have A : (¬ sGn (can i) (wo i) gr g i < 0) ↔ ∀ x : Nat, x < i → g = gr x → can i x := by
    unfold sGn
    by_cases z : ∃ x : Nat, x < i ∧ gr x = g ∧ ¬ can i x
    · rw [tv_t z, if_neg (show ¬ (1 : Int) = 0 from by decide)]
      obtain ⟨x, x1, x2, x3⟩ := z
      exact ⟨fun y => absurd (by decide) y, fun y => absurd (y x x1 x2.symm) x3⟩
    · rw [tv_f z, if_pos rfl]
      exact ⟨fun _ x hx e => Classical.byContradiction fun n => z ⟨x, hx, e.symm, n⟩, fun _ => by omega⟩
  have B : (tied = -1 ∨ tied = g) ↔ ∀ x : Nat, x < i → g ≠ gr x → ¬ mus i x := by
    rcases ht with ⟨t1, t2⟩ | ⟨t, t1, t2, t3⟩
    · exact ⟨fun _ x hx _ => t2 x hx, fun _ => Or.inl t1⟩
    · have tn := gn t t1
      refine ⟨fun y x hx ne mx => ?_, fun y => Or.inr (Classical.byContradiction fun n => y t t1 (fun q => n (t2.trans q.symm)) t3)⟩
      have tg : gr t = g := by
        rcases y with y | y
        · omega
        · exact t2.symm.trans y
      have so1 := (hm i x hx (Nat.le_refl i)).mp mx
      have so2 := (hm i t t1 (Nat.le_refl i)).mp t3
      have ne2 : gr t ≠ gr x := fun q => ne (tg.symm.trans q)
      rcases Nat.lt_trichotomy t x with k | k | k
      · exact (G x t k hx).2 (fun q => ne2 q.symm) ((hm x t k (by omega)).mpr (so1.symm.trans so2))
      · exact ne2 (by rw [k])
      · exact (G t x k t1).2 ne2 ((hm t x k (by omega)).mpr (so2.symm.trans so1))
  rw [A, B]
  refine ⟨fun h x y h1 h2 => ?_, fun h => ⟨fun x hx => ?_, fun x hx => ?_⟩⟩
  · by_cases z : x = i
    · rw [z] at h1 ⊢
      rw [s1, s2 y h1]
      exact ⟨h.1 y h1, h.2 y h1⟩
    · rw [s2 x (by omega), s2 y (by omega)]
      exact G x y h1 (by omega)
  · have q := (h i x hx (by omega)).1
    rw [s1, s2 x hx] at q
    exact q
  · have q := (h i x hx (by omega)).2
    rw [s1, s2 x hx] at q
    exact q
theorem ws_n {i : Nat} {gr : Nat → Int} {g : Int} : wsm wo (sU gr i g) (i + 1) = wsm wo gr i + wrw (wo i) gr g i := by
  show wsm wo (sU gr i g) i + wrw (wo i) (sU gr i g) (sU gr i g i) i = _
  rw [wsm_c (gr := sU gr i g) (hr := gr) i (fun j hj => if_neg (by omega)), wrw_c (gr := sU gr i g) (hr := gr) i (fun j hj => if_neg (by omega)), show sU gr i g i = g from if_pos rfl]
/-- what putting from J on does -/
def pPlJ (can mus : Nat → Nat → Prop) (wo : Nat → Nat → Int) (w : Nat) (bd : Int) (F : Int → Int → jW → jW) (J : Nat) : Prop := ∀ (gr : Nat → Int) (m : Nat) (a : pjB) (W : jW), J ≤ w → pXj W w can mus wo → pXa w bd W a → mxG gr J = m → m ≤ J → (∀ j : Nat, j < J → 0 ≤ gr j ∧ W.1 91 j = gr j) → gdP can mus gr J → pXa w bd (F (m : Int) (wsm wo gr J) W) (tfF (lfB can mus wo w) (w - J) J gr m a) ∧ pJf J W (F (m : Int) (wsm wo gr J) W)
theorem plJ_9 (h9 : w ≤ 9) : pPlJ can mus wo w bd d_X3_place_r87_c9d 9 := by
  intro gr m a W hJ P A hm mi hg G
  obtain rfl : w = 9 := by omega
  have ws := wsm_b (wo := wo) (gr := gr) 9 (by decide) (fun x z h1 h2 => (P.2.1 x z h1 h2).2.2)
  have e : tfF (lfB can mus wo 9) (9 - 9) 9 gr m a = upB (wsm wo gr 9) m gr a := if_neg (by rw [tv_t G]; decide)
  rw [e]
  exact ntJ_e (W := W) (gr := gr) (m := m) h9 A (fun j hj => (hg j hj).2) ⟨ws.1, by have := ws.2; omega⟩
theorem pl61_8 (h9 : w ≤ 9) {so : Nat → Int} (hs : ∀ a b : Nat, b < a → a < w → (mus a b ↔ so a = so b)) (H : pPlJ can mus wo w bd d_X3_place_r87_c9d 9) {gr : Nat → Int} {m : Nat} {l4 : Int} {W0 : jW} (hJ : 8 < w) (P : pXj W0 w can mus wo) (hm : mxG gr 8 = m) (mi : m ≤ 8) (hg : ∀ j : Nat, j < 8 → 0 ≤ gr j ∧ W0.1 91 j = gr j) (G : gdP can mus gr 8) (hl : (l4 = -1 ∧ ∀ b : Nat, b < 8 → ¬ mus 8 b) ∨ ∃ b : Nat, b < 8 ∧ l4 = gr b ∧ mus 8 b) : ∀ (k g r : Nat) (a : pjB) (W : jW), g + k = m + 1 → k < r → pXa w bd W a → pJf 8 W0 W → (∀ q : Nat, q ≤ m → W.1 93 (10 * 8 + q) = sGn (can 8) (wo 8) gr (q : Int) 8) → pXa w bd (d_X3_place_r87_c8d_61 r (m : Int) (wsm wo gr 8) l4 (g : Int) W) (tgF (fun g a => tfF (lfB can mus wo w) (w - 9) (8 + 1) (sU gr 8 (g : Int)) (if g = m then m + 1 else m) a) k g a) ∧ pJf 8 W0 (d_X3_place_r87_c8d_61 r (m : Int) (wsm wo gr 8) l4 (g : Int) W) := by
  intro k
  induction k with
  | zero =>
    intro g r a W e hr A F _
    obtain ⟨r, rfl⟩ : ∃ z, r = z + 1 := ⟨r - 1, by omega⟩
    have st : d_X3_place_r87_c8d_61 (r + 1) (m : Int) (wsm wo gr 8) l4 (g : Int) W = W := if_pos (by omega)
    rw [st]
    exact ⟨A, F⟩
  | succ k ih =>
    intro g r a W e hr A F q93
    obtain ⟨r, rfl⟩ : ∃ z, r = z + 1 := ⟨r - 1, by omega⟩
    have qg := q93 g (by omega)
    have gd := gd_n (can := can) (mus := mus) (wo := wo) (g := (g : Int)) (fun x hx => (P.2.1 8 x hx hJ).2.2) (fun a b h1 h2 => hs a b h1 (by omega)) G (fun j hj => (hg j hj).1) hl
    have st : d_X3_place_r87_c8d_61 (r + 1) (m : Int) (wsm wo gr 8) l4 (g : Int) W = (if sGn (can 8) (wo 8) gr (g : Int) 8 < 0 then d_X3_place_r87_c8d_61 r (m : Int) (wsm wo gr 8) l4 ((g : Int) + 1) W else if l4 = -1 then d_X3_place_r87_c8d_106 (fun l2 l3 l4 l5 W => d_X3_place_r87_c8d_61 r l2 l3 l4 l5 W) (m : Int) (wsm wo gr 8) l4 (g : Int) (sGn (can 8) (wo 8) gr (g : Int) 8) W else if l4 = (g : Int) then d_X3_place_r87_c8d_106 (fun l2 l3 l4 l5 W => d_X3_place_r87_c8d_61 r l2 l3 l4 l5 W) (m : Int) (wsm wo gr 8) l4 (g : Int) (sGn (can 8) (wo 8) gr (g : Int) 8) W else d_X3_place_r87_c8d_61 r (m : Int) (wsm wo gr 8) l4 ((g : Int) + 1) W) := by
      refine (if_neg (by omega)).trans ?_
      rw [show (80 + (g : Int)).toNat = 10 * 8 + g from by omega, qg]
      rfl
    have skip : ¬ gdP can mus (sU gr 8 (g : Int)) (8 + 1) → pXa w bd (d_X3_place_r87_c8d_61 r (m : Int) (wsm wo gr 8) l4 ((g : Int) + 1) W) (tgF (fun g a => tfF (lfB can mus wo w) (w - 9) (8 + 1) (sU gr 8 (g : Int)) (if g = m then m + 1 else m) a) (k + 1) g a) ∧ pJf 8 W0 (d_X3_place_r87_c8d_61 r (m : Int) (wsm wo gr 8) l4 ((g : Int) + 1) W) := fun n => by
      have y := ih (g + 1) r a W (by omega) (by omega) A F q93
      rw [show ((g + 1 : Nat) : Int) = (g : Int) + 1 from by omega] at y
      have e2 : tfF (lfB can mus wo w) (w - 9) (8 + 1) (sU gr 8 (g : Int)) (if g = m then m + 1 else m) a = a := tf_n (w - 9) (8 + 1) _ _ a (by omega) n
      have e3 : tgF (fun g a => tfF (lfB can mus wo w) (w - 9) (8 + 1) (sU gr 8 (g : Int)) (if g = m then m + 1 else m) a) (k + 1) g a = tgF (fun g a => tfF (lfB can mus wo w) (w - 9) (8 + 1) (sU gr 8 (g : Int)) (if g = m then m + 1 else m) a) k (g + 1) (tfF (lfB can mus wo w) (w - 9) (8 + 1) (sU gr 8 (g : Int)) (if g = m then m + 1 else m) a) := rfl
      rw [e3, e2]
      exact y
    have put : gdP can mus (sU gr 8 (g : Int)) (8 + 1) → pXa w bd (d_X3_place_r87_c8d_106 (fun l2 l3 l4 l5 W => d_X3_place_r87_c8d_61 r l2 l3 l4 l5 W) (m : Int) (wsm wo gr 8) l4 (g : Int) (sGn (can 8) (wo 8) gr (g : Int) 8) W) (tgF (fun g a => tfF (lfB can mus wo w) (w - 9) (8 + 1) (sU gr 8 (g : Int)) (if g = m then m + 1 else m) a) (k + 1) g a) ∧ pJf 8 W0 (d_X3_place_r87_c8d_106 (fun l2 l3 l4 l5 W => d_X3_place_r87_c8d_61 r l2 l3 l4 l5 W) (m : Int) (wsm wo gr 8) l4 (g : Int) (sGn (can 8) (wo 8) gr (g : Int) 8) W) := fun n => by
      have nn := (gd.mpr n).1
      have sg : sGn (can 8) (wo 8) gr (g : Int) 8 = wrw (wo 8) gr (g : Int) 8 := by
        unfold sGn at nn ⊢
        by_cases z : tv (∃ x : Nat, x < 8 ∧ gr x = (g : Int) ∧ ¬ can 8 x) = 0
        · rw [if_pos z]
        · rw [if_neg z] at nn; exact absurd (by decide) nn
      have b1 := wsm_b (wo := wo) (gr := gr) 8 (by omega) (fun x z h1 h2 => (P.2.1 x z h1 (by omega)).2.2)
      have b2 := wrw_b (wo := wo 8) (gr := gr) (x := (g : Int)) 8 (fun x hx => (P.2.1 8 x hx hJ).2.2)
      have wsn : j_iadd (wsm wo gr 8) (sGn (can 8) (wo 8) gr (g : Int) 8) = wsm wo (sU gr 8 (g : Int)) (8 + 1) := by
        rw [sg, ws_n]
        exact j_ia (by omega) (by omega) (by omega)
      have F1 : pJf 8 W0 (vu W 91 8 (g : Int)) := pJf_t F ⟨fun c _ h _ _ _ => vu_c h, fun k _ _ => vu_n (by omega), fun j hj => vu_n (by omega), fun k _ => vu_n (by omega), rfl⟩
      have h := H (sU gr 8 (g : Int)) (if g = m then m + 1 else m) a (vu W 91 8 (g : Int)) (by omega) (pXj_f F1 P) ⟨(vu_n (by omega)).trans A.1, (vu_n (by omega)).trans A.2.1, A.2.2.1, fun z j hj => (vu_n (by omega)).trans (A.2.2.2.1 z j hj), fun v hv => (vu_n (by omega)).trans (A.2.2.2.2 v hv)⟩ (by rw [← hm]; exact mx_u (by omega)) (by split <;> omega) (fun j hj => by
        by_cases z : j = 8
        · rw [z]
          exact ⟨by rw [show sU gr 8 (g : Int) 8 = (g : Int) from if_pos rfl]; omega, (vu_e rfl).trans (if_pos rfl).symm⟩
        · rw [show sU gr 8 (g : Int) j = gr j from if_neg z]
          exact ⟨(hg j (by omega)).1, (vu_n (by omega)).trans ((F.2.2.1 j (by omega)).trans (hg j (by omega)).2)⟩) n
      have F2 : pJf 8 W0 (d_X3_place_r87_c9d ((if g = m then m + 1 else m : Nat) : Int) (wsm wo (sU gr 8 (g : Int)) (8 + 1)) (vu W 91 8 (g : Int))) := pJf_t F1 (pJf_w (by decide) h.2)
      have y := ih (g + 1) r _ (d_X3_place_r87_c9d ((if g = m then m + 1 else m : Nat) : Int) (wsm wo (sU gr 8 (g : Int)) (8 + 1)) (vu W 91 8 (g : Int))) (by omega) (by omega) h.1 F2 (fun q hq => (h.2.2.2.2.1 _ (by omega)).trans ((vu_n (by omega)).trans (q93 q hq)))
      rw [show ((g + 1 : Nat) : Int) = (g : Int) + 1 from by omega] at y
      have e3 : d_X3_place_r87_c8d_106 (fun l2 l3 l4 l5 W => d_X3_place_r87_c8d_61 r l2 l3 l4 l5 W) (m : Int) (wsm wo gr 8) l4 (g : Int) (sGn (can 8) (wo 8) gr (g : Int) 8) W = d_X3_place_r87_c8d_61 r (m : Int) (wsm wo gr 8) l4 ((g : Int) + 1) (d_X3_place_r87_c9d ((if g = m then m + 1 else m : Nat) : Int) (wsm wo (sU gr 8 (g : Int)) (8 + 1)) (vu W 91 8 (g : Int))) := by
        unfold d_X3_place_r87_c8d_106 d_X3_place_r87_c8d_131 d_X3_place_r87_c8d_138
        rw [wsn]
        by_cases z : g = m
        · rw [if_pos (show (g : Int) = (m : Int) from by omega), if_pos z]; rfl
        · rw [if_neg (show ¬ (g : Int) = (m : Int) from by omega), if_neg z]
      rw [e3]
      exact y
    rw [st]
    by_cases c1 : sGn (can 8) (wo 8) gr (g : Int) 8 < 0
    · rw [if_pos c1]; exact skip (fun n => (gd.mpr n).1 c1)
    · rw [if_neg c1]
      by_cases c2 : l4 = -1
      · rw [if_pos c2]; exact put (gd.mp ⟨c1, Or.inl c2⟩)
      · rw [if_neg c2]
        by_cases c3 : l4 = (g : Int)
        · rw [if_pos c3]; exact put (gd.mp ⟨c1, Or.inr c3⟩)
        · rw [if_neg c3]; exact skip (fun n => (gd.mpr n).2.elim c2 c3)
theorem plJ_8 (h9 : w ≤ 9) {so : Nat → Int} (hs : ∀ a b : Nat, b < a → a < w → (mus a b ↔ so a = so b)) (H : pPlJ can mus wo w bd d_X3_place_r87_c9d 9) : pPlJ can mus wo w bd d_X3_place_r87_c8d 8 := by
  intro gr m a W hJ P A hm mi hg G
  unfold d_X3_place_r87_c8d
  by_cases c : w ≤ 8
  · obtain rfl : w = 8 := by omega
    have ws := wsm_b (wo := wo) (gr := gr) 8 (by decide) (fun x z h1 h2 => (P.2.1 x z h1 h2).2.2)
    have e : tfF (lfB can mus wo 8) (8 - 8) 8 gr m a = upB (wsm wo gr 8) m gr a := if_neg (by rw [tv_t G]; decide)
    rw [e, if_pos (show W.1 87 3 ≤ 8 from by rw [P.1]; decide)]
    exact ntJ_e (W := W) (gr := gr) (m := m) h9 A (fun j hj => (hg j hj).2) ⟨ws.1, by have := ws.2; omega⟩
  · have mb : ∀ j : Nat, j < 8 → gr j ≤ (m : Int) := fun j hj => by
      have := mxG_b (gr := gr) 8 j hj
      have := (hg j hj).1
      omega
    obtain ⟨g1, g2⟩ := xrg (i := 8) (m := m) P h9 (by omega) mi (fun j hj => ⟨⟨(hg j hj).1, mb j hj⟩, (hg j hj).2⟩)
    rw [show (((8 : Nat) : Nat) : Int) = 8 from rfl] at g1 g2
    have F1 : pJf 8 W (d_X3_readGains_r87d 8 (m : Int) W) := ⟨fun c _ _ _ h _ => g1.1 c h, fun k _ _ => by rw [g1.1 87 (by decide)], fun j _ => by rw [g1.1 91 (by decide)], g1.2.1, g1.2.2⟩
    have A1 : pXa w bd (d_X3_readGains_r87d 8 (m : Int) W) a := by
      unfold pXa
      rw [g1.1 87 (by decide), g1.1 92 (by decide), g1.1 94 (by decide)]
      exact A
    have e : w - 8 = (w - 9) + 1 := by omega
    have go : ∀ l4 : Int, ((l4 = -1 ∧ ∀ b : Nat, b < 8 → ¬ mus 8 b) ∨ ∃ b : Nat, b < 8 ∧ l4 = gr b ∧ mus 8 b) → pXa w bd (d_X3_place_r87_c8d_61 10 (m : Int) (wsm wo gr 8) l4 0 (d_X3_readGains_r87d 8 (m : Int) W)) (tfF (lfB can mus wo w) (w - 8) 8 gr m a) ∧ pJf 8 W (d_X3_place_r87_c8d_61 10 (m : Int) (wsm wo gr 8) l4 0 (d_X3_readGains_r87d 8 (m : Int) W)) := fun l4 hl => by
      rw [e]
      exact pl61_8 h9 hs H (by omega) P hm mi hg G hl (m + 1) 0 10 a _ (by omega) (by omega) A1 F1 g2
    rw [if_neg (show ¬ W.1 87 3 ≤ 8 from by rw [P.1]; omega)]
    rcases P.2.2 8 (by omega) with ⟨t1, t2⟩ | ⟨b, t1, t2, t3⟩
    · rw [if_pos t1]
      exact go (-1) (Or.inl ⟨rfl, t2⟩)
    · rw [if_neg (show ¬ W.1 90 8 = -1 from by omega), t2, show ((b : Int)).toNat = b from by omega, (hg b t1).2]
      exact go (gr b) (Or.inr ⟨b, t1, rfl, t3⟩)
theorem pl61_7 (h9 : w ≤ 9) {so : Nat → Int} (hs : ∀ a b : Nat, b < a → a < w → (mus a b ↔ so a = so b)) (H : pPlJ can mus wo w bd d_X3_place_r87_c8d 8) {gr : Nat → Int} {m : Nat} {l4 : Int} {W0 : jW} (hJ : 7 < w) (P : pXj W0 w can mus wo) (hm : mxG gr 7 = m) (mi : m ≤ 7) (hg : ∀ j : Nat, j < 7 → 0 ≤ gr j ∧ W0.1 91 j = gr j) (G : gdP can mus gr 7) (hl : (l4 = -1 ∧ ∀ b : Nat, b < 7 → ¬ mus 7 b) ∨ ∃ b : Nat, b < 7 ∧ l4 = gr b ∧ mus 7 b) : ∀ (k g r : Nat) (a : pjB) (W : jW), g + k = m + 1 → k < r → pXa w bd W a → pJf 7 W0 W → (∀ q : Nat, q ≤ m → W.1 93 (10 * 7 + q) = sGn (can 7) (wo 7) gr (q : Int) 7) → pXa w bd (d_X3_place_r87_c7d_61 r (m : Int) (wsm wo gr 7) l4 (g : Int) W) (tgF (fun g a => tfF (lfB can mus wo w) (w - 8) (7 + 1) (sU gr 7 (g : Int)) (if g = m then m + 1 else m) a) k g a) ∧ pJf 7 W0 (d_X3_place_r87_c7d_61 r (m : Int) (wsm wo gr 7) l4 (g : Int) W) := by
  intro k
  induction k with
  | zero =>
    intro g r a W e hr A F _
    obtain ⟨r, rfl⟩ : ∃ z, r = z + 1 := ⟨r - 1, by omega⟩
    have st : d_X3_place_r87_c7d_61 (r + 1) (m : Int) (wsm wo gr 7) l4 (g : Int) W = W := if_pos (by omega)
    rw [st]
    exact ⟨A, F⟩
  | succ k ih =>
    intro g r a W e hr A F q93
    obtain ⟨r, rfl⟩ : ∃ z, r = z + 1 := ⟨r - 1, by omega⟩
    have qg := q93 g (by omega)
    have gd := gd_n (can := can) (mus := mus) (wo := wo) (g := (g : Int)) (fun x hx => (P.2.1 7 x hx hJ).2.2) (fun a b h1 h2 => hs a b h1 (by omega)) G (fun j hj => (hg j hj).1) hl
    have st : d_X3_place_r87_c7d_61 (r + 1) (m : Int) (wsm wo gr 7) l4 (g : Int) W = (if sGn (can 7) (wo 7) gr (g : Int) 7 < 0 then d_X3_place_r87_c7d_61 r (m : Int) (wsm wo gr 7) l4 ((g : Int) + 1) W else if l4 = -1 then d_X3_place_r87_c7d_106 (fun l2 l3 l4 l5 W => d_X3_place_r87_c7d_61 r l2 l3 l4 l5 W) (m : Int) (wsm wo gr 7) l4 (g : Int) (sGn (can 7) (wo 7) gr (g : Int) 7) W else if l4 = (g : Int) then d_X3_place_r87_c7d_106 (fun l2 l3 l4 l5 W => d_X3_place_r87_c7d_61 r l2 l3 l4 l5 W) (m : Int) (wsm wo gr 7) l4 (g : Int) (sGn (can 7) (wo 7) gr (g : Int) 7) W else d_X3_place_r87_c7d_61 r (m : Int) (wsm wo gr 7) l4 ((g : Int) + 1) W) := by
      refine (if_neg (by omega)).trans ?_
      rw [show (70 + (g : Int)).toNat = 10 * 7 + g from by omega, qg]
      rfl
    have skip : ¬ gdP can mus (sU gr 7 (g : Int)) (7 + 1) → pXa w bd (d_X3_place_r87_c7d_61 r (m : Int) (wsm wo gr 7) l4 ((g : Int) + 1) W) (tgF (fun g a => tfF (lfB can mus wo w) (w - 8) (7 + 1) (sU gr 7 (g : Int)) (if g = m then m + 1 else m) a) (k + 1) g a) ∧ pJf 7 W0 (d_X3_place_r87_c7d_61 r (m : Int) (wsm wo gr 7) l4 ((g : Int) + 1) W) := fun n => by
      have y := ih (g + 1) r a W (by omega) (by omega) A F q93
      rw [show ((g + 1 : Nat) : Int) = (g : Int) + 1 from by omega] at y
      have e2 : tfF (lfB can mus wo w) (w - 8) (7 + 1) (sU gr 7 (g : Int)) (if g = m then m + 1 else m) a = a := tf_n (w - 8) (7 + 1) _ _ a (by omega) n
      have e3 : tgF (fun g a => tfF (lfB can mus wo w) (w - 8) (7 + 1) (sU gr 7 (g : Int)) (if g = m then m + 1 else m) a) (k + 1) g a = tgF (fun g a => tfF (lfB can mus wo w) (w - 8) (7 + 1) (sU gr 7 (g : Int)) (if g = m then m + 1 else m) a) k (g + 1) (tfF (lfB can mus wo w) (w - 8) (7 + 1) (sU gr 7 (g : Int)) (if g = m then m + 1 else m) a) := rfl
      rw [e3, e2]
      exact y
    have put : gdP can mus (sU gr 7 (g : Int)) (7 + 1) → pXa w bd (d_X3_place_r87_c7d_106 (fun l2 l3 l4 l5 W => d_X3_place_r87_c7d_61 r l2 l3 l4 l5 W) (m : Int) (wsm wo gr 7) l4 (g : Int) (sGn (can 7) (wo 7) gr (g : Int) 7) W) (tgF (fun g a => tfF (lfB can mus wo w) (w - 8) (7 + 1) (sU gr 7 (g : Int)) (if g = m then m + 1 else m) a) (k + 1) g a) ∧ pJf 7 W0 (d_X3_place_r87_c7d_106 (fun l2 l3 l4 l5 W => d_X3_place_r87_c7d_61 r l2 l3 l4 l5 W) (m : Int) (wsm wo gr 7) l4 (g : Int) (sGn (can 7) (wo 7) gr (g : Int) 7) W) := fun n => by
      have nn := (gd.mpr n).1
      have sg : sGn (can 7) (wo 7) gr (g : Int) 7 = wrw (wo 7) gr (g : Int) 7 := by
        unfold sGn at nn ⊢
        by_cases z : tv (∃ x : Nat, x < 7 ∧ gr x = (g : Int) ∧ ¬ can 7 x) = 0
        · rw [if_pos z]
        · rw [if_neg z] at nn; exact absurd (by decide) nn
      have b1 := wsm_b (wo := wo) (gr := gr) 7 (by omega) (fun x z h1 h2 => (P.2.1 x z h1 (by omega)).2.2)
      have b2 := wrw_b (wo := wo 7) (gr := gr) (x := (g : Int)) 7 (fun x hx => (P.2.1 7 x hx hJ).2.2)
      have wsn : j_iadd (wsm wo gr 7) (sGn (can 7) (wo 7) gr (g : Int) 7) = wsm wo (sU gr 7 (g : Int)) (7 + 1) := by
        rw [sg, ws_n]
        exact j_ia (by omega) (by omega) (by omega)
      have F1 : pJf 7 W0 (vu W 91 7 (g : Int)) := pJf_t F ⟨fun c _ h _ _ _ => vu_c h, fun k _ _ => vu_n (by omega), fun j hj => vu_n (by omega), fun k _ => vu_n (by omega), rfl⟩
      have h := H (sU gr 7 (g : Int)) (if g = m then m + 1 else m) a (vu W 91 7 (g : Int)) (by omega) (pXj_f F1 P) ⟨(vu_n (by omega)).trans A.1, (vu_n (by omega)).trans A.2.1, A.2.2.1, fun z j hj => (vu_n (by omega)).trans (A.2.2.2.1 z j hj), fun v hv => (vu_n (by omega)).trans (A.2.2.2.2 v hv)⟩ (by rw [← hm]; exact mx_u (by omega)) (by split <;> omega) (fun j hj => by
        by_cases z : j = 7
        · rw [z]
          exact ⟨by rw [show sU gr 7 (g : Int) 7 = (g : Int) from if_pos rfl]; omega, (vu_e rfl).trans (if_pos rfl).symm⟩
        · rw [show sU gr 7 (g : Int) j = gr j from if_neg z]
          exact ⟨(hg j (by omega)).1, (vu_n (by omega)).trans ((F.2.2.1 j (by omega)).trans (hg j (by omega)).2)⟩) n
      have F2 : pJf 7 W0 (d_X3_place_r87_c8d ((if g = m then m + 1 else m : Nat) : Int) (wsm wo (sU gr 7 (g : Int)) (7 + 1)) (vu W 91 7 (g : Int))) := pJf_t F1 (pJf_w (by decide) h.2)
      have y := ih (g + 1) r _ (d_X3_place_r87_c8d ((if g = m then m + 1 else m : Nat) : Int) (wsm wo (sU gr 7 (g : Int)) (7 + 1)) (vu W 91 7 (g : Int))) (by omega) (by omega) h.1 F2 (fun q hq => (h.2.2.2.2.1 _ (by omega)).trans ((vu_n (by omega)).trans (q93 q hq)))
      rw [show ((g + 1 : Nat) : Int) = (g : Int) + 1 from by omega] at y
      have e3 : d_X3_place_r87_c7d_106 (fun l2 l3 l4 l5 W => d_X3_place_r87_c7d_61 r l2 l3 l4 l5 W) (m : Int) (wsm wo gr 7) l4 (g : Int) (sGn (can 7) (wo 7) gr (g : Int) 7) W = d_X3_place_r87_c7d_61 r (m : Int) (wsm wo gr 7) l4 ((g : Int) + 1) (d_X3_place_r87_c8d ((if g = m then m + 1 else m : Nat) : Int) (wsm wo (sU gr 7 (g : Int)) (7 + 1)) (vu W 91 7 (g : Int))) := by
        unfold d_X3_place_r87_c7d_106 d_X3_place_r87_c7d_131 d_X3_place_r87_c7d_138
        rw [wsn]
        by_cases z : g = m
        · rw [if_pos (show (g : Int) = (m : Int) from by omega), if_pos z]; rfl
        · rw [if_neg (show ¬ (g : Int) = (m : Int) from by omega), if_neg z]
      rw [e3]
      exact y
    rw [st]
    by_cases c1 : sGn (can 7) (wo 7) gr (g : Int) 7 < 0
    · rw [if_pos c1]; exact skip (fun n => (gd.mpr n).1 c1)
    · rw [if_neg c1]
      by_cases c2 : l4 = -1
      · rw [if_pos c2]; exact put (gd.mp ⟨c1, Or.inl c2⟩)
      · rw [if_neg c2]
        by_cases c3 : l4 = (g : Int)
        · rw [if_pos c3]; exact put (gd.mp ⟨c1, Or.inr c3⟩)
        · rw [if_neg c3]; exact skip (fun n => (gd.mpr n).2.elim c2 c3)
theorem plJ_7 (h9 : w ≤ 9) {so : Nat → Int} (hs : ∀ a b : Nat, b < a → a < w → (mus a b ↔ so a = so b)) (H : pPlJ can mus wo w bd d_X3_place_r87_c8d 8) : pPlJ can mus wo w bd d_X3_place_r87_c7d 7 := by
  intro gr m a W hJ P A hm mi hg G
  unfold d_X3_place_r87_c7d
  by_cases c : w ≤ 7
  · obtain rfl : w = 7 := by omega
    have ws := wsm_b (wo := wo) (gr := gr) 7 (by decide) (fun x z h1 h2 => (P.2.1 x z h1 h2).2.2)
    have e : tfF (lfB can mus wo 7) (7 - 7) 7 gr m a = upB (wsm wo gr 7) m gr a := if_neg (by rw [tv_t G]; decide)
    rw [e, if_pos (show W.1 87 3 ≤ 7 from by rw [P.1]; decide)]
    exact ntJ_e (W := W) (gr := gr) (m := m) h9 A (fun j hj => (hg j hj).2) ⟨ws.1, by have := ws.2; omega⟩
  · have mb : ∀ j : Nat, j < 7 → gr j ≤ (m : Int) := fun j hj => by
      have := mxG_b (gr := gr) 7 j hj
      have := (hg j hj).1
      omega
    obtain ⟨g1, g2⟩ := xrg (i := 7) (m := m) P h9 (by omega) mi (fun j hj => ⟨⟨(hg j hj).1, mb j hj⟩, (hg j hj).2⟩)
    rw [show (((7 : Nat) : Nat) : Int) = 7 from rfl] at g1 g2
    have F1 : pJf 7 W (d_X3_readGains_r87d 7 (m : Int) W) := ⟨fun c _ _ _ h _ => g1.1 c h, fun k _ _ => by rw [g1.1 87 (by decide)], fun j _ => by rw [g1.1 91 (by decide)], g1.2.1, g1.2.2⟩
    have A1 : pXa w bd (d_X3_readGains_r87d 7 (m : Int) W) a := by
      unfold pXa
      rw [g1.1 87 (by decide), g1.1 92 (by decide), g1.1 94 (by decide)]
      exact A
    have e : w - 7 = (w - 8) + 1 := by omega
    have go : ∀ l4 : Int, ((l4 = -1 ∧ ∀ b : Nat, b < 7 → ¬ mus 7 b) ∨ ∃ b : Nat, b < 7 ∧ l4 = gr b ∧ mus 7 b) → pXa w bd (d_X3_place_r87_c7d_61 9 (m : Int) (wsm wo gr 7) l4 0 (d_X3_readGains_r87d 7 (m : Int) W)) (tfF (lfB can mus wo w) (w - 7) 7 gr m a) ∧ pJf 7 W (d_X3_place_r87_c7d_61 9 (m : Int) (wsm wo gr 7) l4 0 (d_X3_readGains_r87d 7 (m : Int) W)) := fun l4 hl => by
      rw [e]
      exact pl61_7 h9 hs H (by omega) P hm mi hg G hl (m + 1) 0 9 a _ (by omega) (by omega) A1 F1 g2
    rw [if_neg (show ¬ W.1 87 3 ≤ 7 from by rw [P.1]; omega)]
    rcases P.2.2 7 (by omega) with ⟨t1, t2⟩ | ⟨b, t1, t2, t3⟩
    · rw [if_pos t1]
      exact go (-1) (Or.inl ⟨rfl, t2⟩)
    · rw [if_neg (show ¬ W.1 90 7 = -1 from by omega), t2, show ((b : Int)).toNat = b from by omega, (hg b t1).2]
      exact go (gr b) (Or.inr ⟨b, t1, rfl, t3⟩)
theorem pl61_6 (h9 : w ≤ 9) {so : Nat → Int} (hs : ∀ a b : Nat, b < a → a < w → (mus a b ↔ so a = so b)) (H : pPlJ can mus wo w bd d_X3_place_r87_c7d 7) {gr : Nat → Int} {m : Nat} {l4 : Int} {W0 : jW} (hJ : 6 < w) (P : pXj W0 w can mus wo) (hm : mxG gr 6 = m) (mi : m ≤ 6) (hg : ∀ j : Nat, j < 6 → 0 ≤ gr j ∧ W0.1 91 j = gr j) (G : gdP can mus gr 6) (hl : (l4 = -1 ∧ ∀ b : Nat, b < 6 → ¬ mus 6 b) ∨ ∃ b : Nat, b < 6 ∧ l4 = gr b ∧ mus 6 b) : ∀ (k g r : Nat) (a : pjB) (W : jW), g + k = m + 1 → k < r → pXa w bd W a → pJf 6 W0 W → (∀ q : Nat, q ≤ m → W.1 93 (10 * 6 + q) = sGn (can 6) (wo 6) gr (q : Int) 6) → pXa w bd (d_X3_place_r87_c6d_61 r (m : Int) (wsm wo gr 6) l4 (g : Int) W) (tgF (fun g a => tfF (lfB can mus wo w) (w - 7) (6 + 1) (sU gr 6 (g : Int)) (if g = m then m + 1 else m) a) k g a) ∧ pJf 6 W0 (d_X3_place_r87_c6d_61 r (m : Int) (wsm wo gr 6) l4 (g : Int) W) := by
  intro k
  induction k with
  | zero =>
    intro g r a W e hr A F _
    obtain ⟨r, rfl⟩ : ∃ z, r = z + 1 := ⟨r - 1, by omega⟩
    have st : d_X3_place_r87_c6d_61 (r + 1) (m : Int) (wsm wo gr 6) l4 (g : Int) W = W := if_pos (by omega)
    rw [st]
    exact ⟨A, F⟩
  | succ k ih =>
    intro g r a W e hr A F q93
    obtain ⟨r, rfl⟩ : ∃ z, r = z + 1 := ⟨r - 1, by omega⟩
    have qg := q93 g (by omega)
    have gd := gd_n (can := can) (mus := mus) (wo := wo) (g := (g : Int)) (fun x hx => (P.2.1 6 x hx hJ).2.2) (fun a b h1 h2 => hs a b h1 (by omega)) G (fun j hj => (hg j hj).1) hl
    have st : d_X3_place_r87_c6d_61 (r + 1) (m : Int) (wsm wo gr 6) l4 (g : Int) W = (if sGn (can 6) (wo 6) gr (g : Int) 6 < 0 then d_X3_place_r87_c6d_61 r (m : Int) (wsm wo gr 6) l4 ((g : Int) + 1) W else if l4 = -1 then d_X3_place_r87_c6d_106 (fun l2 l3 l4 l5 W => d_X3_place_r87_c6d_61 r l2 l3 l4 l5 W) (m : Int) (wsm wo gr 6) l4 (g : Int) (sGn (can 6) (wo 6) gr (g : Int) 6) W else if l4 = (g : Int) then d_X3_place_r87_c6d_106 (fun l2 l3 l4 l5 W => d_X3_place_r87_c6d_61 r l2 l3 l4 l5 W) (m : Int) (wsm wo gr 6) l4 (g : Int) (sGn (can 6) (wo 6) gr (g : Int) 6) W else d_X3_place_r87_c6d_61 r (m : Int) (wsm wo gr 6) l4 ((g : Int) + 1) W) := by
      refine (if_neg (by omega)).trans ?_
      rw [show (60 + (g : Int)).toNat = 10 * 6 + g from by omega, qg]
      rfl
    have skip : ¬ gdP can mus (sU gr 6 (g : Int)) (6 + 1) → pXa w bd (d_X3_place_r87_c6d_61 r (m : Int) (wsm wo gr 6) l4 ((g : Int) + 1) W) (tgF (fun g a => tfF (lfB can mus wo w) (w - 7) (6 + 1) (sU gr 6 (g : Int)) (if g = m then m + 1 else m) a) (k + 1) g a) ∧ pJf 6 W0 (d_X3_place_r87_c6d_61 r (m : Int) (wsm wo gr 6) l4 ((g : Int) + 1) W) := fun n => by
      have y := ih (g + 1) r a W (by omega) (by omega) A F q93
      rw [show ((g + 1 : Nat) : Int) = (g : Int) + 1 from by omega] at y
      have e2 : tfF (lfB can mus wo w) (w - 7) (6 + 1) (sU gr 6 (g : Int)) (if g = m then m + 1 else m) a = a := tf_n (w - 7) (6 + 1) _ _ a (by omega) n
      have e3 : tgF (fun g a => tfF (lfB can mus wo w) (w - 7) (6 + 1) (sU gr 6 (g : Int)) (if g = m then m + 1 else m) a) (k + 1) g a = tgF (fun g a => tfF (lfB can mus wo w) (w - 7) (6 + 1) (sU gr 6 (g : Int)) (if g = m then m + 1 else m) a) k (g + 1) (tfF (lfB can mus wo w) (w - 7) (6 + 1) (sU gr 6 (g : Int)) (if g = m then m + 1 else m) a) := rfl
      rw [e3, e2]
      exact y
    have put : gdP can mus (sU gr 6 (g : Int)) (6 + 1) → pXa w bd (d_X3_place_r87_c6d_106 (fun l2 l3 l4 l5 W => d_X3_place_r87_c6d_61 r l2 l3 l4 l5 W) (m : Int) (wsm wo gr 6) l4 (g : Int) (sGn (can 6) (wo 6) gr (g : Int) 6) W) (tgF (fun g a => tfF (lfB can mus wo w) (w - 7) (6 + 1) (sU gr 6 (g : Int)) (if g = m then m + 1 else m) a) (k + 1) g a) ∧ pJf 6 W0 (d_X3_place_r87_c6d_106 (fun l2 l3 l4 l5 W => d_X3_place_r87_c6d_61 r l2 l3 l4 l5 W) (m : Int) (wsm wo gr 6) l4 (g : Int) (sGn (can 6) (wo 6) gr (g : Int) 6) W) := fun n => by
      have nn := (gd.mpr n).1
      have sg : sGn (can 6) (wo 6) gr (g : Int) 6 = wrw (wo 6) gr (g : Int) 6 := by
        unfold sGn at nn ⊢
        by_cases z : tv (∃ x : Nat, x < 6 ∧ gr x = (g : Int) ∧ ¬ can 6 x) = 0
        · rw [if_pos z]
        · rw [if_neg z] at nn; exact absurd (by decide) nn
      have b1 := wsm_b (wo := wo) (gr := gr) 6 (by omega) (fun x z h1 h2 => (P.2.1 x z h1 (by omega)).2.2)
      have b2 := wrw_b (wo := wo 6) (gr := gr) (x := (g : Int)) 6 (fun x hx => (P.2.1 6 x hx hJ).2.2)
      have wsn : j_iadd (wsm wo gr 6) (sGn (can 6) (wo 6) gr (g : Int) 6) = wsm wo (sU gr 6 (g : Int)) (6 + 1) := by
        rw [sg, ws_n]
        exact j_ia (by omega) (by omega) (by omega)
      have F1 : pJf 6 W0 (vu W 91 6 (g : Int)) := pJf_t F ⟨fun c _ h _ _ _ => vu_c h, fun k _ _ => vu_n (by omega), fun j hj => vu_n (by omega), fun k _ => vu_n (by omega), rfl⟩
      have h := H (sU gr 6 (g : Int)) (if g = m then m + 1 else m) a (vu W 91 6 (g : Int)) (by omega) (pXj_f F1 P) ⟨(vu_n (by omega)).trans A.1, (vu_n (by omega)).trans A.2.1, A.2.2.1, fun z j hj => (vu_n (by omega)).trans (A.2.2.2.1 z j hj), fun v hv => (vu_n (by omega)).trans (A.2.2.2.2 v hv)⟩ (by rw [← hm]; exact mx_u (by omega)) (by split <;> omega) (fun j hj => by
        by_cases z : j = 6
        · rw [z]
          exact ⟨by rw [show sU gr 6 (g : Int) 6 = (g : Int) from if_pos rfl]; omega, (vu_e rfl).trans (if_pos rfl).symm⟩
        · rw [show sU gr 6 (g : Int) j = gr j from if_neg z]
          exact ⟨(hg j (by omega)).1, (vu_n (by omega)).trans ((F.2.2.1 j (by omega)).trans (hg j (by omega)).2)⟩) n
      have F2 : pJf 6 W0 (d_X3_place_r87_c7d ((if g = m then m + 1 else m : Nat) : Int) (wsm wo (sU gr 6 (g : Int)) (6 + 1)) (vu W 91 6 (g : Int))) := pJf_t F1 (pJf_w (by decide) h.2)
      have y := ih (g + 1) r _ (d_X3_place_r87_c7d ((if g = m then m + 1 else m : Nat) : Int) (wsm wo (sU gr 6 (g : Int)) (6 + 1)) (vu W 91 6 (g : Int))) (by omega) (by omega) h.1 F2 (fun q hq => (h.2.2.2.2.1 _ (by omega)).trans ((vu_n (by omega)).trans (q93 q hq)))
      rw [show ((g + 1 : Nat) : Int) = (g : Int) + 1 from by omega] at y
      have e3 : d_X3_place_r87_c6d_106 (fun l2 l3 l4 l5 W => d_X3_place_r87_c6d_61 r l2 l3 l4 l5 W) (m : Int) (wsm wo gr 6) l4 (g : Int) (sGn (can 6) (wo 6) gr (g : Int) 6) W = d_X3_place_r87_c6d_61 r (m : Int) (wsm wo gr 6) l4 ((g : Int) + 1) (d_X3_place_r87_c7d ((if g = m then m + 1 else m : Nat) : Int) (wsm wo (sU gr 6 (g : Int)) (6 + 1)) (vu W 91 6 (g : Int))) := by
        unfold d_X3_place_r87_c6d_106 d_X3_place_r87_c6d_131 d_X3_place_r87_c6d_138
        rw [wsn]
        by_cases z : g = m
        · rw [if_pos (show (g : Int) = (m : Int) from by omega), if_pos z]; rfl
        · rw [if_neg (show ¬ (g : Int) = (m : Int) from by omega), if_neg z]
      rw [e3]
      exact y
    rw [st]
    by_cases c1 : sGn (can 6) (wo 6) gr (g : Int) 6 < 0
    · rw [if_pos c1]; exact skip (fun n => (gd.mpr n).1 c1)
    · rw [if_neg c1]
      by_cases c2 : l4 = -1
      · rw [if_pos c2]; exact put (gd.mp ⟨c1, Or.inl c2⟩)
      · rw [if_neg c2]
        by_cases c3 : l4 = (g : Int)
        · rw [if_pos c3]; exact put (gd.mp ⟨c1, Or.inr c3⟩)
        · rw [if_neg c3]; exact skip (fun n => (gd.mpr n).2.elim c2 c3)
theorem plJ_6 (h9 : w ≤ 9) {so : Nat → Int} (hs : ∀ a b : Nat, b < a → a < w → (mus a b ↔ so a = so b)) (H : pPlJ can mus wo w bd d_X3_place_r87_c7d 7) : pPlJ can mus wo w bd d_X3_place_r87_c6d 6 := by
  intro gr m a W hJ P A hm mi hg G
  unfold d_X3_place_r87_c6d
  by_cases c : w ≤ 6
  · obtain rfl : w = 6 := by omega
    have ws := wsm_b (wo := wo) (gr := gr) 6 (by decide) (fun x z h1 h2 => (P.2.1 x z h1 h2).2.2)
    have e : tfF (lfB can mus wo 6) (6 - 6) 6 gr m a = upB (wsm wo gr 6) m gr a := if_neg (by rw [tv_t G]; decide)
    rw [e, if_pos (show W.1 87 3 ≤ 6 from by rw [P.1]; decide)]
    exact ntJ_e (W := W) (gr := gr) (m := m) h9 A (fun j hj => (hg j hj).2) ⟨ws.1, by have := ws.2; omega⟩
  · have mb : ∀ j : Nat, j < 6 → gr j ≤ (m : Int) := fun j hj => by
      have := mxG_b (gr := gr) 6 j hj
      have := (hg j hj).1
      omega
    obtain ⟨g1, g2⟩ := xrg (i := 6) (m := m) P h9 (by omega) mi (fun j hj => ⟨⟨(hg j hj).1, mb j hj⟩, (hg j hj).2⟩)
    rw [show (((6 : Nat) : Nat) : Int) = 6 from rfl] at g1 g2
    have F1 : pJf 6 W (d_X3_readGains_r87d 6 (m : Int) W) := ⟨fun c _ _ _ h _ => g1.1 c h, fun k _ _ => by rw [g1.1 87 (by decide)], fun j _ => by rw [g1.1 91 (by decide)], g1.2.1, g1.2.2⟩
    have A1 : pXa w bd (d_X3_readGains_r87d 6 (m : Int) W) a := by
      unfold pXa
      rw [g1.1 87 (by decide), g1.1 92 (by decide), g1.1 94 (by decide)]
      exact A
    have e : w - 6 = (w - 7) + 1 := by omega
    have go : ∀ l4 : Int, ((l4 = -1 ∧ ∀ b : Nat, b < 6 → ¬ mus 6 b) ∨ ∃ b : Nat, b < 6 ∧ l4 = gr b ∧ mus 6 b) → pXa w bd (d_X3_place_r87_c6d_61 8 (m : Int) (wsm wo gr 6) l4 0 (d_X3_readGains_r87d 6 (m : Int) W)) (tfF (lfB can mus wo w) (w - 6) 6 gr m a) ∧ pJf 6 W (d_X3_place_r87_c6d_61 8 (m : Int) (wsm wo gr 6) l4 0 (d_X3_readGains_r87d 6 (m : Int) W)) := fun l4 hl => by
      rw [e]
      exact pl61_6 h9 hs H (by omega) P hm mi hg G hl (m + 1) 0 8 a _ (by omega) (by omega) A1 F1 g2
    rw [if_neg (show ¬ W.1 87 3 ≤ 6 from by rw [P.1]; omega)]
    rcases P.2.2 6 (by omega) with ⟨t1, t2⟩ | ⟨b, t1, t2, t3⟩
    · rw [if_pos t1]
      exact go (-1) (Or.inl ⟨rfl, t2⟩)
    · rw [if_neg (show ¬ W.1 90 6 = -1 from by omega), t2, show ((b : Int)).toNat = b from by omega, (hg b t1).2]
      exact go (gr b) (Or.inr ⟨b, t1, rfl, t3⟩)
theorem pl61_5 (h9 : w ≤ 9) {so : Nat → Int} (hs : ∀ a b : Nat, b < a → a < w → (mus a b ↔ so a = so b)) (H : pPlJ can mus wo w bd d_X3_place_r87_c6d 6) {gr : Nat → Int} {m : Nat} {l4 : Int} {W0 : jW} (hJ : 5 < w) (P : pXj W0 w can mus wo) (hm : mxG gr 5 = m) (mi : m ≤ 5) (hg : ∀ j : Nat, j < 5 → 0 ≤ gr j ∧ W0.1 91 j = gr j) (G : gdP can mus gr 5) (hl : (l4 = -1 ∧ ∀ b : Nat, b < 5 → ¬ mus 5 b) ∨ ∃ b : Nat, b < 5 ∧ l4 = gr b ∧ mus 5 b) : ∀ (k g r : Nat) (a : pjB) (W : jW), g + k = m + 1 → k < r → pXa w bd W a → pJf 5 W0 W → (∀ q : Nat, q ≤ m → W.1 93 (10 * 5 + q) = sGn (can 5) (wo 5) gr (q : Int) 5) → pXa w bd (d_X3_place_r87_c5d_61 r (m : Int) (wsm wo gr 5) l4 (g : Int) W) (tgF (fun g a => tfF (lfB can mus wo w) (w - 6) (5 + 1) (sU gr 5 (g : Int)) (if g = m then m + 1 else m) a) k g a) ∧ pJf 5 W0 (d_X3_place_r87_c5d_61 r (m : Int) (wsm wo gr 5) l4 (g : Int) W) := by
  intro k
  induction k with
  | zero =>
    intro g r a W e hr A F _
    obtain ⟨r, rfl⟩ : ∃ z, r = z + 1 := ⟨r - 1, by omega⟩
    have st : d_X3_place_r87_c5d_61 (r + 1) (m : Int) (wsm wo gr 5) l4 (g : Int) W = W := if_pos (by omega)
    rw [st]
    exact ⟨A, F⟩
  | succ k ih =>
    intro g r a W e hr A F q93
    obtain ⟨r, rfl⟩ : ∃ z, r = z + 1 := ⟨r - 1, by omega⟩
    have qg := q93 g (by omega)
    have gd := gd_n (can := can) (mus := mus) (wo := wo) (g := (g : Int)) (fun x hx => (P.2.1 5 x hx hJ).2.2) (fun a b h1 h2 => hs a b h1 (by omega)) G (fun j hj => (hg j hj).1) hl
    have st : d_X3_place_r87_c5d_61 (r + 1) (m : Int) (wsm wo gr 5) l4 (g : Int) W = (if sGn (can 5) (wo 5) gr (g : Int) 5 < 0 then d_X3_place_r87_c5d_61 r (m : Int) (wsm wo gr 5) l4 ((g : Int) + 1) W else if l4 = -1 then d_X3_place_r87_c5d_106 (fun l2 l3 l4 l5 W => d_X3_place_r87_c5d_61 r l2 l3 l4 l5 W) (m : Int) (wsm wo gr 5) l4 (g : Int) (sGn (can 5) (wo 5) gr (g : Int) 5) W else if l4 = (g : Int) then d_X3_place_r87_c5d_106 (fun l2 l3 l4 l5 W => d_X3_place_r87_c5d_61 r l2 l3 l4 l5 W) (m : Int) (wsm wo gr 5) l4 (g : Int) (sGn (can 5) (wo 5) gr (g : Int) 5) W else d_X3_place_r87_c5d_61 r (m : Int) (wsm wo gr 5) l4 ((g : Int) + 1) W) := by
      refine (if_neg (by omega)).trans ?_
      rw [show (50 + (g : Int)).toNat = 10 * 5 + g from by omega, qg]
      rfl
    have skip : ¬ gdP can mus (sU gr 5 (g : Int)) (5 + 1) → pXa w bd (d_X3_place_r87_c5d_61 r (m : Int) (wsm wo gr 5) l4 ((g : Int) + 1) W) (tgF (fun g a => tfF (lfB can mus wo w) (w - 6) (5 + 1) (sU gr 5 (g : Int)) (if g = m then m + 1 else m) a) (k + 1) g a) ∧ pJf 5 W0 (d_X3_place_r87_c5d_61 r (m : Int) (wsm wo gr 5) l4 ((g : Int) + 1) W) := fun n => by
      have y := ih (g + 1) r a W (by omega) (by omega) A F q93
      rw [show ((g + 1 : Nat) : Int) = (g : Int) + 1 from by omega] at y
      have e2 : tfF (lfB can mus wo w) (w - 6) (5 + 1) (sU gr 5 (g : Int)) (if g = m then m + 1 else m) a = a := tf_n (w - 6) (5 + 1) _ _ a (by omega) n
      have e3 : tgF (fun g a => tfF (lfB can mus wo w) (w - 6) (5 + 1) (sU gr 5 (g : Int)) (if g = m then m + 1 else m) a) (k + 1) g a = tgF (fun g a => tfF (lfB can mus wo w) (w - 6) (5 + 1) (sU gr 5 (g : Int)) (if g = m then m + 1 else m) a) k (g + 1) (tfF (lfB can mus wo w) (w - 6) (5 + 1) (sU gr 5 (g : Int)) (if g = m then m + 1 else m) a) := rfl
      rw [e3, e2]
      exact y
    have put : gdP can mus (sU gr 5 (g : Int)) (5 + 1) → pXa w bd (d_X3_place_r87_c5d_106 (fun l2 l3 l4 l5 W => d_X3_place_r87_c5d_61 r l2 l3 l4 l5 W) (m : Int) (wsm wo gr 5) l4 (g : Int) (sGn (can 5) (wo 5) gr (g : Int) 5) W) (tgF (fun g a => tfF (lfB can mus wo w) (w - 6) (5 + 1) (sU gr 5 (g : Int)) (if g = m then m + 1 else m) a) (k + 1) g a) ∧ pJf 5 W0 (d_X3_place_r87_c5d_106 (fun l2 l3 l4 l5 W => d_X3_place_r87_c5d_61 r l2 l3 l4 l5 W) (m : Int) (wsm wo gr 5) l4 (g : Int) (sGn (can 5) (wo 5) gr (g : Int) 5) W) := fun n => by
      have nn := (gd.mpr n).1
      have sg : sGn (can 5) (wo 5) gr (g : Int) 5 = wrw (wo 5) gr (g : Int) 5 := by
        unfold sGn at nn ⊢
        by_cases z : tv (∃ x : Nat, x < 5 ∧ gr x = (g : Int) ∧ ¬ can 5 x) = 0
        · rw [if_pos z]
        · rw [if_neg z] at nn; exact absurd (by decide) nn
      have b1 := wsm_b (wo := wo) (gr := gr) 5 (by omega) (fun x z h1 h2 => (P.2.1 x z h1 (by omega)).2.2)
      have b2 := wrw_b (wo := wo 5) (gr := gr) (x := (g : Int)) 5 (fun x hx => (P.2.1 5 x hx hJ).2.2)
      have wsn : j_iadd (wsm wo gr 5) (sGn (can 5) (wo 5) gr (g : Int) 5) = wsm wo (sU gr 5 (g : Int)) (5 + 1) := by
        rw [sg, ws_n]
        exact j_ia (by omega) (by omega) (by omega)
      have F1 : pJf 5 W0 (vu W 91 5 (g : Int)) := pJf_t F ⟨fun c _ h _ _ _ => vu_c h, fun k _ _ => vu_n (by omega), fun j hj => vu_n (by omega), fun k _ => vu_n (by omega), rfl⟩
      have h := H (sU gr 5 (g : Int)) (if g = m then m + 1 else m) a (vu W 91 5 (g : Int)) (by omega) (pXj_f F1 P) ⟨(vu_n (by omega)).trans A.1, (vu_n (by omega)).trans A.2.1, A.2.2.1, fun z j hj => (vu_n (by omega)).trans (A.2.2.2.1 z j hj), fun v hv => (vu_n (by omega)).trans (A.2.2.2.2 v hv)⟩ (by rw [← hm]; exact mx_u (by omega)) (by split <;> omega) (fun j hj => by
        by_cases z : j = 5
        · rw [z]
          exact ⟨by rw [show sU gr 5 (g : Int) 5 = (g : Int) from if_pos rfl]; omega, (vu_e rfl).trans (if_pos rfl).symm⟩
        · rw [show sU gr 5 (g : Int) j = gr j from if_neg z]
          exact ⟨(hg j (by omega)).1, (vu_n (by omega)).trans ((F.2.2.1 j (by omega)).trans (hg j (by omega)).2)⟩) n
      have F2 : pJf 5 W0 (d_X3_place_r87_c6d ((if g = m then m + 1 else m : Nat) : Int) (wsm wo (sU gr 5 (g : Int)) (5 + 1)) (vu W 91 5 (g : Int))) := pJf_t F1 (pJf_w (by decide) h.2)
      have y := ih (g + 1) r _ (d_X3_place_r87_c6d ((if g = m then m + 1 else m : Nat) : Int) (wsm wo (sU gr 5 (g : Int)) (5 + 1)) (vu W 91 5 (g : Int))) (by omega) (by omega) h.1 F2 (fun q hq => (h.2.2.2.2.1 _ (by omega)).trans ((vu_n (by omega)).trans (q93 q hq)))
      rw [show ((g + 1 : Nat) : Int) = (g : Int) + 1 from by omega] at y
      have e3 : d_X3_place_r87_c5d_106 (fun l2 l3 l4 l5 W => d_X3_place_r87_c5d_61 r l2 l3 l4 l5 W) (m : Int) (wsm wo gr 5) l4 (g : Int) (sGn (can 5) (wo 5) gr (g : Int) 5) W = d_X3_place_r87_c5d_61 r (m : Int) (wsm wo gr 5) l4 ((g : Int) + 1) (d_X3_place_r87_c6d ((if g = m then m + 1 else m : Nat) : Int) (wsm wo (sU gr 5 (g : Int)) (5 + 1)) (vu W 91 5 (g : Int))) := by
        unfold d_X3_place_r87_c5d_106 d_X3_place_r87_c5d_131 d_X3_place_r87_c5d_138
        rw [wsn]
        by_cases z : g = m
        · rw [if_pos (show (g : Int) = (m : Int) from by omega), if_pos z]; rfl
        · rw [if_neg (show ¬ (g : Int) = (m : Int) from by omega), if_neg z]
      rw [e3]
      exact y
    rw [st]
    by_cases c1 : sGn (can 5) (wo 5) gr (g : Int) 5 < 0
    · rw [if_pos c1]; exact skip (fun n => (gd.mpr n).1 c1)
    · rw [if_neg c1]
      by_cases c2 : l4 = -1
      · rw [if_pos c2]; exact put (gd.mp ⟨c1, Or.inl c2⟩)
      · rw [if_neg c2]
        by_cases c3 : l4 = (g : Int)
        · rw [if_pos c3]; exact put (gd.mp ⟨c1, Or.inr c3⟩)
        · rw [if_neg c3]; exact skip (fun n => (gd.mpr n).2.elim c2 c3)
theorem plJ_5 (h9 : w ≤ 9) {so : Nat → Int} (hs : ∀ a b : Nat, b < a → a < w → (mus a b ↔ so a = so b)) (H : pPlJ can mus wo w bd d_X3_place_r87_c6d 6) : pPlJ can mus wo w bd d_X3_place_r87_c5d 5 := by
  intro gr m a W hJ P A hm mi hg G
  unfold d_X3_place_r87_c5d
  by_cases c : w ≤ 5
  · obtain rfl : w = 5 := by omega
    have ws := wsm_b (wo := wo) (gr := gr) 5 (by decide) (fun x z h1 h2 => (P.2.1 x z h1 h2).2.2)
    have e : tfF (lfB can mus wo 5) (5 - 5) 5 gr m a = upB (wsm wo gr 5) m gr a := if_neg (by rw [tv_t G]; decide)
    rw [e, if_pos (show W.1 87 3 ≤ 5 from by rw [P.1]; decide)]
    exact ntJ_e (W := W) (gr := gr) (m := m) h9 A (fun j hj => (hg j hj).2) ⟨ws.1, by have := ws.2; omega⟩
  · have mb : ∀ j : Nat, j < 5 → gr j ≤ (m : Int) := fun j hj => by
      have := mxG_b (gr := gr) 5 j hj
      have := (hg j hj).1
      omega
    obtain ⟨g1, g2⟩ := xrg (i := 5) (m := m) P h9 (by omega) mi (fun j hj => ⟨⟨(hg j hj).1, mb j hj⟩, (hg j hj).2⟩)
    rw [show (((5 : Nat) : Nat) : Int) = 5 from rfl] at g1 g2
    have F1 : pJf 5 W (d_X3_readGains_r87d 5 (m : Int) W) := ⟨fun c _ _ _ h _ => g1.1 c h, fun k _ _ => by rw [g1.1 87 (by decide)], fun j _ => by rw [g1.1 91 (by decide)], g1.2.1, g1.2.2⟩
    have A1 : pXa w bd (d_X3_readGains_r87d 5 (m : Int) W) a := by
      unfold pXa
      rw [g1.1 87 (by decide), g1.1 92 (by decide), g1.1 94 (by decide)]
      exact A
    have e : w - 5 = (w - 6) + 1 := by omega
    have go : ∀ l4 : Int, ((l4 = -1 ∧ ∀ b : Nat, b < 5 → ¬ mus 5 b) ∨ ∃ b : Nat, b < 5 ∧ l4 = gr b ∧ mus 5 b) → pXa w bd (d_X3_place_r87_c5d_61 7 (m : Int) (wsm wo gr 5) l4 0 (d_X3_readGains_r87d 5 (m : Int) W)) (tfF (lfB can mus wo w) (w - 5) 5 gr m a) ∧ pJf 5 W (d_X3_place_r87_c5d_61 7 (m : Int) (wsm wo gr 5) l4 0 (d_X3_readGains_r87d 5 (m : Int) W)) := fun l4 hl => by
      rw [e]
      exact pl61_5 h9 hs H (by omega) P hm mi hg G hl (m + 1) 0 7 a _ (by omega) (by omega) A1 F1 g2
    rw [if_neg (show ¬ W.1 87 3 ≤ 5 from by rw [P.1]; omega)]
    rcases P.2.2 5 (by omega) with ⟨t1, t2⟩ | ⟨b, t1, t2, t3⟩
    · rw [if_pos t1]
      exact go (-1) (Or.inl ⟨rfl, t2⟩)
    · rw [if_neg (show ¬ W.1 90 5 = -1 from by omega), t2, show ((b : Int)).toNat = b from by omega, (hg b t1).2]
      exact go (gr b) (Or.inr ⟨b, t1, rfl, t3⟩)
theorem pl61_4 (h9 : w ≤ 9) {so : Nat → Int} (hs : ∀ a b : Nat, b < a → a < w → (mus a b ↔ so a = so b)) (H : pPlJ can mus wo w bd d_X3_place_r87_c5d 5) {gr : Nat → Int} {m : Nat} {l4 : Int} {W0 : jW} (hJ : 4 < w) (P : pXj W0 w can mus wo) (hm : mxG gr 4 = m) (mi : m ≤ 4) (hg : ∀ j : Nat, j < 4 → 0 ≤ gr j ∧ W0.1 91 j = gr j) (G : gdP can mus gr 4) (hl : (l4 = -1 ∧ ∀ b : Nat, b < 4 → ¬ mus 4 b) ∨ ∃ b : Nat, b < 4 ∧ l4 = gr b ∧ mus 4 b) : ∀ (k g r : Nat) (a : pjB) (W : jW), g + k = m + 1 → k < r → pXa w bd W a → pJf 4 W0 W → (∀ q : Nat, q ≤ m → W.1 93 (10 * 4 + q) = sGn (can 4) (wo 4) gr (q : Int) 4) → pXa w bd (d_X3_place_r87_c4d_61 r (m : Int) (wsm wo gr 4) l4 (g : Int) W) (tgF (fun g a => tfF (lfB can mus wo w) (w - 5) (4 + 1) (sU gr 4 (g : Int)) (if g = m then m + 1 else m) a) k g a) ∧ pJf 4 W0 (d_X3_place_r87_c4d_61 r (m : Int) (wsm wo gr 4) l4 (g : Int) W) := by
  intro k
  induction k with
  | zero =>
    intro g r a W e hr A F _
    obtain ⟨r, rfl⟩ : ∃ z, r = z + 1 := ⟨r - 1, by omega⟩
    have st : d_X3_place_r87_c4d_61 (r + 1) (m : Int) (wsm wo gr 4) l4 (g : Int) W = W := if_pos (by omega)
    rw [st]
    exact ⟨A, F⟩
  | succ k ih =>
    intro g r a W e hr A F q93
    obtain ⟨r, rfl⟩ : ∃ z, r = z + 1 := ⟨r - 1, by omega⟩
    have qg := q93 g (by omega)
    have gd := gd_n (can := can) (mus := mus) (wo := wo) (g := (g : Int)) (fun x hx => (P.2.1 4 x hx hJ).2.2) (fun a b h1 h2 => hs a b h1 (by omega)) G (fun j hj => (hg j hj).1) hl
    have st : d_X3_place_r87_c4d_61 (r + 1) (m : Int) (wsm wo gr 4) l4 (g : Int) W = (if sGn (can 4) (wo 4) gr (g : Int) 4 < 0 then d_X3_place_r87_c4d_61 r (m : Int) (wsm wo gr 4) l4 ((g : Int) + 1) W else if l4 = -1 then d_X3_place_r87_c4d_106 (fun l2 l3 l4 l5 W => d_X3_place_r87_c4d_61 r l2 l3 l4 l5 W) (m : Int) (wsm wo gr 4) l4 (g : Int) (sGn (can 4) (wo 4) gr (g : Int) 4) W else if l4 = (g : Int) then d_X3_place_r87_c4d_106 (fun l2 l3 l4 l5 W => d_X3_place_r87_c4d_61 r l2 l3 l4 l5 W) (m : Int) (wsm wo gr 4) l4 (g : Int) (sGn (can 4) (wo 4) gr (g : Int) 4) W else d_X3_place_r87_c4d_61 r (m : Int) (wsm wo gr 4) l4 ((g : Int) + 1) W) := by
      refine (if_neg (by omega)).trans ?_
      rw [show (40 + (g : Int)).toNat = 10 * 4 + g from by omega, qg]
      rfl
    have skip : ¬ gdP can mus (sU gr 4 (g : Int)) (4 + 1) → pXa w bd (d_X3_place_r87_c4d_61 r (m : Int) (wsm wo gr 4) l4 ((g : Int) + 1) W) (tgF (fun g a => tfF (lfB can mus wo w) (w - 5) (4 + 1) (sU gr 4 (g : Int)) (if g = m then m + 1 else m) a) (k + 1) g a) ∧ pJf 4 W0 (d_X3_place_r87_c4d_61 r (m : Int) (wsm wo gr 4) l4 ((g : Int) + 1) W) := fun n => by
      have y := ih (g + 1) r a W (by omega) (by omega) A F q93
      rw [show ((g + 1 : Nat) : Int) = (g : Int) + 1 from by omega] at y
      have e2 : tfF (lfB can mus wo w) (w - 5) (4 + 1) (sU gr 4 (g : Int)) (if g = m then m + 1 else m) a = a := tf_n (w - 5) (4 + 1) _ _ a (by omega) n
      have e3 : tgF (fun g a => tfF (lfB can mus wo w) (w - 5) (4 + 1) (sU gr 4 (g : Int)) (if g = m then m + 1 else m) a) (k + 1) g a = tgF (fun g a => tfF (lfB can mus wo w) (w - 5) (4 + 1) (sU gr 4 (g : Int)) (if g = m then m + 1 else m) a) k (g + 1) (tfF (lfB can mus wo w) (w - 5) (4 + 1) (sU gr 4 (g : Int)) (if g = m then m + 1 else m) a) := rfl
      rw [e3, e2]
      exact y
    have put : gdP can mus (sU gr 4 (g : Int)) (4 + 1) → pXa w bd (d_X3_place_r87_c4d_106 (fun l2 l3 l4 l5 W => d_X3_place_r87_c4d_61 r l2 l3 l4 l5 W) (m : Int) (wsm wo gr 4) l4 (g : Int) (sGn (can 4) (wo 4) gr (g : Int) 4) W) (tgF (fun g a => tfF (lfB can mus wo w) (w - 5) (4 + 1) (sU gr 4 (g : Int)) (if g = m then m + 1 else m) a) (k + 1) g a) ∧ pJf 4 W0 (d_X3_place_r87_c4d_106 (fun l2 l3 l4 l5 W => d_X3_place_r87_c4d_61 r l2 l3 l4 l5 W) (m : Int) (wsm wo gr 4) l4 (g : Int) (sGn (can 4) (wo 4) gr (g : Int) 4) W) := fun n => by
      have nn := (gd.mpr n).1
      have sg : sGn (can 4) (wo 4) gr (g : Int) 4 = wrw (wo 4) gr (g : Int) 4 := by
        unfold sGn at nn ⊢
        by_cases z : tv (∃ x : Nat, x < 4 ∧ gr x = (g : Int) ∧ ¬ can 4 x) = 0
        · rw [if_pos z]
        · rw [if_neg z] at nn; exact absurd (by decide) nn
      have b1 := wsm_b (wo := wo) (gr := gr) 4 (by omega) (fun x z h1 h2 => (P.2.1 x z h1 (by omega)).2.2)
      have b2 := wrw_b (wo := wo 4) (gr := gr) (x := (g : Int)) 4 (fun x hx => (P.2.1 4 x hx hJ).2.2)
      have wsn : j_iadd (wsm wo gr 4) (sGn (can 4) (wo 4) gr (g : Int) 4) = wsm wo (sU gr 4 (g : Int)) (4 + 1) := by
        rw [sg, ws_n]
        exact j_ia (by omega) (by omega) (by omega)
      have F1 : pJf 4 W0 (vu W 91 4 (g : Int)) := pJf_t F ⟨fun c _ h _ _ _ => vu_c h, fun k _ _ => vu_n (by omega), fun j hj => vu_n (by omega), fun k _ => vu_n (by omega), rfl⟩
      have h := H (sU gr 4 (g : Int)) (if g = m then m + 1 else m) a (vu W 91 4 (g : Int)) (by omega) (pXj_f F1 P) ⟨(vu_n (by omega)).trans A.1, (vu_n (by omega)).trans A.2.1, A.2.2.1, fun z j hj => (vu_n (by omega)).trans (A.2.2.2.1 z j hj), fun v hv => (vu_n (by omega)).trans (A.2.2.2.2 v hv)⟩ (by rw [← hm]; exact mx_u (by omega)) (by split <;> omega) (fun j hj => by
        by_cases z : j = 4
        · rw [z]
          exact ⟨by rw [show sU gr 4 (g : Int) 4 = (g : Int) from if_pos rfl]; omega, (vu_e rfl).trans (if_pos rfl).symm⟩
        · rw [show sU gr 4 (g : Int) j = gr j from if_neg z]
          exact ⟨(hg j (by omega)).1, (vu_n (by omega)).trans ((F.2.2.1 j (by omega)).trans (hg j (by omega)).2)⟩) n
      have F2 : pJf 4 W0 (d_X3_place_r87_c5d ((if g = m then m + 1 else m : Nat) : Int) (wsm wo (sU gr 4 (g : Int)) (4 + 1)) (vu W 91 4 (g : Int))) := pJf_t F1 (pJf_w (by decide) h.2)
      have y := ih (g + 1) r _ (d_X3_place_r87_c5d ((if g = m then m + 1 else m : Nat) : Int) (wsm wo (sU gr 4 (g : Int)) (4 + 1)) (vu W 91 4 (g : Int))) (by omega) (by omega) h.1 F2 (fun q hq => (h.2.2.2.2.1 _ (by omega)).trans ((vu_n (by omega)).trans (q93 q hq)))
      rw [show ((g + 1 : Nat) : Int) = (g : Int) + 1 from by omega] at y
      have e3 : d_X3_place_r87_c4d_106 (fun l2 l3 l4 l5 W => d_X3_place_r87_c4d_61 r l2 l3 l4 l5 W) (m : Int) (wsm wo gr 4) l4 (g : Int) (sGn (can 4) (wo 4) gr (g : Int) 4) W = d_X3_place_r87_c4d_61 r (m : Int) (wsm wo gr 4) l4 ((g : Int) + 1) (d_X3_place_r87_c5d ((if g = m then m + 1 else m : Nat) : Int) (wsm wo (sU gr 4 (g : Int)) (4 + 1)) (vu W 91 4 (g : Int))) := by
        unfold d_X3_place_r87_c4d_106 d_X3_place_r87_c4d_131 d_X3_place_r87_c4d_138
        rw [wsn]
        by_cases z : g = m
        · rw [if_pos (show (g : Int) = (m : Int) from by omega), if_pos z]; rfl
        · rw [if_neg (show ¬ (g : Int) = (m : Int) from by omega), if_neg z]
      rw [e3]
      exact y
    rw [st]
    by_cases c1 : sGn (can 4) (wo 4) gr (g : Int) 4 < 0
    · rw [if_pos c1]; exact skip (fun n => (gd.mpr n).1 c1)
    · rw [if_neg c1]
      by_cases c2 : l4 = -1
      · rw [if_pos c2]; exact put (gd.mp ⟨c1, Or.inl c2⟩)
      · rw [if_neg c2]
        by_cases c3 : l4 = (g : Int)
        · rw [if_pos c3]; exact put (gd.mp ⟨c1, Or.inr c3⟩)
        · rw [if_neg c3]; exact skip (fun n => (gd.mpr n).2.elim c2 c3)
theorem plJ_4 (h9 : w ≤ 9) {so : Nat → Int} (hs : ∀ a b : Nat, b < a → a < w → (mus a b ↔ so a = so b)) (H : pPlJ can mus wo w bd d_X3_place_r87_c5d 5) : pPlJ can mus wo w bd d_X3_place_r87_c4d 4 := by
  intro gr m a W hJ P A hm mi hg G
  unfold d_X3_place_r87_c4d
  by_cases c : w ≤ 4
  · obtain rfl : w = 4 := by omega
    have ws := wsm_b (wo := wo) (gr := gr) 4 (by decide) (fun x z h1 h2 => (P.2.1 x z h1 h2).2.2)
    have e : tfF (lfB can mus wo 4) (4 - 4) 4 gr m a = upB (wsm wo gr 4) m gr a := if_neg (by rw [tv_t G]; decide)
    rw [e, if_pos (show W.1 87 3 ≤ 4 from by rw [P.1]; decide)]
    exact ntJ_e (W := W) (gr := gr) (m := m) h9 A (fun j hj => (hg j hj).2) ⟨ws.1, by have := ws.2; omega⟩
  · have mb : ∀ j : Nat, j < 4 → gr j ≤ (m : Int) := fun j hj => by
      have := mxG_b (gr := gr) 4 j hj
      have := (hg j hj).1
      omega
    obtain ⟨g1, g2⟩ := xrg (i := 4) (m := m) P h9 (by omega) mi (fun j hj => ⟨⟨(hg j hj).1, mb j hj⟩, (hg j hj).2⟩)
    rw [show (((4 : Nat) : Nat) : Int) = 4 from rfl] at g1 g2
    have F1 : pJf 4 W (d_X3_readGains_r87d 4 (m : Int) W) := ⟨fun c _ _ _ h _ => g1.1 c h, fun k _ _ => by rw [g1.1 87 (by decide)], fun j _ => by rw [g1.1 91 (by decide)], g1.2.1, g1.2.2⟩
    have A1 : pXa w bd (d_X3_readGains_r87d 4 (m : Int) W) a := by
      unfold pXa
      rw [g1.1 87 (by decide), g1.1 92 (by decide), g1.1 94 (by decide)]
      exact A
    have e : w - 4 = (w - 5) + 1 := by omega
    have go : ∀ l4 : Int, ((l4 = -1 ∧ ∀ b : Nat, b < 4 → ¬ mus 4 b) ∨ ∃ b : Nat, b < 4 ∧ l4 = gr b ∧ mus 4 b) → pXa w bd (d_X3_place_r87_c4d_61 6 (m : Int) (wsm wo gr 4) l4 0 (d_X3_readGains_r87d 4 (m : Int) W)) (tfF (lfB can mus wo w) (w - 4) 4 gr m a) ∧ pJf 4 W (d_X3_place_r87_c4d_61 6 (m : Int) (wsm wo gr 4) l4 0 (d_X3_readGains_r87d 4 (m : Int) W)) := fun l4 hl => by
      rw [e]
      exact pl61_4 h9 hs H (by omega) P hm mi hg G hl (m + 1) 0 6 a _ (by omega) (by omega) A1 F1 g2
    rw [if_neg (show ¬ W.1 87 3 ≤ 4 from by rw [P.1]; omega)]
    rcases P.2.2 4 (by omega) with ⟨t1, t2⟩ | ⟨b, t1, t2, t3⟩
    · rw [if_pos t1]
      exact go (-1) (Or.inl ⟨rfl, t2⟩)
    · rw [if_neg (show ¬ W.1 90 4 = -1 from by omega), t2, show ((b : Int)).toNat = b from by omega, (hg b t1).2]
      exact go (gr b) (Or.inr ⟨b, t1, rfl, t3⟩)
theorem pl61_3 (h9 : w ≤ 9) {so : Nat → Int} (hs : ∀ a b : Nat, b < a → a < w → (mus a b ↔ so a = so b)) (H : pPlJ can mus wo w bd d_X3_place_r87_c4d 4) {gr : Nat → Int} {m : Nat} {l4 : Int} {W0 : jW} (hJ : 3 < w) (P : pXj W0 w can mus wo) (hm : mxG gr 3 = m) (mi : m ≤ 3) (hg : ∀ j : Nat, j < 3 → 0 ≤ gr j ∧ W0.1 91 j = gr j) (G : gdP can mus gr 3) (hl : (l4 = -1 ∧ ∀ b : Nat, b < 3 → ¬ mus 3 b) ∨ ∃ b : Nat, b < 3 ∧ l4 = gr b ∧ mus 3 b) : ∀ (k g r : Nat) (a : pjB) (W : jW), g + k = m + 1 → k < r → pXa w bd W a → pJf 3 W0 W → (∀ q : Nat, q ≤ m → W.1 93 (10 * 3 + q) = sGn (can 3) (wo 3) gr (q : Int) 3) → pXa w bd (d_X3_place_r87_c3d_61 r (m : Int) (wsm wo gr 3) l4 (g : Int) W) (tgF (fun g a => tfF (lfB can mus wo w) (w - 4) (3 + 1) (sU gr 3 (g : Int)) (if g = m then m + 1 else m) a) k g a) ∧ pJf 3 W0 (d_X3_place_r87_c3d_61 r (m : Int) (wsm wo gr 3) l4 (g : Int) W) := by
  intro k
  induction k with
  | zero =>
    intro g r a W e hr A F _
    obtain ⟨r, rfl⟩ : ∃ z, r = z + 1 := ⟨r - 1, by omega⟩
    have st : d_X3_place_r87_c3d_61 (r + 1) (m : Int) (wsm wo gr 3) l4 (g : Int) W = W := if_pos (by omega)
    rw [st]
    exact ⟨A, F⟩
  | succ k ih =>
    intro g r a W e hr A F q93
    obtain ⟨r, rfl⟩ : ∃ z, r = z + 1 := ⟨r - 1, by omega⟩
    have qg := q93 g (by omega)
    have gd := gd_n (can := can) (mus := mus) (wo := wo) (g := (g : Int)) (fun x hx => (P.2.1 3 x hx hJ).2.2) (fun a b h1 h2 => hs a b h1 (by omega)) G (fun j hj => (hg j hj).1) hl
    have st : d_X3_place_r87_c3d_61 (r + 1) (m : Int) (wsm wo gr 3) l4 (g : Int) W = (if sGn (can 3) (wo 3) gr (g : Int) 3 < 0 then d_X3_place_r87_c3d_61 r (m : Int) (wsm wo gr 3) l4 ((g : Int) + 1) W else if l4 = -1 then d_X3_place_r87_c3d_106 (fun l2 l3 l4 l5 W => d_X3_place_r87_c3d_61 r l2 l3 l4 l5 W) (m : Int) (wsm wo gr 3) l4 (g : Int) (sGn (can 3) (wo 3) gr (g : Int) 3) W else if l4 = (g : Int) then d_X3_place_r87_c3d_106 (fun l2 l3 l4 l5 W => d_X3_place_r87_c3d_61 r l2 l3 l4 l5 W) (m : Int) (wsm wo gr 3) l4 (g : Int) (sGn (can 3) (wo 3) gr (g : Int) 3) W else d_X3_place_r87_c3d_61 r (m : Int) (wsm wo gr 3) l4 ((g : Int) + 1) W) := by
      refine (if_neg (by omega)).trans ?_
      rw [show (30 + (g : Int)).toNat = 10 * 3 + g from by omega, qg]
      rfl
    have skip : ¬ gdP can mus (sU gr 3 (g : Int)) (3 + 1) → pXa w bd (d_X3_place_r87_c3d_61 r (m : Int) (wsm wo gr 3) l4 ((g : Int) + 1) W) (tgF (fun g a => tfF (lfB can mus wo w) (w - 4) (3 + 1) (sU gr 3 (g : Int)) (if g = m then m + 1 else m) a) (k + 1) g a) ∧ pJf 3 W0 (d_X3_place_r87_c3d_61 r (m : Int) (wsm wo gr 3) l4 ((g : Int) + 1) W) := fun n => by
      have y := ih (g + 1) r a W (by omega) (by omega) A F q93
      rw [show ((g + 1 : Nat) : Int) = (g : Int) + 1 from by omega] at y
      have e2 : tfF (lfB can mus wo w) (w - 4) (3 + 1) (sU gr 3 (g : Int)) (if g = m then m + 1 else m) a = a := tf_n (w - 4) (3 + 1) _ _ a (by omega) n
      have e3 : tgF (fun g a => tfF (lfB can mus wo w) (w - 4) (3 + 1) (sU gr 3 (g : Int)) (if g = m then m + 1 else m) a) (k + 1) g a = tgF (fun g a => tfF (lfB can mus wo w) (w - 4) (3 + 1) (sU gr 3 (g : Int)) (if g = m then m + 1 else m) a) k (g + 1) (tfF (lfB can mus wo w) (w - 4) (3 + 1) (sU gr 3 (g : Int)) (if g = m then m + 1 else m) a) := rfl
      rw [e3, e2]
      exact y
    have put : gdP can mus (sU gr 3 (g : Int)) (3 + 1) → pXa w bd (d_X3_place_r87_c3d_106 (fun l2 l3 l4 l5 W => d_X3_place_r87_c3d_61 r l2 l3 l4 l5 W) (m : Int) (wsm wo gr 3) l4 (g : Int) (sGn (can 3) (wo 3) gr (g : Int) 3) W) (tgF (fun g a => tfF (lfB can mus wo w) (w - 4) (3 + 1) (sU gr 3 (g : Int)) (if g = m then m + 1 else m) a) (k + 1) g a) ∧ pJf 3 W0 (d_X3_place_r87_c3d_106 (fun l2 l3 l4 l5 W => d_X3_place_r87_c3d_61 r l2 l3 l4 l5 W) (m : Int) (wsm wo gr 3) l4 (g : Int) (sGn (can 3) (wo 3) gr (g : Int) 3) W) := fun n => by
      have nn := (gd.mpr n).1
      have sg : sGn (can 3) (wo 3) gr (g : Int) 3 = wrw (wo 3) gr (g : Int) 3 := by
        unfold sGn at nn ⊢
        by_cases z : tv (∃ x : Nat, x < 3 ∧ gr x = (g : Int) ∧ ¬ can 3 x) = 0
        · rw [if_pos z]
        · rw [if_neg z] at nn; exact absurd (by decide) nn
      have b1 := wsm_b (wo := wo) (gr := gr) 3 (by omega) (fun x z h1 h2 => (P.2.1 x z h1 (by omega)).2.2)
      have b2 := wrw_b (wo := wo 3) (gr := gr) (x := (g : Int)) 3 (fun x hx => (P.2.1 3 x hx hJ).2.2)
      have wsn : j_iadd (wsm wo gr 3) (sGn (can 3) (wo 3) gr (g : Int) 3) = wsm wo (sU gr 3 (g : Int)) (3 + 1) := by
        rw [sg, ws_n]
        exact j_ia (by omega) (by omega) (by omega)
      have F1 : pJf 3 W0 (vu W 91 3 (g : Int)) := pJf_t F ⟨fun c _ h _ _ _ => vu_c h, fun k _ _ => vu_n (by omega), fun j hj => vu_n (by omega), fun k _ => vu_n (by omega), rfl⟩
      have h := H (sU gr 3 (g : Int)) (if g = m then m + 1 else m) a (vu W 91 3 (g : Int)) (by omega) (pXj_f F1 P) ⟨(vu_n (by omega)).trans A.1, (vu_n (by omega)).trans A.2.1, A.2.2.1, fun z j hj => (vu_n (by omega)).trans (A.2.2.2.1 z j hj), fun v hv => (vu_n (by omega)).trans (A.2.2.2.2 v hv)⟩ (by rw [← hm]; exact mx_u (by omega)) (by split <;> omega) (fun j hj => by
        by_cases z : j = 3
        · rw [z]
          exact ⟨by rw [show sU gr 3 (g : Int) 3 = (g : Int) from if_pos rfl]; omega, (vu_e rfl).trans (if_pos rfl).symm⟩
        · rw [show sU gr 3 (g : Int) j = gr j from if_neg z]
          exact ⟨(hg j (by omega)).1, (vu_n (by omega)).trans ((F.2.2.1 j (by omega)).trans (hg j (by omega)).2)⟩) n
      have F2 : pJf 3 W0 (d_X3_place_r87_c4d ((if g = m then m + 1 else m : Nat) : Int) (wsm wo (sU gr 3 (g : Int)) (3 + 1)) (vu W 91 3 (g : Int))) := pJf_t F1 (pJf_w (by decide) h.2)
      have y := ih (g + 1) r _ (d_X3_place_r87_c4d ((if g = m then m + 1 else m : Nat) : Int) (wsm wo (sU gr 3 (g : Int)) (3 + 1)) (vu W 91 3 (g : Int))) (by omega) (by omega) h.1 F2 (fun q hq => (h.2.2.2.2.1 _ (by omega)).trans ((vu_n (by omega)).trans (q93 q hq)))
      rw [show ((g + 1 : Nat) : Int) = (g : Int) + 1 from by omega] at y
      have e3 : d_X3_place_r87_c3d_106 (fun l2 l3 l4 l5 W => d_X3_place_r87_c3d_61 r l2 l3 l4 l5 W) (m : Int) (wsm wo gr 3) l4 (g : Int) (sGn (can 3) (wo 3) gr (g : Int) 3) W = d_X3_place_r87_c3d_61 r (m : Int) (wsm wo gr 3) l4 ((g : Int) + 1) (d_X3_place_r87_c4d ((if g = m then m + 1 else m : Nat) : Int) (wsm wo (sU gr 3 (g : Int)) (3 + 1)) (vu W 91 3 (g : Int))) := by
        unfold d_X3_place_r87_c3d_106 d_X3_place_r87_c3d_131 d_X3_place_r87_c3d_138
        rw [wsn]
        by_cases z : g = m
        · rw [if_pos (show (g : Int) = (m : Int) from by omega), if_pos z]; rfl
        · rw [if_neg (show ¬ (g : Int) = (m : Int) from by omega), if_neg z]
      rw [e3]
      exact y
    rw [st]
    by_cases c1 : sGn (can 3) (wo 3) gr (g : Int) 3 < 0
    · rw [if_pos c1]; exact skip (fun n => (gd.mpr n).1 c1)
    · rw [if_neg c1]
      by_cases c2 : l4 = -1
      · rw [if_pos c2]; exact put (gd.mp ⟨c1, Or.inl c2⟩)
      · rw [if_neg c2]
        by_cases c3 : l4 = (g : Int)
        · rw [if_pos c3]; exact put (gd.mp ⟨c1, Or.inr c3⟩)
        · rw [if_neg c3]; exact skip (fun n => (gd.mpr n).2.elim c2 c3)
theorem plJ_3 (h9 : w ≤ 9) {so : Nat → Int} (hs : ∀ a b : Nat, b < a → a < w → (mus a b ↔ so a = so b)) (H : pPlJ can mus wo w bd d_X3_place_r87_c4d 4) : pPlJ can mus wo w bd d_X3_place_r87_c3d 3 := by
  intro gr m a W hJ P A hm mi hg G
  unfold d_X3_place_r87_c3d
  by_cases c : w ≤ 3
  · obtain rfl : w = 3 := by omega
    have ws := wsm_b (wo := wo) (gr := gr) 3 (by decide) (fun x z h1 h2 => (P.2.1 x z h1 h2).2.2)
    have e : tfF (lfB can mus wo 3) (3 - 3) 3 gr m a = upB (wsm wo gr 3) m gr a := if_neg (by rw [tv_t G]; decide)
    rw [e, if_pos (show W.1 87 3 ≤ 3 from by rw [P.1]; decide)]
    exact ntJ_e (W := W) (gr := gr) (m := m) h9 A (fun j hj => (hg j hj).2) ⟨ws.1, by have := ws.2; omega⟩
  · have mb : ∀ j : Nat, j < 3 → gr j ≤ (m : Int) := fun j hj => by
      have := mxG_b (gr := gr) 3 j hj
      have := (hg j hj).1
      omega
    obtain ⟨g1, g2⟩ := xrg (i := 3) (m := m) P h9 (by omega) mi (fun j hj => ⟨⟨(hg j hj).1, mb j hj⟩, (hg j hj).2⟩)
    rw [show (((3 : Nat) : Nat) : Int) = 3 from rfl] at g1 g2
    have F1 : pJf 3 W (d_X3_readGains_r87d 3 (m : Int) W) := ⟨fun c _ _ _ h _ => g1.1 c h, fun k _ _ => by rw [g1.1 87 (by decide)], fun j _ => by rw [g1.1 91 (by decide)], g1.2.1, g1.2.2⟩
    have A1 : pXa w bd (d_X3_readGains_r87d 3 (m : Int) W) a := by
      unfold pXa
      rw [g1.1 87 (by decide), g1.1 92 (by decide), g1.1 94 (by decide)]
      exact A
    have e : w - 3 = (w - 4) + 1 := by omega
    have go : ∀ l4 : Int, ((l4 = -1 ∧ ∀ b : Nat, b < 3 → ¬ mus 3 b) ∨ ∃ b : Nat, b < 3 ∧ l4 = gr b ∧ mus 3 b) → pXa w bd (d_X3_place_r87_c3d_61 5 (m : Int) (wsm wo gr 3) l4 0 (d_X3_readGains_r87d 3 (m : Int) W)) (tfF (lfB can mus wo w) (w - 3) 3 gr m a) ∧ pJf 3 W (d_X3_place_r87_c3d_61 5 (m : Int) (wsm wo gr 3) l4 0 (d_X3_readGains_r87d 3 (m : Int) W)) := fun l4 hl => by
      rw [e]
      exact pl61_3 h9 hs H (by omega) P hm mi hg G hl (m + 1) 0 5 a _ (by omega) (by omega) A1 F1 g2
    rw [if_neg (show ¬ W.1 87 3 ≤ 3 from by rw [P.1]; omega)]
    rcases P.2.2 3 (by omega) with ⟨t1, t2⟩ | ⟨b, t1, t2, t3⟩
    · rw [if_pos t1]
      exact go (-1) (Or.inl ⟨rfl, t2⟩)
    · rw [if_neg (show ¬ W.1 90 3 = -1 from by omega), t2, show ((b : Int)).toNat = b from by omega, (hg b t1).2]
      exact go (gr b) (Or.inr ⟨b, t1, rfl, t3⟩)
theorem pl61_2 (h9 : w ≤ 9) {so : Nat → Int} (hs : ∀ a b : Nat, b < a → a < w → (mus a b ↔ so a = so b)) (H : pPlJ can mus wo w bd d_X3_place_r87_c3d 3) {gr : Nat → Int} {m : Nat} {l4 : Int} {W0 : jW} (hJ : 2 < w) (P : pXj W0 w can mus wo) (hm : mxG gr 2 = m) (mi : m ≤ 2) (hg : ∀ j : Nat, j < 2 → 0 ≤ gr j ∧ W0.1 91 j = gr j) (G : gdP can mus gr 2) (hl : (l4 = -1 ∧ ∀ b : Nat, b < 2 → ¬ mus 2 b) ∨ ∃ b : Nat, b < 2 ∧ l4 = gr b ∧ mus 2 b) : ∀ (k g r : Nat) (a : pjB) (W : jW), g + k = m + 1 → k < r → pXa w bd W a → pJf 2 W0 W → (∀ q : Nat, q ≤ m → W.1 93 (10 * 2 + q) = sGn (can 2) (wo 2) gr (q : Int) 2) → pXa w bd (d_X3_place_r87_c2d_61 r (m : Int) (wsm wo gr 2) l4 (g : Int) W) (tgF (fun g a => tfF (lfB can mus wo w) (w - 3) (2 + 1) (sU gr 2 (g : Int)) (if g = m then m + 1 else m) a) k g a) ∧ pJf 2 W0 (d_X3_place_r87_c2d_61 r (m : Int) (wsm wo gr 2) l4 (g : Int) W) := by
  intro k
  induction k with
  | zero =>
    intro g r a W e hr A F _
    obtain ⟨r, rfl⟩ : ∃ z, r = z + 1 := ⟨r - 1, by omega⟩
    have st : d_X3_place_r87_c2d_61 (r + 1) (m : Int) (wsm wo gr 2) l4 (g : Int) W = W := if_pos (by omega)
    rw [st]
    exact ⟨A, F⟩
  | succ k ih =>
    intro g r a W e hr A F q93
    obtain ⟨r, rfl⟩ : ∃ z, r = z + 1 := ⟨r - 1, by omega⟩
    have qg := q93 g (by omega)
    have gd := gd_n (can := can) (mus := mus) (wo := wo) (g := (g : Int)) (fun x hx => (P.2.1 2 x hx hJ).2.2) (fun a b h1 h2 => hs a b h1 (by omega)) G (fun j hj => (hg j hj).1) hl
    have st : d_X3_place_r87_c2d_61 (r + 1) (m : Int) (wsm wo gr 2) l4 (g : Int) W = (if sGn (can 2) (wo 2) gr (g : Int) 2 < 0 then d_X3_place_r87_c2d_61 r (m : Int) (wsm wo gr 2) l4 ((g : Int) + 1) W else if l4 = -1 then d_X3_place_r87_c2d_106 (fun l2 l3 l4 l5 W => d_X3_place_r87_c2d_61 r l2 l3 l4 l5 W) (m : Int) (wsm wo gr 2) l4 (g : Int) (sGn (can 2) (wo 2) gr (g : Int) 2) W else if l4 = (g : Int) then d_X3_place_r87_c2d_106 (fun l2 l3 l4 l5 W => d_X3_place_r87_c2d_61 r l2 l3 l4 l5 W) (m : Int) (wsm wo gr 2) l4 (g : Int) (sGn (can 2) (wo 2) gr (g : Int) 2) W else d_X3_place_r87_c2d_61 r (m : Int) (wsm wo gr 2) l4 ((g : Int) + 1) W) := by
      refine (if_neg (by omega)).trans ?_
      rw [show (20 + (g : Int)).toNat = 10 * 2 + g from by omega, qg]
      rfl
    have skip : ¬ gdP can mus (sU gr 2 (g : Int)) (2 + 1) → pXa w bd (d_X3_place_r87_c2d_61 r (m : Int) (wsm wo gr 2) l4 ((g : Int) + 1) W) (tgF (fun g a => tfF (lfB can mus wo w) (w - 3) (2 + 1) (sU gr 2 (g : Int)) (if g = m then m + 1 else m) a) (k + 1) g a) ∧ pJf 2 W0 (d_X3_place_r87_c2d_61 r (m : Int) (wsm wo gr 2) l4 ((g : Int) + 1) W) := fun n => by
      have y := ih (g + 1) r a W (by omega) (by omega) A F q93
      rw [show ((g + 1 : Nat) : Int) = (g : Int) + 1 from by omega] at y
      have e2 : tfF (lfB can mus wo w) (w - 3) (2 + 1) (sU gr 2 (g : Int)) (if g = m then m + 1 else m) a = a := tf_n (w - 3) (2 + 1) _ _ a (by omega) n
      have e3 : tgF (fun g a => tfF (lfB can mus wo w) (w - 3) (2 + 1) (sU gr 2 (g : Int)) (if g = m then m + 1 else m) a) (k + 1) g a = tgF (fun g a => tfF (lfB can mus wo w) (w - 3) (2 + 1) (sU gr 2 (g : Int)) (if g = m then m + 1 else m) a) k (g + 1) (tfF (lfB can mus wo w) (w - 3) (2 + 1) (sU gr 2 (g : Int)) (if g = m then m + 1 else m) a) := rfl
      rw [e3, e2]
      exact y
    have put : gdP can mus (sU gr 2 (g : Int)) (2 + 1) → pXa w bd (d_X3_place_r87_c2d_106 (fun l2 l3 l4 l5 W => d_X3_place_r87_c2d_61 r l2 l3 l4 l5 W) (m : Int) (wsm wo gr 2) l4 (g : Int) (sGn (can 2) (wo 2) gr (g : Int) 2) W) (tgF (fun g a => tfF (lfB can mus wo w) (w - 3) (2 + 1) (sU gr 2 (g : Int)) (if g = m then m + 1 else m) a) (k + 1) g a) ∧ pJf 2 W0 (d_X3_place_r87_c2d_106 (fun l2 l3 l4 l5 W => d_X3_place_r87_c2d_61 r l2 l3 l4 l5 W) (m : Int) (wsm wo gr 2) l4 (g : Int) (sGn (can 2) (wo 2) gr (g : Int) 2) W) := fun n => by
      have nn := (gd.mpr n).1
      have sg : sGn (can 2) (wo 2) gr (g : Int) 2 = wrw (wo 2) gr (g : Int) 2 := by
        unfold sGn at nn ⊢
        by_cases z : tv (∃ x : Nat, x < 2 ∧ gr x = (g : Int) ∧ ¬ can 2 x) = 0
        · rw [if_pos z]
        · rw [if_neg z] at nn; exact absurd (by decide) nn
      have b1 := wsm_b (wo := wo) (gr := gr) 2 (by omega) (fun x z h1 h2 => (P.2.1 x z h1 (by omega)).2.2)
      have b2 := wrw_b (wo := wo 2) (gr := gr) (x := (g : Int)) 2 (fun x hx => (P.2.1 2 x hx hJ).2.2)
      have wsn : j_iadd (wsm wo gr 2) (sGn (can 2) (wo 2) gr (g : Int) 2) = wsm wo (sU gr 2 (g : Int)) (2 + 1) := by
        rw [sg, ws_n]
        exact j_ia (by omega) (by omega) (by omega)
      have F1 : pJf 2 W0 (vu W 91 2 (g : Int)) := pJf_t F ⟨fun c _ h _ _ _ => vu_c h, fun k _ _ => vu_n (by omega), fun j hj => vu_n (by omega), fun k _ => vu_n (by omega), rfl⟩
      have h := H (sU gr 2 (g : Int)) (if g = m then m + 1 else m) a (vu W 91 2 (g : Int)) (by omega) (pXj_f F1 P) ⟨(vu_n (by omega)).trans A.1, (vu_n (by omega)).trans A.2.1, A.2.2.1, fun z j hj => (vu_n (by omega)).trans (A.2.2.2.1 z j hj), fun v hv => (vu_n (by omega)).trans (A.2.2.2.2 v hv)⟩ (by rw [← hm]; exact mx_u (by omega)) (by split <;> omega) (fun j hj => by
        by_cases z : j = 2
        · rw [z]
          exact ⟨by rw [show sU gr 2 (g : Int) 2 = (g : Int) from if_pos rfl]; omega, (vu_e rfl).trans (if_pos rfl).symm⟩
        · rw [show sU gr 2 (g : Int) j = gr j from if_neg z]
          exact ⟨(hg j (by omega)).1, (vu_n (by omega)).trans ((F.2.2.1 j (by omega)).trans (hg j (by omega)).2)⟩) n
      have F2 : pJf 2 W0 (d_X3_place_r87_c3d ((if g = m then m + 1 else m : Nat) : Int) (wsm wo (sU gr 2 (g : Int)) (2 + 1)) (vu W 91 2 (g : Int))) := pJf_t F1 (pJf_w (by decide) h.2)
      have y := ih (g + 1) r _ (d_X3_place_r87_c3d ((if g = m then m + 1 else m : Nat) : Int) (wsm wo (sU gr 2 (g : Int)) (2 + 1)) (vu W 91 2 (g : Int))) (by omega) (by omega) h.1 F2 (fun q hq => (h.2.2.2.2.1 _ (by omega)).trans ((vu_n (by omega)).trans (q93 q hq)))
      rw [show ((g + 1 : Nat) : Int) = (g : Int) + 1 from by omega] at y
      have e3 : d_X3_place_r87_c2d_106 (fun l2 l3 l4 l5 W => d_X3_place_r87_c2d_61 r l2 l3 l4 l5 W) (m : Int) (wsm wo gr 2) l4 (g : Int) (sGn (can 2) (wo 2) gr (g : Int) 2) W = d_X3_place_r87_c2d_61 r (m : Int) (wsm wo gr 2) l4 ((g : Int) + 1) (d_X3_place_r87_c3d ((if g = m then m + 1 else m : Nat) : Int) (wsm wo (sU gr 2 (g : Int)) (2 + 1)) (vu W 91 2 (g : Int))) := by
        unfold d_X3_place_r87_c2d_106 d_X3_place_r87_c2d_131 d_X3_place_r87_c2d_138
        rw [wsn]
        by_cases z : g = m
        · rw [if_pos (show (g : Int) = (m : Int) from by omega), if_pos z]; rfl
        · rw [if_neg (show ¬ (g : Int) = (m : Int) from by omega), if_neg z]
      rw [e3]
      exact y
    rw [st]
    by_cases c1 : sGn (can 2) (wo 2) gr (g : Int) 2 < 0
    · rw [if_pos c1]; exact skip (fun n => (gd.mpr n).1 c1)
    · rw [if_neg c1]
      by_cases c2 : l4 = -1
      · rw [if_pos c2]; exact put (gd.mp ⟨c1, Or.inl c2⟩)
      · rw [if_neg c2]
        by_cases c3 : l4 = (g : Int)
        · rw [if_pos c3]; exact put (gd.mp ⟨c1, Or.inr c3⟩)
        · rw [if_neg c3]; exact skip (fun n => (gd.mpr n).2.elim c2 c3)
theorem plJ_2 (h9 : w ≤ 9) {so : Nat → Int} (hs : ∀ a b : Nat, b < a → a < w → (mus a b ↔ so a = so b)) (H : pPlJ can mus wo w bd d_X3_place_r87_c3d 3) : pPlJ can mus wo w bd d_X3_place_r87_c2d 2 := by
  intro gr m a W hJ P A hm mi hg G
  unfold d_X3_place_r87_c2d
  by_cases c : w ≤ 2
  · obtain rfl : w = 2 := by omega
    have ws := wsm_b (wo := wo) (gr := gr) 2 (by decide) (fun x z h1 h2 => (P.2.1 x z h1 h2).2.2)
    have e : tfF (lfB can mus wo 2) (2 - 2) 2 gr m a = upB (wsm wo gr 2) m gr a := if_neg (by rw [tv_t G]; decide)
    rw [e, if_pos (show W.1 87 3 ≤ 2 from by rw [P.1]; decide)]
    exact ntJ_e (W := W) (gr := gr) (m := m) h9 A (fun j hj => (hg j hj).2) ⟨ws.1, by have := ws.2; omega⟩
  · have mb : ∀ j : Nat, j < 2 → gr j ≤ (m : Int) := fun j hj => by
      have := mxG_b (gr := gr) 2 j hj
      have := (hg j hj).1
      omega
    obtain ⟨g1, g2⟩ := xrg (i := 2) (m := m) P h9 (by omega) mi (fun j hj => ⟨⟨(hg j hj).1, mb j hj⟩, (hg j hj).2⟩)
    rw [show (((2 : Nat) : Nat) : Int) = 2 from rfl] at g1 g2
    have F1 : pJf 2 W (d_X3_readGains_r87d 2 (m : Int) W) := ⟨fun c _ _ _ h _ => g1.1 c h, fun k _ _ => by rw [g1.1 87 (by decide)], fun j _ => by rw [g1.1 91 (by decide)], g1.2.1, g1.2.2⟩
    have A1 : pXa w bd (d_X3_readGains_r87d 2 (m : Int) W) a := by
      unfold pXa
      rw [g1.1 87 (by decide), g1.1 92 (by decide), g1.1 94 (by decide)]
      exact A
    have e : w - 2 = (w - 3) + 1 := by omega
    have go : ∀ l4 : Int, ((l4 = -1 ∧ ∀ b : Nat, b < 2 → ¬ mus 2 b) ∨ ∃ b : Nat, b < 2 ∧ l4 = gr b ∧ mus 2 b) → pXa w bd (d_X3_place_r87_c2d_61 4 (m : Int) (wsm wo gr 2) l4 0 (d_X3_readGains_r87d 2 (m : Int) W)) (tfF (lfB can mus wo w) (w - 2) 2 gr m a) ∧ pJf 2 W (d_X3_place_r87_c2d_61 4 (m : Int) (wsm wo gr 2) l4 0 (d_X3_readGains_r87d 2 (m : Int) W)) := fun l4 hl => by
      rw [e]
      exact pl61_2 h9 hs H (by omega) P hm mi hg G hl (m + 1) 0 4 a _ (by omega) (by omega) A1 F1 g2
    rw [if_neg (show ¬ W.1 87 3 ≤ 2 from by rw [P.1]; omega)]
    rcases P.2.2 2 (by omega) with ⟨t1, t2⟩ | ⟨b, t1, t2, t3⟩
    · rw [if_pos t1]
      exact go (-1) (Or.inl ⟨rfl, t2⟩)
    · rw [if_neg (show ¬ W.1 90 2 = -1 from by omega), t2, show ((b : Int)).toNat = b from by omega, (hg b t1).2]
      exact go (gr b) (Or.inr ⟨b, t1, rfl, t3⟩)
theorem pl61_1 (h9 : w ≤ 9) {so : Nat → Int} (hs : ∀ a b : Nat, b < a → a < w → (mus a b ↔ so a = so b)) (H : pPlJ can mus wo w bd d_X3_place_r87_c2d 2) {gr : Nat → Int} {m : Nat} {l4 : Int} {W0 : jW} (hJ : 1 < w) (P : pXj W0 w can mus wo) (hm : mxG gr 1 = m) (mi : m ≤ 1) (hg : ∀ j : Nat, j < 1 → 0 ≤ gr j ∧ W0.1 91 j = gr j) (G : gdP can mus gr 1) (hl : (l4 = -1 ∧ ∀ b : Nat, b < 1 → ¬ mus 1 b) ∨ ∃ b : Nat, b < 1 ∧ l4 = gr b ∧ mus 1 b) : ∀ (k g r : Nat) (a : pjB) (W : jW), g + k = m + 1 → k < r → pXa w bd W a → pJf 1 W0 W → (∀ q : Nat, q ≤ m → W.1 93 (10 * 1 + q) = sGn (can 1) (wo 1) gr (q : Int) 1) → pXa w bd (d_X3_place_r87_c1d_61 r (m : Int) (wsm wo gr 1) l4 (g : Int) W) (tgF (fun g a => tfF (lfB can mus wo w) (w - 2) (1 + 1) (sU gr 1 (g : Int)) (if g = m then m + 1 else m) a) k g a) ∧ pJf 1 W0 (d_X3_place_r87_c1d_61 r (m : Int) (wsm wo gr 1) l4 (g : Int) W) := by
  intro k
  induction k with
  | zero =>
    intro g r a W e hr A F _
    obtain ⟨r, rfl⟩ : ∃ z, r = z + 1 := ⟨r - 1, by omega⟩
    have st : d_X3_place_r87_c1d_61 (r + 1) (m : Int) (wsm wo gr 1) l4 (g : Int) W = W := if_pos (by omega)
    rw [st]
    exact ⟨A, F⟩
  | succ k ih =>
    intro g r a W e hr A F q93
    obtain ⟨r, rfl⟩ : ∃ z, r = z + 1 := ⟨r - 1, by omega⟩
    have qg := q93 g (by omega)
    have gd := gd_n (can := can) (mus := mus) (wo := wo) (g := (g : Int)) (fun x hx => (P.2.1 1 x hx hJ).2.2) (fun a b h1 h2 => hs a b h1 (by omega)) G (fun j hj => (hg j hj).1) hl
    have st : d_X3_place_r87_c1d_61 (r + 1) (m : Int) (wsm wo gr 1) l4 (g : Int) W = (if sGn (can 1) (wo 1) gr (g : Int) 1 < 0 then d_X3_place_r87_c1d_61 r (m : Int) (wsm wo gr 1) l4 ((g : Int) + 1) W else if l4 = -1 then d_X3_place_r87_c1d_106 (fun l2 l3 l4 l5 W => d_X3_place_r87_c1d_61 r l2 l3 l4 l5 W) (m : Int) (wsm wo gr 1) l4 (g : Int) (sGn (can 1) (wo 1) gr (g : Int) 1) W else if l4 = (g : Int) then d_X3_place_r87_c1d_106 (fun l2 l3 l4 l5 W => d_X3_place_r87_c1d_61 r l2 l3 l4 l5 W) (m : Int) (wsm wo gr 1) l4 (g : Int) (sGn (can 1) (wo 1) gr (g : Int) 1) W else d_X3_place_r87_c1d_61 r (m : Int) (wsm wo gr 1) l4 ((g : Int) + 1) W) := by
      refine (if_neg (by omega)).trans ?_
      rw [show (10 + (g : Int)).toNat = 10 * 1 + g from by omega, qg]
      rfl
    have skip : ¬ gdP can mus (sU gr 1 (g : Int)) (1 + 1) → pXa w bd (d_X3_place_r87_c1d_61 r (m : Int) (wsm wo gr 1) l4 ((g : Int) + 1) W) (tgF (fun g a => tfF (lfB can mus wo w) (w - 2) (1 + 1) (sU gr 1 (g : Int)) (if g = m then m + 1 else m) a) (k + 1) g a) ∧ pJf 1 W0 (d_X3_place_r87_c1d_61 r (m : Int) (wsm wo gr 1) l4 ((g : Int) + 1) W) := fun n => by
      have y := ih (g + 1) r a W (by omega) (by omega) A F q93
      rw [show ((g + 1 : Nat) : Int) = (g : Int) + 1 from by omega] at y
      have e2 : tfF (lfB can mus wo w) (w - 2) (1 + 1) (sU gr 1 (g : Int)) (if g = m then m + 1 else m) a = a := tf_n (w - 2) (1 + 1) _ _ a (by omega) n
      have e3 : tgF (fun g a => tfF (lfB can mus wo w) (w - 2) (1 + 1) (sU gr 1 (g : Int)) (if g = m then m + 1 else m) a) (k + 1) g a = tgF (fun g a => tfF (lfB can mus wo w) (w - 2) (1 + 1) (sU gr 1 (g : Int)) (if g = m then m + 1 else m) a) k (g + 1) (tfF (lfB can mus wo w) (w - 2) (1 + 1) (sU gr 1 (g : Int)) (if g = m then m + 1 else m) a) := rfl
      rw [e3, e2]
      exact y
    have put : gdP can mus (sU gr 1 (g : Int)) (1 + 1) → pXa w bd (d_X3_place_r87_c1d_106 (fun l2 l3 l4 l5 W => d_X3_place_r87_c1d_61 r l2 l3 l4 l5 W) (m : Int) (wsm wo gr 1) l4 (g : Int) (sGn (can 1) (wo 1) gr (g : Int) 1) W) (tgF (fun g a => tfF (lfB can mus wo w) (w - 2) (1 + 1) (sU gr 1 (g : Int)) (if g = m then m + 1 else m) a) (k + 1) g a) ∧ pJf 1 W0 (d_X3_place_r87_c1d_106 (fun l2 l3 l4 l5 W => d_X3_place_r87_c1d_61 r l2 l3 l4 l5 W) (m : Int) (wsm wo gr 1) l4 (g : Int) (sGn (can 1) (wo 1) gr (g : Int) 1) W) := fun n => by
      have nn := (gd.mpr n).1
      have sg : sGn (can 1) (wo 1) gr (g : Int) 1 = wrw (wo 1) gr (g : Int) 1 := by
        unfold sGn at nn ⊢
        by_cases z : tv (∃ x : Nat, x < 1 ∧ gr x = (g : Int) ∧ ¬ can 1 x) = 0
        · rw [if_pos z]
        · rw [if_neg z] at nn; exact absurd (by decide) nn
      have b1 := wsm_b (wo := wo) (gr := gr) 1 (by omega) (fun x z h1 h2 => (P.2.1 x z h1 (by omega)).2.2)
      have b2 := wrw_b (wo := wo 1) (gr := gr) (x := (g : Int)) 1 (fun x hx => (P.2.1 1 x hx hJ).2.2)
      have wsn : j_iadd (wsm wo gr 1) (sGn (can 1) (wo 1) gr (g : Int) 1) = wsm wo (sU gr 1 (g : Int)) (1 + 1) := by
        rw [sg, ws_n]
        exact j_ia (by omega) (by omega) (by omega)
      have F1 : pJf 1 W0 (vu W 91 1 (g : Int)) := pJf_t F ⟨fun c _ h _ _ _ => vu_c h, fun k _ _ => vu_n (by omega), fun j hj => vu_n (by omega), fun k _ => vu_n (by omega), rfl⟩
      have h := H (sU gr 1 (g : Int)) (if g = m then m + 1 else m) a (vu W 91 1 (g : Int)) (by omega) (pXj_f F1 P) ⟨(vu_n (by omega)).trans A.1, (vu_n (by omega)).trans A.2.1, A.2.2.1, fun z j hj => (vu_n (by omega)).trans (A.2.2.2.1 z j hj), fun v hv => (vu_n (by omega)).trans (A.2.2.2.2 v hv)⟩ (by rw [← hm]; exact mx_u (by omega)) (by split <;> omega) (fun j hj => by
        by_cases z : j = 1
        · rw [z]
          exact ⟨by rw [show sU gr 1 (g : Int) 1 = (g : Int) from if_pos rfl]; omega, (vu_e rfl).trans (if_pos rfl).symm⟩
        · rw [show sU gr 1 (g : Int) j = gr j from if_neg z]
          exact ⟨(hg j (by omega)).1, (vu_n (by omega)).trans ((F.2.2.1 j (by omega)).trans (hg j (by omega)).2)⟩) n
      have F2 : pJf 1 W0 (d_X3_place_r87_c2d ((if g = m then m + 1 else m : Nat) : Int) (wsm wo (sU gr 1 (g : Int)) (1 + 1)) (vu W 91 1 (g : Int))) := pJf_t F1 (pJf_w (by decide) h.2)
      have y := ih (g + 1) r _ (d_X3_place_r87_c2d ((if g = m then m + 1 else m : Nat) : Int) (wsm wo (sU gr 1 (g : Int)) (1 + 1)) (vu W 91 1 (g : Int))) (by omega) (by omega) h.1 F2 (fun q hq => (h.2.2.2.2.1 _ (by omega)).trans ((vu_n (by omega)).trans (q93 q hq)))
      rw [show ((g + 1 : Nat) : Int) = (g : Int) + 1 from by omega] at y
      have e3 : d_X3_place_r87_c1d_106 (fun l2 l3 l4 l5 W => d_X3_place_r87_c1d_61 r l2 l3 l4 l5 W) (m : Int) (wsm wo gr 1) l4 (g : Int) (sGn (can 1) (wo 1) gr (g : Int) 1) W = d_X3_place_r87_c1d_61 r (m : Int) (wsm wo gr 1) l4 ((g : Int) + 1) (d_X3_place_r87_c2d ((if g = m then m + 1 else m : Nat) : Int) (wsm wo (sU gr 1 (g : Int)) (1 + 1)) (vu W 91 1 (g : Int))) := by
        unfold d_X3_place_r87_c1d_106 d_X3_place_r87_c1d_131 d_X3_place_r87_c1d_138
        rw [wsn]
        by_cases z : g = m
        · rw [if_pos (show (g : Int) = (m : Int) from by omega), if_pos z]; rfl
        · rw [if_neg (show ¬ (g : Int) = (m : Int) from by omega), if_neg z]
      rw [e3]
      exact y
    rw [st]
    by_cases c1 : sGn (can 1) (wo 1) gr (g : Int) 1 < 0
    · rw [if_pos c1]; exact skip (fun n => (gd.mpr n).1 c1)
    · rw [if_neg c1]
      by_cases c2 : l4 = -1
      · rw [if_pos c2]; exact put (gd.mp ⟨c1, Or.inl c2⟩)
      · rw [if_neg c2]
        by_cases c3 : l4 = (g : Int)
        · rw [if_pos c3]; exact put (gd.mp ⟨c1, Or.inr c3⟩)
        · rw [if_neg c3]; exact skip (fun n => (gd.mpr n).2.elim c2 c3)
theorem plJ_1 (h9 : w ≤ 9) {so : Nat → Int} (hs : ∀ a b : Nat, b < a → a < w → (mus a b ↔ so a = so b)) (H : pPlJ can mus wo w bd d_X3_place_r87_c2d 2) : pPlJ can mus wo w bd d_X3_place_r87_c1d 1 := by
  intro gr m a W hJ P A hm mi hg G
  unfold d_X3_place_r87_c1d
  by_cases c : w ≤ 1
  · obtain rfl : w = 1 := by omega
    have ws := wsm_b (wo := wo) (gr := gr) 1 (by decide) (fun x z h1 h2 => (P.2.1 x z h1 h2).2.2)
    have e : tfF (lfB can mus wo 1) (1 - 1) 1 gr m a = upB (wsm wo gr 1) m gr a := if_neg (by rw [tv_t G]; decide)
    rw [e, if_pos (show W.1 87 3 ≤ 1 from by rw [P.1]; decide)]
    exact ntJ_e (W := W) (gr := gr) (m := m) h9 A (fun j hj => (hg j hj).2) ⟨ws.1, by have := ws.2; omega⟩
  · have mb : ∀ j : Nat, j < 1 → gr j ≤ (m : Int) := fun j hj => by
      have := mxG_b (gr := gr) 1 j hj
      have := (hg j hj).1
      omega
    obtain ⟨g1, g2⟩ := xrg (i := 1) (m := m) P h9 (by omega) mi (fun j hj => ⟨⟨(hg j hj).1, mb j hj⟩, (hg j hj).2⟩)
    rw [show (((1 : Nat) : Nat) : Int) = 1 from rfl] at g1 g2
    have F1 : pJf 1 W (d_X3_readGains_r87d 1 (m : Int) W) := ⟨fun c _ _ _ h _ => g1.1 c h, fun k _ _ => by rw [g1.1 87 (by decide)], fun j _ => by rw [g1.1 91 (by decide)], g1.2.1, g1.2.2⟩
    have A1 : pXa w bd (d_X3_readGains_r87d 1 (m : Int) W) a := by
      unfold pXa
      rw [g1.1 87 (by decide), g1.1 92 (by decide), g1.1 94 (by decide)]
      exact A
    have e : w - 1 = (w - 2) + 1 := by omega
    have go : ∀ l4 : Int, ((l4 = -1 ∧ ∀ b : Nat, b < 1 → ¬ mus 1 b) ∨ ∃ b : Nat, b < 1 ∧ l4 = gr b ∧ mus 1 b) → pXa w bd (d_X3_place_r87_c1d_61 3 (m : Int) (wsm wo gr 1) l4 0 (d_X3_readGains_r87d 1 (m : Int) W)) (tfF (lfB can mus wo w) (w - 1) 1 gr m a) ∧ pJf 1 W (d_X3_place_r87_c1d_61 3 (m : Int) (wsm wo gr 1) l4 0 (d_X3_readGains_r87d 1 (m : Int) W)) := fun l4 hl => by
      rw [e]
      exact pl61_1 h9 hs H (by omega) P hm mi hg G hl (m + 1) 0 3 a _ (by omega) (by omega) A1 F1 g2
    rw [if_neg (show ¬ W.1 87 3 ≤ 1 from by rw [P.1]; omega)]
    rcases P.2.2 1 (by omega) with ⟨t1, t2⟩ | ⟨b, t1, t2, t3⟩
    · rw [if_pos t1]
      exact go (-1) (Or.inl ⟨rfl, t2⟩)
    · rw [if_neg (show ¬ W.1 90 1 = -1 from by omega), t2, show ((b : Int)).toNat = b from by omega, (hg b t1).2]
      exact go (gr b) (Or.inr ⟨b, t1, rfl, t3⟩)
theorem pl61_0 (h9 : w ≤ 9) {so : Nat → Int} (hs : ∀ a b : Nat, b < a → a < w → (mus a b ↔ so a = so b)) (H : pPlJ can mus wo w bd d_X3_place_r87_c1d 1) {gr : Nat → Int} {m : Nat} {l4 : Int} {W0 : jW} (hJ : 0 < w) (P : pXj W0 w can mus wo) (hm : mxG gr 0 = m) (mi : m ≤ 0) (hg : ∀ j : Nat, j < 0 → 0 ≤ gr j ∧ W0.1 91 j = gr j) (G : gdP can mus gr 0) (hl : (l4 = -1 ∧ ∀ b : Nat, b < 0 → ¬ mus 0 b) ∨ ∃ b : Nat, b < 0 ∧ l4 = gr b ∧ mus 0 b) : ∀ (k g r : Nat) (a : pjB) (W : jW), g + k = m + 1 → k < r → pXa w bd W a → pJf 0 W0 W → (∀ q : Nat, q ≤ m → W.1 93 (10 * 0 + q) = sGn (can 0) (wo 0) gr (q : Int) 0) → pXa w bd (d_X3_place_r87_c0d_61 r (m : Int) (wsm wo gr 0) l4 (g : Int) W) (tgF (fun g a => tfF (lfB can mus wo w) (w - 1) (0 + 1) (sU gr 0 (g : Int)) (if g = m then m + 1 else m) a) k g a) ∧ pJf 0 W0 (d_X3_place_r87_c0d_61 r (m : Int) (wsm wo gr 0) l4 (g : Int) W) := by
  intro k
  induction k with
  | zero =>
    intro g r a W e hr A F _
    obtain ⟨r, rfl⟩ : ∃ z, r = z + 1 := ⟨r - 1, by omega⟩
    have st : d_X3_place_r87_c0d_61 (r + 1) (m : Int) (wsm wo gr 0) l4 (g : Int) W = W := if_pos (by omega)
    rw [st]
    exact ⟨A, F⟩
  | succ k ih =>
    intro g r a W e hr A F q93
    obtain ⟨r, rfl⟩ : ∃ z, r = z + 1 := ⟨r - 1, by omega⟩
    have qg := q93 g (by omega)
    have gd := gd_n (can := can) (mus := mus) (wo := wo) (g := (g : Int)) (fun x hx => (P.2.1 0 x hx hJ).2.2) (fun a b h1 h2 => hs a b h1 (by omega)) G (fun j hj => (hg j hj).1) hl
    have st : d_X3_place_r87_c0d_61 (r + 1) (m : Int) (wsm wo gr 0) l4 (g : Int) W = (if sGn (can 0) (wo 0) gr (g : Int) 0 < 0 then d_X3_place_r87_c0d_61 r (m : Int) (wsm wo gr 0) l4 ((g : Int) + 1) W else if l4 = -1 then d_X3_place_r87_c0d_106 (fun l2 l3 l4 l5 W => d_X3_place_r87_c0d_61 r l2 l3 l4 l5 W) (m : Int) (wsm wo gr 0) l4 (g : Int) (sGn (can 0) (wo 0) gr (g : Int) 0) W else if l4 = (g : Int) then d_X3_place_r87_c0d_106 (fun l2 l3 l4 l5 W => d_X3_place_r87_c0d_61 r l2 l3 l4 l5 W) (m : Int) (wsm wo gr 0) l4 (g : Int) (sGn (can 0) (wo 0) gr (g : Int) 0) W else d_X3_place_r87_c0d_61 r (m : Int) (wsm wo gr 0) l4 ((g : Int) + 1) W) := by
      refine (if_neg (by omega)).trans ?_
      rw [show (0 + (g : Int)).toNat = 10 * 0 + g from by omega, qg]
      rfl
    have skip : ¬ gdP can mus (sU gr 0 (g : Int)) (0 + 1) → pXa w bd (d_X3_place_r87_c0d_61 r (m : Int) (wsm wo gr 0) l4 ((g : Int) + 1) W) (tgF (fun g a => tfF (lfB can mus wo w) (w - 1) (0 + 1) (sU gr 0 (g : Int)) (if g = m then m + 1 else m) a) (k + 1) g a) ∧ pJf 0 W0 (d_X3_place_r87_c0d_61 r (m : Int) (wsm wo gr 0) l4 ((g : Int) + 1) W) := fun n => by
      have y := ih (g + 1) r a W (by omega) (by omega) A F q93
      rw [show ((g + 1 : Nat) : Int) = (g : Int) + 1 from by omega] at y
      have e2 : tfF (lfB can mus wo w) (w - 1) (0 + 1) (sU gr 0 (g : Int)) (if g = m then m + 1 else m) a = a := tf_n (w - 1) (0 + 1) _ _ a (by omega) n
      have e3 : tgF (fun g a => tfF (lfB can mus wo w) (w - 1) (0 + 1) (sU gr 0 (g : Int)) (if g = m then m + 1 else m) a) (k + 1) g a = tgF (fun g a => tfF (lfB can mus wo w) (w - 1) (0 + 1) (sU gr 0 (g : Int)) (if g = m then m + 1 else m) a) k (g + 1) (tfF (lfB can mus wo w) (w - 1) (0 + 1) (sU gr 0 (g : Int)) (if g = m then m + 1 else m) a) := rfl
      rw [e3, e2]
      exact y
    have put : gdP can mus (sU gr 0 (g : Int)) (0 + 1) → pXa w bd (d_X3_place_r87_c0d_106 (fun l2 l3 l4 l5 W => d_X3_place_r87_c0d_61 r l2 l3 l4 l5 W) (m : Int) (wsm wo gr 0) l4 (g : Int) (sGn (can 0) (wo 0) gr (g : Int) 0) W) (tgF (fun g a => tfF (lfB can mus wo w) (w - 1) (0 + 1) (sU gr 0 (g : Int)) (if g = m then m + 1 else m) a) (k + 1) g a) ∧ pJf 0 W0 (d_X3_place_r87_c0d_106 (fun l2 l3 l4 l5 W => d_X3_place_r87_c0d_61 r l2 l3 l4 l5 W) (m : Int) (wsm wo gr 0) l4 (g : Int) (sGn (can 0) (wo 0) gr (g : Int) 0) W) := fun n => by
      have nn := (gd.mpr n).1
      have sg : sGn (can 0) (wo 0) gr (g : Int) 0 = wrw (wo 0) gr (g : Int) 0 := by
        unfold sGn at nn ⊢
        by_cases z : tv (∃ x : Nat, x < 0 ∧ gr x = (g : Int) ∧ ¬ can 0 x) = 0
        · rw [if_pos z]
        · rw [if_neg z] at nn; exact absurd (by decide) nn
      have b1 := wsm_b (wo := wo) (gr := gr) 0 (by omega) (fun x z h1 h2 => (P.2.1 x z h1 (by omega)).2.2)
      have b2 := wrw_b (wo := wo 0) (gr := gr) (x := (g : Int)) 0 (fun x hx => (P.2.1 0 x hx hJ).2.2)
      have wsn : j_iadd (wsm wo gr 0) (sGn (can 0) (wo 0) gr (g : Int) 0) = wsm wo (sU gr 0 (g : Int)) (0 + 1) := by
        rw [sg, ws_n]
        exact j_ia (by omega) (by omega) (by omega)
      have F1 : pJf 0 W0 (vu W 91 0 (g : Int)) := pJf_t F ⟨fun c _ h _ _ _ => vu_c h, fun k _ _ => vu_n (by omega), fun j hj => vu_n (by omega), fun k _ => vu_n (by omega), rfl⟩
      have h := H (sU gr 0 (g : Int)) (if g = m then m + 1 else m) a (vu W 91 0 (g : Int)) (by omega) (pXj_f F1 P) ⟨(vu_n (by omega)).trans A.1, (vu_n (by omega)).trans A.2.1, A.2.2.1, fun z j hj => (vu_n (by omega)).trans (A.2.2.2.1 z j hj), fun v hv => (vu_n (by omega)).trans (A.2.2.2.2 v hv)⟩ (by rw [← hm]; exact mx_u (by omega)) (by split <;> omega) (fun j hj => by
        by_cases z : j = 0
        · rw [z]
          exact ⟨by rw [show sU gr 0 (g : Int) 0 = (g : Int) from if_pos rfl]; omega, (vu_e rfl).trans (if_pos rfl).symm⟩
        · rw [show sU gr 0 (g : Int) j = gr j from if_neg z]
          exact ⟨(hg j (by omega)).1, (vu_n (by omega)).trans ((F.2.2.1 j (by omega)).trans (hg j (by omega)).2)⟩) n
      have F2 : pJf 0 W0 (d_X3_place_r87_c1d ((if g = m then m + 1 else m : Nat) : Int) (wsm wo (sU gr 0 (g : Int)) (0 + 1)) (vu W 91 0 (g : Int))) := pJf_t F1 (pJf_w (by decide) h.2)
      have y := ih (g + 1) r _ (d_X3_place_r87_c1d ((if g = m then m + 1 else m : Nat) : Int) (wsm wo (sU gr 0 (g : Int)) (0 + 1)) (vu W 91 0 (g : Int))) (by omega) (by omega) h.1 F2 (fun q hq => (h.2.2.2.2.1 _ (by omega)).trans ((vu_n (by omega)).trans (q93 q hq)))
      rw [show ((g + 1 : Nat) : Int) = (g : Int) + 1 from by omega] at y
      have e3 : d_X3_place_r87_c0d_106 (fun l2 l3 l4 l5 W => d_X3_place_r87_c0d_61 r l2 l3 l4 l5 W) (m : Int) (wsm wo gr 0) l4 (g : Int) (sGn (can 0) (wo 0) gr (g : Int) 0) W = d_X3_place_r87_c0d_61 r (m : Int) (wsm wo gr 0) l4 ((g : Int) + 1) (d_X3_place_r87_c1d ((if g = m then m + 1 else m : Nat) : Int) (wsm wo (sU gr 0 (g : Int)) (0 + 1)) (vu W 91 0 (g : Int))) := by
        unfold d_X3_place_r87_c0d_106 d_X3_place_r87_c0d_131 d_X3_place_r87_c0d_138
        rw [show wsm wo gr 0 + sGn (can 0) (wo 0) gr (g : Int) 0 = wsm wo (sU gr 0 (g : Int)) (0 + 1) from by rw [sg, ws_n], if_pos (show g = m from by omega)]
        rfl
      rw [e3]
      exact y
    rw [st]
    by_cases c1 : sGn (can 0) (wo 0) gr (g : Int) 0 < 0
    · rw [if_pos c1]; exact skip (fun n => (gd.mpr n).1 c1)
    · rw [if_neg c1]
      by_cases c2 : l4 = -1
      · rw [if_pos c2]; exact put (gd.mp ⟨c1, Or.inl c2⟩)
      · rw [if_neg c2]
        by_cases c3 : l4 = (g : Int)
        · rw [if_pos c3]; exact put (gd.mp ⟨c1, Or.inr c3⟩)
        · rw [if_neg c3]; exact skip (fun n => (gd.mpr n).2.elim c2 c3)
theorem plJ_0 (h9 : w ≤ 9) {so : Nat → Int} (hs : ∀ a b : Nat, b < a → a < w → (mus a b ↔ so a = so b)) (H : pPlJ can mus wo w bd d_X3_place_r87_c1d 1) : pPlJ can mus wo w bd d_X3_place_r87_c0d 0 := by
  intro gr m a W hJ P A hm mi hg G
  unfold d_X3_place_r87_c0d
  by_cases c : w ≤ 0
  · obtain rfl : w = 0 := by omega
    have ws := wsm_b (wo := wo) (gr := gr) 0 (by decide) (fun x z h1 h2 => (P.2.1 x z h1 h2).2.2)
    have e : tfF (lfB can mus wo 0) (0 - 0) 0 gr m a = upB (wsm wo gr 0) m gr a := if_neg (by rw [tv_t G]; decide)
    rw [e, if_pos (show W.1 87 3 ≤ 0 from by rw [P.1]; decide)]
    exact ntJ_e (W := W) (gr := gr) (m := m) h9 A (fun j hj => (hg j hj).2) ⟨ws.1, by have := ws.2; omega⟩
  · have mb : ∀ j : Nat, j < 0 → gr j ≤ (m : Int) := fun j hj => by
      have := mxG_b (gr := gr) 0 j hj
      have := (hg j hj).1
      omega
    obtain ⟨g1, g2⟩ := xrg (i := 0) (m := m) P h9 (by omega) mi (fun j hj => ⟨⟨(hg j hj).1, mb j hj⟩, (hg j hj).2⟩)
    rw [show (((0 : Nat) : Nat) : Int) = 0 from rfl] at g1 g2
    have F1 : pJf 0 W (d_X3_readGains_r87d 0 (m : Int) W) := ⟨fun c _ _ _ h _ => g1.1 c h, fun k _ _ => by rw [g1.1 87 (by decide)], fun j _ => by rw [g1.1 91 (by decide)], g1.2.1, g1.2.2⟩
    have A1 : pXa w bd (d_X3_readGains_r87d 0 (m : Int) W) a := by
      unfold pXa
      rw [g1.1 87 (by decide), g1.1 92 (by decide), g1.1 94 (by decide)]
      exact A
    have e : w - 0 = (w - 1) + 1 := by omega
    have go : ∀ l4 : Int, ((l4 = -1 ∧ ∀ b : Nat, b < 0 → ¬ mus 0 b) ∨ ∃ b : Nat, b < 0 ∧ l4 = gr b ∧ mus 0 b) → pXa w bd (d_X3_place_r87_c0d_61 2 (m : Int) (wsm wo gr 0) l4 0 (d_X3_readGains_r87d 0 (m : Int) W)) (tfF (lfB can mus wo w) (w - 0) 0 gr m a) ∧ pJf 0 W (d_X3_place_r87_c0d_61 2 (m : Int) (wsm wo gr 0) l4 0 (d_X3_readGains_r87d 0 (m : Int) W)) := fun l4 hl => by
      rw [e]
      exact pl61_0 h9 hs H (by omega) P hm mi hg G hl (m + 1) 0 2 a _ (by omega) (by omega) A1 F1 g2
    rw [if_neg (show ¬ W.1 87 3 ≤ 0 from by rw [P.1]; omega)]
    rcases P.2.2 0 (by omega) with ⟨t1, t2⟩ | ⟨b, t1, t2, t3⟩
    · rw [if_pos t1]
      exact go (-1) (Or.inl ⟨rfl, t2⟩)
    · rw [if_neg (show ¬ W.1 90 0 = -1 from by omega), t2, show ((b : Int)).toNat = b from by omega, (hg b t1).2]
      exact go (gr b) (Or.inr ⟨b, t1, rfl, t3⟩)
theorem plJ_a (h9 : w ≤ 9) {so : Nat → Int} (hs : ∀ a b : Nat, b < a → a < w → (mus a b ↔ so a = so b)) : pPlJ can mus wo w bd d_X3_place_r87_c0d 0 := plJ_0 h9 hs (plJ_1 h9 hs (plJ_2 h9 hs (plJ_3 h9 hs (plJ_4 h9 hs (plJ_5 h9 hs (plJ_6 h9 hs (plJ_7 h9 hs (plJ_8 h9 hs (plJ_9 h9)))))))))
end
end jG103

section jG104
/-! pure: all JOININGS, the class: pairs weighed, all settled, rivals -/
theorem pYx_e {X Y : jW} {E : pE} (e : ∀ c : Nat, c = 37 ∨ c = 38 ∨ (75 ≤ c ∧ c ≤ 81) → Y.1 c = X.1 c) (P : pYx X E) : pYx Y E := by
  obtain ⟨p1, p2, p3, p4, p5, p6, p7, p8⟩ := P
  refine ⟨p1, p2, p3, p4, by rw [e 78 (by decide)]; exact p5, ?_, fun q hq => ?_, fun m hm => ?_⟩
  · unfold pT
    rw [e (32 + 1 + 2 * pt_2.1) (by decide), e (32 + 2 + 2 * pt_2.1) (by decide)]
    exact p6
  · unfold pFc
    rw [e 75 (by decide), e 76 (by decide), e 77 (by decide)]
    exact p7 q hq
  · unfold pSl
    rw [e 79 (by decide), e 80 (by decide), e 81 (by decide)]
    exact p8 m hm
/-- what weighing needs of the class -/
def pXw (X : jW) (E : pE) (g : Nat → Int) (t : Int × Int × Int × Int) (w : Nat) (wm : Nat → Nat) : Prop := pYx X E ∧ X.1 33 3 = E.1 0 ∧ (∀ m : Nat, m < sNl E → X.1 82 m = g m) ∧ (X.1 78 2 = t.1 ∧ X.1 78 3 = t.2.1 ∧ X.1 78 4 = t.2.2.1 ∧ X.1 78 5 = t.2.2.2) ∧ X.1 87 3 = (w : Int) ∧ ∀ a : Nat, a < w → X.1 88 a = (wm a : Int) ∧ sMn E (wm a) ∧ wm a < sNl E
def pJw (X Y : jW) : Prop := (∀ c : Nat, c < 87 ∨ c = 88 ∨ 94 < c → Y.1 c = X.1 c) ∧ (∀ k : Nat, k < 10 ∨ 13 ≤ k → Y.1 87 k = X.1 87 k) ∧ Y.2 = X.2
theorem pJw_r {X : jW} : pJw X X := ⟨fun _ _ => rfl, fun _ _ => rfl, rfl⟩
theorem pJw_t {X Y Z : jW} (h : pJw X Y) (i : pJw Y Z) : pJw X Z := ⟨fun c q => (i.1 c q).trans (h.1 c q), fun k q => (i.2.1 k q).trans (h.2.1 k q), i.2.2.trans h.2.2⟩
theorem pJw_u {X Y : jW} {a k : Nat} {x : Int} (h : pJw X Y) (q : (89 ≤ a ∧ a ≤ 94) ∨ (a = 87 ∧ 10 ≤ k ∧ k < 13)) : pJw X (vu Y a k x) := ⟨fun c z => (vu_c (by omega)).trans (h.1 c z), fun j z => (vu_n (by omega)).trans (h.2.1 j z), h.2.2⟩
theorem pXw_w {X Y : jW} {E : pE} {g : Nat → Int} {t : Int × Int × Int × Int} {w : Nat} {wm : Nat → Nat} (h : pJw X Y) (P : pXw X E g t w wm) : pXw Y E g t w wm := by
  obtain ⟨p1, p2, p3, p4, p5, p6⟩ := P
  exact ⟨pYx_e (fun c hc => h.1 c (by omega)) p1, by rw [h.1 33 (by decide)]; exact p2, fun m hm => by rw [h.1 82 (by decide)]; exact p3 m hm, by rw [h.1 78 (by decide)]; exact p4, by rw [h.2.1 3 (by decide)]; exact p5, fun a ha => by rw [h.1 88 (by decide)]; exact p6 a ha⟩
section
variable {E : pE} {g : Nat → Int} {t : Int × Int × Int × Int} {w : Nat} {wm : Nat → Nat}
def pXd (W : jW) (E : pE) (g : Nat → Int) (t : Int × Int × Int × Int) (wm : Nat → Nat) (a b : Nat) : Prop := (∀ x y : Nat, y < x → (x < a ∨ (x = a ∧ y < b)) → (W.1 89 (9 * x + y) = -1 ↔ ¬ sCan E wm x y) ∧ (sCan E wm x y → W.1 89 (9 * x + y) = sWm t E wm x y)) ∧ (∀ x : Nat, x < a → (W.1 90 x = -1 ∧ ∀ y : Nat, y < x → ¬ sMus g wm x y) ∨ ∃ y : Nat, y < x ∧ W.1 90 x = (y : Int) ∧ sMus g wm x y) ∧ W.1 87 12 = wsm (sWm t E wm) (fun _ => 0) a + wrw (sWm t E wm a) (fun _ => 0) 0 b
def pXt (W : jW) (g : Nat → Int) (wm : Nat → Nat) (a b : Nat) : Prop := (W.1 90 a = -1 ∧ ∀ y : Nat, y < b → ¬ sMus g wm a y) ∨ ∃ y : Nat, y < b ∧ W.1 90 a = (y : Int) ∧ sMus g wm a y
theorem xw_24 {X : jW} {K : Int → jW → jW} (h9 : w ≤ 9) (ht : pTm t) (P : pXw X E g t w wm) {a : Nat} (ha : a < w) : ∀ (c b r : Nat) (W : jW), b + c = a → c < r → pJw X W → pXd W E g t wm a b → pXt W g wm a b → ∃ V : jW, d_X3_weighPairs_r87d_24 K r (a : Int) (b : Int) W = K ((a : Int) + 1) V ∧ pJw X V ∧ pXd V E g t wm (a + 1) 0 := by
  intro c
  induction c with
  | zero =>
    intro b r W e hr J D T
    obtain ⟨r, rfl⟩ : ∃ q, r = q + 1 := ⟨r - 1, by omega⟩
    obtain rfl : b = a := by omega
    refine ⟨W, if_pos (Int.le_refl _), J, fun x y h1 h2 => D.1 x y h1 (by omega), fun x hx => ?_, ?_⟩
    · by_cases z : x = b
      · rw [z]; exact T
      · exact D.2.1 x (by omega)
    · rw [D.2.2]
      exact (Int.add_zero _).symm
  | succ c ih =>
    intro b r W e hr J D T
    obtain ⟨r, rfl⟩ : ∃ q, r = q + 1 := ⟨r - 1, by omega⟩
    have PW := pXw_w J P
    have wa := PW.2.2.2.2.2 a ha
    have wb := PW.2.2.2.2.2 b (by omega)
    have la : ¬ W.1 33 3 ≤ (wm a : Int) / 3 := by
      have := wa.2.1.1
      rw [PW.2.1]; omega
    have lb : ¬ W.1 33 3 ≤ (wm b : Int) / 3 := by
      have := wb.2.1.1
      rw [PW.2.1]; omega
    have ga := PW.2.2.1 (wm a) wa.2.2
    have gb := PW.2.2.1 (wm b) wb.2.2
    have wo := xwo PW.1 PW.2.1 wb.2.1 wa.2.1
    rw [PW.2.2.2.1.1, PW.2.2.2.1.2.1, PW.2.2.2.1.2.2.1, PW.2.2.2.1.2.2.2, sWhy_s, sWo_s] at wo
    have bv := sWm_b (t := t) (E := E) (wm := wm) ht a b
    have vm : max 0 (d_X7_worthOf_r78d (wm b : Int) (wm a : Int) W) = sWm t E wm a b := by
      rw [wo]
      unfold sWm at bv ⊢
      by_cases z : sWhy E (wm a) (wm b) = 0
      · rw [if_pos z, if_pos z] at *; omega
      · rw [if_neg z, if_neg z]; decide
    have v1 : d_X7_worthOf_r78d (wm b : Int) (wm a : Int) W = -1 ↔ ¬ sCan E wm a b := by
      rw [wo]
      unfold sCan
      by_cases z : sWhy E (wm a) (wm b) = 0
      · have sb := sWo_b (E := E) (a := wm a) (b := wm b) ht.1 ht.2.1 ht.2.2.1 ht.2.2.2
        rw [if_pos z]; exact ⟨fun h => by omega, fun h => absurd z h⟩
      · rw [if_neg z]; exact ⟨fun _ => z, fun _ => rfl⟩
    have v2 : sCan E wm a b → d_X7_worthOf_r78d (wm b : Int) (wm a : Int) W = sWm t E wm a b := fun h => by
      have z : sWhy E (wm a) (wm b) = 0 := h
      rw [wo]
      unfold sWm
      rw [if_pos z, if_pos z]
    have bw := wsm_b (wo := sWm t E wm) (gr := fun _ => 0) a (by omega) (fun x z _ _ => sWm_b ht x z)
    have br := wrw_b (wo := sWm t E wm a) (gr := fun _ => 0) (x := 0) b (fun j _ => sWm_b ht a j)
    have bb : (a : Int) * ((a : Int) - 1) ≤ 72 := by
      rcases (show a = 0 ∨ a = 1 ∨ a = 2 ∨ a = 3 ∨ a = 4 ∨ a = 5 ∨ a = 6 ∨ a = 7 ∨ a = 8 from by omega) with rfl | rfl | rfl | rfl | rfl | rfl | rfl | rfl | rfl <;> decide
    have wn : wrw (sWm t E wm a) (fun _ => 0) 0 (b + 1) = wrw (sWm t E wm a) (fun _ => 0) 0 b + sWm t E wm a b := rfl
    have st : d_X3_weighPairs_r87d_24 K (r + 1) (a : Int) (b : Int) W = (if g (wm b) = g (wm a) then d_X3_weighPairs_r87d_24 K r (a : Int) ((b : Int) + 1) (vu (vu (vu W 89 (9 * a + b) (d_X7_worthOf_r78d (wm b : Int) (wm a : Int) W)) 87 12 (j_iadd (W.1 87 12) (max 0 (d_X7_worthOf_r78d (wm b : Int) (wm a : Int) W)))) 90 a (b : Int)) else d_X3_weighPairs_r87d_24 K r (a : Int) ((b : Int) + 1) (vu (vu W 89 (9 * a + b) (d_X7_worthOf_r78d (wm b : Int) (wm a : Int) W)) 87 12 (j_iadd (W.1 87 12) (max 0 (d_X7_worthOf_r78d (wm b : Int) (wm a : Int) W))))) := by
      refine (if_neg (by omega)).trans ?_
      rw [show ((a : Int)).toNat = a from by omega, show ((b : Int)).toNat = b from by omega, wa.1, wb.1, if_neg lb, if_neg la, show ((wm a : Int)).toNat = wm a from by omega, show ((wm b : Int)).toNat = wm b from by omega, ga, gb, show (((a : Int) * 9) + (b : Int)).toNat = 9 * a + b from by omega]
      rfl
    have s12 : j_iadd (W.1 87 12) (sWm t E wm a b) = wsm (sWm t E wm) (fun _ => 0) a + wrw (sWm t E wm a) (fun _ => 0) 0 (b + 1) := by
      rw [D.2.2, wn, ← Int.add_assoc]
      exact j_ia (by omega) (by omega) (by omega)
    rw [st, vm, s12]
    have go : ∀ U : jW, pJw X U → U.1 87 12 = wsm (sWm t E wm) (fun _ => 0) a + wrw (sWm t E wm a) (fun _ => 0) 0 (b + 1) → U.1 89 (9 * a + b) = d_X7_worthOf_r78d (wm b : Int) (wm a : Int) W → (∀ k : Nat, k ≠ 9 * a + b → U.1 89 k = W.1 89 k) → (∀ k : Nat, k ≠ a → U.1 90 k = W.1 90 k) → pXt U g wm a (b + 1) → ∃ V : jW, d_X3_weighPairs_r87d_24 K r (a : Int) ((b : Int) + 1) U = K ((a : Int) + 1) V ∧ pJw X V ∧ pXd V E g t wm (a + 1) 0 := fun U u1 u2 u3 u4 u5 u6 => by
      have y := ih (b + 1) r U (by omega) (by omega) u1 ⟨fun x z h1 h2 => ?_, fun x hx => ?_, u2⟩ u6
      · rw [show ((b + 1 : Nat) : Int) = (b : Int) + 1 from by omega] at y
        exact y
      · by_cases q : x = a ∧ z = b
        · obtain ⟨q1, q2⟩ := q
          subst q1
          subst q2
          rw [u3]
          exact ⟨v1, v2⟩
        · rw [u4 _ (by omega)]
          exact D.1 x z h1 (by omega)
      · rw [u5 x (by omega)]
        exact D.2.1 x hx
    by_cases z : g (wm b) = g (wm a)
    · rw [if_pos z]
      exact go _ (pJw_u (pJw_u (pJw_u J (by omega)) (by omega)) (by omega)) ((vu_n (by omega)).trans (vu_e rfl)) ((vu_n (by omega)).trans ((vu_n (by omega)).trans (vu_e rfl))) (fun k hk => (vu_n (by omega)).trans ((vu_n (by omega)).trans (vu_n (by omega)))) (fun k hk => (vu_n (by omega)).trans ((vu_n (by omega)).trans (vu_n (by omega)))) (Or.inr ⟨b, by omega, vu_e rfl, z.symm⟩)
    · rw [if_neg z]
      refine go _ (pJw_u (pJw_u J (by omega)) (by omega)) (vu_e rfl) ((vu_n (by omega)).trans (vu_e rfl)) (fun k hk => (vu_n (by omega)).trans (vu_n (by omega))) (fun k hk => (vu_n (by omega)).trans (vu_n (by omega))) ?_
      have n90 : (vu (vu W 89 (9 * a + b) (d_X7_worthOf_r78d (wm b : Int) (wm a : Int) W)) 87 12 (wsm (sWm t E wm) (fun _ => 0) a + wrw (sWm t E wm a) (fun _ => 0) 0 (b + 1))).1 90 = W.1 90 := (vu_c (by decide)).trans (vu_c (by decide))
      unfold pXt
      rw [n90]
      rcases T with ⟨t1, t2⟩ | ⟨y, y1, y2, y3⟩
      · refine Or.inl ⟨t1, fun y hy => ?_⟩
        by_cases q : y = b
        · rw [q]; exact fun h => z h.symm
        · exact t2 y (by omega)
      · exact Or.inr ⟨y, by omega, y2, y3⟩
theorem xw_7 {X : jW} (h9 : w ≤ 9) (ht : pTm t) (P : pXw X E g t w wm) : ∀ (c a r : Nat) (W : jW), a + c = w → c < r → pJw X W → pXd W E g t wm a 0 → pJw X (d_X3_weighPairs_r87d_7 r (a : Int) W) ∧ pXd (d_X3_weighPairs_r87d_7 r (a : Int) W) E g t wm w 0 := by
  intro c
  induction c with
  | zero =>
    intro a r W e hr J D
    obtain ⟨r, rfl⟩ : ∃ q, r = q + 1 := ⟨r - 1, by omega⟩
    obtain rfl : a = w := by omega
    have st : d_X3_weighPairs_r87d_7 (r + 1) (a : Int) W = W := if_pos (by rw [(pXw_w J P).2.2.2.2.1]; omega)
    rw [st]
    exact ⟨J, D⟩
  | succ c ih =>
    intro a r W e hr J D
    obtain ⟨r, rfl⟩ : ∃ q, r = q + 1 := ⟨r - 1, by omega⟩
    obtain ⟨V, v1, v2, v3⟩ := xw_24 (K := fun l1 W => d_X3_weighPairs_r87d_7 r l1 W) h9 ht P (a := a) (by omega) a 0 9 (vu W 90 a (-1)) (by omega) (by omega) (pJw_u J (by omega)) ⟨fun x y h1 h2 => by rw [vu_n (by omega)]; exact D.1 x y h1 h2, fun x hx => by rw [vu_n (by omega)]; exact D.2.1 x hx, (vu_n (by omega)).trans D.2.2⟩ (Or.inl ⟨vu_e rfl, fun y hy => absurd hy (Nat.not_lt_zero y)⟩)
    have st : d_X3_weighPairs_r87d_7 (r + 1) (a : Int) W = d_X3_weighPairs_r87d_7 r ((a + 1 : Nat) : Int) V := by
      rw [show ((a + 1 : Nat) : Int) = (a : Int) + 1 from by omega]
      refine (if_neg (by rw [(pXw_w J P).2.2.2.2.1]; omega)).trans ?_
      rw [show ((a : Int)).toNat = a from by omega]
      exact v1
    rw [st]
    exact ih (a + 1) r V (by omega) (by omega) v2 v3
theorem xs_32 {bd : Int} (hb : 0 ≤ bd ∧ bd ≤ 14400) : ∀ (c v r : Nat) (X W : jW), (v : Int) + (c : Int) = bd + 1 → c < r → pJw X W → (∀ k : Nat, k < 94 → k ≠ 87 → W.1 k = X.1 k) → (∀ k : Nat, W.1 87 k = X.1 87 k) → X.1 87 12 = bd → (∀ k : Nat, k < v → W.1 94 k = 0) → ∃ V : jW, d_X3_settle_r87d_32 r (v : Int) W = d_X3_place_r87_c0d 0 0 (vu (vu V 87 10 (-1)) 87 11 0) ∧ pJw X V ∧ (∀ k : Nat, k < 94 → k ≠ 87 → V.1 k = X.1 k) ∧ (∀ k : Nat, V.1 87 k = X.1 87 k) ∧ ∀ k : Nat, (k : Int) ≤ bd → V.1 94 k = 0 := by
  intro c
  induction c with
  | zero =>
    intro v r X W e hr J f1 f2 h q
    obtain ⟨r, rfl⟩ : ∃ z, r = z + 1 := ⟨r - 1, by omega⟩
    exact ⟨W, if_pos (by rw [f2, h]; omega), J, f1, f2, fun k hk => q k (by omega)⟩
  | succ c ih =>
    intro v r X W e hr J f1 f2 h q
    obtain ⟨r, rfl⟩ : ∃ z, r = z + 1 := ⟨r - 1, by omega⟩
    obtain ⟨V, v1, v2⟩ := ih (v + 1) r X (vu W 94 v 0) (by omega) (by omega) (pJw_u J (by omega)) (fun k k1 k2 => (vu_c (by omega)).trans (f1 k k1 k2)) (fun k => (vu_n (by omega)).trans (f2 k)) h (fun k hk => by
      by_cases z : k = v
      · exact vu_e z
      · exact (vu_n (by omega)).trans (q k (by omega)))
    refine ⟨V, ?_, v2⟩
    rw [show ((v + 1 : Nat) : Int) = (v : Int) + 1 from by omega] at v1
    refine (if_neg (by rw [f2, h]; omega)).trans ((if_neg (by omega)).trans ?_)
    rw [show ((v : Int)).toNat = v from by omega]
    exact v1
theorem tf_w {can mus : Nat → Nat → Prop} {wo : Nat → Nat → Int} (h9 : w ≤ 9) (hw : ∀ a b : Nat, b < a → a < w → 0 ≤ wo a b ∧ wo a b ≤ 400) : (sBe can mus wo w).1 ≤ max 0 (wsm wo (fun _ => 0) w) := by
  have mono : ∀ (gr : Nat → Int) (n : Nat), n ≤ w → wsm wo gr n ≤ wsm wo (fun _ => 0) n := by
    intro gr n
    induction n with
    | zero => intro _; exact Int.le_refl _
    | succ n ih =>
      intro hn
      have row : ∀ b : Nat, b ≤ n → wrw (wo n) gr (gr n) b ≤ wrw (wo n) (fun _ => 0) 0 b := by
        intro b
        induction b with
        | zero => intro _; exact Int.le_refl _
        | succ b ib =>
          intro hb
          have y := ib (by omega)
          have z := hw n b (by omega) (by omega)
          show wrw (wo n) gr (gr n) b + (if gr n = gr b then wo n b else 0) ≤ wrw (wo n) (fun _ => 0) 0 b + wo n b
          by_cases q : gr n = gr b
          · rw [if_pos q]; omega
          · rw [if_neg q]; omega
      have y := ih (by omega)
      have z := row n (Nat.le_refl n)
      show wsm wo gr n + wrw (wo n) gr (gr n) n ≤ wsm wo (fun _ => 0) n + wrw (wo n) (fun _ => 0) 0 n
      omega
  refine tf_v (P := fun a : pjB => a.1 ≤ max 0 (wsm wo (fun _ => 0) w)) (fun gr m a h => ?_) w 0 _ 0 _ (by show (-1 : Int) ≤ _; omega)
  unfold lfB
  by_cases c : tv (gdP can mus gr w) = 0
  · rw [if_pos c]; exact h
  · rw [if_neg c]
    have y := mono gr w (Nat.le_refl w)
    unfold upB
    by_cases z : a.1 < wsm wo gr w ∨ (wsm wo gr w = a.1 ∧ (m : Int) < a.2.1)
    · rw [if_pos z]; show wsm wo gr w ≤ _; omega
    · rw [if_neg z]; exact h
/-- all that settling gives -/
def pSet (X : jW) (E : pE) (g : Nat → Int) (t : Int × Int × Int × Int) (w : Nat) (wm : Nat → Nat) : Prop := pXa w (wsm (sWm t E wm) (fun _ => 0) w) X (sBe (sCan E wm) (sMus g wm) (sWm t E wm) w) ∧ X.1 87 12 = wsm (sWm t E wm) (fun _ => 0) w
theorem xset {X : jW} (h9 : w ≤ 9) (ht : pTm t) (P : pXw X E g t w wm) : pJw X (d_X3_settle_r87d_32 14402 0 (d_X3_weighPairs_r87d X)) ∧ pSet (d_X3_settle_r87d_32 14402 0 (d_X3_weighPairs_r87d X)) E g t w wm := by
  obtain ⟨q1, q2⟩ := xw_7 h9 ht P w 0 10 (vu X 87 12 0) (by omega) (by omega) (pJw_u pJw_r (by omega)) ⟨fun x y _ h => by omega, fun x hx => absurd hx (Nat.not_lt_zero x), vu_e rfl⟩
  have ew : d_X3_weighPairs_r87d X = d_X3_weighPairs_r87d_7 10 ((0 : Nat) : Int) (vu X 87 12 0) := rfl
  rw [← ew] at q1 q2
  generalize d_X3_weighPairs_r87d X = Y at *
  have bw := wsm_b (wo := sWm t E wm) (gr := fun _ => 0) w h9 (fun x z _ _ => sWm_b ht x z)
  have bb : (w : Int) * ((w : Int) - 1) ≤ 72 := by
    rcases (show w = 0 ∨ w = 1 ∨ w = 2 ∨ w = 3 ∨ w = 4 ∨ w = 5 ∨ w = 6 ∨ w = 7 ∨ w = 8 ∨ w = 9 from by omega) with rfl | rfl | rfl | rfl | rfl | rfl | rfl | rfl | rfl | rfl <;> decide
  have b12 : Y.1 87 12 = wsm (sWm t E wm) (fun _ => 0) w := q2.2.2.trans (Int.add_zero _)
  obtain ⟨V, v1, v2, v3, v4, v5⟩ := xs_32 (bd := wsm (sWm t E wm) (fun _ => 0) w) ⟨bw.1, by omega⟩ (wsm (sWm t E wm) (fun _ => 0) w + 1).toNat 0 14402 Y Y (by omega) (by omega) pJw_r (fun _ _ _ => rfl) (fun _ => rfl) b12 (fun k hk => absurd hk (Nat.not_lt_zero k))
  rw [show ((0 : Nat) : Int) = 0 from rfl] at v1
  rw [v1]
  have PY := pXw_w q1 P
  have XJ : pXj (vu (vu V 87 10 (-1)) 87 11 0) w (sCan E wm) (sMus g wm) (sWm t E wm) := by
    have n89 : (vu (vu V 87 10 (-1)) 87 11 0).1 89 = Y.1 89 := (vu_c (by decide)).trans ((vu_c (by decide)).trans (v3 89 (by decide) (by decide)))
    have n90 : (vu (vu V 87 10 (-1)) 87 11 0).1 90 = Y.1 90 := (vu_c (by decide)).trans ((vu_c (by decide)).trans (v3 90 (by decide) (by decide)))
    have n3 : (vu (vu V 87 10 (-1)) 87 11 0).1 87 3 = Y.1 87 3 := (vu_n (by decide)).trans ((vu_n (by decide)).trans (v4 3))
    unfold pXj
    rw [n89, n90, n3]
    exact ⟨PY.2.2.2.2.1, fun a b h1 h2 => ⟨(q2.1 a b h1 (by omega)).1, (q2.1 a b h1 (by omega)).2, sWm_b ht a b⟩, fun a ha => q2.2.1 a ha⟩
  have XA : pXa w (wsm (sWm t E wm) (fun _ => 0) w) (vu (vu V 87 10 (-1)) 87 11 0) (-1, 0, (fun _ => 0), (fun _ => 0), fun _ => 0) := ⟨(vu_n (by decide)).trans (vu_e rfl), vu_e rfl, by decide, fun z => absurd z (by decide), fun v hv => ((vu_n (by omega)).trans ((vu_n (by omega)).trans (v5 v hv))).trans wr_0.symm⟩
  have pl := plJ_a (bd := wsm (sWm t E wm) (fun _ => 0) w) (can := sCan E wm) (mus := sMus g wm) (wo := sWm t E wm) h9 (so := fun a => g (wm a)) (fun a b _ _ => Iff.rfl) (fun _ => 0) 0 _ _ (Nat.zero_le _) XJ XA rfl (Nat.zero_le _) (fun j hj => absurd hj (Nat.not_lt_zero j)) (fun a b _ h => absurd h (Nat.not_lt_zero a))
  rw [show wsm (sWm t E wm) (fun _ => 0) 0 = 0 from rfl, show ((0 : Nat) : Int) = 0 from rfl, Nat.sub_zero] at pl
  have J1 : pJw X (vu (vu V 87 10 (-1)) 87 11 0) := pJw_u (pJw_u (pJw_t q1 v2) (by omega)) (by omega)
  have J2 : pJw (vu (vu V 87 10 (-1)) 87 11 0) (d_X3_place_r87_c0d 0 0 (vu (vu V 87 10 (-1)) 87 11 0)) := ⟨fun c hc => pl.2.1 c (by omega) (by omega) (by omega) (by omega) (by omega), fun k hk => pl.2.2.1 k (by omega) (by omega), pl.2.2.2.2.2⟩
  exact ⟨pJw_t J1 J2, pl.1, (pl.2.2.1 12 (by decide) (by decide)).trans (((vu_n (by decide)).trans ((vu_n (by decide)).trans (v4 12))).trans b12)⟩
/-! rivals -/
theorem xri_13 {W : jW} {tal : Int → Int} {B : Int} (hB : B ≤ 14400) (e10 : W.1 87 10 = B) (ht : ∀ v : Nat, (v : Int) ≤ B → W.1 94 v = wr (tal (v : Int))) : ∀ (c v r : Nat) (x : Int), (v : Int) + (c : Int) = B + 1 → c < r → d_X3_rivalsWithin_r87d_13 r (wr x) (v : Int) W = wr (x + sTa (fun u => tal u) (v : Int) c) := by
  intro c
  induction c with
  | zero =>
    intro v r x e hr
    obtain ⟨r, rfl⟩ : ∃ z, r = z + 1 := ⟨r - 1, by omega⟩
    show _ = wr (x + 0)
    rw [Int.add_zero]
    exact if_pos (by omega)
  | succ c ih =>
    intro v r x e hr
    obtain ⟨r, rfl⟩ : ∃ z, r = z + 1 := ⟨r - 1, by omega⟩
    have sh : ∀ n : Nat, sTa (fun u => tal u) (v : Int) (n + 1) = tal (v : Int) + sTa (fun u => tal u) ((v : Int) + 1) n := by
      intro n
      induction n with
      | zero => show (0 : Int) + tal ((v : Int) + ((0 : Nat) : Int)) = tal (v : Int) + 0; rw [show (v : Int) + ((0 : Nat) : Int) = (v : Int) from by omega]; omega
      | succ n ih2 =>
        show sTa (fun u => tal u) (v : Int) (n + 1) + tal ((v : Int) + ((n + 1 : Nat) : Int)) = tal (v : Int) + (sTa (fun u => tal u) ((v : Int) + 1) n + tal ((v : Int) + 1 + (n : Int)))
        rw [ih2, show (v : Int) + ((n + 1 : Nat) : Int) = (v : Int) + 1 + (n : Int) from by omega]
        omega
    have y := ih (v + 1) r (x + tal (v : Int)) (by omega) (by omega)
    rw [show ((v + 1 : Nat) : Int) = (v : Int) + 1 from by omega] at y
    refine (if_neg (by omega)).trans ((if_neg (by omega)).trans ?_)
    rw [show ((v : Int)).toNat = v from by omega, ht v (by omega), wr_a, sh c, ← Int.add_assoc]
    exact y
theorem xri {W : jW} {n : Int} (h9 : w ≤ 9) (ht : pTm t) (S : pSet W E g t w wm) (h0 : 0 ≤ (sBe (sCan E wm) (sMus g wm) (sWm t E wm) w).1) (hn : 0 ≤ n ∧ n ≤ 1000) : d_X3_rivalsWithin_r87d n W = wr ((sBe (sCan E wm) (sMus g wm) (sWm t E wm) w).2.2.2.2 ((sBe (sCan E wm) (sMus g wm) (sWm t E wm) w).1 - n)) := by
  have bb := be_b (can := sCan E wm) (mus := sMus g wm) (wo := sWm t E wm) h9 (fun a b _ _ => sWm_b ht a b)
  have tw := tf_w (can := sCan E wm) (mus := sMus g wm) (wo := sWm t E wm) h9 (fun a b _ _ => sWm_b ht a b)
  have bw := wsm_b (wo := sWm t E wm) (gr := fun _ => 0) w h9 (fun x z _ _ => sWm_b ht x z)
  obtain ⟨⟨s1, s2, s3, s4, s5⟩, s6⟩ := S
  generalize hB : sBe (sCan E wm) (sMus g wm) (sWm t E wm) w = B at *
  have lo : max 0 (j_isub (W.1 87 10) n) = ((max 0 (B.1 - n)).toNat : Int) := by
    rw [s1, j_is (by omega) (by omega) (by omega)]; omega
  unfold d_X3_rivalsWithin_r87d
  rw [lo]
  have y := xri_13 (W := W) (tal := B.2.2.2.1) (B := B.1) bb.1.2 s1 (fun v hv => s5 v (by omega)) (B.1 + 1 - ((max 0 (B.1 - n)).toNat : Int)).toNat (max 0 (B.1 - n)).toNat 2147483648 0 (by omega) (by omega)
  rw [wr_0] at y
  rw [y, Int.zero_add]
  have ge := bb.2.1 (((max 0 (B.1 - n)).toNat : Nat) : Int) (B.1 + 1 - ((max 0 (B.1 - n)).toNat : Int)).toNat
  rw [bb.2.2.1 ((((max 0 (B.1 - n)).toNat : Nat) : Int) + (((B.1 + 1 - ((max 0 (B.1 - n)).toNat : Int)).toNat : Nat) : Int)) (by omega), Int.add_zero] at ge
  rw [← ge]
  by_cases z : 0 ≤ B.1 - n
  · rw [show (((max 0 (B.1 - n)).toNat : Nat) : Int) = B.1 - n from by omega]
  · rw [show (((max 0 (B.1 - n)).toNat : Nat) : Int) = 0 from by omega, bb.2.2.2 (B.1 - n) (by omega)]
end
end jG104

section jG105
/-! pure: questions about a SOUL are within their ranges -/
theorem i32_r (x : Int32) : -2147483648 ≤ x.toInt ∧ x.toInt ≤ 2147483647 := by
  have a := Int32.le_toInt x
  have b := Int32.toInt_lt x
  omega
theorem sFd_v {α : Type} {P : α → Prop} {g : Nat → Int} {s : Int} {f : α → Nat → α} (h : ∀ a k, P a → P (f a k)) : ∀ (c k : Nat) (a : α), P a → P (sFd g s f c k a) := by
  intro c
  induction c with
  | zero => intro k a q; exact q
  | succ c ih =>
    intro k a q
    show P (sFd g s f c (k + 1) (if g k = s then f a k else a))
    by_cases z : g k = s
    · rw [if_pos z]; exact ih _ _ (h a k q)
    · rw [if_neg z]; exact ih _ _ q
theorem q_ok {E : pE} {g : Nat → Int} {d kn s : Int} (H : pIh E) (I : pIs E) (h0 : 0 ≤ E.1 0 ∧ E.1 0 ≤ 200) (hd : 0 ≤ d ∧ d ≤ 146399) : qOk fun w => sQu E g d kn w s := by
  intro w w0 w9
  have a1 : 0 ≤ max 0 (d - (sSn E g s).2.1) / 366 ∧ max 0 (d - (sSn E g s).2.1) / 366 ≤ 146399 := by
    have z : 0 ≤ (sSn E g s).2.1 := by
      show 0 ≤ max 0 (min 146399 _)
      omega
    omega
  have a2 := cnt_b (P := sCp E g s d) (E.1 0).toNat
  have a3 := sVs_b (E := E) (g := g) (d := d) (kn := kn) (s := s) H I (E.1 7).toNat
  have b7 := I.1
  have a4 := i32_r (Int32.ofInt (d - sFy E g s d) / Int32.ofInt 366)
  have a5 : -2147483648 ≤ sRe E g s (d - 365) d ∧ sRe E g s (d - 365) d ≤ 2147483647 := sFd_v (P := fun x : Int => -2147483648 ≤ x ∧ x ≤ 2147483647) (fun a k q => by
    by_cases z : sCo E k = 7 ∧ d - 365 ≤ sDy E k ∧ sDy E k ≤ d
    · rw [if_pos z]; exact i32_r _
    · rw [if_neg z]; exact q) _ _ _ (by decide)
  show (-1000000000000 ≤ sQu E g d kn w s ∧ sQu E g d kn w s ≤ 1000000000000) ∧ (5 ≤ w → sQu E g d kn w s = 0 ∨ sQu E g d kn w s = 1)
  have tf : ∀ P : Prop, tv P = 0 ∨ tv P = 1 := fun P => by
    by_cases z : P
    · exact Or.inr (tv_t z)
    · exact Or.inl (tv_f z)
  unfold sQu
  rcases (show w = 0 ∨ w = 1 ∨ w = 2 ∨ w = 3 ∨ w = 4 ∨ w = 5 ∨ w = 6 ∨ w = 7 ∨ w = 8 ∨ w = 9 from by omega) with rfl | rfl | rfl | rfl | rfl | rfl | rfl | rfl | rfl | rfl
  · rw [if_pos rfl]; exact ⟨by omega, fun h => by omega⟩
  · rw [if_neg (by decide), if_pos rfl]
    refine ⟨?_, fun h => by omega⟩
    show -1000000000000 ≤ cnt (sCp E g s d) (E.1 0).toNat ∧ cnt (sCp E g s d) (E.1 0).toNat ≤ 1000000000000
    omega
  · rw [if_neg (by decide), if_neg (by decide), if_pos rfl]
    refine ⟨?_, fun h => by omega⟩
    show -1000000000000 ≤ sVs E g d kn s (E.1 7).toNat ∧ sVs E g d kn s (E.1 7).toNat ≤ 1000000000000
    omega
  · rw [if_neg (by decide), if_neg (by decide), if_neg (by decide), if_pos rfl]
    refine ⟨?_, fun h => by omega⟩
    show -1000000000000 ≤ (Int32.ofInt (d - sFy E g s d) / Int32.ofInt 366).toInt ∧ (Int32.ofInt (d - sFy E g s d) / Int32.ofInt 366).toInt ≤ 1000000000000
    omega
  · rw [if_neg (by decide), if_neg (by decide), if_neg (by decide), if_neg (by decide), if_pos rfl]
    exact ⟨by omega, fun h => by omega⟩
  · rw [if_neg (by decide), if_neg (by decide), if_neg (by decide), if_neg (by decide), if_neg (by decide), if_pos rfl]
    split
    · split
      · decide
      · decide
    · decide
  · rw [if_neg (by decide), if_neg (by decide), if_neg (by decide), if_neg (by decide), if_neg (by decide), if_neg (by decide), if_pos rfl]
    split
    · decide
    · decide
  · rw [if_neg (by decide), if_neg (by decide), if_neg (by decide), if_neg (by decide), if_neg (by decide), if_neg (by decide), if_neg (by decide), if_pos rfl]
    split
    · decide
    · decide
  · rw [if_neg (by decide), if_neg (by decide), if_neg (by decide), if_neg (by decide), if_neg (by decide), if_neg (by decide), if_neg (by decide), if_neg (by decide), if_pos rfl]
    split
    · decide
    · decide
  · rw [if_neg (by decide), if_neg (by decide), if_neg (by decide), if_neg (by decide), if_neg (by decide), if_neg (by decide), if_neg (by decide), if_neg (by decide), if_neg (by decide)]
    split
    · decide
    · decide
end jG105

section jG106
/-! pure: what finding SOULS leaves (wip/gen/fifr.py) -/
def fw_find0 : List (Nat × Nat) := [(125, 32), (137, 0), (138, 0), (139, 0), (140, 0)]
theorem fq_find_221 {K67 : Int → Int → jW → jW} (hK67 : ∀ (x0 : Int) (x1 : Int) (W : jW), pF fw_find0 W (K67 x0 x1 W)) (l1 : Int) (l2 : Int) (W : jW) : pF fw_find0 W (d_X12_find_r125d_221 K67 l1 l2 W) := (hK67 _ _ _)
theorem fq_find_67 : ∀ (r : Nat) (l1 : Int) (l2 : Int) (W : jW), pF fw_find0 W (d_X12_find_r125d_67 r l1 l2 W) := by
  intro r
  induction r with
  | zero => exact fun _ _ _ => pF_r
  | succ r ih => exact fun l1 l2 W => (pF_i pF_r (pF_i (fq_find_221 (fun l1 l2 W => (ih _ _ _)) _ _ _) (pF_i (fq_find_221 (fun l1 l2 W => (ih _ _ _)) _ _ _) (pF_i (fq_find_221 (fun l1 l2 W => (ih _ _ _)) _ _ _) (pF_i (fq_find_221 (fun l1 l2 W => (ih _ _ _)) _ _ _) (pF_i (pF_t (pF_u (pF_v (pF_m rfl (fr_d_X12_canJoin_r125d _ _ _)) rfl) rfl) (fq_find_221 (fun l1 l2 W => (ih _ _ _)) _ _ _)) (pF_t (pF_t (pF_m rfl (fr_d_X12_canJoin_r125d _ _ _)) (pF_m rfl (fr_d_X12_join2_r125d _ _ _))) (fq_find_221 (fun l1 l2 W => (ih _ _ _)) _ _ _))))))))
theorem fq_find_58 {K17 : Int → Int → jW → jW} (hK17 : ∀ (x0 : Int) (x1 : Int) (W : jW), pF fw_find0 W (K17 x0 x1 W)) (l1 : Int) (l2 : Int) (s0 : Int) (s1 : Int) (W : jW) : pF fw_find0 W (d_X12_find_r125d_58 K17 l1 l2 s0 s1 W) := (pF_t (pF_v pF_r rfl) (hK17 _ _ _))
theorem fq_find_100058 {K17 : Int → Int → jW → jW} (hK17 : ∀ (x0 : Int) (x1 : Int) (W : jW), pF fw_find0 W (K17 x0 x1 W)) (l1 : Int) (l2 : Int) (s1 : Int) (W : jW) : pF fw_find0 W (d_X12_find_r125d_100058 K17 l1 l2 s1 W) := (pF_t (pF_v pF_r rfl) (hK17 _ _ _))
theorem fq_find_57 {K17 : Int → Int → jW → jW} (hK17 : ∀ (x0 : Int) (x1 : Int) (W : jW), pF fw_find0 W (K17 x0 x1 W)) (l1 : Int) (l2 : Int) (s0 : Int) (W : jW) : pF fw_find0 W (d_X12_find_r125d_57 K17 l1 l2 s0 W) := (fq_find_100058 hK17 _ _ _ _)
theorem fq_find_17 : ∀ (r : Nat) (l1 : Int) (l2 : Int) (W : jW), pF fw_find0 W (d_X12_find_r125d_17 r l1 l2 W) := by
  intro r
  induction r with
  | zero => exact fun _ _ _ => pF_r
  | succ r ih => exact fun l1 l2 W => (pF_i (fq_find_67 _ _ _ _) (pF_i (pF_i (pF_i (fq_find_57 (fun l1 l2 W => (ih _ _ _)) _ _ _ _) (fq_find_58 (fun l1 l2 W => (ih _ _ _)) _ _ _ _ _)) (pF_i (pF_i (fq_find_57 (fun l1 l2 W => (ih _ _ _)) _ _ _ _) (pF_i (fq_find_57 (fun l1 l2 W => (ih _ _ _)) _ _ _ _) (fq_find_58 (fun l1 l2 W => (ih _ _ _)) _ _ _ _ _))) (pF_i (fq_find_57 (fun l1 l2 W => (ih _ _ _)) _ _ _ _) (pF_i (fq_find_57 (fun l1 l2 W => (ih _ _ _)) _ _ _ _) (fq_find_58 (fun l1 l2 W => (ih _ _ _)) _ _ _ _ _))))) (fq_find_57 (fun l1 l2 W => (ih _ _ _)) _ _ _ _)))
theorem fi_k (kn : Int) (M : jW) : (d_X12_find_r125d kn M).1 125 28 = kn ∧ (d_X12_find_r125d kn M).1 125 57 = -1 := by
  have F := fq_find_17 601 kn 0 (vu (vu (vu M 125 28 kn) 125 31 0) 125 57 (-1))
  exact ⟨(F.1 125 28 rfl).trans ((vu_n (by decide)).trans ((vu_n (by decide)).trans (vu_e rfl))), (F.1 125 57 rfl).trans (vu_e rfl)⟩
end jG106

section jG107
/-! pure: what lasts from call to call at the class, what is kept of what is worked out -/
def okq (q : Nat × Nat) : Bool := (Nat.beq q.1 78 && Nat.beq q.2 14) || (Nat.ble 82 q.1 && Nat.ble q.1 86) || (Nat.beq q.1 87 && (Nat.ble 11 q.2 && Nat.ble q.2 14)) || (Nat.ble 89 q.1 && Nat.ble q.1 122) || Nat.beq q.1 124
def qC (c : Nat) : Prop := c < 78 ∨ (79 ≤ c ∧ c ≤ 81) ∨ c = 88 ∨ c = 123 ∨ 124 < c
/-- all is as it was but what is worked out: what asking does -/
def pQ0 (X Y : jW) : Prop := (∀ c : Nat, qC c → Y.1 c = X.1 c) ∧ (∀ k : Nat, k ≠ 13 → Y.1 78 k = X.1 78 k) ∧ (∀ k : Nat, k < 10 ∨ 14 ≤ k → Y.1 87 k = X.1 87 k) ∧ (∀ c : Nat, qC c → Y.2.1 c = X.2.1 c) ∧ (∀ c k : Nat, qC c → Y.2.2.1 c k = X.2.2.1 c k) ∧ Y.2.2.2 = X.2.2.2
theorem okq_n {l : List (Nat × Nat)} (a : l.all okq = true) {c k : Nat} (h : qC c ∨ (c = 78 ∧ k ≠ 13) ∨ (c = 87 ∧ (k < 10 ∨ 14 ≤ k))) : pc l c k = false := by
  cases e : pc l c k with
  | false => rfl
  | true =>
    exfalso
    unfold pc at e
    rw [List.any_eq_true] at e
    obtain ⟨q, q1, q2⟩ := e
    rw [Bool.and_eq_true] at q2
    have z := Nat.eq_of_beq_eq_true q2.1
    have z2 : q.2 = 0 ∨ q.2 = k + 1 := by
      have y := q2.2
      rw [Bool.or_eq_true] at y
      exact y.elim (fun y => Or.inl (Nat.eq_of_beq_eq_true y)) (fun y => Or.inr (Nat.eq_of_beq_eq_true y))
    rw [List.all_eq_true] at a
    have b := a q q1
    unfold okq at b
    unfold qC at h
    simp only [Bool.or_eq_true, Bool.and_eq_true] at b
    rcases b with (((b | b) | b) | b) | b
    · have b1 := Nat.eq_of_beq_eq_true b.1
      have b2 := Nat.eq_of_beq_eq_true b.2
      omega
    · have b1 := Nat.le_of_ble_eq_true b.1
      have b2 := Nat.le_of_ble_eq_true b.2
      omega
    · have b1 := Nat.eq_of_beq_eq_true b.1
      have b2 := Nat.le_of_ble_eq_true b.2.1
      have b3 := Nat.le_of_ble_eq_true b.2.2
      omega
    · have b1 := Nat.le_of_ble_eq_true b.1
      have b2 := Nat.le_of_ble_eq_true b.2
      omega
    · have b1 := Nat.eq_of_beq_eq_true b
      omega
theorem pQ0_F {l : List (Nat × Nat)} {X Y : jW} (F : pF l X Y) (a : l.all okq = true) : pQ0 X Y := ⟨fun c h => funext fun k => F.1 c k (okq_n a (Or.inl h)), fun k h => F.1 78 k (okq_n a (Or.inr (Or.inl ⟨rfl, h⟩))), fun k h => F.1 87 k (okq_n a (Or.inr (Or.inr ⟨rfl, h⟩))), fun c h => funext fun k => F.2.1 c k (okq_n a (Or.inl h)), fun c k h => F.2.2.1 c k (okq_n a (Or.inl h)), F.2.2.2⟩
theorem pQ0_r {X : jW} : pQ0 X X := ⟨fun _ _ => rfl, fun _ _ => rfl, fun _ _ => rfl, fun _ _ => rfl, fun _ _ _ => rfl, rfl⟩
theorem pQ0_t {X Y Z : jW} (h : pQ0 X Y) (i : pQ0 Y Z) : pQ0 X Z := ⟨fun c q => (i.1 c q).trans (h.1 c q), fun k q => (i.2.1 k q).trans (h.2.1 k q), fun k q => (i.2.2.1 k q).trans (h.2.2.1 k q), fun c q => (i.2.2.2.1 c q).trans (h.2.2.2.1 c q), fun c k q => (i.2.2.2.2.1 c k q).trans (h.2.2.2.2.1 c k q), i.2.2.2.2.2.trans h.2.2.2.2.2⟩
abbrev jT := Int × Int × Int × Int
/-- what lasts at the class: its tables are the row's, and so on -/
def pCp (X : jW) (E : pE) (t : jT) (w : Nat) (wm : Nat → Nat) : Prop := pYx X E ∧ pD X 32 E.1 ∧ pTc X E.1 ∧ pSu X ∧ pSp X E ∧ (X.1 78 2 = t.1 ∧ X.1 78 3 = t.2.1 ∧ X.1 78 4 = t.2.2.1 ∧ X.1 78 5 = t.2.2.2) ∧ X.1 87 3 = (w : Int) ∧ (∀ a : Nat, a < w → X.1 88 a = (wm a : Int)) ∧ 1 ≤ X.1 32 19
theorem pTc_Q0 {X Y : jW} {r : Nat → Int} (y : pQ0 X Y) (h : pTc X r) : pTc Y r := by
  have q : ∀ c : Nat, 174 ≤ c → qC c := fun c hc => Or.inr (Or.inr (Or.inr (Or.inr (by omega))))
  obtain ⟨c1, c2⟩ := h
  refine ⟨by rw [y.1 32 (Or.inl (by decide))]; exact c1, fun t a b => ?_⟩
  obtain ⟨T, hd, q1, ⟨r1, r2, r3, r4, r5, r6, r7, r8⟩, ⟨cd, u1, u2, u3⟩⟩ := c2 t a b
  refine ⟨T, hd, by rw [y.2.2.2.2.1 66 _ (Or.inl (by decide))]; exact q1, ⟨r1, r2, by rw [y.1 T (q T r1)]; exact r3, by rw [y.1 T (q T r1)]; exact r4, by rw [y.1 T (q T r1)]; exact r5, by rw [y.1 T (q T r1)]; exact r6, by rw [y.2.2.2.2.1 T _ (q T r1)]; exact r7, fun c ca cb => by rw [y.1 hd (q hd r2)]; exact r8 c ca cb⟩, ⟨cd, u1, by rw [y.2.2.2.2.1 T _ (q T r1)]; exact u2, fun c ca cb cc => by rw [y.1 hd (q hd r2), y.1 cd (q cd u1), y.2.2.2.2.2]; exact u3 c ca cb cc⟩⟩
theorem pD_Q0 {X Y : jW} {r : Nat → Int} (y : pQ0 X Y) (h : pD X 32 r) : pD Y 32 r := by
  obtain ⟨d1, d2, d3, d4⟩ := h
  have e : ∀ c : Nat, c < 78 → Y.1 c = X.1 c := fun c hc => y.1 c (Or.inl hc)
  refine ⟨fun t ht => ?_, ?_, ?_, ?_⟩
  · have k : t.1 ≤ 15 := by
      have a : (pTs.all fun t => Nat.ble t.1 15) = true := rfl
      rw [List.all_eq_true] at a
      exact Nat.le_of_ble_eq_true (a t ht)
    unfold pT
    rw [e (32 + 1 + 2 * t.1) (by omega), e (32 + 2 + 2 * t.1) (by omega)]
    exact d1 t ht
  · unfold pNm
    rw [e (32 + 3) (by decide), e (32 + 4) (by decide)]
    exact d2
  · unfold pBo
    rw [e (32 + 7) (by decide), e (32 + 8) (by decide)]
    exact d3
  · exact pHo_e (by rw [e _ (by decide)]) (by rw [e _ (by decide)]) (fun _ _ => rfl) d4
theorem pYx_Q0 {X Y : jW} {E : pE} (y : pQ0 X Y) (P : pYx X E) : pYx Y E := by
  obtain ⟨p1, p2, p3, p4, p5, p6, p7, p8⟩ := P
  refine ⟨p1, p2, p3, p4, by rw [y.2.1 6 (by decide)]; exact p5, ?_, fun q hq => ?_, fun m hm => ?_⟩
  · unfold pT
    rw [y.1 (32 + 1 + 2 * pt_2.1) (Or.inl (by decide)), y.1 (32 + 2 + 2 * pt_2.1) (Or.inl (by decide))]
    exact p6
  · unfold pFc
    rw [y.1 75 (Or.inl (by decide)), y.1 76 (Or.inl (by decide)), y.1 77 (Or.inl (by decide))]
    exact p7 q hq
  · unfold pSl
    rw [y.1 79 (Or.inr (Or.inl (by decide))), y.1 80 (Or.inr (Or.inl (by decide))), y.1 81 (Or.inr (Or.inl (by decide)))]
    exact p8 m hm
theorem pCp_Q0 {X Y : jW} {E : pE} {t : jT} {w : Nat} {wm : Nat → Nat} (y : pQ0 X Y) (P : pCp X E t w wm) : pCp Y E t w wm := by
  obtain ⟨p1, p2, p3, p4, p5, p6, p7, p8, p9⟩ := P
  refine ⟨pYx_Q0 y p1, pD_Q0 y p2, pTc_Q0 y p3, ?_, ?_, ?_, by rw [y.2.2.1 3 (by decide)]; exact p7, fun a ha => by rw [y.1 88 (Or.inr (Or.inr (Or.inl rfl)))]; exact p8 a ha, by rw [y.1 32 (Or.inl (by decide))]; exact p9⟩
  · unfold pSu pSt
    rw [y.1 1 (Or.inl (by decide)), y.1 2 (Or.inl (by decide))]
    exact p4
  · unfold pSp
    rw [y.1 73 (Or.inl (by decide)), y.1 74 (Or.inl (by decide))]
    exact p5
  · rw [y.2.1 2 (by decide), y.2.1 3 (by decide), y.2.1 4 (by decide), y.2.1 5 (by decide)]
    exact p6
/-- JOININGS kept -/
def pKj (X : jW) (E : pE) (t : jT) (w : Nat) (wm : Nat → Nat) : Prop := X.1 87 13 = X.1 32 19 → pSet X E (sGs E 146399).1 t w wm
/-- all that the class keeps of what it worked out -/
def pCk (X : jW) (E : pE) (t : jT) (w : Nat) (wm : Nat → Nat) : Prop := pKs X E ∧ pKl X E.1 ∧ pKh X E ∧ pKe X E ∧ pKt X E ∧ pKv X E ∧ pKj X E t w wm
section
variable {X Y : jW} {E : pE} {t : jT} {w : Nat} {wm : Nat → Nat}
theorem pKs_e (e : ∀ c : Nat, c = 32 ∨ c = 82 ∨ c = 83 ∨ c = 84 ∨ c = 86 → Y.1 c = X.1 c) (e2 : Y.1 78 13 = X.1 78 13) (h : pKs X E) : pKs Y E := by
  unfold pKs pGx at *
  rw [e 32 (by decide), e 82 (by decide), e 83 (by decide), e 84 (by decide), e 86 (by decide), e2]
  exact h
theorem pKe_e (e : ∀ c : Nat, c = 32 ∨ c = 112 ∨ c = 114 → Y.1 c = X.1 c) (e2 : Y.1 107 9 = X.1 107 9) (h : pKe X E) : pKe Y E := by
  unfold pKe pSk at *
  rw [e 32 (by decide), e 112 (by decide), e 114 (by decide), e2]
  exact h
theorem pKt_e (e : ∀ c : Nat, c = 32 ∨ c = 115 ∨ c = 116 ∨ c = 117 ∨ c = 119 → Y.1 c = X.1 c) (e2 : Y.1 107 15 = X.1 107 15) (e3 : Y.1 107 16 = X.1 107 16) (h : pKt X E) : pKt Y E := by
  unfold pKt pTkn at *
  rw [e 32 (by decide), e 115 (by decide), e 116 (by decide), e 117 (by decide), e 119 (by decide), e2, e3]
  exact h
theorem pKv_e (e : ∀ c : Nat, c = 32 ∨ c = 108 ∨ c = 111 → Y.1 c = X.1 c) (h : pKv X E) : pKv Y E := by
  unfold pKv at *
  rw [e 32 (by decide), e 108 (by decide), e 111 (by decide)]
  exact h
theorem pKj_e (e : ∀ c : Nat, c = 32 ∨ c = 92 ∨ c = 94 → Y.1 c = X.1 c) (e2 : ∀ k : Nat, 10 ≤ k → k ≤ 13 → Y.1 87 k = X.1 87 k) (h : pKj X E t w wm) : pKj Y E t w wm := by
  unfold pKj pSet pXa at *
  rw [e 32 (by decide), e 92 (by decide), e 94 (by decide), e2 10 (by decide) (by decide), e2 11 (by decide) (by decide), e2 12 (by decide) (by decide), e2 13 (by decide) (by decide)]
  exact h
end
/-- what is asked of ROW and terms whatever is told -/
def pEv (E : pE) (t : jT) (w : Nat) (wm : Nat → Nat) : Prop := pIj E ∧ pIf E ∧ pIh E ∧ pIs E ∧ pIl E.1 ∧ pIk E.1 ∧ pI1 E.1 ∧ pI2 E.1 ∧ pI6 E.1 ∧ pIt E.1 ∧ pIe E.1 ∧ pIp E.1 ∧ pTm t ∧ w ≤ 9 ∧ (∀ a : Nat, a < w → sMn E (wm a) ∧ wm a < sNl E ∧ ∀ b : Nat, b < a → wm a ≠ wm b) ∧ (0 ≤ E.1 0 ∧ E.1 0 ≤ 200)
section
variable {X : jW} {E : pE} {t : jT} {w : Nat} {wm : Nat → Nat}
theorem ev_q (V : pEv E t w wm) (kn : Int) : pIq E (sGs E kn).1 := ⟨V.2.1, V.2.2.1, V.2.2.2.1, sGk_w _⟩
theorem ev_g (V : pEv E t w wm) (kn : Int) : sGi E (sGs E kn).1 := sGs_i V.1
theorem ev_o (V : pEv E t w wm) (kn : Int) {d : Int} (hd : 0 ≤ d ∧ d ≤ 146399) (s : Int) : qOk fun w => sQu E (sGs E kn).1 d kn w s := q_ok V.2.2.1 V.2.2.2.1 V.2.2.2.2.2.2.2.2.2.2.2.2.2.2.2 hd
/-- SOULS as known on a DAY -/
theorem c_as (P : pCp X E t w wm) (K : pCk X E t w wm) (V : pEv E t w wm) (kn : Int) : pCp (d_X7_asKnown_r78d kn X) E t w wm ∧ pCk (d_X7_asKnown_r78d kn X) E t w wm ∧ pVk (d_X7_asKnown_r78d kn X) E kn ∧ pGx (d_X7_asKnown_r78d kn X) E (sGs E kn) ∧ pQ0 X (d_X7_asKnown_r78d kn X) := by
  have F := fr_d_X7_asKnown_r78d kn X
  have y : pQ0 X (d_X7_asKnown_r78d kn X) := pQ0_F F rfl
  have P2 := pCp_Q0 y P
  obtain ⟨a1, a2, a3, a4⟩ := xas (d := kn) V.1 P.1 (P.2.1.1 pt_0 (by decide)) P.2.1.2.2.1 K.1
  have e32 : (d_X7_asKnown_r78d kn X).1 32 = X.1 32 := y.1 32 (Or.inl (by decide))
  have ks : pKs (d_X7_asKnown_r78d kn X) E := fun _ _ => by rw [a2]; exact a1
  have kl : pKl (d_X7_asKnown_r78d kn X) E.1 := pKl_c (pF_c F rfl) (pF_c F rfl) e32 K.2.1
  have kh : pKh (d_X7_asKnown_r78d kn X) E := pKh_c (pF_c F rfl) (pF_c F rfl) (pF_c F rfl) (pF_c F rfl) e32 K.2.2.1
  have ke : pKe (d_X7_asKnown_r78d kn X) E := pKe_e (fun c hc => by rcases hc with rfl | rfl | rfl <;> exact pF_c F rfl) (by rw [show (d_X7_asKnown_r78d kn X).1 107 = X.1 107 from pF_c F rfl]) K.2.2.2.1
  have kt : pKt (d_X7_asKnown_r78d kn X) E := pKt_e (fun c hc => by rcases hc with rfl | rfl | rfl | rfl | rfl <;> exact pF_c F rfl) (by rw [show (d_X7_asKnown_r78d kn X).1 107 = X.1 107 from pF_c F rfl]) (by rw [show (d_X7_asKnown_r78d kn X).1 107 = X.1 107 from pF_c F rfl]) K.2.2.2.2.1
  have kv : pKv (d_X7_asKnown_r78d kn X) E := pKv_e (fun c hc => by rcases hc with rfl | rfl | rfl <;> exact pF_c F rfl) K.2.2.2.2.2.1
  have kj : pKj (d_X7_asKnown_r78d kn X) E t w wm := pKj_e (fun c hc => by rcases hc with rfl | rfl | rfl <;> exact pF_c F rfl) (fun k _ _ => by rw [show (d_X7_asKnown_r78d kn X).1 87 = X.1 87 from pF_c F rfl]) K.2.2.2.2.2.2
  have t0 := P2.2.1.1 pt_0 (by decide)
  have xs : pXs (d_X7_asKnown_r78d kn X) E (sGs E kn).1 := ⟨ev_g V kn, V.2.2.2.2.2.2.2.2.2.2.2.2.2.2.2, t0.1, P2.1.2.2.2.2.1, a1.1, a1.2.1, P2.1.2.2.2.2.2.2.2, P2.1.2.1⟩
  exact ⟨P2, ⟨ks, kl, kh, ke, kt, kv, kj⟩, ⟨xs, P2.2.1.1 pt_5 (by decide), P2.2.2.1, P2.2.1.2.2.2, P2.2.1.1 pt_7 (by decide), P2.2.1.1 pt_9 (by decide), kl, kh⟩, a1, y⟩
/-- what is kept stays while only scratch and LAWS, HOLDINGS of a DAY change -/
def okk (q : Nat × Nat) : Bool := Nat.beq q.1 85 || (Nat.ble 95 q.1 && Nat.ble q.1 106) || Nat.beq q.1 110 || Nat.beq q.1 118 || (Nat.ble 120 q.1 && Nat.ble q.1 122) || Nat.beq q.1 124
theorem okk_n {l : List (Nat × Nat)} (a : l.all okk = true) {c k : Nat} (h : c ≤ 84 ∨ (86 ≤ c ∧ c ≤ 94) ∨ (107 ≤ c ∧ c ≤ 109) ∨ (111 ≤ c ∧ c ≤ 117) ∨ c = 119) : pc l c k = false := by
  cases e : pc l c k with
  | false => rfl
  | true =>
    exfalso
    unfold pc at e
    rw [List.any_eq_true] at e
    obtain ⟨q, q1, q2⟩ := e
    rw [Bool.and_eq_true] at q2
    have z := Nat.eq_of_beq_eq_true q2.1
    rw [List.all_eq_true] at a
    have b := a q q1
    unfold okk at b
    simp only [Bool.or_eq_true, Bool.and_eq_true] at b
    rcases b with ((((b | b) | b) | b) | b) | b
    · have b1 := Nat.eq_of_beq_eq_true b
      omega
    · have b1 := Nat.le_of_ble_eq_true b.1
      have b2 := Nat.le_of_ble_eq_true b.2
      omega
    · have b1 := Nat.eq_of_beq_eq_true b
      omega
    · have b1 := Nat.eq_of_beq_eq_true b
      omega
    · have b1 := Nat.le_of_ble_eq_true b.1
      have b2 := Nat.le_of_ble_eq_true b.2
      omega
    · have b1 := Nat.eq_of_beq_eq_true b
      omega
theorem pCk_k {Y : jW} (e : ∀ c : Nat, c ≤ 84 ∨ (86 ≤ c ∧ c ≤ 94) ∨ (107 ≤ c ∧ c ≤ 109) ∨ (111 ≤ c ∧ c ≤ 117) ∨ c = 119 → Y.1 c = X.1 c) (kl : pKl Y E.1) (kh : pKh Y E) (K : pCk X E t w wm) : pCk Y E t w wm := ⟨pKs_e (fun c hc => e c (by omega)) (by rw [e 78 (by omega)]) K.1, kl, kh, pKe_e (fun c hc => e c (by omega)) (by rw [e 107 (by omega)]) K.2.2.2.1, pKt_e (fun c hc => e c (by omega)) (by rw [e 107 (by omega)]) (by rw [e 107 (by omega)]) K.2.2.2.2.1, pKv_e (fun c hc => e c (by omega)) K.2.2.2.2.2.1, pKj_e (fun c hc => e c (by omega)) (fun k _ _ => by rw [e 87 (by omega)]) K.2.2.2.2.2.2⟩
theorem pCk_V {Y : jW} {kn : Int} {l : List (Nat × Nat)} (F : pF l X Y) (a : l.all okk = true) (Q : pVk Y E kn) (K : pCk X E t w wm) : pCk Y E t w wm := pCk_k (fun c hc => funext fun k => F.1 c k (okk_n a hc)) Q.2.2.2.2.2.2.1 Q.2.2.2.2.2.2.2 K
/-- the class turns to a DAY -/
theorem c_tu {kn d : Int} (V : pEv E t w wm) (Q : pVk X E kn) (K : pCk X E t w wm) : pV (d_X0_readHouses_r98d d kn (d_X0_readLaws_r98d d kn X)) E (sGs E kn).1 d kn ∧ pVk (d_X0_readHouses_r98d d kn (d_X0_readLaws_r98d d kn X)) E kn ∧ pCk (d_X0_readHouses_r98d d kn (d_X0_readLaws_r98d d kn X)) E t w wm ∧ pQy X (d_X0_readHouses_r98d d kn (d_X0_readLaws_r98d d kn X)) := by
  obtain ⟨l1, l2, l3, l4, l5, l6, l7⟩ := xtl (d := d) Q V.2.2.2.2.1 V.2.2.2.2.2.1
  have K1 := pCk_V (fr_d_X0_readLaws_r98d d kn X) rfl l2 K
  obtain ⟨h1, h2, h3, h4⟩ := xth (d := d) l2 V.2.2.1 l1
  exact ⟨h1, h2, pCk_V (fr_d_X0_readHouses_r98d d kn _) rfl h2 K1, pQy_t l5 h3⟩
theorem c_z {Y : jW} {kn : Int} (Q : pVk X E kn) (z : pF fw_X0_weigh_r98d X Y) (K : pCk X E t w wm) : pVk Y E kn ∧ pCk Y E t w wm := by
  have q : pVk Y E kn := pVk_Z Q ⟨fun c k _ h => z.1 c k h, fun c k _ h => z.2.1 c k h, z.2.2.1, z.2.2.2⟩
  exact ⟨q, pCk_V z rfl q K⟩
end
/-! MENTIONS asked of -/
def sMe (E : pE) (a : Int) : Prop := 0 ≤ a ∧ sMn E a.toNat
def hX {β : Type} (a : Int) (W : jW) (A B : β) : β := if a < 0 then A else if 600 ≤ a then A else if W.1 33 3 ≤ a / 3 then A else if W.1 79 a.toNat = -1 then A else B
def hM {β : Type} (a : Int) (W : jW) (A B : β) : β := if a < 0 then A else if 0 ≤ a / 3 ∧ a / 3 ≤ W.1 126 0 - 1 then (if W.1 126 (20 + (90 * (a / 3))).toNat = 0 then B else if W.1 126 (20 + (90 * (a / 3))).toNat = 1 then (if 2 ≤ a % 3 then A else B) else (if 1 ≤ a % 3 then A else B)) else A
theorem hX_e {β : Type} {X : jW} {E : pE} {a : Int} {A B : β} (Y : pYx X E) (e33 : X.1 33 3 = E.1 0) (h0 : 0 ≤ E.1 0 ∧ E.1 0 ≤ 200) : hX a X A B = if tv (sMe E a) = 0 then A else B := by
  unfold hX
  by_cases c1 : a < 0
  · rw [if_pos c1, if_pos (tv_f (fun h => by have := h.1; omega))]
  · rw [if_neg c1]
    by_cases c2 : 600 ≤ a
    · rw [if_pos c2, if_pos (tv_f (fun h => by have := h.2.1; omega))]
    · rw [if_neg c2]
      by_cases c3 : X.1 33 3 ≤ a / 3
      · rw [if_pos c3, if_pos (tv_f (fun h => by have := h.2.1; omega))]
      · rw [if_neg c3, (Y.2.2.2.2.2.2.2 a.toNat (by omega)).1]
        by_cases c4 : sCo E a.toNat = -1
        · rw [if_pos c4, if_pos (tv_f (fun h => h.2.2 c4))]
        · rw [if_neg c4, tv_t (show sMe E a from ⟨by omega, by omega, c4⟩), if_neg (show ¬ (1 : Int) = 0 from by decide)]
theorem hM_e {β : Type} {M : jW} {E : pE} {a : Int} {A B : β} (e126 : M.1 126 = E.1) (I : pIr E) : hM a M A B = if tv (sMe E a) = 0 then A else B := by
  unfold hM
  rw [e126]
  by_cases c1 : a < 0
  · rw [if_pos c1, if_pos (tv_f (fun h => by have := h.1; omega))]
  · rw [if_neg c1]
    by_cases c2 : 0 ≤ a / 3 ∧ a / 3 ≤ E.1 0 - 1
    · have b := (I (a.toNat / 3) (by omega)).1
      have e : (20 + (90 * (a / 3))).toNat = 20 + 90 * (a.toNat / 3) := by omega
      have m3 : ((a.toNat % 3 : Nat) : Int) = a % 3 := by omega
      have co : sCo E a.toNat = -1 ↔ sRo (E.1 (20 + 90 * (a.toNat / 3))) ≤ a % 3 := by
        unfold sCo
        rw [m3]
        by_cases z : sRo (E.1 (20 + 90 * (a.toNat / 3))) ≤ a % 3
        · rw [if_pos z]; exact ⟨fun _ => z, fun _ => rfl⟩
        · rw [if_neg z]
          refine ⟨fun h => ?_, fun h => absurd h z⟩
          split at h
          · omega
          · split at h
            · omega
            · omega
      have me : sMe E a ↔ ¬ sRo (E.1 (20 + 90 * (a.toNat / 3))) ≤ a % 3 := ⟨fun h q => h.2.2 (co.mpr q), fun h => ⟨by omega, by omega, fun q => h (co.mp q)⟩⟩
      rw [if_pos c2, e, tv_e me]
      unfold sRo
      by_cases z0 : E.1 (20 + 90 * (a.toNat / 3)) = 0
      · rw [if_pos z0, if_pos z0, tv_t (show ¬ (3 : Int) ≤ a % 3 from by omega), if_neg (show ¬ (1 : Int) = 0 from by decide)]
      · rw [if_neg z0, if_neg z0]
        by_cases z1 : E.1 (20 + 90 * (a.toNat / 3)) = 1
        · rw [if_pos z1, if_pos z1]
          by_cases q : 2 ≤ a % 3
          · rw [if_pos q, if_pos (tv_f (fun h => h q))]
          · rw [if_neg q, tv_t q, if_neg (show ¬ (1 : Int) = 0 from by decide)]
        · rw [if_neg z1, if_neg z1]
          by_cases q : 1 ≤ a % 3
          · rw [if_pos q, if_pos (tv_f (fun h => h q))]
          · rw [if_neg q, tv_t q, if_neg (show ¬ (1 : Int) = 0 from by decide)]
    · rw [if_neg c2, if_pos (tv_f (fun h => by have := h.2.1; omega))]
/-! what lasts at the reference -/
def pCm (M : jW) (E : pE) (t : jT) (w : Nat) (wm : Nat → Nat) : Prop := eOf M = E ∧ (M.1 125 23 = t.1 ∧ M.1 125 24 = t.2.1 ∧ M.1 125 25 = t.2.2.1 ∧ M.1 125 26 = t.2.2.2) ∧ M.1 125 36 = (w : Int) ∧ ∀ a : Nat, a < w → M.1 141 a = (wm a : Int)
section
variable {M : jW} {E : pE} {t : jT} {w : Nat} {wm : Nat → Nat}
theorem cm_126 (P : pCm M E t w wm) : M.1 126 = E.1 := congrArg Prod.fst P.1
theorem cm_u {c k : Nat} {x : Int} (P : pCm M E t w wm) (h : (c = 125 ∧ (k < 23 ∨ (27 < k ∧ k ≠ 36))) ∨ (c ≠ 125 ∧ c ≠ 126 ∧ c ≠ 132 ∧ c ≠ 133 ∧ c ≠ 134 ∧ c ≠ 141)) : pCm (vu M c k x) E t w wm := by
  obtain ⟨p1, p2, p3, p4⟩ := P
  have e : ∀ j : Nat, (23 ≤ j ∧ j ≤ 27) ∨ j = 36 → (vu M c k x).1 125 j = M.1 125 j := fun j hj => vu_n (by omega)
  refine ⟨?_, ?_, (e 36 (by decide)).trans p3, fun a ha => (vu_n (by omega)).trans (p4 a ha)⟩
  · unfold eOf at *
    rw [show (vu M c k x).1 126 = M.1 126 from vu_c (by omega), show (vu M c k x).1 132 = M.1 132 from vu_c (by omega), show (vu M c k x).1 133 = M.1 133 from vu_c (by omega), show (vu M c k x).1 134 = M.1 134 from vu_c (by omega), e 27 (by decide)]
    exact p1
  · rw [e 23 (by decide), e 24 (by decide), e 25 (by decide), e 26 (by decide)]
    exact p2
theorem pCm_F {l : List (Nat × Nat)} {N : jW} (F : pF l M N) (a : (pc l 125 23 || (pc l 125 24 || (pc l 125 25 || (pc l 125 26 || (pc l 125 27 || (pc l 125 36 || ((l.any fun q => Nat.beq q.1 126) || ((l.any fun q => Nat.beq q.1 132) || ((l.any fun q => Nat.beq q.1 133) || ((l.any fun q => Nat.beq q.1 134) || (l.any fun q => Nat.beq q.1 141))))))))))) = false) (P : pCm M E t w wm) : pCm N E t w wm := by
  simp only [Bool.or_eq_false_iff] at a
  obtain ⟨a1, a2, a3, a4, a5, a6, a7, a8, a9, a10, a11⟩ := a
  obtain ⟨p1, p2, p3, p4⟩ := P
  refine ⟨?_, ?_, (F.1 125 36 a6).trans p3, fun a ha => by rw [pF_c F a11]; exact p4 a ha⟩
  · unfold eOf at *
    rw [pF_c F a7, pF_c F a8, pF_c F a9, pF_c F a10, F.1 125 27 a5]
    exact p1
  · rw [F.1 125 23 a1, F.1 125 24 a2, F.1 125 25 a3, F.1 125 26 a4]
    exact p2
/-- the reference finds SOULS as known on a DAY -/
theorem m_fi (P : pCm M E t w wm) (Y : pYm M) (V : pEv E t w wm) (kn : Int) : pAs (d_X12_find_r125d kn M) E (sGs E kn).1 kn ∧ pGm (d_X12_find_r125d kn M) E (sGs E kn) ∧ pCm (d_X12_find_r125d kn M) E t w wm ∧ (d_X12_find_r125d kn M).1 125 57 = -1 := by
  have F := fr_d_X12_find_r125d kn M
  have P2 : pCm (d_X12_find_r125d kn M) E t w wm := pCm_F F rfl P
  have h2 : 0 ≤ M.1 126 0 ∧ M.1 126 0 ≤ 200 := by rw [cm_126 P]; exact V.2.2.2.2.2.2.2.2.2.2.2.2.2.2.2
  have g := mfi (d := kn) Y (by rw [P.1]; exact V.1) h2
  rw [P.1] at g
  obtain ⟨y1, y2, y3, y4, y5⟩ := Y
  rw [P.1] at y2 y3
  have s27 : E.2.2.2.2 = M.1 125 27 := by rw [← P.1]; rfl
  have st := fi_k kn M
  refine ⟨⟨⟨P2.1, y2, y3, by rw [s27]; exact y4, ev_g V kn, V.2.2.2.2.2.2.2.2.2.2.2.2.2.2.2, g.1⟩, st.1, fun h => absurd st.2 h⟩, g, P2, st.2⟩
end
end jG107
