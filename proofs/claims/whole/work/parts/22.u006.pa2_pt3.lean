section jG3
/-! pure: closings and entries -/
def pCl (X M : jW) : Prop := (X.1 59 3 = M.1 126 14 ∧ 0 ≤ M.1 126 14 ∧ M.1 126 14 ≤ 40) ∧ (∀ i : Int, 0 ≤ i → i < M.1 126 14 → X.1 60 (i * 4 + 0).toNat = M.1 126 (49360 + 4 * i + 3).toNat ∧ X.1 60 (i * 4 + 1).toNat = M.1 126 (49360 + 4 * i + 1).toNat ∧ X.1 60 (i * 4 + 2).toNat = M.1 126 (49360 + 4 * i).toNat ∧ X.1 60 (i * 4 + 3).toNat = M.1 126 (49360 + 4 * i + 2).toNat) ∧ ∀ i j : Int, 0 ≤ i → i < j → j < M.1 126 14 → M.1 126 (49360 + 4 * i).toNat = M.1 126 (49360 + 4 * j).toNat → M.1 126 (49360 + 4 * i + 1).toNat < M.1 126 (49360 + 4 * j + 1).toNat
def pEn (X M : jW) : Prop := (X.1 57 3 = M.1 126 13 ∧ 0 ≤ M.1 126 13 ∧ M.1 126 13 ≤ 100) ∧ ∀ i : Int, 0 ≤ i → i < M.1 126 13 → X.1 58 (i * 4 + 0).toNat = M.1 126 (48960 + 4 * i + 3).toNat ∧ X.1 58 (i * 4 + 1).toNat = M.1 126 (48960 + 4 * i + 1).toNat ∧ X.1 58 (i * 4 + 2).toNat = M.1 126 (48960 + 4 * i).toNat ∧ X.1 58 (i * 4 + 3).toNat = M.1 126 (48960 + 4 * i + 2).toNat ∧ 0 ≤ M.1 126 (48960 + 4 * i + 1).toNat ∧ M.1 126 (48960 + 4 * i + 1).toNat ≤ 399
section
variable {X M : jW} {o y s : Int}
theorem at59_0 (R : pCl X M) {i : Int} (h0 : 0 ≤ i) (h1 : i < M.1 126 14) : d_X8_at_r59_c0d i X = M.1 126 (49360 + 4 * i + 3).toNat := by
  unfold d_X8_at_r59_c0d
  rw [if_neg (by have := R.1.1; omega)]
  exact (R.2.1 i h0 h1).1
theorem at59_1 (R : pCl X M) {i : Int} (h0 : 0 ≤ i) (h1 : i < M.1 126 14) : d_X8_at_r59_c1d i X = M.1 126 (49360 + 4 * i + 1).toNat := by
  unfold d_X8_at_r59_c1d
  rw [if_neg (by have := R.1.1; omega)]
  exact (R.2.1 i h0 h1).2.1
theorem at59_2 (R : pCl X M) {i : Int} (h0 : 0 ≤ i) (h1 : i < M.1 126 14) : d_X8_at_r59_c2d i X = M.1 126 (49360 + 4 * i).toNat := by
  unfold d_X8_at_r59_c2d
  rw [if_neg (by have := R.1.1; omega)]
  exact (R.2.1 i h0 h1).2.2.1
theorem at59_3 (R : pCl X M) {i : Int} (h0 : 0 ≤ i) (h1 : i < M.1 126 14) : d_X8_at_r59_c3d i X = M.1 126 (49360 + 4 * i + 2).toNat := by
  unfold d_X8_at_r59_c3d
  rw [if_neg (by have := R.1.1; omega)]
  exact (R.2.1 i h0 h1).2.2.2
def pcC (M : jW) (o y i : Int) : Prop := M.1 126 (49360 + 4 * i).toNat = o ∧ M.1 126 (49360 + 4 * i + 1).toNat = y
theorem cl_s {r : Nat} {i : Int} : d_X11_closing_r31d_2 (r + 1) o y i X = if X.1 59 3 ≤ i then -1 else if d_X8_at_r59_c2d i X = o then if d_X8_at_r59_c1d i X = y then i else d_X11_closing_r31d_2 r o y (i + 1) X else d_X11_closing_r31d_2 r o y (i + 1) X := rfl
theorem ca_s {r : Nat} {t i : Int} : d_X12_closedAt_r125d_5 (r + 1) o y t i M = if M.1 126 14 ≤ i then t else if M.1 126 (49360 + 4 * i).toNat = o then if M.1 126 (49360 + 4 * i + 1).toNat = y then d_X12_closedAt_r125d_5 r o y (49360 + 4 * i) (i + 1) M else d_X12_closedAt_r125d_5 r o y t (i + 1) M else d_X12_closedAt_r125d_5 r o y t (i + 1) M := rfl
theorem cl_sp (R : pCl X M) : ∀ (r : Nat) (i : Int), 0 ≤ i → i ≤ M.1 126 14 → M.1 126 14 - i < (r : Int) → (∀ j, 0 ≤ j → j < i → ¬ pcC M o y j) → (d_X11_closing_r31d_2 r o y i X = -1 ∧ ∀ j, 0 ≤ j → j < M.1 126 14 → ¬ pcC M o y j) ∨ ∃ j, 0 ≤ j ∧ j < M.1 126 14 ∧ d_X11_closing_r31d_2 r o y i X = j ∧ pcC M o y j := by
  intro r
  induction r with
  | zero => intro i h0 hn h1 h2; exfalso; omega
  | succ r ih =>
    intro i h0 hn h1 h2
    rw [cl_s]
    have n1 := R.1.1
    by_cases c : X.1 59 3 ≤ i
    · rw [if_pos c]
      exact Or.inl ⟨rfl, fun j j0 j1 => h2 j j0 (by omega)⟩
    · rw [if_neg c]
      have c' : i < M.1 126 14 := by omega
      rw [at59_2 R h0 c', at59_1 R h0 c']
      have nx : ¬ pcC M o y i → (d_X11_closing_r31d_2 r o y (i + 1) X = -1 ∧ ∀ j, 0 ≤ j → j < M.1 126 14 → ¬ pcC M o y j) ∨ ∃ j, 0 ≤ j ∧ j < M.1 126 14 ∧ d_X11_closing_r31d_2 r o y (i + 1) X = j ∧ pcC M o y j := fun e => ih (i + 1) (by omega) (by omega) (by omega) (fun j j0 j1 => by
        by_cases z : j = i
        · rw [z]; exact e
        · exact h2 j j0 (by omega))
      by_cases e1 : M.1 126 (49360 + 4 * i).toNat = o
      · rw [if_pos e1]
        by_cases e2 : M.1 126 (49360 + 4 * i + 1).toNat = y
        · rw [if_pos e2]
          exact Or.inr ⟨i, h0, c', rfl, e1, e2⟩
        · rw [if_neg e2]
          exact nx (fun z => e2 z.2)
      · rw [if_neg e1]
        exact nx (fun z => e1 z.1)
theorem ca_sp : ∀ (r : Nat) (i t : Int), 0 ≤ i → i ≤ M.1 126 14 → M.1 126 14 - i < (r : Int) → ((t = -1 ∧ ∀ j, 0 ≤ j → j < i → ¬ pcC M o y j) ∨ ∃ j, 0 ≤ j ∧ j < i ∧ t = 49360 + 4 * j ∧ pcC M o y j) → (d_X12_closedAt_r125d_5 r o y t i M = -1 ∧ ∀ j, 0 ≤ j → j < M.1 126 14 → ¬ pcC M o y j) ∨ ∃ j, 0 ≤ j ∧ j < M.1 126 14 ∧ d_X12_closedAt_r125d_5 r o y t i M = 49360 + 4 * j ∧ pcC M o y j := by
  intro r
  induction r with
  | zero => intro i t h0 hn h1 h2; exfalso; omega
  | succ r ih =>
    intro i t h0 hn h1 h2
    rw [ca_s]
    by_cases c : M.1 126 14 ≤ i
    · rw [if_pos c]
      rcases h2 with h2 | ⟨j, j0, j1, j2, j3⟩
      · exact Or.inl ⟨h2.1, fun j j0 j1 => h2.2 j j0 (by omega)⟩
      · exact Or.inr ⟨j, j0, by omega, j2, j3⟩
    · rw [if_neg c]
      have nx : ¬ pcC M o y i → (d_X12_closedAt_r125d_5 r o y t (i + 1) M = -1 ∧ ∀ j, 0 ≤ j → j < M.1 126 14 → ¬ pcC M o y j) ∨ ∃ j, 0 ≤ j ∧ j < M.1 126 14 ∧ d_X12_closedAt_r125d_5 r o y t (i + 1) M = 49360 + 4 * j ∧ pcC M o y j := fun e => ih (i + 1) t (by omega) (by omega) (by omega) (by
        rcases h2 with h2 | ⟨j, j0, j1, j2, j3⟩
        · refine Or.inl ⟨h2.1, fun j j0 j1 => ?_⟩
          by_cases z : j = i
          · rw [z]; exact e
          · exact h2.2 j j0 (by omega)
        · exact Or.inr ⟨j, j0, by omega, j2, j3⟩)
      by_cases e1 : M.1 126 (49360 + 4 * i).toNat = o
      · rw [if_pos e1]
        by_cases e2 : M.1 126 (49360 + 4 * i + 1).toNat = y
        · rw [if_pos e2]
          exact ih (i + 1) _ (by omega) (by omega) (by omega) (Or.inr ⟨i, h0, by omega, rfl, e1, e2⟩)
        · rw [if_neg e2]
          exact nx (fun z => e2 z.2)
      · rw [if_neg e1]
        exact nx (fun z => e1 z.1)
theorem cl_un (R : pCl X M) {i j : Int} (i0 : 0 ≤ i) (i1 : i < M.1 126 14) (j0 : 0 ≤ j) (j1 : j < M.1 126 14) (ci : pcC M o y i) (cj : pcC M o y j) : i = j := by
  have a := ci.1
  have b := cj.1
  have c := ci.2
  have d := cj.2
  by_cases h : i < j
  · have := R.2.2 i j i0 h j1 (a.trans b.symm)
    omega
  · by_cases g : j < i
    · have := R.2.2 j i j0 g i1 (b.trans a.symm)
      omega
    · omega
theorem cl_ca (R : pCl X M) (o y : Int) : (d_X11_closing_r31d o y X = -1 ∧ d_X12_closedAt_r125d o y M = -1) ∨ ∃ j, 0 ≤ j ∧ j < M.1 126 14 ∧ d_X11_closing_r31d o y X = j ∧ d_X12_closedAt_r125d o y M = 49360 + 4 * j ∧ pcC M o y j := by
  have n2 := R.1.2
  unfold d_X11_closing_r31d d_X12_closedAt_r125d
  rcases cl_sp (o := o) (y := y) R 41 0 (by omega) (by omega) (by omega) (fun j j0 j1 => by omega) with a | ⟨i, i0, i1, i2, i3⟩
  · rcases ca_sp (M := M) (o := o) (y := y) 41 0 (-1) (by omega) (by omega) (by omega) (Or.inl ⟨rfl, fun j j0 j1 => by omega⟩) with b | ⟨j, j0, j1, j2, j3⟩
    · exact Or.inl ⟨a.1, b.1⟩
    · exact absurd j3 (a.2 j j0 j1)
  · rcases ca_sp (M := M) (o := o) (y := y) 41 0 (-1) (by omega) (by omega) (by omega) (Or.inl ⟨rfl, fun j j0 j1 => by omega⟩) with b | ⟨j, j0, j1, j2, j3⟩
    · exact absurd i3 (b.2 i i0 i1)
    · have e := cl_un R i0 i1 j0 j1 i3 j3
      subst e
      exact Or.inr ⟨i, i0, i1, i2, j2, i3⟩
theorem oy_s {r : Nat} {k : Int} : d_X11_ownYear_r31d_43 (r + 1) o s y k X = if X.1 59 3 < k then y else if d_X11_closing_r31d o y X = -1 then y else if d_X8_at_r59_c0d (d_X11_closing_r31d o y X) X < s then d_X11_ownYear_r31d_43 r o s (j_iadd y 1) (k + 1) X else y := rfl
theorem lp_s {r : Nat} {K : Int → Int → Int → Int → Int → jW → Int} {l2 l3 l5 l6 l7 : Int} : d_X12_balanceOf_r125d_104 K (r + 1) o l2 l3 l5 l6 l7 y M = if d_X12_closedAt_r125d o y M = -1 then d_X12_balanceOf_r125d_147 K o l2 l3 l5 l6 l7 y M else if M.1 126 (l7 + 3).toNat ≤ M.1 126 (d_X12_closedAt_r125d o y M + 3).toNat then d_X12_balanceOf_r125d_147 K o l2 l3 l5 l6 l7 y M else d_X12_balanceOf_r125d_104 K r o l2 l3 l5 l6 l7 (y + 1) M := rfl
theorem oy_eq (R : pCl X M) {K : Int → Int → Int → Int → Int → jW → Int} {l2 l3 l5 l6 l7 : Int} (hs : s = M.1 126 (l7 + 3).toNat) : ∀ (r r' : Nat) (y k : Int), 0 ≤ k → k ≤ M.1 126 14 → M.1 126 14 - k < (r : Int) → M.1 126 14 - k < (r' : Int) → 0 ≤ y → y ≤ 399 + k → (k = 0 ∨ ∃ j, k - 1 ≤ j ∧ 0 ≤ j ∧ j < M.1 126 14 ∧ pcC M o (y - 1) j) → d_X12_balanceOf_r125d_104 K r' o l2 l3 l5 l6 l7 y M = d_X12_balanceOf_r125d_147 K o l2 l3 l5 l6 l7 (d_X11_ownYear_r31d_43 r o s y k X) M := by
  intro r
  induction r with
  | zero => intro r' y k k0 kn h1; intros; exfalso; omega
  | succ r ih =>
    intro r' y k k0 kn h1 h2 y0 y1 H
    cases r' with
    | zero => exfalso; omega
    | succ r' =>
      have n1 := R.1.1
      have n2 := R.1.2
      rw [oy_s, lp_s, if_neg (c := X.1 59 3 < k) (by omega)]
      rcases cl_ca R o y with ⟨a, b⟩ | ⟨j, j0, j1, a, b, cj⟩
      · rw [a, b, if_pos (c := (-1 : Int) = -1) rfl, if_pos (c := (-1 : Int) = -1) rfl]
      · rw [a, b, if_neg (c := 49360 + 4 * j = -1) (by omega), if_neg (c := j = -1) (by omega), at59_0 R j0 j1, ← hs]
        by_cases c : M.1 126 (49360 + 4 * j + 3).toNat < s
        · rw [if_pos c, if_neg (by omega), j_ia (by omega) (by omega) (by omega)]
          have kj : k ≤ j := by
            rcases H with H | ⟨i, i1, i0, i2, ci⟩
            · omega
            · by_cases z : i < j
              · omega
              · exfalso
                have u1 := cj.1
                have u2 := cj.2
                have v1 := ci.1
                have v2 := ci.2
                by_cases e : i = j
                · subst e
                  omega
                · have := R.2.2 j i j0 (by omega) i2 (u1.trans v1.symm)
                  omega
          exact ih r' (y + 1) (k + 1) (by omega) (by omega) (by omega) (by omega) (by omega) (by omega) (Or.inr ⟨j, by omega, j0, j1, by rw [show y + 1 - 1 = y from by omega]; exact cj⟩)
        · rw [if_neg c, if_pos (by omega)]
theorem at57_0 (R : pEn X M) {i : Int} (h0 : 0 ≤ i) (h1 : i < M.1 126 13) : d_X8_at_r57_c0d i X = M.1 126 (48960 + 4 * i + 3).toNat := by
  unfold d_X8_at_r57_c0d
  rw [if_neg (by have := R.1.1; omega)]
  exact (R.2 i h0 h1).1
theorem at57_1 (R : pEn X M) {i : Int} (h0 : 0 ≤ i) (h1 : i < M.1 126 13) : d_X8_at_r57_c1d i X = M.1 126 (48960 + 4 * i + 1).toNat := by
  unfold d_X8_at_r57_c1d
  rw [if_neg (by have := R.1.1; omega)]
  exact (R.2 i h0 h1).2.1
theorem at57_2 (R : pEn X M) {i : Int} (h0 : 0 ≤ i) (h1 : i < M.1 126 13) : d_X8_at_r57_c2d i X = M.1 126 (48960 + 4 * i).toNat := by
  unfold d_X8_at_r57_c2d
  rw [if_neg (by have := R.1.1; omega)]
  exact (R.2 i h0 h1).2.2.1
theorem at57_3 (R : pEn X M) {i : Int} (h0 : 0 ≤ i) (h1 : i < M.1 126 13) : d_X8_at_r57_c3d i X = M.1 126 (48960 + 4 * i + 2).toNat := by
  unfold d_X8_at_r57_c3d
  rw [if_neg (by have := R.1.1; omega)]
  exact (R.2 i h0 h1).2.2.2.1
theorem kn57 (R : pEn X M) {i k : Int} (h0 : 0 ≤ i) (h1 : i < M.1 126 13) : d_X8_isKnown_r57d i k X = if k < M.1 126 (48960 + 4 * i + 3).toNat then 0 else 1 := by
  unfold d_X8_isKnown_r57d
  rw [if_neg (by have := R.1.1; omega), show i * 4 = i * 4 + 0 from by omega, (R.2 i h0 h1).1]
  rfl
theorem bx_s {r : Nat} {l1 l2 l3 l4 i : Int} : d_X11_balanceOf_r31d_54 (r + 1) l1 l2 l3 l4 i X = if X.1 57 3 ≤ i then l4 else if d_X8_at_r57_c2d i X = l1 then if d_X8_isKnown_r57d i l3 X = 0 then d_X11_balanceOf_r31d_54 r l1 l2 l3 l4 (i + 1) X else if d_X11_ownYear_r31d i X = l2 then d_X11_balanceOf_r31d_54 r l1 l2 l3 (j_iadd l4 (d_X8_at_r57_c3d i X)) (i + 1) X else d_X11_balanceOf_r31d_54 r l1 l2 l3 l4 (i + 1) X else d_X11_balanceOf_r31d_54 r l1 l2 l3 l4 (i + 1) X := rfl
theorem bm_s {r : Nat} {l1 l2 l3 l5 i : Int} : d_X12_balanceOf_r125d_47 (r + 1) l1 l2 l3 l5 i M = if M.1 126 13 ≤ i then l5 else if M.1 126 (48960 + 4 * i).toNat = l1 then if l3 < M.1 126 (48960 + 4 * i + 3).toNat then d_X12_balanceOf_r125d_47 r l1 l2 l3 l5 (i + 1) M else d_X12_balanceOf_r125d_104 (fun l1 l2 l3 l5 l6 W => d_X12_balanceOf_r125d_47 r l1 l2 l3 l5 l6 W) 401 l1 l2 l3 l5 i (48960 + 4 * i) (M.1 126 (48960 + 4 * i + 1).toNat) M else d_X12_balanceOf_r125d_47 r l1 l2 l3 l5 (i + 1) M := rfl
theorem be_s {K : Int → Int → Int → Int → Int → jW → Int} {l1 l2 l3 l5 l6 l7 l8 : Int} : d_X12_balanceOf_r125d_147 K l1 l2 l3 l5 l6 l7 l8 M = if l8 = l2 then K l1 l2 l3 (j_iadd l5 (M.1 126 (l7 + 2).toNat)) (l6 + 1) M else K l1 l2 l3 (l5 + 0) (l6 + 1) M := rfl
theorem ba_eq (R : pCl X M) (E : pEn X M) {l1 l2 l3 : Int} : ∀ (r : Nat) (t i : Int), 0 ≤ i → d_X11_balanceOf_r31d_54 r l1 l2 l3 t i X = d_X12_balanceOf_r125d_47 r l1 l2 l3 t i M := by
  intro r
  induction r with
  | zero => intro t i _; rfl
  | succ r ih =>
    intro t i h0
    have n1 := E.1.1
    have n2 := R.1.2
    rw [bx_s, bm_s]
    by_cases c : M.1 126 13 ≤ i
    · rw [if_pos c, if_pos (by omega)]
    · have c' : i < M.1 126 13 := by omega
      rw [if_neg c, if_neg (by omega), at57_2 E h0 c']
      by_cases e1 : M.1 126 (48960 + 4 * i).toNat = l1
      · rw [if_pos e1, if_pos e1, kn57 E h0 c']
        by_cases e2 : l3 < M.1 126 (48960 + 4 * i + 3).toNat
        · rw [if_pos e2, if_pos rfl, if_pos e2]
          exact ih t (i + 1) (by omega)
        · rw [if_neg e2, if_neg (by decide), if_neg e2]
          have q := (E.2 i h0 c').2.2.2.2
          have z : d_X12_balanceOf_r125d_104 (fun l1 l2 l3 l5 l6 W => d_X12_balanceOf_r125d_47 r l1 l2 l3 l5 l6 W) 401 l1 l2 l3 t i (48960 + 4 * i) (M.1 126 (48960 + 4 * i + 1).toNat) M = _ := oy_eq (s := M.1 126 (48960 + 4 * i + 3).toNat) R rfl 42 401 (M.1 126 (48960 + 4 * i + 1).toNat) 0 (by omega) (by omega) (by omega) (by omega) (by omega) (by omega) (Or.inl rfl)
          rw [z, be_s]
          have w : d_X11_ownYear_r31d i X = d_X11_ownYear_r31d_43 42 l1 (M.1 126 (48960 + 4 * i + 3).toNat) (M.1 126 (48960 + 4 * i + 1).toNat) 0 X := by
            unfold d_X11_ownYear_r31d
            rw [at57_2 E h0 c', at57_0 E h0 c', at57_1 E h0 c', e1]
          rw [w, at57_3 E h0 c', Int.add_zero]
          by_cases e3 : d_X11_ownYear_r31d_43 42 l1 (M.1 126 (48960 + 4 * i + 3).toNat) (M.1 126 (48960 + 4 * i + 1).toNat) 0 X = l2
          · rw [if_pos e3, if_pos e3]
            exact ih _ (i + 1) (by omega)
          · rw [if_neg e3, if_neg e3]
            exact ih _ (i + 1) (by omega)
      · rw [if_neg e1, if_neg e1]
        exact ih t (i + 1) (by omega)
theorem bal_eq (R : pCl X M) (E : pEn X M) {a1 a2 a3 : Int} : d_X11_balanceOf_r31d a1 a2 a3 X = d_X12_balanceOf_r125d a1 a2 a3 M := by
  unfold d_X11_balanceOf_r31d d_X12_balanceOf_r125d
  rcases cl_ca R a1 (a2 - 1) with ⟨a, b⟩ | ⟨j, j0, j1, a, b, cj⟩
  · rw [a, b, if_pos rfl, if_pos rfl]
    exact ba_eq R E 101 0 0 (by omega)
  · rw [a, b, if_neg (c := j = -1) (by omega), if_neg (c := 49360 + 4 * j = -1) (by omega), at59_0 R j0 j1, at59_3 R j0 j1]
    by_cases c : a3 < M.1 126 (49360 + 4 * j + 3).toNat
    · rw [if_pos c, if_pos c]
      exact ba_eq R E 101 0 0 (by omega)
    · rw [if_neg c, if_neg c]
      exact ba_eq R E 101 _ 0 (by omega)
end
/-! pure: balance, close by the chest's relation -/
def pIe (r : Nat → Int) : Prop := (∀ i : Nat, (i : Int) < r 13 → 0 ≤ r (48961 + 4 * i) ∧ r (48961 + 4 * i) ≤ 399) ∧ ∀ i j : Nat, i < j → (j : Int) < r 14 → r (49360 + 4 * i) = r (49360 + 4 * j) → r (49361 + 4 * i) < r (49361 + 4 * j)
theorem pCl_o {X M : jW} (D : pD X 32 (M.1 126)) (I : pIe (M.1 126)) : pCl X M := by
  have t := D.1 pt_13 (by decide)
  have a : ∀ (i : Int) (c k q : Nat), 0 ≤ i → i < M.1 126 14 → c < 4 → k = 4 * i.toNat + c → q = 49360 + 4 * i.toNat + [3, 1, 0, 2].getD c 0 → X.1 60 k = M.1 126 q := fun i c k q h0 h1 hc hk hq => pT_at t h0 h1 hc hk hq
  refine ⟨⟨t.1, t.2.1⟩, fun i h0 h1 => ⟨a i 0 _ _ h0 h1 (by decide) (by omega) (by show _ = 49360 + 4 * i.toNat + 3; omega), a i 1 _ _ h0 h1 (by decide) (by omega) (by show _ = 49360 + 4 * i.toNat + 1; omega), a i 2 _ _ h0 h1 (by decide) (by omega) (by show _ = 49360 + 4 * i.toNat + 0; omega), a i 3 _ _ h0 h1 (by decide) (by omega) (by show _ = 49360 + 4 * i.toNat + 2; omega)⟩, fun i j h0 h1 h2 e => ?_⟩
  have z := I.2 i.toNat j.toNat (by omega) (by omega)
  rw [show 49360 + 4 * i.toNat = (49360 + 4 * i).toNat from by omega, show 49361 + 4 * i.toNat = (49360 + 4 * i + 1).toNat from by omega, show 49360 + 4 * j.toNat = (49360 + 4 * j).toNat from by omega, show 49361 + 4 * j.toNat = (49360 + 4 * j + 1).toNat from by omega] at z
  exact z e
theorem pEn_o {X M : jW} (D : pD X 32 (M.1 126)) (I : pIe (M.1 126)) : pEn X M := by
  have t := D.1 pt_12 (by decide)
  have a : ∀ (i : Int) (c k q : Nat), 0 ≤ i → i < M.1 126 13 → c < 4 → k = 4 * i.toNat + c → q = 48960 + 4 * i.toNat + [3, 1, 0, 2].getD c 0 → X.1 58 k = M.1 126 q := fun i c k q h0 h1 hc hk hq => pT_at t h0 h1 hc hk hq
  refine ⟨⟨t.1, t.2.1⟩, fun i h0 h1 => ⟨a i 0 _ _ h0 h1 (by decide) (by omega) (by show _ = 48960 + 4 * i.toNat + 3; omega), a i 1 _ _ h0 h1 (by decide) (by omega) (by show _ = 48960 + 4 * i.toNat + 1; omega), a i 2 _ _ h0 h1 (by decide) (by omega) (by show _ = 48960 + 4 * i.toNat + 0; omega), a i 3 _ _ h0 h1 (by decide) (by omega) (by show _ = 48960 + 4 * i.toNat + 2; omega), ?_⟩⟩
  have z := I.1 i.toNat (by omega)
  rw [show 48961 + 4 * i.toNat = (48960 + 4 * i + 1).toNat from by omega] at z
  exact z
theorem ok_balance {X M : jW} {a1 a2 a3 : Int} (D : pD X 32 (M.1 126)) (I : pIe (M.1 126)) : d_X12_balance_r125d a1 a2 a3 M = (d_X11_balance_r31d a1 a2 a3 X, vu M 125 0 0) := by
  have e4 : (vu M 125 0 0).1 126 = M.1 126 := vu_c (by decide)
  have z := bal_eq (X := X) (M := vu M 125 0 0) (a1 := a1) (a2 := a2) (a3 := a3) (pCl_o (by rw [e4]; exact D) (by rw [e4]; exact I)) (pEn_o (by rw [e4]; exact D) (by rw [e4]; exact I))
  unfold d_X12_balance_r125d d_X11_balance_r31d
  by_cases c1 : 0 ≤ a1 ∧ a1 ≤ 3
  · rw [if_pos c1, if_pos c1]
    by_cases c2 : 0 ≤ a2 ∧ a2 ≤ 399
    · rw [if_pos c2, if_pos c2]
      by_cases c3 : 0 ≤ a3 ∧ a3 ≤ 146399
      · rw [if_pos c3, if_pos c3, ← z]
        rfl
      · rw [if_neg c3, if_neg c3]
        rfl
    · rw [if_neg c2, if_neg c2]
      rfl
  · rw [if_neg c1, if_neg c1]
    rfl
/-! pure: the last closing of an office -/
theorem lc_s {X : jW} {r : Nat} {o i : Int} : d_X11_lastClosed_r31d_13 (r + 1) o i X = if i < 0 then -1 else if d_X8_at_r59_c2d i X = o then d_X8_at_r59_c1d i X else d_X11_lastClosed_r31d_13 r o (i + -1) X := rfl
def pLc (r : Nat → Int) (o : Int) : Nat → Int
  | 0 => -1
  | n + 1 => if r (49360 + 4 * n) = o then r (49361 + 4 * n) else pLc r o n
theorem lc_x {X M : jW} (D : pD X 32 (M.1 126)) {o : Int} : ∀ (r n : Nat), n < r → (n : Int) ≤ M.1 126 14 → d_X11_lastClosed_r31d_13 r o ((n : Int) - 1) X = pLc (M.1 126) o n := by
  intro r
  induction r with
  | zero => intro n h; exfalso; omega
  | succ r ih =>
    intro n h1 h2
    have t := D.1 pt_13 (by decide)
    cases n with
    | zero => rfl
    | succ n =>
      rw [lc_s, if_neg (by omega), at_59_2 t (by omega) (by change _ < M.1 126 14; omega), at_59_1 t (by omega) (by change _ < M.1 126 14; omega), show (49360 + 4 * (((n + 1 : Nat) : Int) - 1) + 0).toNat = 49360 + 4 * n from by omega, show (49360 + 4 * (((n + 1 : Nat) : Int) - 1) + 1).toNat = 49361 + 4 * n from by omega, show ((n + 1 : Nat) : Int) - 1 + -1 = (n : Int) - 1 from by omega]
      show _ = if M.1 126 (49360 + 4 * n) = o then M.1 126 (49361 + 4 * n) else pLc (M.1 126) o n
      rw [ih n (by omega) (by omega)]
theorem cm_s {V : jW} {r : Nat} {a1 a2 a3 a4 l i : Int} : d_X12_close__r125d_44 (r + 1) a1 a2 a3 a4 l i V = if V.1 126 14 ≤ i then (if l = -1 then d_X12_close__r125d_115 a1 a2 a3 a4 V else if a2 = l + 1 then d_X12_close__r125d_115 a1 a2 a3 a4 V else d_X12_close__r125d_127 V) else if V.1 126 (49360 + 4 * i).toNat = a1 then d_X12_close__r125d_44 r a1 a2 a3 a4 (V.1 126 (49360 + 4 * i + 1).toNat) (i + 1) V else d_X12_close__r125d_44 r a1 a2 a3 a4 l (i + 1) V := rfl
theorem lc_m {V : jW} {a1 a2 a3 a4 : Int} : ∀ (r n : Nat), V.1 126 14 - (n : Int) < (r : Int) → (n : Int) ≤ V.1 126 14 → d_X12_close__r125d_44 r a1 a2 a3 a4 (pLc (V.1 126) a1 n) (n : Int) V = if pLc (V.1 126) a1 (V.1 126 14).toNat = -1 then d_X12_close__r125d_115 a1 a2 a3 a4 V else if a2 = pLc (V.1 126) a1 (V.1 126 14).toNat + 1 then d_X12_close__r125d_115 a1 a2 a3 a4 V else d_X12_close__r125d_127 V := by
  intro r
  induction r with
  | zero => intro n h h2; exfalso; omega
  | succ r ih =>
    intro n h1 h2
    rw [cm_s]
    by_cases c : V.1 126 14 ≤ (n : Int)
    · rw [if_pos c, show (V.1 126 14).toNat = n from by omega]
    · rw [if_neg c, show (49360 + 4 * (n : Int)).toNat = 49360 + 4 * n from by omega, show (49360 + 4 * (n : Int) + 1).toNat = 49361 + 4 * n from by omega]
      have z := ih (n + 1) (by omega) (by omega)
      rw [show pLc (V.1 126) a1 (n + 1) = if V.1 126 (49360 + 4 * n) = a1 then V.1 126 (49361 + 4 * n) else pLc (V.1 126) a1 n from rfl, show ((n + 1 : Nat) : Int) = (n : Int) + 1 from by omega] at z
      by_cases g : V.1 126 (49360 + 4 * n) = a1
      · rw [if_pos g] at z ⊢
        exact z
      · rw [if_neg g] at z ⊢
        exact z
theorem to_close {X M : jW} {a1 a2 a3 a4 : Int} (D : pD X 32 (M.1 126)) (I : pIe (M.1 126)) : pOu X M (d_X8_add_r59d a4 a2 a1 a3 0 0 X) (vu (vu (vu (vu (vu (vu M 125 0 0) 126 (49360 + 4 * M.1 126 14).toNat a1) 126 (49360 + 4 * M.1 126 14 + 1).toNat a2) 126 (49360 + 4 * M.1 126 14 + 2).toNat a3) 126 (49360 + 4 * M.1 126 14 + 3).toNat a4) 126 14 (M.1 126 14 + 1)) 0 (M.1 126 14 < 40 ∧ (0 ≤ a1 ∧ a1 ≤ 3) ∧ (0 ≤ a2 ∧ a2 ≤ 399) ∧ (0 ≤ a4 ∧ a4 ≤ 146399) ∧ (pLc (M.1 126) a1 (M.1 126 14).toNat = -1 ∨ a2 = pLc (M.1 126) a1 (M.1 126 14).toNat + 1)) (d_X11_close_r31d a1 a2 a3 a4 X) (d_X12_close__r125d a1 a2 a3 a4 M) := by
  have e : X.1 59 3 = M.1 126 14 := (D.1 pt_13 (by decide)).1
  have b : 0 ≤ M.1 126 14 ∧ M.1 126 14 ≤ 40 := (D.1 pt_13 (by decide)).2.1
  have f := @fu_59 X
  have e4 : (vu M 125 0 0).1 126 = M.1 126 := vu_c (by decide)
  have bal := bal_eq (X := X) (M := vu M 125 0 0) (a1 := a1) (a2 := a2) (a3 := a4) (pCl_o (by rw [e4]; exact D) (by rw [e4]; exact I)) (pEn_o (by rw [e4]; exact D) (by rw [e4]; exact I))
  have lx : d_X11_lastClosed_r31d a1 X = pLc (M.1 126) a1 (M.1 126 14).toNat := by
    unfold d_X11_lastClosed_r31d
    rw [e, show M.1 126 14 - 1 = ((M.1 126 14).toNat : Int) - 1 from by omega]
    exact lc_x D 41 (M.1 126 14).toNat (by omega) (by omega)
  have lm := @lc_m (vu M 125 0 0) a1 a2 a3 a4 41 0 (by rw [e4]; omega) (by rw [e4]; omega)
  rw [e4, show pLc (M.1 126) a1 0 = -1 from rfl, show ((0 : Nat) : Int) = 0 from rfl] at lm
  unfold d_X11_close_r31d d_X12_close__r125d
  rw [lm, lx]
  unfold d_X11_close_r31d_49 d_X12_close__r125d_115
  rw [bal, e4]
  by_cases hf : X.1 59 3 < 40
  · rw [if_pos hf] at f
    repeat' split
    all_goals first
      | exact Or.inl ⟨-1, by decide, rfl, told_n (by decide)⟩
      | exact Or.inl ⟨-3, by decide, rfl, told_n (by decide)⟩
      | exact Or.inl ⟨-5, by decide, rfl, told_n (by decide)⟩
      | exact Or.inr ⟨by omega, by omega, rfl, told_p (by omega)⟩
      | (exfalso; omega)
  · rw [if_neg hf] at f
    repeat' split
    all_goals first
      | exact Or.inl ⟨-1, by decide, rfl, told_n (by decide)⟩
      | exact Or.inl ⟨-3, by decide, rfl, told_n (by decide)⟩
      | exact Or.inl ⟨-5, by decide, rfl, told_n (by decide)⟩
      | (exfalso; omega)
end jG3

section jG4
/-! pure: prices and coin -/
def pPr (r : Nat → Int) (c y k : Int) : Nat → Int
  | 0 => -1
  | n + 1 => if r (49520 + 4 * n) = c ∧ r (49521 + 4 * n) = y ∧ r (49523 + 4 * n) ≤ k then r (49522 + 4 * n) else pPr r c y k n
theorem px_s {X : jW} {r : Nat} {c y k i : Int} : d_X11_priceOf_r31d_14 (r + 1) c y k i X = if i < 0 then -1 else if d_X8_at_r61_c1d i X = y then (if d_X8_at_r61_c2d i X = c then (if d_X8_isKnown_r61d i k X = 0 then d_X11_priceOf_r31d_14 r c y k (i + -1) X else d_X8_at_r61_c3d i X) else d_X11_priceOf_r31d_14 r c y k (i + -1) X) else d_X11_priceOf_r31d_14 r c y k (i + -1) X := rfl
theorem px_e {X M : jW} (D : pD X 32 (M.1 126)) {c y k : Int} : ∀ (r n : Nat), n < r → (n : Int) ≤ M.1 126 15 → d_X11_priceOf_r31d_14 r c y k ((n : Int) - 1) X = pPr (M.1 126) c y k n := by
  intro r
  induction r with
  | zero => intro n h; exfalso; omega
  | succ r ih =>
    intro n h1 h2
    have t := D.1 pt_14 (by decide)
    cases n with
    | zero => rfl
    | succ n =>
      rw [px_s, if_neg (by omega), at_61_1 t (by omega) (by change _ < M.1 126 15; omega), at_61_2 t (by omega) (by change _ < M.1 126 15; omega), at_61_3 t (by omega) (by change _ < M.1 126 15; omega), kn_61 t (by omega) (by change _ < M.1 126 15; omega)]
      rw [show (49520 + 4 * (((n + 1 : Nat) : Int) - 1) + 0).toNat = 49520 + 4 * n from by omega, show (49520 + 4 * (((n + 1 : Nat) : Int) - 1) + 1).toNat = 49521 + 4 * n from by omega, show (49520 + 4 * (((n + 1 : Nat) : Int) - 1) + 2).toNat = 49522 + 4 * n from by omega, show (49520 + 4 * (((n + 1 : Nat) : Int) - 1) + 3).toNat = 49523 + 4 * n from by omega, show ((n + 1 : Nat) : Int) - 1 + -1 = (n : Int) - 1 from by omega, ih n (by omega) (by omega)]
      show _ = if M.1 126 (49520 + 4 * n) = c ∧ M.1 126 (49521 + 4 * n) = y ∧ M.1 126 (49523 + 4 * n) ≤ k then M.1 126 (49522 + 4 * n) else pPr (M.1 126) c y k n
      by_cases g1 : M.1 126 (49521 + 4 * n) = y
      · rw [if_pos g1]
        by_cases g2 : M.1 126 (49520 + 4 * n) = c
        · rw [if_pos g2]
          by_cases g3 : k < M.1 126 (49523 + 4 * n)
          · rw [if_pos g3, if_pos rfl, if_neg (by omega)]
          · rw [if_neg g3, if_neg (by decide), if_pos ⟨g2, g1, by omega⟩]
        · rw [if_neg g2, if_neg (fun z => g2 z.1)]
      · rw [if_neg g1, if_neg (fun z => g1 z.2.1)]
theorem pm_s {V : jW} {r : Nat} {c y k l i : Int} : d_X12_priceOf_r125d_6 (r + 1) c y k l i V = if V.1 126 15 ≤ i then l else if V.1 126 (49520 + 4 * i).toNat = c then (if V.1 126 (49520 + 4 * i + 1).toNat = y then (if k < V.1 126 (49520 + 4 * i + 3).toNat then d_X12_priceOf_r125d_6 r c y k l (i + 1) V else d_X12_priceOf_r125d_6 r c y k (V.1 126 (49520 + 4 * i + 2).toNat) (i + 1) V) else d_X12_priceOf_r125d_6 r c y k l (i + 1) V) else d_X12_priceOf_r125d_6 r c y k l (i + 1) V := rfl
theorem pm_e {V : jW} {c y k : Int} : ∀ (r n : Nat), V.1 126 15 - (n : Int) < (r : Int) → (n : Int) ≤ V.1 126 15 → d_X12_priceOf_r125d_6 r c y k (pPr (V.1 126) c y k n) (n : Int) V = pPr (V.1 126) c y k (V.1 126 15).toNat := by
  intro r
  induction r with
  | zero => intro n h h2; exfalso; omega
  | succ r ih =>
    intro n h1 h2
    rw [pm_s]
    by_cases c0 : V.1 126 15 ≤ (n : Int)
    · rw [if_pos c0, show (V.1 126 15).toNat = n from by omega]
    · have z := ih (n + 1) (by omega) (by omega)
      rw [show pPr (V.1 126) c y k (n + 1) = if V.1 126 (49520 + 4 * n) = c ∧ V.1 126 (49521 + 4 * n) = y ∧ V.1 126 (49523 + 4 * n) ≤ k then V.1 126 (49522 + 4 * n) else pPr (V.1 126) c y k n from rfl, show ((n + 1 : Nat) : Int) = (n : Int) + 1 from by omega] at z
      rw [if_neg c0, show (49520 + 4 * (n : Int)).toNat = 49520 + 4 * n from by omega, show (49520 + 4 * (n : Int) + 1).toNat = 49521 + 4 * n from by omega, show (49520 + 4 * (n : Int) + 2).toNat = 49522 + 4 * n from by omega, show (49520 + 4 * (n : Int) + 3).toNat = 49523 + 4 * n from by omega]
      by_cases g2 : V.1 126 (49520 + 4 * n) = c
      · rw [if_pos g2]
        by_cases g1 : V.1 126 (49521 + 4 * n) = y
        · rw [if_pos g1]
          by_cases g3 : k < V.1 126 (49523 + 4 * n)
          · rw [if_pos g3]
            rw [if_neg (by omega)] at z
            exact z
          · rw [if_neg g3]
            rw [if_pos ⟨g2, g1, by omega⟩] at z
            exact z
        · rw [if_neg g1]
          rw [if_neg (fun q => g1 q.2.1)] at z
          exact z
      · rw [if_neg g2]
        rw [if_neg (fun q => g2 q.1)] at z
        exact z
theorem pr_eq {X M V : jW} (D : pD X 32 (M.1 126)) (e : V.1 126 = M.1 126) {c y k : Int} : d_X11_priceOf_r31d c y k X = d_X12_priceOf_r125d c y k V := by
  have t := D.1 pt_14 (by decide)
  have e1 : X.1 61 3 = M.1 126 15 := t.1
  have b : 0 ≤ M.1 126 15 ∧ M.1 126 15 ≤ 100 := t.2.1
  have z := @pm_e V c y k 101 0 (by rw [e]; omega) (by rw [e]; omega)
  unfold d_X11_priceOf_r31d d_X12_priceOf_r125d
  rw [e1, show M.1 126 15 - 1 = ((M.1 126 15).toNat : Int) - 1 from by omega, px_e D 101 (M.1 126 15).toNat (by omega) (by omega)]
  rw [e] at z
  exact z.symm
/-- prices have years from 0 on -/
def pIp (r : Nat → Int) : Prop := ∀ i : Nat, (i : Int) < r 15 → 0 ≤ r (49521 + 4 * i)
theorem pr_neg {r : Nat → Int} (I : pIp r) {c y k : Int} (hy : y < 0) : ∀ n : Nat, (n : Int) ≤ r 15 → pPr r c y k n = -1 := by
  intro n
  induction n with
  | zero => intro _; rfl
  | succ n ih =>
    intro h
    show (if _ then _ else _) = _
    have := I n (by omega)
    rw [if_neg (by omega)]
    exact ih (by omega)
theorem pr_nm {M V : jW} (e : V.1 126 = M.1 126) (b : 0 ≤ M.1 126 15 ∧ M.1 126 15 ≤ 100) (I : pIp (M.1 126)) {c y k : Int} (hy : y < 0) : d_X12_priceOf_r125d c y k V = -1 := by
  have z := @pm_e V c y k 101 0 (by rw [e]; omega) (by rw [e]; omega)
  unfold d_X12_priceOf_r125d
  rw [e] at z
  exact z.trans (pr_neg I hy _ (by omega))
theorem qd {n : Int} (h : 1 ≤ n ∧ n ≤ 7) : j_idiv 420 n = 420 / n := by
  rcases (show n = 1 ∨ n = 2 ∨ n = 3 ∨ n = 4 ∨ n = 5 ∨ n = 6 ∨ n = 7 from by omega) with rfl | rfl | rfl | rfl | rfl | rfl | rfl <;> decide
theorem cx_s {X : jW} {K : Int → Int → Int → Int → Int → jW → Int} {r : Nat} {l1 l2 l3 l4 l6 l7 l9 l10 : Int} : d_X11_coin_r31d_52 K (r + 1) l1 l2 l3 l4 l6 l7 l9 l10 X = if l2 ≤ l10 then (if l9 ≤ 0 then K l1 l2 l3 l4 (l6 + 1) X else K l1 l2 l3 (j_ladd l4 (j_lmul (j_lmul (X.1 123 (l1 * 3 + l6).toNat) l7) (420 / l9))) (l6 + 1) X) else if d_X11_priceOf_r31d l6 l10 l3 X = -1 then d_X11_coin_r31d_52 K r l1 l2 l3 l4 l6 l7 l9 (l10 + 1) X else d_X11_coin_r31d_52 K r l1 l2 l3 l4 l6 (j_ladd l7 (d_X11_priceOf_r31d l6 l10 l3 X)) (j_iadd l9 1) (l10 + 1) X := rfl
theorem cn_s {V : jW} {K : Int → Int → Int → Int → Int → jW → (Int × jW)} {r : Nat} {l1 l2 l3 l4 l6 l7 l9 l10 : Int} : d_X12_coin_r125d_53 K (r + 1) l1 l2 l3 l4 l6 l7 l9 l10 V = if l2 ≤ l10 then (if l9 = 0 then K l1 l2 l3 (l4 + 0) (l6 + 1) V else K l1 l2 l3 (j_ladd l4 (j_lmul (j_lmul (V.1 173 (3 * l1 + l6).toNat) l7) (j_idiv 420 l9))) (l6 + 1) V) else if d_X12_priceOf_r125d l6 l10 l3 V = -1 then d_X12_coin_r125d_53 K r l1 l2 l3 l4 l6 (l7 + 0) (l9 + 0) (l10 + 1) V else d_X12_coin_r125d_53 K r l1 l2 l3 l4 l6 (j_ladd l7 (d_X12_priceOf_r125d l6 l10 l3 V)) (j_iadd l9 1) (l10 + 1) V := rfl
section
variable {X M V : jW} {KX : Int → Int → Int → Int → Int → jW → Int} {KM : Int → Int → Int → Int → Int → jW → (Int × jW)} {l1 l2 l3 l6 : Int}
theorem ci_e (D : pD X 32 (M.1 126)) (e : V.1 126 = M.1 126) (ea : V.1 173 = X.1 123) (h6 : 0 ≤ l6) (h1 : 0 ≤ l1) (hK : ∀ l4 : Int, KM l1 l2 l3 l4 (l6 + 1) V = (KX l1 l2 l3 l4 (l6 + 1) X, V)) : ∀ (r r' : Nat) (l4 l7 l9 l10 : Int), l2 - l10 < (r : Int) → l2 - l10 < (r' : Int) → l10 ≤ l2 → 0 ≤ l9 → l9 + (l2 - l10) ≤ 7 → d_X12_coin_r125d_53 KM r' l1 l2 l3 l4 l6 l7 l9 l10 V = (d_X11_coin_r31d_52 KX r l1 l2 l3 l4 l6 l7 l9 l10 X, V) := by
  intro r
  induction r with
  | zero => intros; exfalso; omega
  | succ r ih =>
    intro r' l4 l7 l9 l10 g1 g2 g3 g4 g5
    cases r' with
    | zero => exfalso; omega
    | succ r' =>
      rw [cx_s, cn_s]
      by_cases c : l2 ≤ l10
      · rw [if_pos c, if_pos c]
        by_cases c9 : l9 = 0
        · rw [if_pos c9, if_pos (show l9 ≤ 0 from by omega), Int.add_zero]
          exact hK l4
        · rw [if_neg c9, if_neg (show ¬ l9 ≤ 0 from by omega), ea, qd (by omega), show 3 * l1 + l6 = l1 * 3 + l6 from by omega]
          exact hK _
      · rw [if_neg c, if_neg c, ← pr_eq D e]
        by_cases cp : d_X11_priceOf_r31d l6 l10 l3 X = -1
        · rw [if_pos cp, if_pos cp, Int.add_zero, Int.add_zero]
          exact ih r' l4 l7 l9 (l10 + 1) (by omega) (by omega) (by omega) (by omega) (by omega)
        · rw [if_neg cp, if_neg cp, j_ia (by omega) (by omega) (by omega)]
          exact ih r' l4 _ (l9 + 1) (l10 + 1) (by omega) (by omega) (by omega) (by omega) (by omega)
theorem ci_b (e : V.1 126 = M.1 126) (b : 0 ≤ M.1 126 15 ∧ M.1 126 15 ≤ 100) (I : pIp (M.1 126)) (h2 : 0 ≤ l2) {l4 l7 l9 : Int} : ∀ (n r : Nat), d_X12_coin_r125d_53 KM (r + n) l1 l2 l3 l4 l6 l7 l9 (-(n : Int)) V = d_X12_coin_r125d_53 KM r l1 l2 l3 l4 l6 l7 l9 0 V := by
  intro n
  induction n with
  | zero => intro r; rfl
  | succ n ih =>
    intro r
    rw [show r + (n + 1) = (r + n) + 1 from by omega, cn_s, if_neg (by omega), pr_nm e b I (by omega), if_pos rfl, Int.add_zero, Int.add_zero, show -((n + 1 : Nat) : Int) + 1 = -(n : Int) from by omega]
    exact ih r
end
theorem co_s {X : jW} {r : Nat} {l1 l2 l3 l4 l6 : Int} : d_X11_coin_r31d_30 (r + 1) l1 l2 l3 l4 l6 X = if 3 ≤ l6 then j_l2i (j_ldiv l4 4200) else d_X11_coin_r31d_52 (fun l1 l2 l3 l4 l6 W => d_X11_coin_r31d_30 r l1 l2 l3 l4 l6 W) 400 l1 l2 l3 l4 l6 0 0 (max 0 (l2 - 7)) X := rfl
theorem cq_s {V : jW} {r : Nat} {l1 l2 l3 l4 l6 : Int} : d_X12_coin_r125d_35 (r + 1) l1 l2 l3 l4 l6 V = if 3 ≤ l6 then (j_l2i (j_ldiv l4 4200), V) else d_X12_coin_r125d_53 (fun l1 l2 l3 l4 l6 W => d_X12_coin_r125d_35 r l1 l2 l3 l4 l6 W) 407 l1 l2 l3 l4 l6 0 0 (l2 - 7) V := rfl
theorem co_e {X M V : jW} {l1 l2 l3 : Int} (D : pD X 32 (M.1 126)) (I : pIp (M.1 126)) (e : V.1 126 = M.1 126) (ea : V.1 173 = X.1 123) (h1 : 0 ≤ l1) (h2 : 0 ≤ l2 ∧ l2 ≤ 399) : ∀ (r : Nat) (l4 l6 : Int), 0 ≤ l6 ∧ l6 ≤ 3 → 3 - l6 < (r : Int) → d_X12_coin_r125d_35 r l1 l2 l3 l4 l6 V = (d_X11_coin_r31d_30 r l1 l2 l3 l4 l6 X, V) := by
  intro r
  induction r with
  | zero => intros; exfalso; omega
  | succ r ih =>
    intro l4 l6 h6 hr
    rw [co_s, cq_s]
    by_cases c : 3 ≤ l6
    · rw [if_pos c, if_pos c]
    · rw [if_neg c, if_neg c]
      have hK : ∀ l4 : Int, (fun l1 l2 l3 l4 l6 W => d_X12_coin_r125d_35 r l1 l2 l3 l4 l6 W) l1 l2 l3 l4 (l6 + 1) V = ((fun l1 l2 l3 l4 l6 W => d_X11_coin_r31d_30 r l1 l2 l3 l4 l6 W) l1 l2 l3 l4 (l6 + 1) X, V) := fun l4 => ih l4 (l6 + 1) (by omega) (by omega)
      by_cases c7 : l2 < 7
      · have z := @ci_b M V (fun l1 l2 l3 l4 l6 W => d_X12_coin_r125d_35 r l1 l2 l3 l4 l6 W) l1 l2 l3 l6 e (D.1 pt_14 (by decide)).2.1 I h2.1 l4 0 0 (7 - l2).toNat (407 - (7 - l2).toNat)
        rw [show 407 - (7 - l2).toNat + (7 - l2).toNat = 407 from by omega, show -((7 - l2).toNat : Int) = l2 - 7 from by omega] at z
        rw [z, show max 0 (l2 - 7) = 0 from by omega]
        exact ci_e D e ea h6.1 h1 hK 400 _ l4 0 0 0 (by omega) (by omega) (by omega) (by omega) (by omega)
      · rw [show max 0 (l2 - 7) = l2 - 7 from by omega]
        exact ci_e D e ea h6.1 h1 hK 400 407 l4 0 0 (l2 - 7) (by omega) (by omega) (by omega) (by omega) (by omega)
theorem ok_coin {X M : jW} {a1 a2 a3 : Int} (D : pD X 32 (M.1 126)) (I : pIp (M.1 126)) (ea : M.1 173 = X.1 123) : d_X12_coin_r125d a1 a2 a3 M = (d_X11_coin_r31d a1 a2 a3 X, vu M 125 0 0) := by
  have e4 : (vu M 125 0 0).1 126 = M.1 126 := vu_c (by decide)
  have e5 : (vu M 125 0 0).1 173 = X.1 123 := (vu_c (by decide)).trans ea
  have e2 : X.1 49 3 = M.1 126 7 := D.2.2.2.2.1
  unfold d_X12_coin_r125d d_X11_coin_r31d
  by_cases c1 : 0 ≤ a1 ∧ a1 ≤ M.1 126 7 - 1
  · rw [if_pos c1, if_neg (c := a1 < 0) (by omega), if_neg (c := X.1 49 3 ≤ a1) (by omega)]
    by_cases c2 : 0 ≤ a2 ∧ a2 ≤ 399
    · rw [if_pos c2, if_pos c2]
      by_cases c3 : 0 ≤ a3 ∧ a3 ≤ 146399
      · rw [if_pos c3, if_pos c3]
        exact co_e D I e4 e5 c1.1 c2 4 0 0 (by omega) (by omega)
      · rw [if_neg c3, if_neg c3]
        rfl
    · rw [if_neg c2, if_neg c2]
      rfl
  · rw [if_neg c1]
    by_cases c : a1 < 0
    · rw [if_pos c]
      rfl
    · rw [if_neg c, if_pos (by omega)]
      rfl
end jG4

section jG5
/-! pure: calls that ask of tables alone -/
def pSt (X : jW) : Prop := X.1 1 0 = 3 ∧ X.1 1 1 = 2 ∧ X.1 1 2 = 1 ∧ X.1 1 3 = 1 ∧ X.1 1 4 = 1 ∧ X.1 1 5 = 1
theorem st_r {X : jW} (S : pSt X) {b : Int} (h : 0 ≤ b ∧ b ≤ 5) : X.1 1 b.toNat = if b = 0 then 3 else if b = 1 then 2 else 1 := by
  rcases (show b = 0 ∨ b = 1 ∨ b = 2 ∨ b = 3 ∨ b = 4 ∨ b = 5 from by omega) with rfl | rfl | rfl | rfl | rfl | rfl
  · exact S.1
  · exact S.2.1
  · exact S.2.2.1
  · exact S.2.2.2.1
  · exact S.2.2.2.2.1
  · exact S.2.2.2.2.2
def pIb (r : Nat → Int) : Prop := ∀ l : Nat, (l : Int) < r 0 → 0 ≤ r (20 + 90 * l) ∧ r (20 + 90 * l) ≤ 5
theorem ok_of {X M : jW} {a1 a2 : Int} (D : pD X 32 (M.1 126)) (B : pIb (M.1 126)) (S : pSt X) : d_X12_of_r125d a1 a2 M = (d_X11_of_r31d a1 a2 X, vu M 125 0 0) := by
  have t := D.1 pt_0 (by decide)
  have e : X.1 33 3 = M.1 126 0 := t.1
  unfold d_X12_of_r125d d_X11_of_r31d
  by_cases c : 0 ≤ a1 ∧ a1 ≤ M.1 126 0 - 1
  · have g0 : 0 ≤ a1 := c.1
    have g1 : a1 < M.1 126 0 := by omega
    have bb := B a1.toNat (by omega)
    rw [show 20 + 90 * a1.toNat = (20 + 90 * a1).toNat from by omega] at bb
    rw [if_pos c, if_neg (c := a1 < 0) (by omega), if_neg (c := X.1 33 3 ≤ a1) (by omega), at_33_2 t g0 g1, at_33_3 t g0 g1, at_33_1 t g0 g1, at_33_4 t g0 g1, at_33_5 t g0 g1]
    simp only [Int.add_zero]
    rw [if_pos (c := 0 ≤ M.1 126 (20 + 90 * a1).toNat ∧ M.1 126 (20 + 90 * a1).toNat ≤ 5) bb, st_r S bb]
    by_cases c2 : 0 ≤ a2 ∧ a2 ≤ 5
    · rw [if_pos c2]
      rcases (show a2 = 0 ∨ a2 = 1 ∨ a2 = 2 ∨ a2 = 3 ∨ a2 = 4 ∨ a2 = 5 from by omega) with rfl | rfl | rfl | rfl | rfl | rfl
      · rw [if_neg (c := (3 : Int) ≤ 0) (by decide), if_pos (c := (0 : Int) = 0) rfl, Int.add_zero]
        rfl
      · rw [if_neg (c := (3 : Int) ≤ 1) (by decide), if_neg (c := (1 : Int) = 0) (by decide), if_pos (c := (1 : Int) = 1) rfl]
        rfl
      · rw [if_neg (c := (3 : Int) ≤ 2) (by decide), if_neg (c := (2 : Int) = 0) (by decide), if_neg (c := (2 : Int) = 1) (by decide), if_pos (c := (2 : Int) = 2) rfl]
        rfl
      · rw [if_pos (c := (3 : Int) ≤ 3) (by decide), if_pos (c := (3 : Int) = 3) rfl, if_neg (c := (3 : Int) = 0) (by decide), if_neg (c := (3 : Int) = 1) (by decide), if_neg (c := (3 : Int) = 2) (by decide), if_pos (c := (3 : Int) = 3) rfl]
        rfl
      · rw [if_pos (c := (3 : Int) ≤ 4) (by decide), if_neg (c := (4 : Int) = 3) (by decide), if_pos (c := (4 : Int) = 4) rfl, if_neg (c := (4 : Int) = 0) (by decide), if_neg (c := (4 : Int) = 1) (by decide), if_neg (c := (4 : Int) = 2) (by decide), if_neg (c := (4 : Int) = 3) (by decide), if_pos (c := (4 : Int) = 4) rfl]
        rfl
      · rw [if_pos (c := (3 : Int) ≤ 5) (by decide), if_neg (c := (5 : Int) = 3) (by decide), if_neg (c := (5 : Int) = 4) (by decide), if_neg (c := (5 : Int) = 0) (by decide), if_neg (c := (5 : Int) = 1) (by decide), if_neg (c := (5 : Int) = 2) (by decide), if_neg (c := (5 : Int) = 3) (by decide), if_neg (c := (5 : Int) = 4) (by decide), if_pos (c := (5 : Int) = 5) rfl]
        by_cases b0 : M.1 126 (20 + 90 * a1).toNat = 0
        · rw [if_pos b0, if_pos b0]
          rfl
        · rw [if_neg b0, if_neg b0]
          by_cases b1 : M.1 126 (20 + 90 * a1).toNat = 1
          · rw [if_pos b1, if_pos b1]
            rfl
          · rw [if_neg b1, if_neg b1]
            rfl
    · rw [if_neg c2, if_neg (c := a2 = 0) (by omega), if_neg (c := a2 = 1) (by omega), if_neg (c := a2 = 2) (by omega), if_neg (c := a2 = 3) (by omega), if_neg (c := a2 = 4) (by omega), if_neg (c := a2 = 5) (by omega)]
      rfl
  · rw [if_neg c]
    by_cases c0 : a1 < 0
    · rw [if_pos c0]
      rfl
    · rw [if_neg c0, if_pos (by omega)]
      rfl
def pIt (r : Nat → Int) : Prop := ∀ i : Nat, (i : Int) < r 16 → r (49920 + 2 * i) = 0 → 0 ≤ r (49921 + 2 * i) ∧ r (49921 + 2 * i) < r 0
theorem ok_as {X M : jW} {a1 a2 : Int} (D : pD X 32 (M.1 126)) (I : pIt (M.1 126)) : d_X12_as_r125d a1 a2 M = (d_X11_as_r31d a1 a2 X, vu M 125 0 0) := by
  have t := D.1 pt_0 (by decide)
  have u := D.1 pt_15 (by decide)
  have e : X.1 63 3 = M.1 126 16 := u.1
  unfold d_X12_as_r125d d_X11_as_r31d
  by_cases c2 : 0 ≤ a2 ∧ a2 ≤ 9
  · rw [if_pos c2, if_neg (c := a2 < 0) (by omega), if_pos (c := a2 ≤ 9) c2.2]
    by_cases c : 0 ≤ a1 ∧ a1 ≤ M.1 126 16 - 1
    · have g0 : 0 ≤ a1 := c.1
      have g1 : a1 < M.1 126 16 := by omega
      rw [if_pos c, if_neg (c := a1 < 0) (by omega), if_pos (c := a1 < X.1 63 3) (by omega), at_63_0 u g0 g1, at_63_1 u g0 g1]
      simp only [Int.add_zero]
      have ii := I a1.toNat (by omega)
      rw [show 49920 + 2 * a1.toNat = (49920 + 2 * a1).toNat from by omega, show 49921 + 2 * a1.toNat = (49920 + 2 * a1 + 1).toNat from by omega] at ii
      by_cases z : M.1 126 (49920 + 2 * a1).toNat = 0
      · have q := ii z
        rw [at_33_2 t q.1 q.2]
        simp only [Int.add_zero]
        repeat' split
        all_goals first
          | rfl
          | (exfalso; omega)
      · repeat' split
        all_goals first
          | rfl
          | (exfalso; omega)
    · rw [if_neg c]
      by_cases c0 : a1 < 0
      · rw [if_pos c0]
        rfl
      · rw [if_neg c0, if_neg (c := a1 < X.1 63 3) (by omega)]
        rfl
  · rw [if_neg c2]
    by_cases c0 : a2 < 0
    · rw [if_pos c0]
      rfl
    · rw [if_neg c0, if_neg (c := a2 ≤ 9) (by omega)]
      rfl
theorem pr_ite {c : Prop} [Decidable c] {A B : Int} {W : jW} : ((if c then A else B), W) = if c then (A, W) else (B, W) := by
  by_cases h : c
  · rw [if_pos h, if_pos h]
  · rw [if_neg h, if_neg h]
theorem ok_count {X M : jW} {a1 : Int} (D : pD X 32 (M.1 126)) (h1 : X.1 32 18 = M.1 126 4) (h7 : X.1 87 3 = M.1 125 36) (h8 : X.1 68 1 = M.1 125 8) : d_X12_count_r125d a1 M = (d_X11_count_r31d a1 X, vu M 125 0 0) := by
  have e0 : X.1 33 3 = M.1 126 0 := (D.1 pt_0 (by decide)).1
  have e2 : X.1 43 3 = M.1 126 5 := (D.1 pt_5 (by decide)).1
  have e3 : X.1 49 3 = M.1 126 7 := D.2.2.2.2.1
  have e4 : X.1 63 3 = M.1 126 16 := (D.1 pt_15 (by decide)).1
  have e5 : X.1 53 3 = M.1 126 11 := (D.1 pt_10 (by decide)).1
  have e6 : X.1 39 3 = M.1 126 2 := D.2.2.1.2.1
  have e9 : X.1 45 3 = M.1 126 6 := (D.1 pt_6 (by decide)).1
  have ea : X.1 55 3 = M.1 126 12 := (D.1 pt_11 (by decide)).1
  have eb : X.1 57 3 = M.1 126 13 := (D.1 pt_12 (by decide)).1
  unfold d_X12_count_r125d d_X11_count_r31d
  rw [e0, h1, e2, e3, e4, e5, e6, h7, h8, e9, ea, eb]
  simp only [pr_ite]
/-! pure: acres, terms -/
theorem to_acres {X M : jW} {a1 a2 a3 : Int} (D : pD X 32 (M.1 126)) : pOu X M (vu X 123 (a1 * 3 + a2).toNat a3) (vu (vu M 125 0 0) 173 (3 * a1 + a2).toNat a3) 0 ((0 ≤ a1 ∧ a1 < M.1 126 7) ∧ (0 ≤ a2 ∧ a2 ≤ 2) ∧ (0 ≤ a3 ∧ a3 ≤ 1000)) (d_X11_acres_r31d a1 a2 a3 X) (d_X12_acres_r125d a1 a2 a3 M) := by
  have e2 : X.1 49 3 = M.1 126 7 := D.2.2.2.2.1
  unfold d_X11_acres_r31d d_X12_acres_r125d
  repeat' split
  all_goals first
    | exact Or.inl ⟨-1, by decide, rfl, told_n (by decide)⟩
    | exact Or.inl ⟨-2, by decide, rfl, told_n (by decide)⟩
    | exact Or.inr ⟨by omega, by omega, rfl, told_p (by omega)⟩
    | (exfalso; omega)
theorem to_terms {X M : jW} {a1 a2 a3 a4 a5 : Int} : pOu X M (vu (vu (vu (vu (vu X 78 2 a1) 78 3 a2) 78 4 a3) 78 5 a4) 78 6 a5) (vu (vu (vu (vu (vu (vu M 125 0 0) 125 23 a1) 125 24 a2) 125 25 a3) 125 26 a4) 125 27 a5) 0 ((0 ≤ a1 ∧ a1 ≤ 100) ∧ (0 ≤ a2 ∧ a2 ≤ 100) ∧ (0 ≤ a3 ∧ a3 ≤ 100) ∧ (0 ≤ a4 ∧ a4 ≤ 100) ∧ (0 ≤ a5 ∧ a5 ≤ 20)) (d_X11_terms_r31d a1 a2 a3 a4 a5 X) (d_X12_terms_r125d a1 a2 a3 a4 a5 M) := by
  unfold d_X11_terms_r31d d_X12_terms_r125d
  repeat' split
  all_goals first
    | exact Or.inl ⟨-1, by decide, rfl, told_n (by decide)⟩
    | exact Or.inr ⟨by omega, by omega, rfl, told_p (by omega)⟩
    | (exfalso; omega)
/-! pure: holdings -/
theorem to_holding {X M : jW} (D : pD X 32 (M.1 126)) : pOu X M (d_X8_add_r63d 3 (X.1 49 3) 0 0 0 0 (d_X8_add_r49d 0 0 (-1) 0 0 0 X)) (vu (vu (vu (vu (vu M 125 0 0) 126 7 (M.1 126 7 + 1)) 126 (49920 + 2 * M.1 126 16).toNat 3) 126 (49920 + 2 * M.1 126 16 + 1).toNat (M.1 126 7 + 1 - 1)) 126 16 (M.1 126 16 + 1)) (M.1 126 7 + 1 - 1) (M.1 126 7 < 40) (d_X11_holding_r31d X) (d_X12_holding_r125d M) := by
  have e : X.1 49 3 = M.1 126 7 := D.2.2.2.2.1
  have b := D.2.2.2.1
  have f := @fu_49 X
  unfold d_X11_holding_r31d d_X12_holding_r125d
  by_cases hf : X.1 49 3 < 40
  · rw [if_pos hf] at f
    rw [if_pos f, if_neg (by omega)]
    exact Or.inr ⟨by omega, by omega, Prod.ext (by dsimp only; omega) rfl, told_p (by omega)⟩
  · rw [if_neg hf] at f
    rw [if_neg (by omega), if_pos (by omega)]
    exact Or.inl ⟨-5, by decide, rfl, told_n (by decide)⟩
theorem to_split {X M : jW} {a1 a2 a3 a4 a5 : Int} (D : pD X 32 (M.1 126)) : pOu X M (d_X8_add_r63d 3 (X.1 49 3) 0 0 0 0 (d_X8_add_r49d a5 a4 a1 a2 a3 0 X)) (vu (vu (vu (vu (vu (vu (vu (vu (vu (vu (vu (vu M 125 0 0) 126 (47660 + 6 * M.1 126 9).toNat (M.1 126 7)) 126 (47660 + 6 * M.1 126 9 + 1).toNat a1) 126 (47660 + 6 * M.1 126 9 + 2).toNat a2) 126 (47660 + 6 * M.1 126 9 + 3).toNat a3) 126 (47660 + 6 * M.1 126 9 + 4).toNat a4) 126 (47660 + 6 * M.1 126 9 + 5).toNat a5) 126 9 (M.1 126 9 + 1)) 126 7 (M.1 126 7 + 1)) 126 (49920 + 2 * M.1 126 16).toNat 3) 126 (49920 + 2 * M.1 126 16 + 1).toNat (M.1 126 7 + 1 - 1)) 126 16 (M.1 126 16 + 1)) (M.1 126 7 + 1 - 1) (M.1 126 7 < 40 ∧ (0 ≤ a1 ∧ a1 < M.1 126 7) ∧ 1 ≤ a2 ∧ a2 < a3 ∧ a3 ≤ 100 ∧ (0 ≤ a4 ∧ a4 ≤ 146399) ∧ (0 ≤ a5 ∧ a5 ≤ 146399)) (d_X11_split_r31d a1 a2 a3 a4 a5 X) (d_X12_split_r125d a1 a2 a3 a4 a5 M) := by
  have e : X.1 49 3 = M.1 126 7 := D.2.2.2.2.1
  have b := D.2.2.2.1
  have f := @fu_49 X
  unfold d_X11_split_r31d d_X12_split_r125d
  by_cases hf : X.1 49 3 < 40
  · rw [if_pos hf] at f
    repeat' split
    all_goals first
      | exact Or.inl ⟨-1, by decide, rfl, told_n (by decide)⟩
      | exact Or.inl ⟨-2, by decide, rfl, told_n (by decide)⟩
      | exact Or.inl ⟨-5, by decide, rfl, told_n (by decide)⟩
      | exact Or.inr ⟨by omega, by omega, Prod.ext (by dsimp only; omega) rfl, told_p (by omega)⟩
      | (exfalso; omega)
  · rw [if_neg hf] at f
    repeat' split
    all_goals first
      | exact Or.inl ⟨-1, by decide, rfl, told_n (by decide)⟩
      | exact Or.inl ⟨-2, by decide, rfl, told_n (by decide)⟩
      | exact Or.inl ⟨-5, by decide, rfl, told_n (by decide)⟩
      | (exfalso; omega)
end jG5

section jG6
/-! pure: what holding and split leave behind -/
theorem pHs_x {X X' : jW} {A : Nat} {r r' : Nat → Int} {h k : Nat} (x : ∀ c, c < 5 → X'.1 (A + 18) (5 * h + c) = X.1 (A + 18) (5 * h + c)) (e : ∀ q, q < 6 → r' (47660 + q + 6 * k) = r (47660 + q + 6 * k)) (p : pHs X A r h k) : pHs X' A r' h k := by
  have z0 := e 0 (by omega)
  rw [show 47660 + 0 + 6 * k = 47660 + 6 * k from by omega] at z0
  have z1 := e 1 (by omega)
  have z2 := e 2 (by omega)
  have z3 := e 3 (by omega)
  have z4 := e 4 (by omega)
  have z5 := e 5 (by omega)
  have y0 : X'.1 (A + 18) (5 * h) = X.1 (A + 18) (5 * h) := x 0 (by omega)
  unfold pHs
  rw [z0, z1, z2, z3, z4, z5, y0, x 1 (by omega), x 2 (by omega), x 3 (by omega), x 4 (by omega)]
  exact p
theorem pHo_h {X X' : jW} {r r' : Nat → Int} (H : pHo X 32 r) (hn : r 7 < 40) (x0 : X'.1 49 3 = r 7 + 1) (x1 : ∀ k : Nat, (k : Int) < 5 * r 7 → X'.1 50 k = X.1 50 k) (x2 : X'.1 50 (5 * (r 7).toNat + 2) = -1) (r7 : r' 7 = r 7 + 1) (rr : ∀ j, j ≠ 7 → r' j = r j) : pHo X' 32 r' := by
  have b := H.1
  have r9 : r' 9 = r 9 := rr 9 (by decide)
  refine ⟨by rw [r7, r9]; omega, x0.trans r7.symm, fun k hk => ?_, fun k m hk hm => ?_, fun i hi => ?_⟩
  · rw [r9] at hk
    rw [rr _ (by omega), r7]
    have := H.2.2.1 k hk
    omega
  · rw [r9] at hm
    rw [rr _ (by omega), rr _ (by omega)]
    exact H.2.2.2.1 k m hk hm
  · rw [r7] at hi
    by_cases g : (i : Int) < r 7
    · rcases H.2.2.2.2 i g with ⟨p, q⟩ | ⟨k, hk, p⟩
      · refine Or.inl ⟨(x1 _ (by omega)).trans p, fun k hk => ?_⟩
        rw [r9] at hk
        rw [rr _ (by omega)]
        exact q k hk
      · exact Or.inr ⟨k, by rw [r9]; exact hk, pHs_x (fun c hc => x1 _ (by omega)) (fun q hq => rr _ (by omega)) p⟩
    · refine Or.inl ⟨by rw [show i = (r 7).toNat from by omega]; exact x2, fun k hk => ?_⟩
      rw [r9] at hk
      rw [rr _ (by omega)]
      have := H.2.2.1 k hk
      omega
theorem pHo_s {X X' : jW} {r r' : Nat → Int} {p a b d w : Int} (H : pHo X 32 r) (hn : r 7 < 40) (x0 : X'.1 49 3 = r 7 + 1) (x1 : ∀ k : Nat, (k : Int) < 5 * r 7 → X'.1 50 k = X.1 50 k) (y0 : X'.1 50 (5 * (r 7).toNat) = w) (y1 : X'.1 50 (5 * (r 7).toNat + 1) = d) (y2 : X'.1 50 (5 * (r 7).toNat + 2) = p) (y3 : X'.1 50 (5 * (r 7).toNat + 3) = a) (y4 : X'.1 50 (5 * (r 7).toNat + 4) = b) (hp : 0 ≤ p ∧ p < r 7) (ha : 1 ≤ a ∧ a < b ∧ b ≤ 100) (r7 : r' 7 = r 7 + 1) (r9 : r' 9 = r 9 + 1) (s0 : r' (47660 + 6 * (r 9).toNat) = r 7) (s1 : r' (47661 + 6 * (r 9).toNat) = p) (s2 : r' (47662 + 6 * (r 9).toNat) = a) (s3 : r' (47663 + 6 * (r 9).toNat) = b) (s4 : r' (47664 + 6 * (r 9).toNat) = d) (s5 : r' (47665 + 6 * (r 9).toNat) = w) (rr : ∀ j : Nat, 47660 ≤ j → (j : Int) < 47660 + 6 * r 9 → r' j = r j) : pHo X' 32 r' := by
  have bb := H.1
  refine ⟨by rw [r7, r9]; omega, x0.trans r7.symm, fun k hk => ?_, fun k m hk hm => ?_, fun i hi => ?_⟩
  · rw [r9] at hk
    rw [r7]
    by_cases g : (k : Int) < r 9
    · rw [rr _ (by omega) (by omega)]
      have := H.2.2.1 k g
      omega
    · rw [show k = (r 9).toNat from by omega, s0]
      omega
  · rw [r9] at hm
    rw [rr (47660 + 6 * k) (by omega) (by omega)]
    by_cases g : (m : Int) < r 9
    · rw [rr _ (by omega) (by omega)]
      exact H.2.2.2.1 k m hk g
    · rw [show m = (r 9).toNat from by omega, s0]
      have := H.2.2.1 k (by omega)
      omega
  · rw [r7] at hi
    by_cases g : (i : Int) < r 7
    · rcases H.2.2.2.2 i g with ⟨p', q⟩ | ⟨k, hk, p'⟩
      · refine Or.inl ⟨(x1 _ (by omega)).trans p', fun k hk => ?_⟩
        rw [r9] at hk
        by_cases g9 : (k : Int) < r 9
        · rw [rr _ (by omega) (by omega)]
          exact q k g9
        · rw [show k = (r 9).toNat from by omega, s0]
          omega
      · exact Or.inr ⟨k, by rw [r9]; omega, pHs_x (fun c hc => x1 _ (by omega)) (fun q hq => rr _ (by omega) (by omega)) p'⟩
    · refine Or.inr ⟨(r 9).toNat, by rw [r9]; omega, ?_⟩
      have ei : i = (r 7).toNat := by omega
      subst ei
      have e7 : (((r 7).toNat : Nat) : Int) = r 7 := by omega
      unfold pHs
      rw [s0, s1, s2, s3, s4, s5, e7]
      exact ⟨rfl, y2.symm, y3.symm, y4.symm, y1.symm, y0.symm, hp, ha.1, ha.2.1, ha.2.2⟩
/-- the plain tables, names and bonds stand while holdings change -/
theorem pD_h {l : List (Nat × Nat)} {X X' : jW} {r r' : Nat → Int} (F : pF l X X') (rr : ∀ j, j ≠ 7 → j ≠ 9 → (j < 47660 ∨ 47900 ≤ j) → r' j = r j) (ck : ((pTs.all fun t => tok l 32 t) && (cok l 32 1 && cok l 32 3)) = true) (h : pD X 32 r) (H : pHo X' 32 r') : pD X' 32 r' := by
  simp only [Bool.and_eq_true] at ck
  have c1 := cok_e F ck.2.1
  have c3 := cok_e F ck.2.2
  refine ⟨fun t ht => ?_, pNm_e c1.1 c1.2 (fun j hj => rr j (by omega) (by omega) (by omega)) h.2.1, pBo_e c3.1 c3.2 (fun j hj => rr j (by omega) (by omega) (by omega)) h.2.2.1, H⟩
  have t1 := pT_x F (List.all_eq_true.1 ck.1 t ht) (h.1 t ht)
  have k1 : (pTs.all fun t => (rok 7 47660 47900 t && (rok 9 47660 47900 t && pok t))) = true := by decide
  have k2 := List.all_eq_true.1 k1 t ht
  simp only [Bool.and_eq_true] at k2
  have t2 : pT X' 32 t (fun j => if j = 7 then r' 7 else if 47660 ≤ j ∧ j < 47900 then r' j else r j) := pT_m (c := 7) (lo := 47660) (hi := 47900) (fun j j1 j2 => by rw [if_neg j1, if_neg (by omega)]) k2.1 k2.2.2 t1
  exact pT_m (c := 9) (lo := 47660) (hi := 47900) (fun j j1 j2 => by
    by_cases e : j = 7
    · subst e; rw [if_pos rfl]
    · rw [if_neg e, if_neg (by omega)]; exact rr j e j1 j2) k2.2.1 k2.2.2 t2
theorem dd_holding {X M : jW} (D : pD X 32 (M.1 126)) (h : M.1 126 7 < 40) (h16 : M.1 126 16 < 370) : pD (d_X8_add_r63d 3 (X.1 49 3) 0 0 0 0 (d_X8_add_r49d 0 0 (-1) 0 0 0 X)) 32 ((vu (vu (vu (vu (vu M 125 0 0) 126 7 (M.1 126 7 + 1)) 126 (49920 + 2 * M.1 126 16).toNat 3) 126 (49920 + 2 * M.1 126 16 + 1).toNat (M.1 126 7 + 1 - 1)) 126 16 (M.1 126 16 + 1)).1 126) := by
  have e : X.1 49 3 = M.1 126 7 := D.2.2.2.2.1
  have b := D.2.2.2.1
  have a := @ad_49 X 0 0 (-1) 0 0 0 (by omega)
  rw [show X.1 49 3 = M.1 126 7 + 1 - 1 from by omega]
  refine da_15 (V := vu (vu M 125 0 0) 126 7 (M.1 126 7 + 1)) (n := M.1 126 16) ?_ ?_ h16
  · rw [vu_n (by omega), vu_n (by omega)]
  · refine pD_h (l := fw_X8_add_r49d) (fr_d_X8_add_r49d _ _ _ _ _ _ _) ?_ rfl D ?_
    · intro j h1 h2 h3
      rw [vu_n (by omega), vu_n (by omega)]
    · refine pHo_h D.2.2.2 h ?_ ?_ ?_ ?_ ?_
      · rw [an_49 (by omega), e]
      · intro k hk
        rw [a]
        repeat rw [vu_n (by omega)]
      · rw [a]
        repeat rw [vu_n (by omega)]
        exact vu_e (by omega)
      · exact vu_e rfl
      · intro j hj
        rw [vu_n (by omega), vu_n (by omega)]
theorem dd_split {X M : jW} {a1 a2 a3 a4 a5 : Int} (D : pD X 32 (M.1 126)) (h : M.1 126 7 < 40) (h16 : M.1 126 16 < 370) (hp : 0 ≤ a1 ∧ a1 < M.1 126 7) (ha : 1 ≤ a2 ∧ a2 < a3 ∧ a3 ≤ 100) : pD (d_X8_add_r63d 3 (X.1 49 3) 0 0 0 0 (d_X8_add_r49d a5 a4 a1 a2 a3 0 X)) 32 ((vu (vu (vu (vu (vu (vu (vu (vu (vu (vu (vu (vu M 125 0 0) 126 (47660 + 6 * M.1 126 9).toNat (M.1 126 7)) 126 (47660 + 6 * M.1 126 9 + 1).toNat a1) 126 (47660 + 6 * M.1 126 9 + 2).toNat a2) 126 (47660 + 6 * M.1 126 9 + 3).toNat a3) 126 (47660 + 6 * M.1 126 9 + 4).toNat a4) 126 (47660 + 6 * M.1 126 9 + 5).toNat a5) 126 9 (M.1 126 9 + 1)) 126 7 (M.1 126 7 + 1)) 126 (49920 + 2 * M.1 126 16).toNat 3) 126 (49920 + 2 * M.1 126 16 + 1).toNat (M.1 126 7 + 1 - 1)) 126 16 (M.1 126 16 + 1)).1 126) := by
  have e : X.1 49 3 = M.1 126 7 := D.2.2.2.2.1
  have b := D.2.2.2.1
  have a := @ad_49 X a5 a4 a1 a2 a3 0 (by omega)
  rw [show X.1 49 3 = M.1 126 7 + 1 - 1 from by omega]
  refine da_15 (V := vu (vu (vu (vu (vu (vu (vu (vu (vu M 125 0 0) 126 (47660 + 6 * M.1 126 9).toNat (M.1 126 7)) 126 (47660 + 6 * M.1 126 9 + 1).toNat a1) 126 (47660 + 6 * M.1 126 9 + 2).toNat a2) 126 (47660 + 6 * M.1 126 9 + 3).toNat a3) 126 (47660 + 6 * M.1 126 9 + 4).toNat a4) 126 (47660 + 6 * M.1 126 9 + 5).toNat a5) 126 9 (M.1 126 9 + 1)) 126 7 (M.1 126 7 + 1)) (n := M.1 126 16) ?_ ?_ h16
  · repeat rw [vu_n (by omega)]
  · refine pD_h (l := fw_X8_add_r49d) (fr_d_X8_add_r49d _ _ _ _ _ _ _) ?_ rfl D ?_
    · intro j h1 h2 h3
      repeat rw [vu_n (by omega)]
    · refine pHo_s (p := a1) (a := a2) (b := a3) (d := a4) (w := a5) D.2.2.2 h ?_ ?_ ?_ ?_ ?_ ?_ ?_ hp ha ?_ ?_ ?_ ?_ ?_ ?_ ?_ ?_ ?_
      · rw [an_49 (by omega), e]
      · intro k hk
        rw [a]
        repeat rw [vu_n (by omega)]
      all_goals try rw [a]
      all_goals try (intro j j1 j2)
      all_goals repeat rw [vu_n (by omega)]
      all_goals exact vu_e (by omega)
end jG6

section jG7
/-! pure: the TAPE's signs, step against next -/
def pTp (X M : jW) : Prop := X.1 68 1 = M.1 125 8 ∧ (0 ≤ M.1 125 8 ∧ M.1 125 8 ≤ 400) ∧ ∀ i : Nat, i < 400 → X.1 69 i = M.1 131 i
def wrd (b : Nat → Int) (f : Nat) : Nat → Int
  | 0 => 0
  | k + 1 => if 12 ≤ k then -1 else j_lsub (j_ladd (j_lmul (wrd b f k) 32) (b (f + k))) 96
def nmb (b : Nat → Int) (f : Nat) : Nat → Int
  | 0 => 0
  | k + 1 => if nmb b f k ≤ 1000000 then nmb b f k * 10 + b (f + k) - 48 else nmb b f k
def pKd (b : Nat → Int) (n f t s w : Int) : Prop := (s = 0 ∧ f = n ∧ t = n) ∨ (s = 3 ∧ t = f + 1 ∧ w = b f.toNat ∧ ¬ (97 ≤ b f.toNat ∧ b f.toNat ≤ 122) ∧ ¬ (48 ≤ b f.toNat ∧ b f.toNat ≤ 57) ∧ b f.toNat ≠ 32) ∨ (s = 1 ∧ f < t ∧ w = wrd b f.toNat (t - f).toNat ∧ ∀ i : Nat, f ≤ (i : Int) → (i : Int) < t → 97 ≤ b i ∧ b i ≤ 122) ∨ (s = 2 ∧ f < t ∧ w = nmb b f.toNat (t - f).toNat ∧ ∀ i : Nat, f ≤ (i : Int) → (i : Int) < t → 48 ≤ b i ∧ b i ≤ 57)
def pTk (X M : jW) : Prop := pTp X M ∧ X.1 68 3 = M.1 125 9 ∧ X.1 68 4 = M.1 125 10 ∧ X.1 68 5 = M.1 125 11 ∧ (0 ≤ M.1 125 9 ∧ M.1 125 9 ≤ M.1 125 10 ∧ M.1 125 10 ≤ M.1 125 8) ∧ pKd (M.1 131) (M.1 125 8) (M.1 125 9) (M.1 125 10) (M.1 125 11) (M.2.1 125 12)
theorem vl_e {W : jW} {a k : Nat} {x : Int} : (vuL W a k x).2.1 a k = x := by
  show (if a = a ∧ k = k then x else W.2.1 a k) = x
  exact if_pos ⟨rfl, rfl⟩
theorem pTp_x {X M : jW} {k : Nat} {x : Int} (h : pTp X M) (hk : k ≠ 1) : pTp (vu X 68 k x) M := ⟨(vu_n (by omega)).trans h.1, h.2.1, fun i hi => (vu_n (by omega)).trans (h.2.2 i hi)⟩
theorem pTp_m {X M : jW} {k : Nat} {x : Int} (h : pTp X M) (hk : k ≠ 8) : pTp X (vu M 125 k x) := by
  have e : (vu M 125 k x).1 125 8 = M.1 125 8 := vu_n (by omega)
  exact ⟨h.1.trans e.symm, by rw [e]; exact h.2.1, fun i hi => (h.2.2 i hi).trans (vu_n (by omega)).symm⟩
theorem pTp_l {X M : jW} {k : Nat} {x : Int} (h : pTp X M) : pTp X (vuL M 125 k x) := h
theorem tb {X M : jW} (h : pTp X M) {x y : Int} (e : x = y) (h0 : 0 ≤ y) (h1 : y < M.1 125 8) : X.1 69 x.toNat = M.1 131 y.toNat := by
  have := h.2.1
  rw [e]
  exact h.2.2 _ (by omega)
theorem tl_s {X : jW} {r : Nat} : d_X9_step_r68d_97 (r + 1) X = if X.1 68 5 = 3 then X else if X.1 68 1 ≤ X.1 68 4 then X else if X.1 69 (X.1 68 4).toNat < 97 then (if X.1 69 (X.1 68 4).toNat < 48 then X else if 57 < X.1 69 (X.1 68 4).toNat then X else if 2 = X.1 68 5 then d_X9_step_r68d_97 r (vu X 68 4 (X.1 68 4 + 1)) else X) else if 122 < X.1 69 (X.1 68 4).toNat then X else if 1 = X.1 68 5 then d_X9_step_r68d_97 r (vu X 68 4 (X.1 68 4 + 1)) else X := rfl
theorem tm_s {M : jW} {r : Nat} : d_X12_next_r125d_149 (r + 1) M = if M.1 125 11 = 1 then (if M.1 125 8 ≤ M.1 125 10 then d_X12_next_r125d_243 401 M else if M.1 131 (M.1 125 10).toNat < 97 then d_X12_next_r125d_243 401 M else if 122 < M.1 131 (M.1 125 10).toNat then d_X12_next_r125d_243 401 M else if 12 ≤ M.1 125 10 - M.1 125 9 then d_X12_next_r125d_149 r (vu (vuL M 125 12 (-1)) 125 10 (M.1 125 10 + 1)) else d_X12_next_r125d_149 r (vu (vuL M 125 12 (j_lsub (j_ladd (j_lmul (M.2.1 125 12) 32) (M.1 131 (M.1 125 10).toNat)) 96)) 125 10 (M.1 125 10 + 1))) else d_X12_next_r125d_243 401 M := rfl
theorem tn_s {M : jW} {r : Nat} : d_X12_next_r125d_243 (r + 1) M = if M.1 125 11 = 2 then (if M.1 125 8 ≤ M.1 125 10 then M else if M.1 131 (M.1 125 10).toNat < 48 then M else if 57 < M.1 131 (M.1 125 10).toNat then M else if M.2.1 125 12 ≤ 1000000 then d_X12_next_r125d_243 r (vu (vuL M 125 12 (M.2.1 125 12 * 10 + M.1 131 (M.1 125 10).toNat - 48)) 125 10 (M.1 125 10 + 1)) else d_X12_next_r125d_243 r (vu (vuL M 125 12 (M.2.1 125 12)) 125 10 (M.1 125 10 + 1))) else M := rfl
theorem tn_o {M : jW} {r : Nat} (h : M.1 125 11 ≠ 2) : d_X12_next_r125d_243 (r + 1) M = M := by
  rw [tn_s, if_neg h]
theorem tm_o {M : jW} {r : Nat} (h : M.1 125 11 ≠ 1) : d_X12_next_r125d_149 (r + 1) M = d_X12_next_r125d_243 401 M := by
  rw [tm_s, if_neg h]
theorem tl_e : ∀ (r r' : Nat) (X M : jW), pTp X M → X.1 68 3 = M.1 125 9 → X.1 68 4 = M.1 125 10 → X.1 68 5 = 1 → M.1 125 11 = 1 → 0 ≤ M.1 125 9 → M.1 125 9 < M.1 125 10 → M.1 125 10 ≤ M.1 125 8 → M.2.1 125 12 = wrd (M.1 131) (M.1 125 9).toNat (M.1 125 10 - M.1 125 9).toNat → (∀ i : Nat, M.1 125 9 ≤ (i : Int) → (i : Int) < M.1 125 10 → 97 ≤ M.1 131 i ∧ M.1 131 i ≤ 122) → M.1 125 8 - M.1 125 10 < (r : Int) → M.1 125 8 - M.1 125 10 < (r' : Int) → pTk (d_X9_step_r68d_97 r X) (d_X12_next_r125d_149 r' M) := by
  intro r
  induction r with
  | zero => intros; exfalso; omega
  | succ r ih =>
    intro r' X M h e3 e4 e5 e11 f0 f1 f2 hw hl g1 g2
    cases r' with
    | zero => exfalso; omega
    | succ r' =>
      have q : pTk X M := ⟨h, e3, e4, by omega, ⟨f0, by omega, f2⟩, Or.inr (Or.inr (Or.inl ⟨e11, f1, hw, hl⟩))⟩
      have n1 := h.1
      rw [tl_s, tm_s, if_neg (c := X.1 68 5 = 3) (by omega), if_pos (c := M.1 125 11 = 1) e11]
      by_cases c : M.1 125 8 ≤ M.1 125 10
      · rw [if_pos c, if_pos (c := X.1 68 1 ≤ X.1 68 4) (by omega), tn_o (by omega)]
        exact q
      · rw [if_neg c, if_neg (c := X.1 68 1 ≤ X.1 68 4) (by omega), tb h e4 (by omega) (by omega)]
        by_cases c1 : M.1 131 (M.1 125 10).toNat < 97
        · rw [if_pos c1, if_pos c1, tn_o (by omega), if_neg (c := 2 = X.1 68 5) (by omega)]
          repeat' split
          all_goals exact q
        · rw [if_neg c1, if_neg c1]
          by_cases c2 : 122 < M.1 131 (M.1 125 10).toNat
          · rw [if_pos c2, if_pos c2, tn_o (by omega)]
            exact q
          · rw [if_neg c2, if_neg c2, if_pos (c := 1 = X.1 68 5) e5.symm]
            have st : ∀ w : Int, w = wrd (M.1 131) (M.1 125 9).toNat (M.1 125 10 + 1 - M.1 125 9).toNat → pTk (d_X9_step_r68d_97 r (vu X 68 4 (X.1 68 4 + 1))) (d_X12_next_r125d_149 r' (vu (vuL M 125 12 w) 125 10 (M.1 125 10 + 1))) := by
              intro w hw'
              have a3 : (vu X 68 4 (X.1 68 4 + 1)).1 68 3 = X.1 68 3 := vu_n (by omega)
              have a4 : (vu X 68 4 (X.1 68 4 + 1)).1 68 4 = X.1 68 4 + 1 := vu_e rfl
              have a5 : (vu X 68 4 (X.1 68 4 + 1)).1 68 5 = X.1 68 5 := vu_n (by omega)
              have b8 : (vu (vuL M 125 12 w) 125 10 (M.1 125 10 + 1)).1 125 8 = M.1 125 8 := vu_n (W := vuL M 125 12 w) (by omega)
              have b9 : (vu (vuL M 125 12 w) 125 10 (M.1 125 10 + 1)).1 125 9 = M.1 125 9 := vu_n (W := vuL M 125 12 w) (by omega)
              have ba : (vu (vuL M 125 12 w) 125 10 (M.1 125 10 + 1)).1 125 10 = M.1 125 10 + 1 := vu_e rfl
              have bb : (vu (vuL M 125 12 w) 125 10 (M.1 125 10 + 1)).1 125 11 = M.1 125 11 := vu_n (W := vuL M 125 12 w) (by omega)
              have bc : (vu (vuL M 125 12 w) 125 10 (M.1 125 10 + 1)).1 131 = M.1 131 := vu_c (W := vuL M 125 12 w) (by decide)
              have bw : (vu (vuL M 125 12 w) 125 10 (M.1 125 10 + 1)).2.1 125 12 = w := vl_e
              refine ih r' _ _ (pTp_x (pTp_m (pTp_l h) (by decide)) (by decide)) ?_ ?_ ?_ ?_ ?_ ?_ ?_ ?_ ?_ ?_ ?_
              · rw [a3, b9]; exact e3
              · rw [a4, ba, e4]
              · rw [a5]; exact e5
              · rw [bb]; exact e11
              · rw [b9]; exact f0
              · rw [b9, ba]; omega
              · rw [ba, b8]; omega
              · rw [bw, bc, b9, ba]; exact hw'
              · intro i i1 i2
                rw [b9] at i1
                rw [ba] at i2
                rw [bc]
                by_cases z : (i : Int) < M.1 125 10
                · exact hl i i1 z
                · rw [show i = (M.1 125 10).toNat from by omega]
                  omega
              · rw [b8, ba]; omega
              · rw [b8, ba]; omega
            have kk : (M.1 125 10 + 1 - M.1 125 9).toNat = (M.1 125 10 - M.1 125 9).toNat + 1 := by omega
            by_cases c3 : 12 ≤ M.1 125 10 - M.1 125 9
            · rw [if_pos c3]
              refine st _ ?_
              rw [kk]
              show _ = if _ then _ else _
              rw [if_pos (by omega)]
            · rw [if_neg c3]
              refine st _ ?_
              rw [kk]
              show _ = if _ then _ else _
              rw [if_neg (by omega), ← hw, show (M.1 125 9).toNat + (M.1 125 10 - M.1 125 9).toNat = (M.1 125 10).toNat from by omega]
theorem td_e : ∀ (r r' : Nat) (X M : jW), pTp X M → X.1 68 3 = M.1 125 9 → X.1 68 4 = M.1 125 10 → X.1 68 5 = 2 → M.1 125 11 = 2 → 0 ≤ M.1 125 9 → M.1 125 9 < M.1 125 10 → M.1 125 10 ≤ M.1 125 8 → M.2.1 125 12 = nmb (M.1 131) (M.1 125 9).toNat (M.1 125 10 - M.1 125 9).toNat → (∀ i : Nat, M.1 125 9 ≤ (i : Int) → (i : Int) < M.1 125 10 → 48 ≤ M.1 131 i ∧ M.1 131 i ≤ 57) → M.1 125 8 - M.1 125 10 < (r : Int) → M.1 125 8 - M.1 125 10 < (r' : Int) → pTk (d_X9_step_r68d_97 r X) (d_X12_next_r125d_243 r' M) := by
  intro r
  induction r with
  | zero => intros; exfalso; omega
  | succ r ih =>
    intro r' X M h e3 e4 e5 e11 f0 f1 f2 hw hl g1 g2
    cases r' with
    | zero => exfalso; omega
    | succ r' =>
      have q : pTk X M := ⟨h, e3, e4, by omega, ⟨f0, by omega, f2⟩, Or.inr (Or.inr (Or.inr ⟨e11, f1, hw, hl⟩))⟩
      have n1 := h.1
      rw [tl_s, tn_s, if_neg (c := X.1 68 5 = 3) (by omega), if_pos (c := M.1 125 11 = 2) e11]
      by_cases c : M.1 125 8 ≤ M.1 125 10
      · rw [if_pos c, if_pos (c := X.1 68 1 ≤ X.1 68 4) (by omega)]
        exact q
      · rw [if_neg c, if_neg (c := X.1 68 1 ≤ X.1 68 4) (by omega), tb h e4 (by omega) (by omega)]
        by_cases c1 : M.1 131 (M.1 125 10).toNat < 48
        · rw [if_pos (c := M.1 131 (M.1 125 10).toNat < 97) (by omega), if_pos c1, if_pos c1]
          exact q
        · by_cases c2 : 57 < M.1 131 (M.1 125 10).toNat
          · rw [if_neg c1, if_pos c2, if_neg c1, if_pos c2, if_neg (c := 1 = X.1 68 5) (by omega)]
            repeat' split
            all_goals exact q
          · rw [if_pos (c := M.1 131 (M.1 125 10).toNat < 97) (by omega), if_neg c1, if_neg c2, if_pos (c := 2 = X.1 68 5) e5.symm, if_neg c1, if_neg c2]
            have st : ∀ w : Int, w = nmb (M.1 131) (M.1 125 9).toNat (M.1 125 10 + 1 - M.1 125 9).toNat → pTk (d_X9_step_r68d_97 r (vu X 68 4 (X.1 68 4 + 1))) (d_X12_next_r125d_243 r' (vu (vuL M 125 12 w) 125 10 (M.1 125 10 + 1))) := by
              intro w hw'
              have a3 : (vu X 68 4 (X.1 68 4 + 1)).1 68 3 = X.1 68 3 := vu_n (by omega)
              have a4 : (vu X 68 4 (X.1 68 4 + 1)).1 68 4 = X.1 68 4 + 1 := vu_e rfl
              have a5 : (vu X 68 4 (X.1 68 4 + 1)).1 68 5 = X.1 68 5 := vu_n (by omega)
              have b8 : (vu (vuL M 125 12 w) 125 10 (M.1 125 10 + 1)).1 125 8 = M.1 125 8 := vu_n (W := vuL M 125 12 w) (by omega)
              have b9 : (vu (vuL M 125 12 w) 125 10 (M.1 125 10 + 1)).1 125 9 = M.1 125 9 := vu_n (W := vuL M 125 12 w) (by omega)
              have ba : (vu (vuL M 125 12 w) 125 10 (M.1 125 10 + 1)).1 125 10 = M.1 125 10 + 1 := vu_e rfl
              have bb : (vu (vuL M 125 12 w) 125 10 (M.1 125 10 + 1)).1 125 11 = M.1 125 11 := vu_n (W := vuL M 125 12 w) (by omega)
              have bc : (vu (vuL M 125 12 w) 125 10 (M.1 125 10 + 1)).1 131 = M.1 131 := vu_c (W := vuL M 125 12 w) (by decide)
              have bw : (vu (vuL M 125 12 w) 125 10 (M.1 125 10 + 1)).2.1 125 12 = w := vl_e
              refine ih r' _ _ (pTp_x (pTp_m (pTp_l h) (by decide)) (by decide)) ?_ ?_ ?_ ?_ ?_ ?_ ?_ ?_ ?_ ?_ ?_
              · rw [a3, b9]; exact e3
              · rw [a4, ba, e4]
              · rw [a5]; exact e5
              · rw [bb]; exact e11
              · rw [b9]; exact f0
              · rw [b9, ba]; omega
              · rw [ba, b8]; omega
              · rw [bw, bc, b9, ba]; exact hw'
              · intro i i1 i2
                rw [b9] at i1
                rw [ba] at i2
                rw [bc]
                by_cases z : (i : Int) < M.1 125 10
                · exact hl i i1 z
                · rw [show i = (M.1 125 10).toNat from by omega]
                  omega
              · rw [b8, ba]; omega
              · rw [b8, ba]; omega
            have kk : (M.1 125 10 + 1 - M.1 125 9).toNat = (M.1 125 10 - M.1 125 9).toNat + 1 := by omega
            by_cases c3 : M.2.1 125 12 ≤ 1000000
            · rw [if_pos c3]
              refine st _ ?_
              rw [kk]
              show _ = if _ then _ else _
              rw [← hw, if_pos c3, show (M.1 125 9).toNat + (M.1 125 10 - M.1 125 9).toNat = (M.1 125 10).toNat from by omega]
            · rw [if_neg c3]
              refine st _ ?_
              rw [kk]
              show _ = if _ then _ else _
              rw [← hw, if_neg c3]
theorem v0 (M : jW) (f s : Int) : (vu (vuL (vu M 125 10 f) 125 12 0) 125 11 s).1 125 8 = M.1 125 8 ∧ (vu (vuL (vu M 125 10 f) 125 12 0) 125 11 s).1 125 9 = M.1 125 9 ∧ (vu (vuL (vu M 125 10 f) 125 12 0) 125 11 s).1 125 10 = f ∧ (vu (vuL (vu M 125 10 f) 125 12 0) 125 11 s).1 125 11 = s ∧ (vu (vuL (vu M 125 10 f) 125 12 0) 125 11 s).1 131 = M.1 131 ∧ (vu (vuL (vu M 125 10 f) 125 12 0) 125 11 s).2.1 125 12 = 0 := by
  refine ⟨?_, ?_, ?_, vu_e rfl, ?_, vl_e (W := vu M 125 10 f)⟩
  · rw [vu_n (by omega)]
    show (vu M 125 10 f).1 125 8 = _
    exact vu_n (by omega)
  · rw [vu_n (by omega)]
    show (vu M 125 10 f).1 125 9 = _
    exact vu_n (by omega)
  · rw [vu_n (by omega)]
    show (vu M 125 10 f).1 125 10 = _
    exact vu_e rfl
  · rw [vu_c (by decide)]
    show (vu M 125 10 f).1 131 = _
    exact vu_c (by decide)
theorem v1 (X : jW) (f s t : Int) : (vu (vu (vu X 68 4 f) 68 5 s) 68 4 t).1 68 3 = X.1 68 3 ∧ (vu (vu (vu X 68 4 f) 68 5 s) 68 4 t).1 68 4 = t ∧ (vu (vu (vu X 68 4 f) 68 5 s) 68 4 t).1 68 5 = s := by
  refine ⟨?_, vu_e rfl, ?_⟩
  · rw [vu_n (by omega), vu_n (by omega), vu_n (by omega)]
  · rw [vu_n (by omega)]
    exact vu_e rfl
theorem tk_46 {X M : jW} (h : pTp X M) (e3 : X.1 68 3 = M.1 125 9) (f0 : 0 ≤ M.1 125 9) (f1 : M.1 125 9 ≤ M.1 125 8) (ns : M.1 125 9 < M.1 125 8 → M.1 131 (M.1 125 9).toNat ≠ 32) : pTk (d_X9_step_r68d_46 X) (d_X12_next_r125d_46 M) := by
  have n1 := h.1
  unfold d_X9_step_r68d_46 d_X12_next_r125d_46
  by_cases c : M.1 125 9 = M.1 125 8
  · rw [if_pos c, if_neg (c := X.1 68 3 < X.1 68 1) (by omega)]
    obtain ⟨w8, w9, wa, wb, wc, ww⟩ := v0 M (M.1 125 9) 0
    show pTk _ (d_X12_next_r125d_149 401 (vu (vuL (vu M 125 10 (M.1 125 9)) 125 12 0) 125 11 0))
    rw [tm_o (r := 400) (by omega), tn_o (r := 400) (by omega)]
    refine ⟨pTp_x (pTp_x (pTp_m (pTp_l (pTp_m h (by decide))) (by decide)) (by decide)) (by decide), ?_, ?_, ?_, ?_, ?_⟩
    · rw [w9, vu_n (by omega), vu_n (by omega)]; exact e3
    · rw [wa, vu_n (by omega)]; exact (vu_e rfl).trans e3
    · rw [wb]; exact vu_e rfl
    · rw [w8, w9, wa]; omega
    · rw [w8, w9, wa, wb]; exact Or.inl ⟨rfl, c, c⟩
  · rw [if_neg c, if_pos (c := X.1 68 3 < X.1 68 1) (by omega), tb h e3 f0 (by omega)]
    have sg : ¬ (97 ≤ M.1 131 (M.1 125 9).toNat ∧ M.1 131 (M.1 125 9).toNat ≤ 122) → ¬ (48 ≤ M.1 131 (M.1 125 9).toNat ∧ M.1 131 (M.1 125 9).toNat ≤ 57) → pTk (d_X9_step_r68d_97 400 (vu (vu (vu X 68 4 (X.1 68 3)) 68 5 3) 68 4 (X.1 68 3 + 1))) (d_X12_next_r125d_500114 (vuL (vu M 125 10 (M.1 125 9)) 125 12 0)) := by
      intro s1 s2
      obtain ⟨a3, a4, a5⟩ := v1 X (X.1 68 3) 3 (X.1 68 3 + 1)
      obtain ⟨w8, w9, wa, wb, wc, ww⟩ := v0 M (M.1 125 9) 3
      have q9 : (vuL (vu M 125 10 (M.1 125 9)) 125 12 0).1 125 9 = M.1 125 9 := (show (vu M 125 10 (M.1 125 9)).1 125 9 = M.1 125 9 from vu_n (by omega))
      have qa : (vuL (vu M 125 10 (M.1 125 9)) 125 12 0).1 125 10 = M.1 125 9 := (show (vu M 125 10 (M.1 125 9)).1 125 10 = M.1 125 9 from vu_e rfl)
      have qc : (vuL (vu M 125 10 (M.1 125 9)) 125 12 0).1 131 = M.1 131 := (show (vu M 125 10 (M.1 125 9)).1 131 = M.1 131 from vu_c (by decide))
      unfold d_X12_next_r125d_500114
      rw [tl_s (r := 399), if_pos a5, q9, qa, qc]
      have x8 : (vu (vuL (vu (vuL (vu M 125 10 (M.1 125 9)) 125 12 0) 125 11 3) 125 12 (M.1 131 (M.1 125 9).toNat)) 125 10 (M.1 125 9 + 1)).1 125 8 = M.1 125 8 := (vu_n (W := vuL (vu (vuL (vu M 125 10 (M.1 125 9)) 125 12 0) 125 11 3) 125 12 (M.1 131 (M.1 125 9).toNat)) (by omega)).trans w8
      have x9 : (vu (vuL (vu (vuL (vu M 125 10 (M.1 125 9)) 125 12 0) 125 11 3) 125 12 (M.1 131 (M.1 125 9).toNat)) 125 10 (M.1 125 9 + 1)).1 125 9 = M.1 125 9 := (vu_n (W := vuL (vu (vuL (vu M 125 10 (M.1 125 9)) 125 12 0) 125 11 3) 125 12 (M.1 131 (M.1 125 9).toNat)) (by omega)).trans w9
      have xa : (vu (vuL (vu (vuL (vu M 125 10 (M.1 125 9)) 125 12 0) 125 11 3) 125 12 (M.1 131 (M.1 125 9).toNat)) 125 10 (M.1 125 9 + 1)).1 125 10 = M.1 125 9 + 1 := vu_e rfl
      have xb : (vu (vuL (vu (vuL (vu M 125 10 (M.1 125 9)) 125 12 0) 125 11 3) 125 12 (M.1 131 (M.1 125 9).toNat)) 125 10 (M.1 125 9 + 1)).1 125 11 = 3 := (vu_n (W := vuL (vu (vuL (vu M 125 10 (M.1 125 9)) 125 12 0) 125 11 3) 125 12 (M.1 131 (M.1 125 9).toNat)) (by omega)).trans wb
      have xc : (vu (vuL (vu (vuL (vu M 125 10 (M.1 125 9)) 125 12 0) 125 11 3) 125 12 (M.1 131 (M.1 125 9).toNat)) 125 10 (M.1 125 9 + 1)).1 131 = M.1 131 := (vu_c (W := vuL (vu (vuL (vu M 125 10 (M.1 125 9)) 125 12 0) 125 11 3) 125 12 (M.1 131 (M.1 125 9).toNat)) (by decide)).trans wc
      have xw : (vu (vuL (vu (vuL (vu M 125 10 (M.1 125 9)) 125 12 0) 125 11 3) 125 12 (M.1 131 (M.1 125 9).toNat)) 125 10 (M.1 125 9 + 1)).2.1 125 12 = M.1 131 (M.1 125 9).toNat := vl_e
      rw [tm_o (r := 400) (by omega), tn_o (r := 400) (by omega)]
      refine ⟨pTp_x (pTp_x (pTp_x (pTp_m (pTp_l (pTp_m (pTp_l (pTp_m h (by decide))) (by decide))) (by decide)) (by decide)) (by decide)) (by decide), ?_, ?_, ?_, ?_, ?_⟩
      · rw [a3, x9]; exact e3
      · rw [a4, xa]; omega
      · rw [a5, xb]
      · rw [x8, x9, xa]; omega
      · rw [x8, x9, xa, xb, xc, xw]
        exact Or.inr (Or.inl ⟨rfl, rfl, rfl, s1, s2, ns (by omega)⟩)
    by_cases c1 : M.1 131 (M.1 125 9).toNat < 97
    · rw [if_pos c1, if_pos c1]
      by_cases c2 : M.1 131 (M.1 125 9).toNat < 48
      · rw [if_pos c2, if_pos c2]
        exact sg (by omega) (by omega)
      · rw [if_neg c2, if_neg c2]
        by_cases c3 : 57 < M.1 131 (M.1 125 9).toNat
        · rw [if_pos c3, if_pos c3]
          exact sg (by omega) (by omega)
        · rw [if_neg c3, if_neg c3]
          obtain ⟨a3, a4, a5⟩ := v1 X (X.1 68 3) 2 (X.1 68 3 + 1)
          obtain ⟨w8, w9, wa, wb, wc, ww⟩ := v0 M (M.1 125 9) 2
          show pTk _ (d_X12_next_r125d_149 401 (vu (vuL (vu M 125 10 (M.1 125 9)) 125 12 0) 125 11 2))
          rw [tm_o (r := 400) (by omega), tn_s (r := 400), if_pos wb, if_neg (by omega), wc, wa, if_neg c2, if_neg c3, ww, if_pos (by decide)]
          generalize hV : vu (vuL (vu M 125 10 (M.1 125 9)) 125 12 0) 125 11 2 = V at *
          have b8 : (vu (vuL V 125 12 (0 * 10 + M.1 131 (M.1 125 9).toNat - 48)) 125 10 (M.1 125 9 + 1)).1 125 8 = V.1 125 8 := vu_n (W := vuL V 125 12 (0 * 10 + M.1 131 (M.1 125 9).toNat - 48)) (by omega)
          have b9 : (vu (vuL V 125 12 (0 * 10 + M.1 131 (M.1 125 9).toNat - 48)) 125 10 (M.1 125 9 + 1)).1 125 9 = V.1 125 9 := vu_n (W := vuL V 125 12 (0 * 10 + M.1 131 (M.1 125 9).toNat - 48)) (by omega)
          have ba : (vu (vuL V 125 12 (0 * 10 + M.1 131 (M.1 125 9).toNat - 48)) 125 10 (M.1 125 9 + 1)).1 125 10 = M.1 125 9 + 1 := vu_e rfl
          have bb : (vu (vuL V 125 12 (0 * 10 + M.1 131 (M.1 125 9).toNat - 48)) 125 10 (M.1 125 9 + 1)).1 125 11 = V.1 125 11 := vu_n (W := vuL V 125 12 (0 * 10 + M.1 131 (M.1 125 9).toNat - 48)) (by omega)
          have bc : (vu (vuL V 125 12 (0 * 10 + M.1 131 (M.1 125 9).toNat - 48)) 125 10 (M.1 125 9 + 1)).1 131 = V.1 131 := vu_c (W := vuL V 125 12 (0 * 10 + M.1 131 (M.1 125 9).toNat - 48)) (by decide)
          have bw : (vu (vuL V 125 12 (0 * 10 + M.1 131 (M.1 125 9).toNat - 48)) 125 10 (M.1 125 9 + 1)).2.1 125 12 = 0 * 10 + M.1 131 (M.1 125 9).toNat - 48 := vl_e
          have hp : pTp X V := by rw [← hV]; exact pTp_m (pTp_l (pTp_m h (by decide))) (by decide)
          have n2 := h.2.1
          refine td_e 400 400 _ _ (pTp_x (pTp_x (pTp_x (pTp_m (pTp_l hp) (by decide)) (by decide)) (by decide)) (by decide)) ?_ ?_ a5 (bb.trans wb) ?_ ?_ ?_ ?_ ?_ ?_ ?_
          · rw [a3, b9, w9]; exact e3
          · rw [a4, ba]; omega
          · rw [b9, w9]; exact f0
          · rw [b9, w9, ba]; omega
          · rw [ba, b8, w8]; omega
          · rw [bw, bc, wc, b9, w9, ba, show (M.1 125 9 + 1 - M.1 125 9).toNat = 1 from by omega]
            rfl
          · intro i i1 i2
            rw [b9, w9] at i1
            rw [ba] at i2
            rw [bc, wc, show i = (M.1 125 9).toNat from by omega]
            omega
          · rw [b8, w8, ba]; omega
          · rw [b8, w8, ba]; omega
    · rw [if_neg c1, if_neg c1]
      by_cases c3 : 122 < M.1 131 (M.1 125 9).toNat
      · rw [if_pos c3, if_pos c3]
        exact sg (by omega) (by omega)
      · rw [if_neg c3, if_neg c3]
        obtain ⟨a3, a4, a5⟩ := v1 X (X.1 68 3) 1 (X.1 68 3 + 1)
        obtain ⟨w8, w9, wa, wb, wc, ww⟩ := v0 M (M.1 125 9) 1
        show pTk _ (d_X12_next_r125d_149 401 (vu (vuL (vu M 125 10 (M.1 125 9)) 125 12 0) 125 11 1))
        rw [tm_s (r := 400), if_pos wb, if_neg (by omega), wc, wa, if_neg c1, if_neg c3, w9, if_neg (by omega), ww]
        generalize hV : vu (vuL (vu M 125 10 (M.1 125 9)) 125 12 0) 125 11 1 = V at *
        generalize hw : j_lsub (j_ladd (j_lmul 0 32) (M.1 131 (M.1 125 9).toNat)) 96 = w
        have b8 : (vu (vuL V 125 12 w) 125 10 (M.1 125 9 + 1)).1 125 8 = V.1 125 8 := vu_n (W := vuL V 125 12 w) (by omega)
        have b9 : (vu (vuL V 125 12 w) 125 10 (M.1 125 9 + 1)).1 125 9 = V.1 125 9 := vu_n (W := vuL V 125 12 w) (by omega)
        have ba : (vu (vuL V 125 12 w) 125 10 (M.1 125 9 + 1)).1 125 10 = M.1 125 9 + 1 := vu_e rfl
        have bb : (vu (vuL V 125 12 w) 125 10 (M.1 125 9 + 1)).1 125 11 = V.1 125 11 := vu_n (W := vuL V 125 12 w) (by omega)
        have bc : (vu (vuL V 125 12 w) 125 10 (M.1 125 9 + 1)).1 131 = V.1 131 := vu_c (W := vuL V 125 12 w) (by decide)
        have bw : (vu (vuL V 125 12 w) 125 10 (M.1 125 9 + 1)).2.1 125 12 = w := vl_e
        have hp : pTp X V := by rw [← hV]; exact pTp_m (pTp_l (pTp_m h (by decide))) (by decide)
        have n2 := h.2.1
        refine tl_e 400 400 _ _ (pTp_x (pTp_x (pTp_x (pTp_m (pTp_l hp) (by decide)) (by decide)) (by decide)) (by decide)) ?_ ?_ a5 (bb.trans wb) ?_ ?_ ?_ ?_ ?_ ?_ ?_
        · rw [a3, b9, w9]; exact e3
        · rw [a4, ba]; omega
        · rw [b9, w9]; exact f0
        · rw [b9, w9, ba]; omega
        · rw [ba, b8, w8]; omega
        · rw [bw, bc, wc, b9, w9, ba, show (M.1 125 9 + 1 - M.1 125 9).toNat = 1 from by omega, ← hw]
          rfl
        · intro i i1 i2
          rw [b9, w9] at i1
          rw [ba] at i2
          rw [bc, wc, show i = (M.1 125 9).toNat from by omega]
          omega
        · rw [b8, w8, ba]; omega
        · rw [b8, w8, ba]; omega
theorem tx_s {X : jW} {r : Nat} : d_X9_step_r68d_8 (r + 1) X = if X.1 68 1 ≤ X.1 68 3 then d_X9_step_r68d_46 X else if X.1 69 (X.1 68 3).toNat = 32 then d_X9_step_r68d_8 r (vu X 68 3 (X.1 68 3 + 1)) else d_X9_step_r68d_46 X := rfl
theorem ty_s {M : jW} {r : Nat} : d_X12_next_r125d_8 (r + 1) M = if M.1 125 8 ≤ M.1 125 9 then d_X12_next_r125d_46 M else if M.1 131 (M.1 125 9).toNat = 32 then d_X12_next_r125d_8 r (vu M 125 9 (M.1 125 9 + 1)) else d_X12_next_r125d_46 M := rfl
theorem tk_8 : ∀ (r : Nat) (X M : jW), pTp X M → X.1 68 3 = M.1 125 9 → 0 ≤ M.1 125 9 → M.1 125 9 ≤ M.1 125 8 → M.1 125 8 - M.1 125 9 < (r : Int) → pTk (d_X9_step_r68d_8 r X) (d_X12_next_r125d_8 r M) := by
  intro r
  induction r with
  | zero => intros; exfalso; omega
  | succ r ih =>
    intro X M h e3 f0 f1 g
    have n1 := h.1
    rw [tx_s, ty_s]
    by_cases c : M.1 125 8 ≤ M.1 125 9
    · rw [if_pos c, if_pos (by omega)]
      exact tk_46 h e3 f0 f1 (fun z => by omega)
    · rw [if_neg c, if_neg (c := X.1 68 1 ≤ X.1 68 3) (by omega), tb h e3 f0 (by omega)]
      by_cases c2 : M.1 131 (M.1 125 9).toNat = 32
      · rw [if_pos c2, if_pos c2]
        have b8 : (vu M 125 9 (M.1 125 9 + 1)).1 125 8 = M.1 125 8 := vu_n (by omega)
        have b9 : (vu M 125 9 (M.1 125 9 + 1)).1 125 9 = M.1 125 9 + 1 := vu_e rfl
        refine ih _ _ (pTp_x (pTp_m h (by decide)) (by decide)) ?_ ?_ ?_ ?_
        · rw [b9, e3]; exact vu_e rfl
        · rw [b9]; omega
        · rw [b9, b8]; omega
        · rw [b9, b8]; omega
      · rw [if_neg c2, if_neg c2]
        exact tk_46 h e3 f0 f1 (fun _ => c2)
theorem tk_n {X M : jW} (h : pTp X M) (e4 : X.1 68 4 = M.1 125 10) (f0 : 0 ≤ M.1 125 10) (f1 : M.1 125 10 ≤ M.1 125 8) : pTk (d_X9_step_r68d X) (d_X12_next_r125d M) := by
  unfold d_X9_step_r68d d_X12_next_r125d
  have b8 : (vu M 125 9 (M.1 125 10)).1 125 8 = M.1 125 8 := vu_n (by omega)
  have b9 : (vu M 125 9 (M.1 125 10)).1 125 9 = M.1 125 10 := vu_e rfl
  have n2 := h.2.1
  refine tk_8 401 _ _ (pTp_x (pTp_m h (by decide)) (by decide)) ?_ ?_ ?_ ?_
  · rw [b9, ← e4]; exact vu_e rfl
  · rw [b9]; exact f0
  · rw [b9, b8]; exact f1
  · rw [b9, b8]; omega
end jG7

section jG8
/-! pure: feed, end -/
theorem sh_bv (x : BitVec 32) (s : Nat) (hs : s ≤ 24) : (x >>> s) &&& 255#32 = (x.sshiftRight s) &&& 255#32 := by
  apply BitVec.eq_of_getLsbD_eq
  intro i hi
  rw [BitVec.getLsbD_and, BitVec.getLsbD_and, BitVec.getLsbD_ushiftRight, BitVec.getLsbD_sshiftRight]
  by_cases h : i < 8
  · have e : s + i < 32 := by omega
    have f : decide (32 ≤ i) = false := decide_eq_false (by omega)
    rw [f, if_pos e]
    rfl
  · have e : (255#32).getLsbD i = false := by
      rw [BitVec.getLsbD_ofNat, Nat.testBit_lt_two_pow (Nat.lt_of_lt_of_le (show 255 < 2 ^ 8 from by decide) (Nat.pow_le_pow_right (by decide) (by omega))), Bool.and_false]
    rw [e, Bool.and_false, Bool.and_false]
theorem sh_24 (x : Int) : j_iand (j_iushr x 24) 255 = j_iand (j_ishr x 24) 255 := by
  unfold j_iand j_iushr j_ishr
  rw [Int32.ofInt_toInt, Int32.ofInt_toInt]
  exact congrArg Int32.toInt (Int32.toBitVec_inj.1 (sh_bv (Int32.ofInt x).toBitVec 24 (by decide)))
theorem sh_16 (x : Int) : j_iand (j_iushr x (24 + -8)) 255 = j_iand (j_ishr x (24 + -8)) 255 := by
  unfold j_iand j_iushr j_ishr
  rw [Int32.ofInt_toInt, Int32.ofInt_toInt]
  exact congrArg Int32.toInt (Int32.toBitVec_inj.1 (sh_bv (Int32.ofInt x).toBitVec 16 (by decide)))
theorem sh_8 (x : Int) : j_iand (j_iushr x (24 + -8 + -8)) 255 = j_iand (j_ishr x (24 + -8 + -8)) 255 := by
  unfold j_iand j_iushr j_ishr
  rw [Int32.ofInt_toInt, Int32.ofInt_toInt]
  exact congrArg Int32.toInt (Int32.toBitVec_inj.1 (sh_bv (Int32.ofInt x).toBitVec 8 (by decide)))
theorem sh_0 (x : Int) : j_iand (j_iushr x (24 + -8 + -8 + -8)) 255 = j_iand (j_ishr x (24 + -8 + -8 + -8)) 255 := by
  unfold j_iand j_iushr j_ishr
  rw [Int32.ofInt_toInt, Int32.ofInt_toInt]
  exact congrArg Int32.toInt (Int32.toBitVec_inj.1 (sh_bv (Int32.ofInt x).toBitVec 0 (by decide)))
def pby (X : jW) (v : Int) : jW := vu (vu X 69 (X.1 68 1).toNat v) 68 1 (X.1 68 1 + 1)
def mby (M : jW) (n v : Int) : jW := vu (vu M 131 n.toNat v) 125 8 (n + 1)
theorem ap_s {r : Nat} {a s : Int} {X : jW} : d_X9_append_r68d_3 (r + 1) a s X = if s < 0 then X else if 400 ≤ X.1 68 1 then X else d_X9_append_r68d_3 r a (s + -8) (pby X (j_iand (j_iushr a s) 255)) := rfl
theorem pby_n {X : jW} {v : Int} : (pby X v).1 68 1 = X.1 68 1 + 1 := vu_e rfl
theorem ap_e {a : Int} {X : jW} (h : X.1 68 1 + 4 ≤ 400) : d_X9_append_r68d a X = pby (pby (pby (pby X (j_iand (j_ishr a 24) 255)) (j_iand (j_ishr a (24 + -8)) 255)) (j_iand (j_ishr a (24 + -8 + -8)) 255)) (j_iand (j_ishr a (24 + -8 + -8 + -8)) 255) := by
  unfold d_X9_append_r68d
  rw [ap_s (r := 32), if_neg (by decide), if_neg (by omega), sh_24]
  rw [ap_s (r := 31), if_neg (by decide), if_neg (by rw [pby_n]; omega), sh_16]
  rw [ap_s (r := 30), if_neg (by decide), if_neg (by rw [pby_n, pby_n]; omega), sh_8]
  rw [ap_s (r := 29), if_neg (by decide), if_neg (by rw [pby_n, pby_n, pby_n]; omega), sh_0]
  rw [ap_s (r := 28), if_pos (by decide)]
theorem by_e {X M : jW} {n v : Int} (h : pTp X M) (hn : M.1 125 8 = n) (h4 : n < 400) : pTp (pby X v) (mby M n v) ∧ (mby M n v).1 125 8 = n + 1 := by
  have e : (mby M n v).1 125 8 = n + 1 := vu_e rfl
  have e1 := h.1
  have e2 := h.2.1
  refine ⟨⟨by rw [e, pby_n]; omega, by rw [e]; omega, fun i hi => ?_⟩, e⟩
  unfold pby mby
  rw [vu_n (by omega), vu_n (a := 125) (by omega)]
  by_cases c : (i : Int) = n
  · rw [vu_e (by omega), vu_e (by omega)]
  · rw [vu_n (by omega), vu_n (by omega)]
    exact h.2.2 i hi
theorem fo_e {X M : jW} {n a : Int} (h : pTp X M) (hn : M.1 125 8 = n) (h4 : n + 4 ≤ 400) : pTp (d_X9_append_r68d a X) (mby (mby (mby (mby M n (j_iand (j_ishr a 24) 255)) (n + 1) (j_iand (j_ishr a (24 + -8)) 255)) (n + 1 + 1) (j_iand (j_ishr a (24 + -8 + -8)) 255)) (n + 1 + 1 + 1) (j_iand (j_ishr a (24 + -8 + -8 + -8)) 255)) ∧ (mby (mby (mby (mby M n (j_iand (j_ishr a 24) 255)) (n + 1) (j_iand (j_ishr a (24 + -8)) 255)) (n + 1 + 1) (j_iand (j_ishr a (24 + -8 + -8)) 255)) (n + 1 + 1 + 1) (j_iand (j_ishr a (24 + -8 + -8 + -8)) 255)).1 125 8 = n + 1 + 1 + 1 + 1 := by
  have e1 := h.1
  rw [ap_e (by omega)]
  have s1 := by_e (v := j_iand (j_ishr a 24) 255) h hn (by omega)
  have s2 := by_e (v := j_iand (j_ishr a (24 + -8)) 255) s1.1 s1.2 (by omega)
  have s3 := by_e (v := j_iand (j_ishr a (24 + -8 + -8)) 255) s2.1 s2.2 (by omega)
  exact by_e s3.1 s3.2 (by omega)
theorem to_feed {X M : jW} {a1 a2 a3 a4 a5 : Int} (h : pTp X M) : (d_X11_feed_r31d a1 a2 a3 a4 a5 X).1 = (d_X12_feed_r125d a1 a2 a3 a4 a5 M).1 ∧ pTp (d_X11_feed_r31d a1 a2 a3 a4 a5 X).2 (d_X12_feed_r125d a1 a2 a3 a4 a5 M).2 := by
  have e1 := h.1
  unfold d_X11_feed_r31d d_X12_feed_r125d
  by_cases c : M.1 125 8 + 20 ≤ 400
  · rw [if_pos c, if_neg (c := 400 < X.1 68 1 + 20) (by omega)]
    have h0 : pTp X (vu M 125 0 0) := pTp_m h (by decide)
    have n0 : (vu M 125 0 0).1 125 8 = M.1 125 8 := vu_n (by omega)
    have s1 := fo_e (a := a1) h0 n0 (by omega)
    have s2 := fo_e (a := a2) s1.1 s1.2 (by omega)
    have s3 := fo_e (a := a3) s2.1 s2.2 (by omega)
    have s4 := fo_e (a := a4) s3.1 s3.2 (by omega)
    have s5 := fo_e (a := a5) s4.1 s4.2 (by omega)
    exact ⟨s5.1.1.trans s5.2, s5.1⟩
  · rw [if_neg c, if_pos (c := 400 < X.1 68 1 + 20) (by omega)]
    exact ⟨rfl, pTp_m h (by decide)⟩
theorem to_end {X M : jW} {a1 : Int} (h : pTp X M) : (d_X11_end_r31d a1 X).1 = (d_X12_end_r125d a1 M).1 ∧ pTp (d_X11_end_r31d a1 X).2 (d_X12_end_r125d a1 M).2 := by
  have e1 := h.1
  have e2 := h.2.1
  unfold d_X11_end_r31d d_X12_end_r125d
  by_cases c : a1 < 0
  · rw [if_pos c, if_pos c]
    exact ⟨rfl, pTp_m h (by decide)⟩
  · rw [if_neg c, if_neg c]
    by_cases d : a1 ≤ M.1 125 8
    · rw [if_pos d, if_pos (c := a1 ≤ X.1 68 1) (by omega)]
      have e : (vu (vu M 125 0 0) 125 8 a1).1 125 8 = a1 := vu_e rfl
      refine ⟨rfl, ⟨(vu_e rfl).trans e.symm, by rw [e]; omega, fun i hi => ?_⟩⟩
      rw [vu_n (by omega), vu_n (by omega), vu_n (by omega)]
      exact h.2.2 i hi
    · rw [if_neg d, if_neg (c := a1 ≤ X.1 68 1) (by omega)]
      exact ⟨rfl, pTp_m h (by decide)⟩
end jG8

section jG9
/-! pure: a NAME, read on both sides -/
theorem sg_e {X M : jW} (k : pTk X M) {a : Int} : d_X9_isSign_r68d a X = if M.1 125 11 = 3 ∧ M.2.1 125 12 = a then 1 else 0 := by
  obtain ⟨h, e3, e4, e5, b, kd⟩ := k
  have n2 := h.2.1
  unfold d_X9_isSign_r68d
  by_cases c : M.1 125 11 = 3
  · rcases kd with kd | kd | kd | kd
    · exfalso; omega
    · rw [if_pos (show X.1 68 5 = 3 from by omega), tb h e3 b.1 (by omega), ← kd.2.2.1]
      by_cases g : M.2.1 125 12 = a
      · rw [if_pos g, if_pos ⟨c, g⟩]
        rfl
      · rw [if_neg g, if_neg (fun z => g z.2)]
        rfl
    · exfalso; omega
    · exfalso; omega
  · rw [if_neg (show ¬ X.1 68 5 = 3 from by omega), if_neg (fun z => c z.1)]
    rfl
/-- X and M differ in nothing but what reading a sign changes -/
def pDr (X M : jW) (b q : Nat) : Prop := ∀ j : Nat, j < 84 → X.1 71 j = M.1 126 (b + j) ∧ (14 * q ≤ j → M.1 126 (b + j) = 0)
def pPs (X M : jW) (b q : Nat) : Prop := pTk X M ∧ M.1 125 14 = 0 ∧ X.1 68 2 = M.1 125 13 ∧ pDr X M b q
theorem st_f (X : jW) : (d_X9_step_r68d X).1 71 = X.1 71 ∧ (d_X9_step_r68d X).1 69 = X.1 69 ∧ (d_X9_step_r68d X).1 68 1 = X.1 68 1 ∧ (d_X9_step_r68d X).1 68 2 = X.1 68 2 := ⟨pF_c (fr_d_X9_step_r68d X) rfl, pF_c (fr_d_X9_step_r68d X) rfl, (fr_d_X9_step_r68d X).1 68 1 rfl, (fr_d_X9_step_r68d X).1 68 2 rfl⟩
theorem nx_f (M : jW) : (d_X12_next_r125d M).1 126 = M.1 126 ∧ (d_X12_next_r125d M).1 131 = M.1 131 ∧ (d_X12_next_r125d M).1 125 8 = M.1 125 8 ∧ (d_X12_next_r125d M).1 125 13 = M.1 125 13 ∧ (d_X12_next_r125d M).1 125 14 = M.1 125 14 := ⟨pF_c (fr_d_X12_next_r125d M) rfl, pF_c (fr_d_X12_next_r125d M) rfl, (fr_d_X12_next_r125d M).1 125 8 rfl, (fr_d_X12_next_r125d M).1 125 13 rfl, (fr_d_X12_next_r125d M).1 125 14 rfl⟩
theorem ps_n {X M : jW} {b q : Nat} (P : pPs X M b q) : pPs (d_X9_step_r68d X) (d_X12_next_r125d M) b q := by
  obtain ⟨⟨h, e3, e4, e5, bb, kd⟩, p1, p2, p3⟩ := P
  obtain ⟨s1, s2, s3, s4⟩ := st_f X
  obtain ⟨m1, m2, m3, m4, m5⟩ := nx_f M
  refine ⟨tk_n h e4 (by omega) bb.2.2, by rw [m5]; exact p1, by rw [s4, m4]; exact p2, fun j hj => ?_⟩
  rw [s1, m1]
  exact p3 j hj
theorem st_end {X : jW} (h : X.1 68 4 = X.1 68 1) : d_X9_step_r68d X = vu (vu (vu X 68 3 (X.1 68 4)) 68 4 (X.1 68 4)) 68 5 0 := by
  have a1 : (vu X 68 3 (X.1 68 4)).1 68 1 = X.1 68 1 := vu_n (by omega)
  have a3 : (vu X 68 3 (X.1 68 4)).1 68 3 = X.1 68 4 := vu_e rfl
  unfold d_X9_step_r68d
  rw [tx_s (r := 400), a1, a3, if_pos (by omega)]
  unfold d_X9_step_r68d_46
  rw [a1, a3, if_neg (by omega)]
/-- at the end of the TAPE a step more changes nothing that is read -/
theorem tk_z {X M : jW} (k : pTk X M) (z : M.1 125 11 = 0) : pTk X (d_X12_next_r125d M) := by
  obtain ⟨h, e3, e4, e5, bb, kd⟩ := k
  have n1 := h.1
  have ft : M.1 125 9 = M.1 125 8 ∧ M.1 125 10 = M.1 125 8 := by
    rcases kd with kd | kd | kd | kd
    · exact kd.2
    · exfalso; omega
    · exfalso; omega
    · exfalso; omega
  have q := tk_n h e4 (by omega) bb.2.2
  rw [st_end (by omega)] at q
  obtain ⟨hx9, q3, q4, q5, qb, qk⟩ := q
  have c3 : (vu (vu (vu X 68 3 (X.1 68 4)) 68 4 (X.1 68 4)) 68 5 0).1 68 3 = X.1 68 4 := by rw [vu_n (by omega), vu_n (by omega)]; exact vu_e rfl
  have c4 : (vu (vu (vu X 68 3 (X.1 68 4)) 68 4 (X.1 68 4)) 68 5 0).1 68 4 = X.1 68 4 := by rw [vu_n (by omega)]; exact vu_e rfl
  have c5 : (vu (vu (vu X 68 3 (X.1 68 4)) 68 4 (X.1 68 4)) 68 5 0).1 68 5 = 0 := vu_e rfl
  have c1 : (vu (vu (vu X 68 3 (X.1 68 4)) 68 4 (X.1 68 4)) 68 5 0).1 68 1 = X.1 68 1 := by rw [vu_n (by omega), vu_n (by omega), vu_n (by omega)]
  have c9 : (vu (vu (vu X 68 3 (X.1 68 4)) 68 4 (X.1 68 4)) 68 5 0).1 69 = X.1 69 := by rw [vu_c (by decide), vu_c (by decide), vu_c (by decide)]
  refine ⟨⟨by rw [← c1]; exact hx9.1, hx9.2.1, by rw [← c9]; exact hx9.2.2⟩, ?_, ?_, ?_, qb, qk⟩
  · rw [← q3, c3]; omega
  · rw [← q4, c4]
  · rw [← q5, c5]; omega
/-! the letters -/
theorem nl_s {X : jW} {r : Nat} {a w i : Int} : d_X5_readName_r70d_92 (r + 1) a w i X = if w ≤ i then (if X.1 68 4 = X.1 68 1 then d_X5_readName_r70d_300143 a X else d_X5_readName_r70d_200143 a X) else if X.1 68 4 - X.1 68 3 ≤ i then d_X5_readName_r70d_92 r a w (i + 1) (vu X 71 (a + 2 + i).toNat 0) else d_X5_readName_r70d_92 r a w (i + 1) (vu X 71 (a + 2 + i).toNat (X.1 69 (X.1 68 3 + i).toNat)) := rfl
theorem ml_s {M : jW} {r : Nat} {p w f l i : Int} : d_X12_readName_r125d_111 (r + 1) p w f l i M = if w ≤ i then (if M.1 125 11 = 3 then (if M.2.1 125 12 = 45 then d_X12_readName_r125d_160 p l 1 (d_X12_next_r125d M) else d_X12_readName_r125d_160 p l 0 M) else d_X12_readName_r125d_160 p l 0 M) else d_X12_readName_r125d_111 r p w f l (i + 1) (vu M 126 (p + 2 + i).toNat (M.1 131 (f + i).toNat)) := rfl
def pOn (c : Nat) (lo hi : Int) (X Y : jW) : Prop := (∀ b k : Nat, ¬ (b = c ∧ lo ≤ (k : Int) ∧ (k : Int) < hi) → Y.1 b k = X.1 b k) ∧ Y.2 = X.2
theorem pOn_r {c : Nat} {lo hi : Int} {X : jW} : pOn c lo hi X X := ⟨fun _ _ _ => rfl, rfl⟩
theorem nl_e {a w : Int} (ha : 0 ≤ a) : ∀ (r : Nat) (i : Int) (X : jW), 0 ≤ i → i ≤ w → w - i < (r : Int) → X.1 68 4 - X.1 68 3 = w → 0 ≤ X.1 68 3 → ∃ Y : jW, d_X5_readName_r70d_92 r a w i X = (if Y.1 68 4 = Y.1 68 1 then d_X5_readName_r70d_300143 a Y else d_X5_readName_r70d_200143 a Y) ∧ pOn 71 (a + 2 + i) (a + 2 + w) X Y ∧ ∀ k : Nat, i ≤ (k : Int) → (k : Int) < w → Y.1 71 (a.toNat + 2 + k) = X.1 69 ((X.1 68 3).toNat + k) := by
  intro r
  induction r with
  | zero => intros; exfalso; omega
  | succ r ih =>
    intro i X i0 i1 g e f0
    rw [nl_s]
    by_cases c : w ≤ i
    · rw [if_pos c]
      exact ⟨X, rfl, pOn_r, fun k k1 k2 => by omega⟩
    · rw [if_neg c, if_neg (by omega)]
      have a4 : (vu X 71 (a + 2 + i).toNat (X.1 69 (X.1 68 3 + i).toNat)).1 68 4 = X.1 68 4 := vu_n (by omega)
      have a3 : (vu X 71 (a + 2 + i).toNat (X.1 69 (X.1 68 3 + i).toNat)).1 68 3 = X.1 68 3 := vu_n (by omega)
      obtain ⟨Y, y1, y2, y3⟩ := ih (i + 1) (vu X 71 (a + 2 + i).toNat (X.1 69 (X.1 68 3 + i).toNat)) (by omega) (by omega) (by omega) (by rw [a4, a3]; exact e) (by rw [a3]; exact f0)
      refine ⟨Y, y1, ⟨fun b k hk => ?_, y2.2⟩, fun k k1 k2 => ?_⟩
      · rw [y2.1 b k (fun z => hk (by omega))]
        exact vu_n (fun z => hk (by omega))
      · by_cases z : (k : Int) = i
        · rw [y2.1 71 (a.toNat + 2 + k) (by omega)]
          refine (vu_e (by omega)).trans ?_
          rw [show (X.1 68 3 + i).toNat = (X.1 68 3).toNat + k from by omega]
        · rw [y3 k (by omega) k2, a3]
          exact vu_n (by omega)
theorem ml_e {p w f l : Int} (hp : 0 ≤ p) (hf : 0 ≤ f) : ∀ (r : Nat) (i : Int) (M : jW), 0 ≤ i → i ≤ w → w - i < (r : Int) → ∃ N : jW, d_X12_readName_r125d_111 r p w f l i M = (if N.1 125 11 = 3 then (if N.2.1 125 12 = 45 then d_X12_readName_r125d_160 p l 1 (d_X12_next_r125d N) else d_X12_readName_r125d_160 p l 0 N) else d_X12_readName_r125d_160 p l 0 N) ∧ pOn 126 (p + 2 + i) (p + 2 + w) M N ∧ ∀ k : Nat, i ≤ (k : Int) → (k : Int) < w → N.1 126 (p.toNat + 2 + k) = M.1 131 (f.toNat + k) := by
  intro r
  induction r with
  | zero => intros; exfalso; omega
  | succ r ih =>
    intro i M i0 i1 g
    rw [ml_s]
    by_cases c : w ≤ i
    · rw [if_pos c]
      exact ⟨M, rfl, pOn_r, fun k k1 k2 => by omega⟩
    · rw [if_neg c]
      obtain ⟨N, y1, y2, y3⟩ := ih (i + 1) (vu M 126 (p + 2 + i).toNat (M.1 131 (f + i).toNat)) (by omega) (by omega) (by omega)
      refine ⟨N, y1, ⟨fun b k hk => ?_, y2.2⟩, fun k k1 k2 => ?_⟩
      · rw [y2.1 b k (fun z => hk (by omega))]
        exact vu_n (fun z => hk (by omega))
      · by_cases z : (k : Int) = i
        · rw [y2.1 126 (p.toNat + 2 + k) (by omega)]
          refine (vu_e (by omega)).trans ?_
          rw [show (f + i).toNat = f.toNat + k from by omega]
        · rw [y3 k (by omega) k2]
          exact vu_n (by omega)
theorem tp_c {X M X2 M2 : jW} (x1 : X2.1 68 1 = X.1 68 1) (x9 : X2.1 69 = X.1 69) (m8 : M2.1 125 8 = M.1 125 8) (mb : M2.1 131 = M.1 131) (h : pTp X M) : pTp X2 M2 := by
  refine ⟨by rw [x1, m8]; exact h.1, by rw [m8]; exact h.2.1, fun i hi => ?_⟩
  rw [x9, mb]
  exact h.2.2 i hi
theorem tk_c {X M X2 M2 : jW} (x8 : X2.1 68 = X.1 68) (x9 : X2.1 69 = X.1 69) (m5 : M2.1 125 = M.1 125) (mb : M2.1 131 = M.1 131) (ml : M2.2.1 125 12 = M.2.1 125 12) (h : pTk X M) : pTk X2 M2 := by
  obtain ⟨h, e3, e4, e5, bb, kd⟩ := h
  refine ⟨tp_c (by rw [x8]) x9 (by rw [m5]) mb h, ?_, ?_, ?_, ?_, ?_⟩
  · rw [x8, m5]; exact e3
  · rw [x8, m5]; exact e4
  · rw [x8, m5]; exact e5
  · rw [m5]; exact bb
  · rw [m5, mb, ml]; exact kd
theorem pOn_c {c : Nat} {lo hi : Int} {X Y : jW} (h : pOn c lo hi X Y) {b : Nat} (e : b ≠ c) : Y.1 b = X.1 b := funext fun k => h.1 b k (fun z => e z.1)
theorem n172 {a l : Int} {V : jW} : d_X5_readName_r70d_172 a l V = (1, vu V 71 (a + 1).toNat (if l = 0 then 0 else 1)) := by
  unfold d_X5_readName_r70d_172
  by_cases c : l = 0
  · rw [if_pos c, if_pos c]
    rfl
  · rw [if_neg c, if_neg c]
    rfl
theorem n160 {p l t : Int} {V : jW} : d_X12_readName_r125d_160 p l t V = vu V 126 (p + 1).toNat (if t = 0 ∧ l = 0 then 0 else 1) := by
  unfold d_X12_readName_r125d_160
  by_cases c : t = 0
  · rw [if_pos c]
    by_cases d : l = 0
    · rw [if_pos d, if_pos ⟨c, d⟩]
      rfl
    · rw [if_neg d, if_neg (fun z => d z.2)]
      rfl
  · rw [if_neg c, if_neg (fun z => c z.1)]
    rfl
def rnO (x : Int × jW) (m : jW) (b q : Nat) : Prop := (x.1 = 0 ∧ m.1 125 14 = 1 ∧ x.2.1 68 2 = m.1 125 13 ∧ pTp x.2 m) ∨ (x.1 = 1 ∧ pPs x.2 m b (q + 1))
/-- the end of a NAME that is told: V, U behind the letters and the steps -/
theorem rn_f {X M V U Y : jW} {b q : Nat} {a p w fl : Int} (P : pPs X M b q) (hq : q < 6) (ha : a = 14 * (q : Int)) (hp : p = (b : Int) + 14 * (q : Int)) (hw : 0 ≤ w ∧ w ≤ 12) (k : pTk V U) (u14 : U.1 125 14 = 0) (u13 : V.1 68 2 = U.1 125 13) (v71 : V.1 71 = Y.1 71) (y1 : ∀ j : Nat, ¬ (a + 2 ≤ (j : Int) ∧ (j : Int) < a + 2 + w) → j ≠ a.toNat → Y.1 71 j = X.1 71 j) (y2 : Y.1 71 a.toNat = w) (y3 : ∀ i : Nat, (i : Int) < w → Y.1 71 (a.toNat + 2 + i) = U.1 126 (p.toNat + 2 + i)) (u1 : ∀ j : Nat, ¬ (p + 2 ≤ (j : Int) ∧ (j : Int) < p + 2 + w) → j ≠ p.toNat → j ≠ (p + 1).toNat → U.1 126 j = M.1 126 j) (u2 : U.1 126 p.toNat = w) : pPs (vu V 71 (a + 1).toNat fl) (vu U 126 (p + 1).toNat fl) b (q + 1) := by
  have p3 := P.2.2.2
  refine ⟨tk_c (vu_c (by decide)) (vu_c (by decide)) (vu_c (by decide)) (vu_c (by decide)) rfl k, (vu_n (by omega)).trans u14, (vu_n (by omega)).trans (u13.trans (vu_n (by omega)).symm), fun j hj => ?_⟩
  by_cases c1 : j = 14 * q + 1
  · rw [vu_e (a := 71) (show j = (a + 1).toNat from by omega), vu_e (a := 126) (show b + j = (p + 1).toNat from by omega)]
    exact ⟨rfl, fun z => by omega⟩
  · rw [vu_n (a := 71) (by omega), vu_n (a := 126) (by omega), v71]
    by_cases c0 : j = 14 * q
    · rw [show j = a.toNat from by omega, y2, show b + a.toNat = p.toNat from by omega, u2]
      exact ⟨rfl, fun z => by omega⟩
    · by_cases c2 : 14 * q + 2 ≤ j ∧ (j : Int) < 14 * q + 2 + w
      · have z := y3 (j - 14 * q - 2) (by omega)
        rw [show a.toNat + 2 + (j - 14 * q - 2) = j from by omega, show p.toNat + 2 + (j - 14 * q - 2) = b + j from by omega] at z
        exact ⟨z, fun z => by omega⟩
      · rw [y1 j (by omega) (by omega), u1 (b + j) (by omega) (by omega) (by omega)]
        exact ⟨(p3 j hj).1, fun z => (p3 j hj).2 (by omega)⟩
theorem rn {X M : jW} {b q : Nat} {a p : Int} (P : pPs X M b q) (hq : q < 6) (ha : a = 14 * (q : Int)) (hp : p = (b : Int) + 14 * (q : Int)) : rnO (d_X5_readName_r70d a X) (d_X12_readName_r125d p M) b q := by
  obtain ⟨k, p1, p2, p3⟩ := id P
  obtain ⟨h, e3, e4, e5, bb, kd⟩ := id k
  have n1 := h.1
  have n2 := h.2.1
  have sg := @sg_e X M k 63
  -- M with the two zeros
  have m5 : (vu (vu M 126 p.toNat 0) 126 (p + 1).toNat 0).1 125 = M.1 125 := (vu_c (by decide)).trans (vu_c (by decide))
  have mb : (vu (vu M 126 p.toNat 0) 126 (p + 1).toNat 0).1 131 = M.1 131 := (vu_c (by decide)).trans (vu_c (by decide))
  have k' : pTk X (vu (vu M 126 p.toNat 0) 126 (p + 1).toNat 0) := tk_c rfl rfl m5 mb rfl k
  have dx9 : ∀ j : Nat, j < 84 → X.1 71 j = (vu (vu M 126 p.toNat 0) 126 (p + 1).toNat 0).1 126 (b + j) ∧ (14 * q ≤ j → (vu (vu M 126 p.toNat 0) 126 (p + 1).toNat 0).1 126 (b + j) = 0) := by
    intro j hj
    have z := p3 j hj
    by_cases c1 : b + j = (p + 1).toNat
    · rw [vu_e c1]
      exact ⟨z.1.trans (z.2 (by omega)), fun _ => rfl⟩
    · by_cases c0 : b + j = p.toNat
      · rw [vu_n (by omega), vu_e c0]
        exact ⟨z.1.trans (z.2 (by omega)), fun _ => rfl⟩
      · rw [vu_n (by omega), vu_n (by omega)]
        exact z
  have d1 : ∀ j : Nat, j < 84 → X.1 71 j = (vu (vu M 126 p.toNat 0) 126 (p + 1).toNat 0).1 126 (b + j) ∧ (14 * (q + 1) ≤ j → (vu (vu M 126 p.toNat 0) 126 (p + 1).toNat 0).1 126 (b + j) = 0) := fun j hj => ⟨(dx9 j hj).1, fun z => (dx9 j hj).2 (by omega)⟩
  have P1 : pPs X (vu (vu M 126 p.toNat 0) 126 (p + 1).toNat 0) b (q + 1) := ⟨k', by rw [m5]; exact p1, by rw [m5]; exact p2, d1⟩
  -- what is no NAME
  have bad : (∀ l : Int, d_X12_readName_r125d_89 p (M.1 125 10 - M.1 125 9) (M.1 125 9) l (vu (vu M 126 p.toNat 0) 126 (p + 1).toNat 0) = vu (vu (vu (vu M 126 p.toNat 0) 126 (p + 1).toNat 0) 125 14 1) 125 13 (M.1 125 9)) ∧ rnO (d_X5_readName_r70d_73 X) (vu (vu (vu (vu M 126 p.toNat 0) 126 (p + 1).toNat 0) 125 14 1) 125 13 (M.1 125 9)) b q := by
    constructor
    · intro l
      unfold d_X12_readName_r125d_89 d_X12_readName_r125d_200090
      rw [m5, if_pos p1]
    · refine Or.inl ⟨rfl, ?_, ?_, ?_⟩
      · rw [vu_n (by omega)]
        exact vu_e rfl
      · show (vu X 68 2 (X.1 68 3)).1 68 2 = _
        rw [vu_e rfl, e3]
        exact (vu_e rfl).symm
      · exact pTp_x (pTp_m (pTp_m k'.1 (by decide)) (by decide)) (by decide)
  unfold d_X5_readName_r70d d_X12_readName_r125d
  rcases kd with kd | kd | kd | kd
  · -- the end
    rw [if_pos (show X.1 68 5 = 0 from by omega), if_neg (show ¬ M.1 125 11 = 3 from by omega), if_pos kd.1]
    refine Or.inr ⟨rfl, ?_⟩
    obtain ⟨f1, f2, f3, f4, f5⟩ := nx_f (vu (vu M 126 p.toNat 0) 126 (p + 1).toNat 0)
    refine ⟨tk_z k' (by rw [m5]; exact kd.1), ?_, ?_, fun j hj => ?_⟩
    · show (d_X12_next_r125d _).1 125 14 = 0
      rw [f5, m5]; exact p1
    · show _ = (d_X12_next_r125d _).1 125 13
      rw [f4, m5]; exact p2
    · show _ = (d_X12_next_r125d _).1 126 _ ∧ (_ → (d_X12_next_r125d _).1 126 _ = 0)
      rw [f1]
      exact d1 j hj
  · -- a sign
    rw [if_neg (show ¬ X.1 68 5 = 0 from by omega), if_pos kd.1]
    by_cases c : M.2.1 125 12 = 63
    · rw [if_pos ⟨kd.1, c⟩] at sg
      rw [sg, if_neg (show ¬ (1 : Int) = 0 from by decide), if_pos (show (vu (vu M 126 p.toNat 0) 126 (p + 1).toNat 0).2.1 125 12 = 63 from c)]
      exact Or.inr ⟨rfl, ps_n P1⟩
    · rw [if_neg (fun z => c z.2)] at sg
      rw [sg, if_pos (c := (0 : Int) = 0) rfl, if_neg (show ¬ X.1 68 5 = 1 from by omega), if_neg (show ¬ (vu (vu M 126 p.toNat 0) 126 (p + 1).toNat 0).2.1 125 12 = 63 from c)]
      unfold d_X12_readName_r125d_300068 d_X12_readName_r125d_200068
      rw [m5, if_neg (show ¬ M.1 125 11 = 1 from by omega), if_neg (show ¬ M.1 125 11 = 1 from by omega), bad.1, bad.1]
      by_cases g : M.1 125 10 = M.1 125 8
      · rw [if_pos g]; exact bad.2
      · rw [if_neg g]; exact bad.2
  · -- a word
    rw [if_neg (show ¬ (M.1 125 11 = 3 ∧ M.2.1 125 12 = 63) from by omega)] at sg
    rw [if_neg (show ¬ X.1 68 5 = 0 from by omega), if_neg (show ¬ M.1 125 11 = 3 from by omega), if_neg (show ¬ M.1 125 11 = 0 from by omega), sg, if_pos (c := (0 : Int) = 0) rfl, if_pos (show X.1 68 5 = 1 from by omega)]
    unfold d_X12_readName_r125d_300068 d_X12_readName_r125d_200068
    rw [m5, if_pos kd.1, if_pos kd.1, bad.1, bad.1]
    by_cases c : 12 < M.1 125 10 - M.1 125 9
    · rw [if_pos (show 12 < X.1 68 4 - X.1 68 3 from by omega), if_pos c, if_pos c]
      by_cases g : M.1 125 10 = M.1 125 8
      · rw [if_pos g]; exact bad.2
      · rw [if_neg g]; exact bad.2
    · rw [if_neg (show ¬ 12 < X.1 68 4 - X.1 68 3 from by omega), if_neg c, if_neg c]
      unfold d_X12_readName_r125d_300090
      rw [m5, if_pos p1, if_pos p1]
      -- the class's letters
      have z4 : (vu X 71 (a + 0).toNat (X.1 68 4 - X.1 68 3)).1 68 = X.1 68 := vu_c (by decide)
      have z9 : (vu X 71 (a + 0).toNat (X.1 68 4 - X.1 68 3)).1 69 = X.1 69 := vu_c (by decide)
      obtain ⟨Y, y1, y2, y3⟩ := @nl_e a (X.1 68 4 - X.1 68 3) (by omega) 13 0 (vu X 71 (a + 0).toNat (X.1 68 4 - X.1 68 3)) (by omega) (by omega) (by omega) (by rw [z4]) (by rw [z4]; omega)
      have Y8 : Y.1 68 = X.1 68 := (pOn_c y2 (by decide)).trans z4
      have Y9 : Y.1 69 = X.1 69 := (pOn_c y2 (by decide)).trans z9
      -- the reference's letters
      obtain ⟨f1, f2, f3, f4, f5⟩ := nx_f (vu (vu M 126 p.toNat 0) 126 (p + 1).toNat 0)
      have fin : ∀ l : Int, (l = if M.1 125 10 = M.1 125 8 then 1 else 0) → rnO (d_X5_readName_r70d_92 13 a (X.1 68 4 - X.1 68 3) 0 (vu X 71 (a + 0).toNat (X.1 68 4 - X.1 68 3))) (d_X12_readName_r125d_111 13 p (M.1 125 10 - M.1 125 9) (M.1 125 9) l 0 (vu (d_X12_next_r125d (vu (vu M 126 p.toNat 0) 126 (p + 1).toNat 0)) 126 p.toNat (M.1 125 10 - M.1 125 9))) b q := by
        intro l hl
        obtain ⟨N, g1, g2, g3⟩ := @ml_e p (M.1 125 10 - M.1 125 9) (M.1 125 9) l (by omega) bb.1 13 0 (vu (d_X12_next_r125d (vu (vu M 126 p.toNat 0) 126 (p + 1).toNat 0)) 126 p.toNat (M.1 125 10 - M.1 125 9)) (by omega) (by omega) (by omega)
        have N5 : N.1 125 = (d_X12_next_r125d (vu (vu M 126 p.toNat 0) 126 (p + 1).toNat 0)).1 125 := (pOn_c g2 (by decide)).trans (vu_c (by decide))
        have Nb : N.1 131 = (d_X12_next_r125d (vu (vu M 126 p.toNat 0) 126 (p + 1).toNat 0)).1 131 := (pOn_c g2 (by decide)).trans (vu_c (by decide))
        have Nl : N.2.1 125 12 = (d_X12_next_r125d (vu (vu M 126 p.toNat 0) 126 (p + 1).toNat 0)).2.1 125 12 := by rw [g2.2]; rfl
        -- tokens behind the word
        have kY : pTk (d_X9_step_r68d Y) N := by
          refine tk_c rfl rfl N5 Nb Nl (tk_n (M := vu (vu M 126 p.toNat 0) 126 (p + 1).toNat 0) (tp_c (by rw [Y8]) Y9 rfl rfl k'.1) ?_ ?_ ?_)
          · rw [Y8, m5]; exact e4
          · rw [m5]; omega
          · rw [m5]; exact bb.2.2
        have N13 : N.1 125 13 = M.1 125 13 := by rw [N5, f4, m5]
        have N14 : N.1 125 14 = M.1 125 14 := by rw [N5, f5, m5]
        obtain ⟨s1, s2, s3, s4⟩ := st_f Y
        have sY := @sg_e (d_X9_step_r68d Y) N kY 45
        -- what stands where
        have c1 : ∀ j : Nat, ¬ (a + 2 ≤ (j : Int) ∧ (j : Int) < a + 2 + (X.1 68 4 - X.1 68 3)) → j ≠ a.toNat → Y.1 71 j = X.1 71 j := fun j j1 j2 => (y2.1 71 j (by omega)).trans (vu_n (by omega))
        have c2 : Y.1 71 a.toNat = X.1 68 4 - X.1 68 3 := (y2.1 71 a.toNat (by omega)).trans (vu_e (by omega))
        have c4 : ∀ j : Nat, ¬ (p + 2 ≤ (j : Int) ∧ (j : Int) < p + 2 + (X.1 68 4 - X.1 68 3)) → j ≠ p.toNat → j ≠ (p + 1).toNat → N.1 126 j = M.1 126 j := fun j j1 j2 j3 => by
          rw [g2.1 126 j (by omega), vu_n (by omega), f1, vu_n (by omega), vu_n (by omega)]
        have c5 : N.1 126 p.toNat = X.1 68 4 - X.1 68 3 := by
          rw [g2.1 126 p.toNat (by omega), vu_e rfl]
          omega
        have c3 : ∀ i : Nat, (i : Int) < X.1 68 4 - X.1 68 3 → Y.1 71 (a.toNat + 2 + i) = N.1 126 (p.toNat + 2 + i) := by
          intro i hi
          rw [y3 i (by omega) hi, g3 i (by omega) (by omega), z4, z9, vu_c (by decide), f2, mb, e3]
          exact h.2.2 _ (by omega)
        have go : ∀ (V U : jW) (fl : Int), pTk V U → U.1 125 14 = 0 → V.1 68 2 = U.1 125 13 → V.1 71 = Y.1 71 → U.1 126 = N.1 126 → rnO (1, vu V 71 (a + 1).toNat fl) (vu U 126 (p + 1).toNat fl) b q := by
          intro V U fl q1 q2 q3 q4 q5
          refine Or.inr ⟨rfl, rn_f (Y := Y) (w := X.1 68 4 - X.1 68 3) P hq ha hp (by omega) q1 q2 q3 q4 c1 c2 ?_ ?_ ?_⟩
          · rw [q5]; exact c3
          · rw [q5]; exact c4
          · rw [q5]; exact c5
        rw [y1, g1]
        unfold d_X5_readName_r70d_300143 d_X5_readName_r70d_200143
        rw [n172, n172, n172, n160, n160]
        have y45 : Y.1 68 4 = M.1 125 10 := by rw [Y8]; exact e4
        have y41 : Y.1 68 1 = M.1 125 8 := by rw [Y8]; exact n1
        rw [y45, y41]
        by_cases t3 : N.1 125 11 = 3 ∧ N.2.1 125 12 = 45
        · rw [if_pos t3] at sY
          rw [sY, if_neg (c := (1 : Int) = 0) (by decide), if_neg (c := (1 : Int) = 0) (by decide), if_neg (c := (1 : Int) = 0) (by decide), if_pos t3.1, if_pos t3.2]
          obtain ⟨r1, r2, r3, r4⟩ := st_f (d_X9_step_r68d Y)
          obtain ⟨u1, u2, u3, u4, u5⟩ := nx_f N
          have kk := tk_n kY.1 kY.2.2.1 (by have := kY.2.2.2.2.1; omega) kY.2.2.2.2.1.2.2
          rw [if_neg (c := (1 : Int) = 0 ∧ l = 0) (by omega)]
          have e := go (d_X9_step_r68d (d_X9_step_r68d Y)) (d_X12_next_r125d N) 1 kk (by rw [u5, N14]; exact p1) (by rw [r4, s4, u4, N13, Y8]; exact p2) (by rw [r1, s1]) u1
          by_cases g : M.1 125 10 = M.1 125 8
          · rw [if_pos g]; exact e
          · rw [if_neg g]; exact e
        · have e0 : (if N.1 125 11 = 3 then (if N.2.1 125 12 = 45 then vu (d_X12_next_r125d N) 126 (p + 1).toNat (if (1 : Int) = 0 ∧ l = 0 then 0 else 1) else vu N 126 (p + 1).toNat (if (0 : Int) = 0 ∧ l = 0 then 0 else 1)) else vu N 126 (p + 1).toNat (if (0 : Int) = 0 ∧ l = 0 then 0 else 1)) = vu N 126 (p + 1).toNat (if (0 : Int) = 0 ∧ l = 0 then 0 else 1) := by
            by_cases t1 : N.1 125 11 = 3
            · rw [if_pos t1, if_neg (fun z => t3 ⟨t1, z⟩)]
            · rw [if_neg t1]
          rw [if_neg t3] at sY
          rw [e0, sY, if_pos (c := (0 : Int) = 0) rfl, if_pos (c := (0 : Int) = 0) rfl]
          have e := fun fl => go (d_X9_step_r68d Y) N fl kY (by rw [N14]; exact p1) (by rw [s4, N13, Y8]; exact p2) s1 rfl
          by_cases g : M.1 125 10 = M.1 125 8
          · rw [if_pos g] at hl ⊢
            rw [hl, if_neg (c := (1 : Int) = 0) (by decide), if_neg (by omega)]
            exact e 1
          · rw [if_neg g] at hl ⊢
            rw [hl, if_pos (c := (0 : Int) = 0) rfl, if_pos ⟨rfl, rfl⟩]
            exact e 0
      by_cases g : M.1 125 10 = M.1 125 8
      · rw [if_pos g]
        exact fin 1 (by rw [if_pos g])
      · rw [if_neg g]
        exact fin 0 (by rw [if_neg g])
  · -- digits
    rw [if_neg (show ¬ (M.1 125 11 = 3 ∧ M.2.1 125 12 = 63) from by omega)] at sg
    rw [if_neg (show ¬ X.1 68 5 = 0 from by omega), if_neg (show ¬ M.1 125 11 = 3 from by omega), if_neg (show ¬ M.1 125 11 = 0 from by omega), sg, if_pos (c := (0 : Int) = 0) rfl, if_neg (show ¬ X.1 68 5 = 1 from by omega)]
    unfold d_X12_readName_r125d_300068 d_X12_readName_r125d_200068
    rw [m5, if_neg (show ¬ M.1 125 11 = 1 from by omega), if_neg (show ¬ M.1 125 11 = 1 from by omega), bad.1, bad.1]
    by_cases g : M.1 125 10 = M.1 125 8
    · rw [if_pos g]; exact bad.2
    · rw [if_neg g]; exact bad.2
end jG9

section jG10
/-! pure: a LINE's roles, read on both sides -/
theorem rn_o {M : jW} {p : Int} (hp : 0 ≤ p) (bb : 0 ≤ M.1 125 9 ∧ M.1 125 9 ≤ M.1 125 10) {j : Nat} (hj : (j : Int) < p ∨ p + 14 ≤ (j : Int)) : (d_X12_readName_r125d p M).1 126 j = M.1 126 j := by
  have z : (vu (vu M 126 p.toNat 0) 126 (p + 1).toNat 0).1 126 j = M.1 126 j := by rw [vu_n (by omega), vu_n (by omega)]
  have nx : ∀ V : jW, (d_X12_next_r125d V).1 126 = V.1 126 := fun V => (nx_f V).1
  have b9 : ∀ l : Int, (d_X12_readName_r125d_89 p (M.1 125 10 - M.1 125 9) (M.1 125 9) l (vu (vu M 126 p.toNat 0) 126 (p + 1).toNat 0)).1 126 j = M.1 126 j := by
    intro l
    unfold d_X12_readName_r125d_89 d_X12_readName_r125d_200090
    split
    · rw [vu_c (by decide), vu_c (by decide)]; exact z
    · exact z
  have b0 : ∀ (l t : Int) (V : jW), V.1 126 j = M.1 126 j → (d_X12_readName_r125d_160 p l t V).1 126 j = M.1 126 j := by
    intro l t V hV
    rw [n160, vu_n (by omega)]
    exact hV
  have b3 : ∀ l : Int, M.1 125 10 - M.1 125 9 ≤ 12 → (d_X12_readName_r125d_300090 p (M.1 125 10 - M.1 125 9) (M.1 125 9) l (vu (vu M 126 p.toNat 0) 126 (p + 1).toNat 0)).1 126 j = M.1 126 j := by
    intro l hw
    unfold d_X12_readName_r125d_300090
    split
    · obtain ⟨N, g1, g2, g3⟩ := @ml_e p (M.1 125 10 - M.1 125 9) (M.1 125 9) l hp bb.1 13 0 (vu (d_X12_next_r125d (vu (vu M 126 p.toNat 0) 126 (p + 1).toNat 0)) 126 p.toNat (M.1 125 10 - M.1 125 9)) (by omega) (by omega) (by omega)
      have hN : N.1 126 j = M.1 126 j := by rw [g2.1 126 j (by omega), vu_n (by omega), nx]; exact z
      rw [g1]
      repeat' split
      · exact b0 _ _ _ (by rw [nx]; exact hN)
      · exact b0 _ _ _ hN
      · exact b0 _ _ _ hN
    · exact z
  have b32 : (d_X12_readName_r125d_32 (vu (vu M 126 p.toNat 0) 126 (p + 1).toNat 0)).1 126 j = M.1 126 j := by
    unfold d_X12_readName_r125d_32
    rw [nx]
    exact z
  have c3 : (d_X12_readName_r125d_300068 p (M.1 125 10 - M.1 125 9) (M.1 125 9) (vu (vu M 126 p.toNat 0) 126 (p + 1).toNat 0)).1 126 j = M.1 126 j := by
    unfold d_X12_readName_r125d_300068
    by_cases c : 12 < M.1 125 10 - M.1 125 9
    · rw [if_pos c]
      split
      · exact b9 _
      · exact b9 _
    · rw [if_neg c]
      split
      · exact b3 _ (by omega)
      · exact b9 _
  have c2 : (d_X12_readName_r125d_200068 p (M.1 125 10 - M.1 125 9) (M.1 125 9) (vu (vu M 126 p.toNat 0) 126 (p + 1).toNat 0)).1 126 j = M.1 126 j := by
    unfold d_X12_readName_r125d_200068
    by_cases c : 12 < M.1 125 10 - M.1 125 9
    · rw [if_pos c]
      split
      · exact b9 _
      · exact b9 _
    · rw [if_neg c]
      split
      · exact b3 _ (by omega)
      · exact b9 _
  unfold d_X12_readName_r125d
  repeat' split
  all_goals first
    | exact b32
    | exact c3
    | exact c2
def tlX (r : Nat) (l1 l2 : Int) (T : jW) : Int × jW := if T.1 68 5 = 0 then (1, T) else if d_X9_isSign_r68d 46 T = 0 then (if d_X9_isSign_r68d 44 T = 0 then d_X5_readLine_r70d_113 T else if l2 + 1 < l1 then d_X5_readLine_r70d_50 r l1 (l2 + 1) (d_X9_step_r68d T) else d_X5_readLine_r70d_113 T) else if (d_X9_step_r68d T).1 68 5 = 0 then (0, d_X9_step_r68d T) else (-1, vu (d_X9_step_r68d T) 68 2 ((d_X9_step_r68d T).1 68 3))
theorem rl_s {r : Nat} {l1 l2 : Int} {X : jW} : d_X5_readLine_r70d_50 (r + 1) l1 l2 X = if l1 ≤ l2 then (-1, X) else if (d_X5_readName_r70d (l2 * 2 * 14) X).1 = 0 then (-1, (d_X5_readName_r70d (l2 * 2 * 14) X).2) else if d_X9_isSign_r68d 63 X = 0 then (if (d_X5_readName_r70d ((l2 * 2 + 1) * 14) (d_X5_readName_r70d (l2 * 2 * 14) X).2).1 = 0 then (-1, (d_X5_readName_r70d ((l2 * 2 + 1) * 14) (d_X5_readName_r70d (l2 * 2 * 14) X).2).2) else tlX r l1 l2 (d_X5_readName_r70d ((l2 * 2 + 1) * 14) (d_X5_readName_r70d (l2 * 2 * 14) X).2).2) else if d_X9_isSign_r68d 44 (d_X5_readName_r70d (l2 * 2 * 14) X).2 = 0 then (if d_X9_isSign_r68d 46 (d_X5_readName_r70d (l2 * 2 * 14) X).2 = 0 then (if (d_X5_readName_r70d ((l2 * 2 + 1) * 14) (d_X5_readName_r70d (l2 * 2 * 14) X).2).1 = 0 then (-1, (d_X5_readName_r70d ((l2 * 2 + 1) * 14) (d_X5_readName_r70d (l2 * 2 * 14) X).2).2) else tlX r l1 l2 (d_X5_readName_r70d ((l2 * 2 + 1) * 14) (d_X5_readName_r70d (l2 * 2 * 14) X).2).2) else tlX r l1 l2 (d_X5_readName_r70d (l2 * 2 * 14) X).2) else tlX r l1 l2 (d_X5_readName_r70d (l2 * 2 * 14) X).2 := rfl
section
variable {a1 a2 a3 a4 a5 l7 l8 : Int}
def tlM (r : Nat) (a1 a2 a3 a4 a5 l7 l8 l9 : Int) (T : jW) : Int × jW := if T.1 125 11 = 3 then (if T.2.1 125 12 = 44 then d_X12_line_r125d_300222 (fun l1 l2 l3 l4 l5 l7 l8 l9 l10 W => d_X12_line_r125d_171 r l1 l2 l3 l4 l5 l7 l8 l9 l10 W) a1 a2 a3 a4 a5 l7 l8 l9 T else d_X12_line_r125d_171 r a1 a2 a3 a4 a5 l7 l8 l9 0 T) else d_X12_line_r125d_171 r a1 a2 a3 a4 a5 l7 l8 l9 0 T
def bN2 (r : Nat) (a1 a2 a3 a4 a5 l7 l8 l9 : Int) (T : jW) : Int × jW := if T.1 125 14 = 0 then tlM r a1 a2 a3 a4 a5 l7 l8 l9 T else d_X12_line_r125d_171 r a1 a2 a3 a4 a5 l7 l8 l9 0 T
theorem lm_s {r : Nat} {l9 l10 : Int} {W : jW} : d_X12_line_r125d_171 (r + 1) a1 a2 a3 a4 a5 l7 l8 l9 l10 W = if l10 = 0 then d_X12_line_r125d_250 a1 a2 a3 a4 a5 l7 l8 W else if W.1 125 14 = 0 then (if W.1 125 11 = 3 then (if W.2.1 125 12 = 63 then (if (d_X12_readName_r125d (l8 + 6 + 28 * l9) W).1 125 14 = 0 then (if (d_X12_readName_r125d (l8 + 6 + 28 * l9) W).1 125 11 = 3 then (if (d_X12_readName_r125d (l8 + 6 + 28 * l9) W).2.1 125 12 = 44 then (if (d_X12_readName_r125d (l8 + 6 + 28 * l9) W).2.1 125 12 = 44 then d_X12_line_r125d_300222 (fun l1 l2 l3 l4 l5 l7 l8 l9 l10 W => d_X12_line_r125d_171 r l1 l2 l3 l4 l5 l7 l8 l9 l10 W) a1 a2 a3 a4 a5 l7 l8 (l9 + 1) (vu (vu (d_X12_readName_r125d (l8 + 6 + 28 * l9) W) 126 (l8 + 6 + 28 * l9 + 14).toNat 0) 126 (l8 + 6 + 28 * l9 + 15).toNat 0) else d_X12_line_r125d_171 r a1 a2 a3 a4 a5 l7 l8 (l9 + 1) 0 (vu (vu (d_X12_readName_r125d (l8 + 6 + 28 * l9) W) 126 (l8 + 6 + 28 * l9 + 14).toNat 0) 126 (l8 + 6 + 28 * l9 + 15).toNat 0)) else if (d_X12_readName_r125d (l8 + 6 + 28 * l9) W).2.1 125 12 = 46 then (if (d_X12_readName_r125d (l8 + 6 + 28 * l9) W).2.1 125 12 = 44 then d_X12_line_r125d_300222 (fun l1 l2 l3 l4 l5 l7 l8 l9 l10 W => d_X12_line_r125d_171 r l1 l2 l3 l4 l5 l7 l8 l9 l10 W) a1 a2 a3 a4 a5 l7 l8 (l9 + 1) (vu (vu (d_X12_readName_r125d (l8 + 6 + 28 * l9) W) 126 (l8 + 6 + 28 * l9 + 14).toNat 0) 126 (l8 + 6 + 28 * l9 + 15).toNat 0) else d_X12_line_r125d_171 r a1 a2 a3 a4 a5 l7 l8 (l9 + 1) 0 (vu (vu (d_X12_readName_r125d (l8 + 6 + 28 * l9) W) 126 (l8 + 6 + 28 * l9 + 14).toNat 0) 126 (l8 + 6 + 28 * l9 + 15).toNat 0)) else bN2 r a1 a2 a3 a4 a5 l7 l8 (l9 + 1) (d_X12_readName_r125d (l8 + 6 + 28 * l9 + 14) (d_X12_readName_r125d (l8 + 6 + 28 * l9) W))) else if (d_X12_readName_r125d (l8 + 6 + 28 * l9) W).1 125 11 = 0 then d_X12_line_r125d_171 r a1 a2 a3 a4 a5 l7 l8 (l9 + 1) 0 (vu (vu (d_X12_readName_r125d (l8 + 6 + 28 * l9) W) 126 (l8 + 6 + 28 * l9 + 14).toNat 0) 126 (l8 + 6 + 28 * l9 + 15).toNat 0) else bN2 r a1 a2 a3 a4 a5 l7 l8 (l9 + 1) (d_X12_readName_r125d (l8 + 6 + 28 * l9 + 14) (d_X12_readName_r125d (l8 + 6 + 28 * l9) W))) else d_X12_line_r125d_171 r a1 a2 a3 a4 a5 l7 l8 (l9 + 1) 0 (d_X12_readName_r125d (l8 + 6 + 28 * l9) W)) else (if (d_X12_readName_r125d (l8 + 6 + 28 * l9) W).1 125 14 = 0 then bN2 r a1 a2 a3 a4 a5 l7 l8 (l9 + 1) (d_X12_readName_r125d (l8 + 6 + 28 * l9 + 14) (d_X12_readName_r125d (l8 + 6 + 28 * l9) W)) else d_X12_line_r125d_171 r a1 a2 a3 a4 a5 l7 l8 (l9 + 1) 0 (d_X12_readName_r125d (l8 + 6 + 28 * l9) W))) else (if (d_X12_readName_r125d (l8 + 6 + 28 * l9) W).1 125 14 = 0 then bN2 r a1 a2 a3 a4 a5 l7 l8 (l9 + 1) (d_X12_readName_r125d (l8 + 6 + 28 * l9 + 14) (d_X12_readName_r125d (l8 + 6 + 28 * l9) W)) else d_X12_line_r125d_171 r a1 a2 a3 a4 a5 l7 l8 (l9 + 1) 0 (d_X12_readName_r125d (l8 + 6 + 28 * l9) W))) else d_X12_line_r125d_250 a1 a2 a3 a4 a5 l7 l8 W := rfl
end
section
variable {a1 a2 a3 a4 a5 l7 l8 : Int}
def rlO (a1 a2 a3 a4 a5 l7 l8 : Int) (x m : Int × jW) (b : Nat) (M0 : jW) : Prop := ∃ T : jW, (∀ j : Nat, (j < b ∨ b + 84 ≤ j) → T.1 126 j = M0.1 126 j) ∧ ((x.1 = -1 ∧ T.1 125 14 = 1 ∧ x.2.1 68 2 = T.1 125 13 ∧ pTp x.2 T ∧ m = d_X12_told_r125d (-6) (vu T 125 8 0)) ∨ ((x.1 = 0 ∨ x.1 = 1) ∧ T.1 125 14 = 0 ∧ x.2.1 68 2 = T.1 125 13 ∧ pTp x.2 T ∧ (∀ j : Nat, j < 84 → x.2.1 71 j = T.1 126 (b + j)) ∧ m = d_X12_line_r125d_305 a1 a2 a3 a4 a5 l7 l8 (1 - x.1) T))
theorem l305_b {l : Int} {T : jW} (h : T.1 125 14 = 1) : d_X12_line_r125d_305 a1 a2 a3 a4 a5 l7 l8 l T = d_X12_told_r125d (-6) (vu T 125 8 0) := by
  unfold d_X12_line_r125d_305
  rw [if_neg (by omega)]
theorem l250_b {T : jW} (h : T.1 125 14 = 1) : d_X12_line_r125d_250 a1 a2 a3 a4 a5 l7 l8 T = d_X12_told_r125d (-6) (vu T 125 8 0) := by
  unfold d_X12_line_r125d_250
  rw [if_neg (by omega)]
  exact l305_b h
theorem l171_b {r : Nat} {l9 l10 : Int} {T : jW} (h : T.1 125 14 = 1) : d_X12_line_r125d_171 (r + 1) a1 a2 a3 a4 a5 l7 l8 l9 l10 T = d_X12_told_r125d (-6) (vu T 125 8 0) := by
  rw [lm_s]
  by_cases c : l10 = 0
  · rw [if_pos c]
    exact l250_b h
  · rw [if_neg c, if_neg (by omega)]
    exact l250_b h
theorem l171_0 {r : Nat} {l9 : Int} {T : jW} : d_X12_line_r125d_171 (r + 1) a1 a2 a3 a4 a5 l7 l8 l9 0 T = d_X12_line_r125d_250 a1 a2 a3 a4 a5 l7 l8 T := by
  rw [lm_s, if_pos rfl]
/-- the sign at which both sides stop -/
theorem bl {X M : jW} (k : pTk X M) : (vu X 68 2 (X.1 68 3)).1 68 2 = (vu (vu M 125 14 1) 125 13 (M.1 125 9)).1 125 13 ∧ pTp (vu X 68 2 (X.1 68 3)) (vu (vu M 125 14 1) 125 13 (M.1 125 9)) ∧ (vu (vu M 125 14 1) 125 13 (M.1 125 9)).1 125 14 = 1 ∧ (vu (vu M 125 14 1) 125 13 (M.1 125 9)).1 126 = M.1 126 := by
  refine ⟨?_, pTp_x (pTp_m (pTp_m k.1 (by decide)) (by decide)) (by decide), ?_, ?_⟩
  · rw [vu_e rfl, vu_e rfl]
    exact k.2.1
  · rw [vu_n (by omega)]
    exact vu_e rfl
  · rw [vu_c (by decide), vu_c (by decide)]
theorem tl_t {X M M0 : jW} {b q r : Nat} {l1 l2 : Int} (P : pPs X M b q) (out : ∀ j : Nat, (j < b ∨ b + 84 ≤ j) → M.1 126 j = M0.1 126 j) (hl1 : l1 = if a1 = 0 then 3 else if a1 = 1 then 2 else 1) (h2 : 0 ≤ l2) (IH : l2 + 1 < l1 → rlO a1 a2 a3 a4 a5 l7 l8 (d_X5_readLine_r70d_50 r l1 (l2 + 1) (d_X9_step_r68d X)) (d_X12_line_r125d_171 (r + 1) a1 a2 a3 a4 a5 l7 l8 (l2 + 1) 1 (d_X12_next_r125d M)) b (d_X12_next_r125d M)) : rlO a1 a2 a3 a4 a5 l7 l8 (tlX r l1 l2 X) (tlM (r + 1) a1 a2 a3 a4 a5 l7 l8 (l2 + 1) M) b M0 := by
  obtain ⟨k, p1, p2, p3⟩ := id P
  have s6 := @sg_e X M k 46
  have s4 := @sg_e X M k 44
  have e5 := k.2.2.2.1
  obtain ⟨b1, b2, b3, b4⟩ := bl k
  have bad : rlO a1 a2 a3 a4 a5 l7 l8 (d_X5_readLine_r70d_113 X) (d_X12_told_r125d (-6) (vu (vu (vu M 125 14 1) 125 13 (M.1 125 9)) 125 8 0)) b M0 := ⟨_, fun j hj => by rw [b4]; exact out j hj, Or.inl ⟨rfl, b3, b1, b2, rfl⟩⟩
  unfold tlX tlM
  rw [s6, s4]
  by_cases c0 : M.1 125 11 = 0
  · rw [if_pos (show X.1 68 5 = 0 from by omega), if_neg (show ¬ M.1 125 11 = 3 from by omega), l171_0]
    refine ⟨M, out, Or.inr ⟨Or.inr rfl, p1, p2, k.1, fun j hj => (p3 j hj).1, ?_⟩⟩
    unfold d_X12_line_r125d_250
    rw [if_pos p1, if_pos c0]
    rfl
  · rw [if_neg (show ¬ X.1 68 5 = 0 from by omega)]
    by_cases c3 : M.1 125 11 = 3
    · rw [if_pos c3]
      by_cases w4 : M.2.1 125 12 = 44
      · rw [if_neg (show ¬ (M.1 125 11 = 3 ∧ M.2.1 125 12 = 46) from by omega), if_pos (c := (0 : Int) = 0) rfl, if_pos (show M.1 125 11 = 3 ∧ M.2.1 125 12 = 44 from ⟨c3, w4⟩), if_neg (by decide), if_pos w4]
        have gb : d_X12_line_r125d_200244 (fun l1 l2 l3 l4 l5 l7 l8 l9 l10 W => d_X12_line_r125d_171 (r + 1) l1 l2 l3 l4 l5 l7 l8 l9 l10 W) a1 a2 a3 a4 a5 l7 l8 (l2 + 1) M = d_X12_told_r125d (-6) (vu (vu (vu M 125 14 1) 125 13 (M.1 125 9)) 125 8 0) := l171_b b3
        by_cases g : l2 + 1 < l1
        · have z : d_X12_line_r125d_300222 (fun l1 l2 l3 l4 l5 l7 l8 l9 l10 W => d_X12_line_r125d_171 (r + 1) l1 l2 l3 l4 l5 l7 l8 l9 l10 W) a1 a2 a3 a4 a5 l7 l8 (l2 + 1) M = d_X12_line_r125d_171 (r + 1) a1 a2 a3 a4 a5 l7 l8 (l2 + 1) 1 (d_X12_next_r125d M) := by
            unfold d_X12_line_r125d_300222
            by_cases d0 : a1 = 0
            · rw [if_pos d0] at hl1 ⊢
              rw [if_neg (by omega)]
              rfl
            · rw [if_neg d0] at hl1 ⊢
              by_cases d1 : a1 = 1
              · rw [if_pos d1] at hl1 ⊢
                rw [if_neg (by omega)]
                rfl
              · rw [if_neg d1] at hl1
                exfalso
                omega
          rw [if_pos g, z]
          obtain ⟨T, t1, t2⟩ := IH g
          exact ⟨T, fun j hj => (t1 j hj).trans (by rw [(nx_f M).1]; exact out j hj), t2⟩
        · have z : d_X12_line_r125d_300222 (fun l1 l2 l3 l4 l5 l7 l8 l9 l10 W => d_X12_line_r125d_171 (r + 1) l1 l2 l3 l4 l5 l7 l8 l9 l10 W) a1 a2 a3 a4 a5 l7 l8 (l2 + 1) M = d_X12_told_r125d (-6) (vu (vu (vu M 125 14 1) 125 13 (M.1 125 9)) 125 8 0) := by
            rw [← gb]
            unfold d_X12_line_r125d_300222
            by_cases d0 : a1 = 0
            · rw [if_pos d0] at hl1 ⊢
              rw [if_pos (by omega)]
            · rw [if_neg d0] at hl1 ⊢
              by_cases d1 : a1 = 1
              · rw [if_pos d1] at hl1 ⊢
                rw [if_pos (by omega)]
              · rw [if_neg d1]
          rw [if_neg g, z]
          exact bad
      · rw [if_neg w4, l171_0]
        unfold d_X12_line_r125d_250 d_X12_line_r125d_300269
        rw [if_pos p1, if_neg c0, if_pos c3]
        by_cases w6 : M.2.1 125 12 = 46
        · rw [if_pos w6, if_pos (show M.1 125 11 = 3 ∧ M.2.1 125 12 = 46 from ⟨c3, w6⟩), if_neg (by decide)]
          have P' := ps_n P
          obtain ⟨k', q1, q2, q3⟩ := id P'
          have o' : ∀ j : Nat, (j < b ∨ b + 84 ≤ j) → (d_X12_next_r125d M).1 126 j = M0.1 126 j := fun j hj => by rw [(nx_f M).1]; exact out j hj
          by_cases z : (d_X12_next_r125d M).1 125 11 = 0
          · rw [if_pos (show (d_X9_step_r68d X).1 68 5 = 0 from by rw [k'.2.2.2.1]; exact z), if_pos z]
            exact ⟨_, o', Or.inr ⟨Or.inl rfl, q1, q2, k'.1, fun j hj => (q3 j hj).1, rfl⟩⟩
          · rw [if_neg (show ¬ (d_X9_step_r68d X).1 68 5 = 0 from by rw [k'.2.2.2.1]; exact z), if_neg z]
            obtain ⟨d1, d2, d3, d4⟩ := bl k'
            exact ⟨_, fun j hj => by rw [d4]; exact o' j hj, Or.inl ⟨rfl, d3, d1, d2, l305_b d3⟩⟩
        · rw [if_neg w6, if_neg (show ¬ (M.1 125 11 = 3 ∧ M.2.1 125 12 = 46) from fun z => w6 z.2), if_pos (c := (0 : Int) = 0) rfl, if_neg (show ¬ (M.1 125 11 = 3 ∧ M.2.1 125 12 = 44) from fun z => w4 z.2), if_pos (c := (0 : Int) = 0) rfl, l305_b b3]
          exact bad
    · rw [if_neg c3, if_neg (show ¬ (M.1 125 11 = 3 ∧ M.2.1 125 12 = 46) from fun z => c3 z.1), if_pos (c := (0 : Int) = 0) rfl, if_neg (show ¬ (M.1 125 11 = 3 ∧ M.2.1 125 12 = 44) from fun z => c3 z.1), if_pos (c := (0 : Int) = 0) rfl, l171_0]
      unfold d_X12_line_r125d_250 d_X12_line_r125d_300269
      rw [if_pos p1, if_neg c0, if_neg c3, l305_b b3]
      exact bad
end
section
variable {a1 a2 a3 a4 a5 l7 l8 : Int}
theorem rl_e {b : Nat} {l1 : Int} (hl1 : l1 = if a1 = 0 then 3 else if a1 = 1 then 2 else 1) (h8 : l8 + 6 = (b : Int)) : ∀ (r l2 : Nat) (X M : jW), pPs X M b (2 * l2) → (l2 : Int) < l1 → l1 - (l2 : Int) ≤ (r : Int) → rlO a1 a2 a3 a4 a5 l7 l8 (d_X5_readLine_r70d_50 r l1 (l2 : Int) X) (d_X12_line_r125d_171 (r + 1) a1 a2 a3 a4 a5 l7 l8 (l2 : Int) 1 M) b M := by
  have h13 : l1 ≤ 3 := by
    rw [hl1]
    repeat' split
    all_goals omega
  intro r
  induction r with
  | zero => intros; exfalso; omega
  | succ r ih =>
    intro l2 X M P g1 g2
    obtain ⟨k, p1, p2, p3⟩ := id P
    have sg := @sg_e X M k 63
    have R1 := rn (a := (l2 : Int) * 2 * 14) (p := l8 + 6 + 28 * (l2 : Int)) P (by omega) (by omega) (by omega)
    have O1 : ∀ j : Nat, (j < b ∨ b + 84 ≤ j) → (d_X12_readName_r125d (l8 + 6 + 28 * (l2 : Int)) M).1 126 j = M.1 126 j := fun j hj => rn_o (by omega) ⟨k.2.2.2.2.1.1, k.2.2.2.2.1.2.1⟩ (by omega)
    rw [rl_s, lm_s, if_neg (show ¬ l1 ≤ (l2 : Int) from by omega), if_neg (show ¬ (1 : Int) = 0 from by decide), if_pos p1]
    generalize hx : d_X5_readName_r70d ((l2 : Int) * 2 * 14) X = x1 at *
    generalize hm : d_X12_readName_r125d (l8 + 6 + 28 * (l2 : Int)) M = m1 at *
    rcases R1 with ⟨c1, c2, c3, c4⟩ | ⟨c1, P1⟩
    · rw [if_pos c1, if_neg (show ¬ m1.1 125 14 = 0 from by omega), l171_b c2]
      have e : ∀ (α : Type) (A : α), (if M.1 125 11 = 3 then (if M.2.1 125 12 = 63 then A else A) else A) = A := fun α A => by
        repeat' split
        all_goals rfl
      rw [if_neg (show ¬ m1.1 125 14 = 0 from by omega), e]
      exact ⟨m1, O1, Or.inl ⟨rfl, c2, c3, c4, rfl⟩⟩
    · obtain ⟨k1, q1, q2, q3⟩ := id P1
      rw [if_neg (show ¬ x1.1 = 0 from by omega), if_pos q1]
      -- the second NAME
      have R2 := rn (a := ((l2 : Int) * 2 + 1) * 14) (p := l8 + 6 + 28 * (l2 : Int) + 14) P1 (by omega) (by omega) (by omega)
      have O2 : ∀ j : Nat, (j < b ∨ b + 84 ≤ j) → (d_X12_readName_r125d (l8 + 6 + 28 * (l2 : Int) + 14) m1).1 126 j = M.1 126 j := fun j hj => (rn_o (by omega) ⟨k1.2.2.2.2.1.1, k1.2.2.2.2.1.2.1⟩ (by omega)).trans (O1 j hj)
      have sec : rlO a1 a2 a3 a4 a5 l7 l8 (if (d_X5_readName_r70d (((l2 : Int) * 2 + 1) * 14) x1.2).1 = 0 then (-1, (d_X5_readName_r70d (((l2 : Int) * 2 + 1) * 14) x1.2).2) else tlX r l1 (l2 : Int) (d_X5_readName_r70d (((l2 : Int) * 2 + 1) * 14) x1.2).2) (bN2 (r + 1) a1 a2 a3 a4 a5 l7 l8 ((l2 : Int) + 1) (d_X12_readName_r125d (l8 + 6 + 28 * (l2 : Int) + 14) m1)) b M := by
        generalize hx2 : d_X5_readName_r70d (((l2 : Int) * 2 + 1) * 14) x1.2 = x2 at *
        generalize hm2 : d_X12_readName_r125d (l8 + 6 + 28 * (l2 : Int) + 14) m1 = m2 at *
        unfold bN2
        rcases R2 with ⟨c1', c2, c3, c4⟩ | ⟨c1', P2⟩
        · rw [if_pos c1', if_neg (show ¬ m2.1 125 14 = 0 from by omega), l171_b c2]
          exact ⟨m2, O2, Or.inl ⟨rfl, c2, c3, c4, rfl⟩⟩
        · rw [if_neg (show ¬ x2.1 = 0 from by omega), if_pos P2.2.1]
          refine tl_t P2 O2 hl1 (by omega) (fun g => ?_)
          have z := ih (l2 + 1) (d_X9_step_r68d x2.2) (d_X12_next_r125d m2) (by rw [show 2 * (l2 + 1) = 2 * l2 + 1 + 1 from by omega]; exact ps_n P2) (by omega) (by omega)
          rw [show ((l2 + 1 : Nat) : Int) = (l2 : Int) + 1 from by omega] at z
          exact z
      by_cases al : M.1 125 11 = 3 ∧ M.2.1 125 12 = 63
      · rw [if_pos al] at sg
        rw [sg, if_neg (show ¬ (1 : Int) = 0 from by decide), if_pos al.1, if_pos al.2]
        -- the reference with two zeros more
        have z5 : (vu (vu m1 126 (l8 + 6 + 28 * (l2 : Int) + 14).toNat 0) 126 (l8 + 6 + 28 * (l2 : Int) + 15).toNat 0).1 125 = m1.1 125 := (vu_c (by decide)).trans (vu_c (by decide))
        have PZ : pPs x1.2 (vu (vu m1 126 (l8 + 6 + 28 * (l2 : Int) + 14).toNat 0) 126 (l8 + 6 + 28 * (l2 : Int) + 15).toNat 0) b (2 * l2 + 1 + 1) := by
          refine ⟨tk_c rfl rfl z5 ((vu_c (by decide)).trans (vu_c (by decide))) rfl k1, by rw [z5]; exact q1, by rw [z5]; exact q2, fun j hj => ?_⟩
          have z := q3 j hj
          by_cases d1 : b + j = (l8 + 6 + 28 * (l2 : Int) + 15).toNat
          · rw [vu_e d1]
            exact ⟨z.1.trans (z.2 (by omega)), fun _ => rfl⟩
          · by_cases d0 : b + j = (l8 + 6 + 28 * (l2 : Int) + 14).toNat
            · rw [vu_n (by omega), vu_e d0]
              exact ⟨z.1.trans (z.2 (by omega)), fun _ => rfl⟩
            · rw [vu_n (by omega), vu_n (by omega)]
              exact ⟨z.1, fun y => z.2 (by omega)⟩
        have OZ : ∀ j : Nat, (j < b ∨ b + 84 ≤ j) → (vu (vu m1 126 (l8 + 6 + 28 * (l2 : Int) + 14).toNat 0) 126 (l8 + 6 + 28 * (l2 : Int) + 15).toNat 0).1 126 j = M.1 126 j := fun j hj => by
          rw [vu_n (by omega), vu_n (by omega)]
          exact O1 j hj
        have ZZ := tl_t (r := r) (a2 := a2) (a3 := a3) (a4 := a4) (a5 := a5) (l7 := l7) (l8 := l8) (l2 := (l2 : Int)) PZ OZ hl1 (by omega) (fun g => by
          have z := ih (l2 + 1) (d_X9_step_r68d x1.2) (d_X12_next_r125d (vu (vu m1 126 (l8 + 6 + 28 * (l2 : Int) + 14).toNat 0) 126 (l8 + 6 + 28 * (l2 : Int) + 15).toNat 0)) (by rw [show 2 * (l2 + 1) = 2 * l2 + 1 + 1 from by omega]; exact ps_n PZ) (by omega) (by omega)
          rw [show ((l2 + 1 : Nat) : Int) = (l2 : Int) + 1 from by omega] at z
          exact z)
        unfold tlM at ZZ
        rw [z5] at ZZ
        rw [show (vu (vu m1 126 (l8 + 6 + 28 * (l2 : Int) + 14).toNat 0) 126 (l8 + 6 + 28 * (l2 : Int) + 15).toNat 0).2.1 125 12 = m1.2.1 125 12 from rfl] at ZZ
        have s4 := @sg_e x1.2 m1 k1 44
        have s6 := @sg_e x1.2 m1 k1 46
        rw [s4, s6]
        by_cases t3 : m1.1 125 11 = 3
        · rw [if_pos t3] at ZZ ⊢
          by_cases w4 : m1.2.1 125 12 = 44
          · rw [if_pos w4] at ZZ
            rw [if_pos (show m1.1 125 11 = 3 ∧ m1.2.1 125 12 = 44 from ⟨t3, w4⟩), if_neg (show ¬ (1 : Int) = 0 from by decide), if_pos w4, if_pos w4]
            exact ZZ
          · rw [if_neg w4] at ZZ
            rw [if_neg (show ¬ (m1.1 125 11 = 3 ∧ m1.2.1 125 12 = 44) from fun z => w4 z.2), if_pos (c := (0 : Int) = 0) rfl, if_neg w4]
            by_cases w6 : m1.2.1 125 12 = 46
            · rw [if_pos (show m1.1 125 11 = 3 ∧ m1.2.1 125 12 = 46 from ⟨t3, w6⟩), if_neg (show ¬ (1 : Int) = 0 from by decide), if_pos w6, if_neg w4]
              exact ZZ
            · rw [if_neg (show ¬ (m1.1 125 11 = 3 ∧ m1.2.1 125 12 = 46) from fun z => w6 z.2), if_pos (c := (0 : Int) = 0) rfl, if_neg w6]
              exact sec
        · rw [if_neg t3] at ZZ ⊢
          rw [if_neg (show ¬ (m1.1 125 11 = 3 ∧ m1.2.1 125 12 = 44) from fun z => t3 z.1), if_pos (c := (0 : Int) = 0) rfl, if_neg (show ¬ (m1.1 125 11 = 3 ∧ m1.2.1 125 12 = 46) from fun z => t3 z.1), if_pos (c := (0 : Int) = 0) rfl]
          by_cases t0 : m1.1 125 11 = 0
          · rw [if_pos t0]
            have e : d_X5_readName_r70d (((l2 : Int) * 2 + 1) * 14) x1.2 = (1, x1.2) := by
              unfold d_X5_readName_r70d
              rw [if_pos (show x1.2.1 68 5 = 0 from by rw [k1.2.2.2.1]; exact t0)]
            rw [e, if_neg (show ¬ (1 : Int) = 0 from by decide)]
            exact ZZ
          · rw [if_neg t0]
            exact sec
      · rw [if_neg al] at sg
        rw [sg, if_pos (c := (0 : Int) = 0) rfl]
        by_cases t3 : M.1 125 11 = 3
        · rw [if_pos t3, if_neg (fun z => al ⟨t3, z⟩), if_pos q1]
          exact sec
        · rw [if_neg t3, if_pos q1]
          exact sec
end
end jG10
