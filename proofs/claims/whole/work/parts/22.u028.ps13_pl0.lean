section jG25
/-! pure: how many CHILDREN -/
noncomputable def cnt (P : Nat → Prop) : Nat → Int
  | 0 => 0
  | n + 1 => cnt P n + tv (P n)
noncomputable def cnf (P : Nat → Prop) : Nat → Nat → Int
  | 0, _ => 0
  | c + 1, l => tv (P l) + cnf P c (l + 1)
theorem cnt_c {P Q : Nat → Prop} : ∀ n : Nat, (∀ i, i < n → (P i ↔ Q i)) → cnt P n = cnt Q n := by
  intro n
  induction n with
  | zero => intro _; rfl
  | succ n ih =>
    intro h
    show cnt P n + tv (P n) = cnt Q n + tv (Q n)
    rw [ih (fun i hi => h i (by omega)), tv_c (h n (by omega))]
theorem cnf_a {P : Nat → Prop} : ∀ c l : Nat, cnt P l + cnf P c l = cnt P (l + c) := by
  intro c
  induction c with
  | zero => intro l; show cnt P l + 0 = cnt P l; omega
  | succ c ih =>
    intro l
    have z := ih (l + 1)
    show cnt P l + (tv (P l) + cnf P c (l + 1)) = cnt P (l + (c + 1))
    rw [show l + (c + 1) = l + 1 + c from by omega, ← z]
    show _ = cnt P l + tv (P l) + cnf P c (l + 1)
    omega
theorem cnf_t {P : Nat → Prop} {n : Nat} : cnf P n 0 = cnt P n := by
  have z := @cnf_a P n 0
  rw [Nat.zero_add] at z
  have : cnt P 0 = 0 := rfl
  omega
theorem cnt_b {P : Nat → Prop} : ∀ n : Nat, 0 ≤ cnt P n ∧ cnt P n ≤ (n : Int) := by
  intro n
  induction n with
  | zero => exact ⟨Int.le_refl 0, Int.le_refl 0⟩
  | succ n ih =>
    have t := @tv_b (P n)
    show 0 ≤ cnt P n + tv (P n) ∧ cnt P n + tv (P n) ≤ ((n + 1 : Nat) : Int)
    omega
theorem cnf_b {P : Nat → Prop} : ∀ c l : Nat, 0 ≤ cnf P c l ∧ cnf P c l ≤ (c : Int) := by
  intro c
  induction c with
  | zero => intro l; exact ⟨Int.le_refl 0, Int.le_refl 0⟩
  | succ c ih =>
    intro l
    have t := @tv_b (P l)
    have z := ih (l + 1)
    show 0 ≤ tv (P l) + cnf P c (l + 1) ∧ tv (P l) + cnf P c (l + 1) ≤ ((c + 1 : Nat) : Int)
    omega
theorem cnt_i {P Q : Nat → Prop} {s : Nat} (h0 : ¬ P s) (h1 : Q s) (h2 : ∀ i, i ≠ s → (P i ↔ Q i)) : ∀ n : Nat, s < n → cnt Q n = cnt P n + 1 := by
  intro n
  induction n with
  | zero => intro h; exact absurd h (Nat.not_lt_zero _)
  | succ n ih =>
    intro h
    show cnt Q n + tv (Q n) = cnt P n + tv (P n) + 1
    by_cases e : n = s
    · rw [e, tv_t h1, tv_f h0, cnt_c s (fun i hi => h2 i (by omega))]
      omega
    · rw [ih (by omega), tv_c (h2 n e)]
      omega
theorem cnt_s {R : Nat → Nat → Prop} {N : Nat} (u1 : ∀ l s t, R l s → R l t → s = t) (u2 : ∀ l m s, R l s → R m s → l = m) : ∀ L : Nat, cnt (fun s => ∃ l, l < L ∧ R l s) N = cnt (fun l => ∃ s, s < N ∧ R l s) L := by
  intro L
  induction L with
  | zero =>
    show _ = (0 : Int)
    have z : ∀ n, cnt (fun s => ∃ l, l < 0 ∧ R l s) n = 0 := by
      intro n
      induction n with
      | zero => rfl
      | succ n ih =>
        show cnt _ n + tv _ = 0
        rw [ih, tv_f (fun ⟨l, h, _⟩ => absurd h (Nat.not_lt_zero _))]
        rfl
    exact z N
  | succ L ih =>
    show _ = cnt (fun l => ∃ s, s < N ∧ R l s) L + tv (∃ s, s < N ∧ R L s)
    rw [← ih]
    by_cases h : ∃ s, s < N ∧ R L s
    · obtain ⟨s, s1, s2⟩ := id h
      rw [tv_t h]
      refine cnt_i (s := s) (fun ⟨l, l1, l2⟩ => ?_) ⟨L, by omega, s2⟩ (fun i hi => ⟨fun ⟨l, l1, l2⟩ => ⟨l, by omega, l2⟩, fun ⟨l, l1, l2⟩ => ⟨l, ?_, l2⟩⟩) N s1
      · have := u2 l L s l2 s2; omega
      · by_cases e : l = L
        · rw [e] at l2; exact absurd (u1 L i s l2 s2) hi
        · omega
    · rw [tv_f h, Int.add_zero]
      refine cnt_c N (fun i hi => ⟨fun ⟨l, l1, l2⟩ => ⟨l, ?_, l2⟩, fun ⟨l, l1, l2⟩ => ⟨l, by omega, l2⟩⟩)
      by_cases e : l = L
      · rw [e] at l2; exact absurd ⟨i, hi, l2⟩ h
      · omega
def sCq (E : pE) (g : Nat → Int) (s d : Int) (l : Nat) : Prop := sCo E (3 * l) = 0 ∧ sDy E (3 * l) ≤ d ∧ (g (3 * l + 1) = s ∨ g (3 * l + 2) = s)
def sCp (E : pE) (g : Nat → Int) (s d : Int) (l : Nat) : Prop := sCq E g s d l ∧ g (3 * l) ≠ -1 ∧ ¬ sHb E g (g (3 * l)) 5 d
noncomputable def sCh (E : pE) (g : Nat → Int) (s d : Int) : Int := cnt (sCp E g s d) (E.1 0).toNat
theorem cxr_s {X : jW} {r : Nat} {s d n m : Int} : d_X7_childrenOf_r78d_5 (r + 1) s d n m X = if X.1 33 3 * 3 ≤ m then n else d_X7_childrenOf_r78d_5 r s d (if X.1 79 m.toNat = 0 ∧ ¬ X.1 82 m.toNat = -1 ∧ ¬ d < X.1 80 m.toNat ∧ (X.1 82 (m + 1).toNat = s ∨ X.1 82 (m + 2).toNat = s) ∧ d_X7_hasBy_r78d (X.1 82 m.toNat) 5 d X = 0 then j_iadd n 1 else n) (m + 3) X := by
  show (if X.1 33 3 * 3 ≤ m then n else if X.1 79 m.toNat = 0 then (if X.1 82 m.toNat = -1 then _ else if d < X.1 80 m.toNat then _ else if X.1 82 (m + 1).toNat = s then _ else if X.1 82 (m + 2).toNat = s then _ else _) else _) = _
  unfold d_X7_childrenOf_r78d_90
  repeat' split
  all_goals first
    | rfl
    | (exfalso; omega)
theorem cxr_e {X : jW} {E : pE} {g : Nat → Int} {s d : Int} (P : pXs X E g) : ∀ (c l r : Nat) (n : Int), ((l + c : Nat) : Int) = E.1 0 → c < r → 0 ≤ n → n ≤ (l : Int) → d_X7_childrenOf_r78d_5 r s d n (3 * (l : Int)) X = n + cnf (sCp E g s d) c l := by
  have b := P.2.1
  intro c
  induction c with
  | zero =>
    intro l r n hl hr h0 h1
    obtain ⟨r', rfl⟩ : ∃ r', r = r' + 1 := ⟨r - 1, by omega⟩
    rw [cxr_s, P.2.2.1, if_pos (by omega)]
    show n = n + 0
    omega
  | succ c ih =>
    intro l r n hl hr h0 h1
    obtain ⟨r', rfl⟩ : ∃ r', r = r' + 1 := ⟨r - 1, by omega⟩
    have N3 : sNl E = 3 * (l + (c + 1)) := by unfold sNl; omega
    obtain ⟨l1, l2, l3⟩ := @xs_l X E g P (3 * l) (by omega)
    change X.1 80 (3 * l) = sDy E (3 * l) at l2
    have q := P.2.2.2.2.1
    rw [cxr_s, P.2.2.1, if_neg (by omega), show (3 * (l : Int)).toNat = 3 * l from by omega, show (3 * (l : Int) + 1).toNat = 3 * l + 1 from by omega, show (3 * (l : Int) + 2).toNat = 3 * l + 2 from by omega, l1, l2, q _ (show 3 * l < sNl E from by omega), q _ (show 3 * l + 1 < sNl E from by omega), q _ (show 3 * l + 2 < sNl E from by omega)]
    have key : (if sCo E (3 * l) = 0 ∧ ¬ g (3 * l) = -1 ∧ ¬ d < sDy E (3 * l) ∧ (g (3 * l + 1) = s ∨ g (3 * l + 2) = s) ∧ d_X7_hasBy_r78d (g (3 * l)) 5 d X = 0 then j_iadd n 1 else n) = n + tv (sCp E g s d l) := by
      rcases P.1 (3 * l) (by omega) with z | ⟨z1, z2, z3, z4⟩
      · rw [if_neg (fun y => y.2.1 z), tv_f (fun y : sCp E g s d l => y.2.1 z)]
        omega
      · have hb := @xhb X E g P (g (3 * l)).toNat (by omega) (by rw [z4]; omega) 5 d
        rw [show (((g (3 * l)).toNat : Nat) : Int) = g (3 * l) from by omega] at hb
        rw [hb]
        by_cases y : sCp E g s d l
        · rw [tv_t y]
          obtain ⟨⟨y1, y2, y3⟩, y4, y5⟩ := y
          rw [if_pos ⟨y1, y4, by omega, y3, tv_f y5⟩, j_ia (by omega) (by omega) (by omega)]
        · rw [tv_f y, if_neg (fun w => y ⟨⟨w.1, by omega, w.2.2.2.1⟩, w.2.1, tv_0.1 w.2.2.2.2⟩)]
          omega
    rw [key]
    have t := @tv_b (sCp E g s d l)
    have y := ih (l + 1) r' (n + tv (sCp E g s d l)) (by omega) (by omega) (by omega) (by omega)
    rw [show 3 * ((l + 1 : Nat) : Int) = 3 * (l : Int) + 3 from by omega] at y
    rw [y]
    show n + tv (sCp E g s d l) + cnf (sCp E g s d) c (l + 1) = n + (tv (sCp E g s d l) + cnf (sCp E g s d) c (l + 1))
    omega
theorem xch {X : jW} {E : pE} {g : Nat → Int} {s d : Int} (P : pXs X E g) : d_X7_childrenOf_r78d s d X = sCh E g s d := by
  have b := P.2.1
  unfold d_X7_childrenOf_r78d sCh
  have y := @cxr_e X E g s d P (E.1 0).toNat 0 601 0 (by omega) (by omega) (by omega) (by omega)
  rw [show 3 * ((0 : Nat) : Int) = 0 from rfl, cnf_t, Int.zero_add] at y
  exact y
/-! the reference's -/
def sCb (E : pE) (g : Nat → Int) (s d : Int) (t : Nat) : Prop := g t = (t : Int) ∧ ¬ sHb E g (t : Int) 5 d ∧ ∃ l : Nat, (l : Int) < E.1 0 ∧ g (3 * l) = (t : Int) ∧ sCq E g s d l
theorem cm50_s {K : Int → Int → Int → Int → jW → Int} {M : jW} {r : Nat} {s d n t f m : Int} (hf : f = 0 ∨ f = 1) : d_X12_childrenOf_r125d_50 K (r + 1) s d n t f m M = if 3 * M.1 126 0 ≤ m then K s d (if f = 0 then n + 0 else j_iadd n 1) (t + 1) M else d_X12_childrenOf_r125d_50 K r s d n t (if f = 1 ∨ (M.1 139 m.toNat = t ∧ M.1 126 (20 + 90 * (m / 3)).toNat = 0 ∧ ¬ d < d_X12_dayAt_r125d m M ∧ (M.1 139 (m + 1).toNat = s ∨ M.1 139 (m + 2).toNat = s)) then 1 else 0) (m + 3) M := by
  show (if 3 * M.1 126 0 ≤ m then (if f = 0 then _ else _) else if M.1 139 m.toNat = t then (if M.1 126 (20 + 90 * (m / 3)).toNat = 0 then (if d < d_X12_dayAt_r125d m M then _ else _) else _) else _) = _
  unfold d_X12_childrenOf_r125d_100 d_X12_childrenOf_r125d_200101 d_X12_childrenOf_r125d_300101
  rcases hf with rfl | rfl
  · repeat' split
    all_goals first
      | rfl
      | (exfalso; omega)
  · repeat' split
    all_goals first
      | rfl
      | (exfalso; omega)
theorem cm50_e {K : Int → Int → Int → Int → jW → Int} {M : jW} {E : pE} {g : Nat → Int} {s d n : Int} {t : Nat} (P : pMs M E g) : ∀ (c l r : Nat) (f : Int), ((l + c : Nat) : Int) = E.1 0 → c < r → (f = 0 ∨ f = 1) → d_X12_childrenOf_r125d_50 K r s d n (t : Int) f (3 * (l : Int)) M = K s d (if tv (f = 1 ∨ ∃ j : Nat, l ≤ j ∧ (j : Int) < E.1 0 ∧ g (3 * j) = (t : Int) ∧ sCq E g s d j) = 0 then n else j_iadd n 1) ((t : Int) + 1) M := by
  have w : M.1 126 = E.1 := congrArg (fun z : pE => z.1) P.1
  have h3 := ms_3 P
  intro c
  induction c with
  | zero =>
    intro l r f hl hr hf
    obtain ⟨r', rfl⟩ : ∃ r', r = r' + 1 := ⟨r - 1, by omega⟩
    have N3 : sNl E = 3 * l := by unfold sNl; omega
    rw [cm50_s hf, if_pos (by omega)]
    rcases hf with rfl | rfl
    · have nz : ¬ ((0 : Int) = 1 ∨ ∃ j : Nat, l ≤ j ∧ (j : Int) < E.1 0 ∧ g (3 * j) = (t : Int) ∧ sCq E g s d j) := fun z => by
        rcases z with z | ⟨j, j1, j2, _⟩
        · exact absurd z (by decide)
        · omega
      rw [if_pos rfl, if_pos (tv_f nz), Int.add_zero]
    · rw [if_neg (by decide), if_neg (by rw [tv_t (Or.inl rfl)]; decide)]
  | succ c ih =>
    intro l r f hl hr hf
    obtain ⟨r', rfl⟩ : ∃ r', r = r' + 1 := ⟨r - 1, by omega⟩
    have N3 : sNl E = 3 * (l + (c + 1)) := by unfold sNl; omega
    have q := P.2.2.2.2.2.2
    have bk : M.1 126 (20 + 90 * (3 * (l : Int) / 3)).toNat = E.1 (20 + 90 * l) := by rw [w, show (20 + 90 * (3 * (l : Int) / 3)).toNat = 20 + 90 * l from by omega]
    have dy : d_X12_dayAt_r125d (3 * (l : Int)) M = sDy E (3 * l) := by
      have y := @mdy M (3 * l)
      rw [show ((3 * l : Nat) : Int) = 3 * (l : Int) from by omega, P.1] at y
      exact y
    have c0 : sCo E (3 * l) = 0 ↔ E.1 (20 + 90 * l) = 0 := by
      have b := (P.2.1 l (by omega)).1
      unfold sCo sRo
      rw [show 3 * l / 3 = l from by omega, show 3 * l % 3 = 0 from by omega]
      constructor
      · intro h
        repeat' split at h
        all_goals omega
      · intro h
        rw [if_neg (by rw [if_pos h]; omega), if_pos h]
        rfl
    rw [cm50_s hf, if_neg (by omega), show (3 * (l : Int)).toNat = 3 * l from by omega, show (3 * (l : Int) + 1).toNat = 3 * l + 1 from by omega, show (3 * (l : Int) + 2).toNat = 3 * l + 2 from by omega, bk, dy, q _ (show 3 * l < sNl E from by omega), q _ (show 3 * l + 1 < sNl E from by omega), q _ (show 3 * l + 2 < sNl E from by omega)]
    have y := ih (l + 1) r' (if f = 1 ∨ (g (3 * l) = (t : Int) ∧ E.1 (20 + 90 * l) = 0 ∧ ¬ d < sDy E (3 * l) ∧ (g (3 * l + 1) = s ∨ g (3 * l + 2) = s)) then 1 else 0) (by omega) (by omega) (by split <;> simp)
    rw [show 3 * ((l + 1 : Nat) : Int) = 3 * (l : Int) + 3 from by omega] at y
    rw [y]
    congr 1
    by_cases a : f = 1 ∨ (g (3 * l) = (t : Int) ∧ E.1 (20 + 90 * l) = 0 ∧ ¬ d < sDy E (3 * l) ∧ (g (3 * l + 1) = s ∨ g (3 * l + 2) = s))
    · have a' : f = 1 ∨ ∃ j : Nat, l ≤ j ∧ (j : Int) < E.1 0 ∧ g (3 * j) = (t : Int) ∧ sCq E g s d j := by
        rcases a with a | ⟨a1, a2, a3, a4⟩
        · exact Or.inl a
        · exact Or.inr ⟨l, by omega, by omega, a1, c0.2 a2, by omega, a4⟩
      rw [if_pos a, tv_t (Or.inl rfl), tv_t a']
    · rw [if_neg a]
      rw [tv_c]
      constructor
      · intro z
        rcases z with z | ⟨j, j1, j2⟩
        · exact absurd z (by decide)
        · exact Or.inr ⟨j, by omega, j2⟩
      · intro z
        rcases z with z | ⟨j, j1, j2, j3, j4⟩
        · exact absurd (Or.inl z) a
        · by_cases e : j = l
          · rw [e] at j3 j4
            exact absurd (Or.inr ⟨j3, c0.1 j4.1, by have := j4.2.1; omega, j4.2.2⟩) a
          · exact Or.inr ⟨j, by omega, j2, j3, j4⟩
theorem cm5_s {M : jW} {r : Nat} {s d n t : Int} : d_X12_childrenOf_r125d_5 (r + 1) s d n t M = if 3 * M.1 126 0 ≤ t then n else if M.1 139 t.toNat = t ∧ d_X12_mentionOf_r125d t 5 d M = -1 then d_X12_childrenOf_r125d_50 (fun l1 l2 l3 l4 W => d_X12_childrenOf_r125d_5 r l1 l2 l3 l4 W) 601 s d n t 0 0 M else d_X12_childrenOf_r125d_5 r s d n (t + 1) M := by
  show (if 3 * M.1 126 0 ≤ t then n else if M.1 139 t.toNat = t then (if d_X12_mentionOf_r125d t 5 d M = -1 then d_X12_childrenOf_r125d_50 (fun l1 l2 l3 l4 W => d_X12_childrenOf_r125d_5 r l1 l2 l3 l4 W) 601 s d n t 0 0 M else _) else _) = _
  generalize d_X12_childrenOf_r125d_50 (fun l1 l2 l3 l4 W => d_X12_childrenOf_r125d_5 r l1 l2 l3 l4 W) 601 s d n t 0 0 M = w
  repeat' split
  all_goals first
    | rfl
    | (exfalso; omega)
theorem cm5_e {M : jW} {E : pE} {g : Nat → Int} {s d : Int} (P : pMs M E g) : ∀ (c t r : Nat) (n : Int), t + c = sNl E → c < r → 0 ≤ n → n ≤ (t : Int) → d_X12_childrenOf_r125d_5 r s d n (t : Int) M = n + cnf (sCb E g s d) c t := by
  have h3 := ms_3 P
  have b := P.2.2.2.2.2.1
  intro c
  induction c with
  | zero =>
    intro t r n ht hr h0 h1
    obtain ⟨r', rfl⟩ : ∃ r', r = r' + 1 := ⟨r - 1, by omega⟩
    rw [cm5_s, if_pos (by omega)]
    show n = n + 0
    omega
  | succ c ih =>
    intro t r n ht hr h0 h1
    obtain ⟨r', rfl⟩ : ∃ r', r = r' + 1 := ⟨r - 1, by omega⟩
    have N6 : sNl E ≤ 600 := by unfold sNl; omega
    rw [cm5_s, if_neg (by omega), show ((t : Int)).toNat = t from by omega, P.2.2.2.2.2.2 t (by omega), @mmo M E g (t : Int) P (by omega) 5 d (by decide)]
    have nx : ∀ v : Int, v = n + tv (sCb E g s d t) → d_X12_childrenOf_r125d_5 r' s d v ((t : Int) + 1) M = n + cnf (sCb E g s d) (c + 1) t := fun v hv => by
      have tb := @tv_b (sCb E g s d t)
      have y := ih (t + 1) r' v (by omega) (by omega) (by omega) (by omega)
      rw [show ((t + 1 : Nat) : Int) = (t : Int) + 1 from by omega] at y
      rw [y, hv]
      show n + tv (sCb E g s d t) + cnf (sCb E g s d) c (t + 1) = n + (tv (sCb E g s d t) + cnf (sCb E g s d) c (t + 1))
      omega
    by_cases a : g t = (t : Int) ∧ sMo E g (t : Int) 5 d = -1
    · rw [if_pos a]
      have y := @cm50_e (fun l1 l2 l3 l4 W => d_X12_childrenOf_r125d_5 r' l1 l2 l3 l4 W) M E g s d n t P (E.1 0).toNat 0 601 0 (by omega) (by omega) (Or.inl rfl)
      rw [show 3 * ((0 : Nat) : Int) = 0 from rfl] at y
      rw [y]
      refine nx _ ?_
      by_cases z : ∃ j : Nat, 0 ≤ j ∧ (j : Int) < E.1 0 ∧ g (3 * j) = (t : Int) ∧ sCq E g s d j
      · obtain ⟨j, j0, j1, j2, j3⟩ := id z
        rw [if_neg (by rw [tv_t (Or.inr z)]; decide), tv_t (show sCb E g s d t from ⟨a.1, sMo_h.1 a.2, j, j1, j2, j3⟩), j_ia (by omega) (by omega) (by omega)]
      · have nz : ¬ ((0 : Int) = 1 ∨ ∃ j : Nat, 0 ≤ j ∧ (j : Int) < E.1 0 ∧ g (3 * j) = (t : Int) ∧ sCq E g s d j) := fun w => by
          rcases w with w | w
          · exact absurd w (by decide)
          · exact z w
        rw [if_pos (tv_f nz), tv_f (fun w : sCb E g s d t => z (by obtain ⟨_, _, j, j1, j2, j3⟩ := w; exact ⟨j, by omega, j1, j2, j3⟩)), Int.add_zero]
    · rw [if_neg a]
      refine nx n ?_
      rw [tv_f (fun w : sCb E g s d t => a ⟨w.1, sMo_h.2 w.2.1⟩), Int.add_zero]
theorem mch {M : jW} {E : pE} {g : Nat → Int} {s d : Int} (P : pMs M E g) (G : sGw E g) : d_X12_childrenOf_r125d s d M = sCh E g s d := by
  have b := P.2.2.2.2.2.1
  have N3 : sNl E = 3 * (E.1 0).toNat := rfl
  unfold d_X12_childrenOf_r125d sCh
  have y := @cm5_e M E g s d P (sNl E) 0 601 0 (by omega) (by omega) (by omega) (by omega)
  rw [show ((0 : Nat) : Int) = 0 from rfl, cnf_t, Int.zero_add] at y
  rw [y]
  have z := @cnt_s (fun l t => sCq E g s d l ∧ (l : Int) < E.1 0 ∧ g (3 * l) = (t : Int) ∧ g t = (t : Int) ∧ ¬ sHb E g (t : Int) 5 d) (sNl E) (fun l p q h1 h2 => by have := h1.2.2.1; have := h2.2.2.1; omega) (fun l m t h1 h2 => by
    have a1 := h1.2.1
    have a2 := h2.2.1
    have := @sGw_u E g (t : Int) G (by omega) (3 * l) (3 * m) (by omega) (by omega) h1.2.2.1 h2.2.2.1 h1.1.1 h2.1.1
    omega) (E.1 0).toNat
  refine Eq.trans ?_ (z.trans ?_)
  · refine cnt_c _ (fun t ht => ⟨fun ⟨h1, h2, l, h3, h4, h5⟩ => ⟨l, by omega, h5, h3, h4, h1, h2⟩, fun ⟨l, h0, h1, h2, h3, h4, h5⟩ => ⟨h4, h5, l, h2, h3, h1⟩⟩)
  · refine cnt_c _ (fun l hl => ⟨fun ⟨t, t1, t2, t3, t4, t5, t6⟩ => ⟨t2, by omega, by rw [t4]; exact t6⟩, fun ⟨h1, h2, h3⟩ => ?_⟩)
    rcases P.2.2.2.2.1 (3 * l) (by omega) with q | ⟨q1, q2, q3, q4⟩
    · exact absurd q h2
    · refine ⟨(g (3 * l)).toNat, by omega, h1, by omega, by omega, by rw [q4]; omega, ?_⟩
      rw [show (((g (3 * l)).toNat : Nat) : Int) = g (3 * l) from by omega]
      exact h3
end jG25

section jG26
/-! pure: FACTS -/
/-- FACTS name MENTIONS that are there; their numbers are as told -/
def pIf (E : pE) : Prop := (0 ≤ E.1 5 ∧ E.1 5 ≤ 100) ∧ ∀ k : Nat, (k : Int) < E.1 5 → (0 ≤ E.1 (46540 + 6 * k) ∧ E.1 (46540 + 6 * k) < 3 * E.1 0) ∧ (0 ≤ E.1 (46542 + 6 * k) ∧ E.1 (46542 + 6 * k) ≤ 11) ∧ (0 ≤ E.1 (46543 + 6 * k) ∧ E.1 (46543 + 6 * k) ≤ 146399) ∧ (0 ≤ E.1 (46544 + 6 * k) ∧ E.1 (46544 + 6 * k) ≤ 146399)
def sCt (E : pE) (g : Nat → Int) (s d pa kn : Int) (k : Nat) : Prop := E.1 (46545 + 6 * k) ≤ kn ∧ E.1 (46541 + 6 * k) = 4 ∧ g (E.1 (46540 + 6 * k)).toNat = s ∧ (E.1 (46543 + 6 * k) ≤ d ∧ d ≤ E.1 (46544 + 6 * k)) ∧ (pa = -1 ∨ E.1 (46542 + 6 * k) = pa)
def sCe (E : pE) (g : Nat → Int) (s d pa kn : Int) : Prop := ∃ k : Nat, (k : Int) < E.1 5 ∧ sCt E g s d pa kn k
/-! the class's -/
theorem f43 {X : jW} {E : pE} (T : pT X 32 pt_5 E.1) {k : Nat} (hk : (k : Int) < E.1 5) : d_X8_at_r43_c1d (k : Int) X = E.1 (46543 + 6 * k) ∧ d_X8_at_r43_c2d (k : Int) X = E.1 (46544 + 6 * k) ∧ d_X8_at_r43_c3d (k : Int) X = E.1 (46540 + 6 * k) ∧ d_X8_at_r43_c4d (k : Int) X = E.1 (46541 + 6 * k) ∧ d_X8_at_r43_c5d (k : Int) X = E.1 (46542 + 6 * k) ∧ ∀ kn : Int, d_X8_isKnown_r43d (k : Int) kn X = if kn < E.1 (46545 + 6 * k) then 0 else 1 := by
  refine ⟨?_, ?_, ?_, ?_, ?_, fun kn => ?_⟩
  · rw [at_43_1 T (by omega) hk, show (46540 + 6 * (k : Int) + 3).toNat = 46543 + 6 * k from by omega]
  · rw [at_43_2 T (by omega) hk, show (46540 + 6 * (k : Int) + 4).toNat = 46544 + 6 * k from by omega]
  · rw [at_43_3 T (by omega) hk, show (46540 + 6 * (k : Int) + 0).toNat = 46540 + 6 * k from by omega]
  · rw [at_43_4 T (by omega) hk, show (46540 + 6 * (k : Int) + 1).toNat = 46541 + 6 * k from by omega]
  · rw [at_43_5 T (by omega) hk, show (46540 + 6 * (k : Int) + 2).toNat = 46542 + 6 * k from by omega]
  · rw [kn_43 T (by omega) hk, show (46540 + 6 * (k : Int) + 5).toNat = 46545 + 6 * k from by omega]
theorem ce_s {X : jW} {r : Nat} {s pa d kn k : Int} : d_X0_isCertified_r98d_3 (r + 1) s pa d kn k X = if X.1 43 3 ≤ k then 0 else if d_X8_at_r43_c4d k X = 4 ∧ ¬ d_X8_isKnown_r43d k kn X = 0 ∧ ¬ d < d_X8_at_r43_c1d k X ∧ ¬ d_X8_at_r43_c2d k X < d ∧ (pa = -1 ∨ d_X8_at_r43_c5d k X = pa) ∧ (if X.1 33 3 ≤ d_X8_at_r43_c3d k X / 3 then -1 else X.1 82 (d_X8_at_r43_c3d k X).toNat) = s then 1 else d_X0_isCertified_r98d_3 r s pa d kn (k + 1) X := by
  show (if X.1 43 3 ≤ k then (0 : Int) else if d_X8_at_r43_c4d k X = 4 then (if d_X8_isKnown_r43d k kn X = 0 then _ else if d < d_X8_at_r43_c1d k X then _ else if d_X8_at_r43_c2d k X < d then _ else if pa = -1 then _ else if d_X8_at_r43_c5d k X = pa then _ else _) else _) = _
  unfold d_X0_isCertified_r98d_108
  generalize d_X8_at_r43_c3d k X = m
  by_cases c : X.1 33 3 ≤ m / 3
  · rw [if_pos c]
    simp only [if_pos c]
    repeat' split
    all_goals first
      | rfl
      | (exfalso; omega)
  · rw [if_neg c]
    simp only [if_neg c]
    repeat' split
    all_goals first
      | rfl
      | (exfalso; omega)
section
variable {X M : jW} {E : pE} {g : Nat → Int} {s d kn : Int}
theorem ce_e {pa : Int} (P : pXs X E g) (T : pT X 32 pt_5 E.1) (F : pIf E) : ∀ (c k r : Nat), ((k + c : Nat) : Int) = E.1 5 → c < r → d_X0_isCertified_r98d_3 r s pa d kn (k : Int) X = tv (∃ j : Nat, k ≤ j ∧ (j : Int) < E.1 5 ∧ sCt E g s d pa kn j) := by
  have e43 : X.1 43 3 = E.1 5 := T.1
  intro c
  induction c with
  | zero =>
    intro k r hk hr
    obtain ⟨r', rfl⟩ : ∃ r', r = r' + 1 := ⟨r - 1, by omega⟩
    rw [ce_s, e43, if_pos (by omega)]
    exact (tv_f fun ⟨j, j1, j2, _⟩ => by omega).symm
  | succ c ih =>
    intro k r hk hr
    obtain ⟨r', rfl⟩ : ∃ r', r = r' + 1 := ⟨r - 1, by omega⟩
    have hk5 : (k : Int) < E.1 5 := by omega
    obtain ⟨f1, f2, f3, f4, f5, f6⟩ := f43 T hk5
    have fk := F.2 k hk5
    have b := P.2.1
    rw [ce_s, e43, if_neg (by omega), f1, f2, f3, f4, f5, f6, P.2.2.1, if_neg (show ¬ E.1 0 ≤ E.1 (46540 + 6 * k) / 3 from by omega), P.2.2.2.2.1 _ (by unfold sNl; omega)]
    have y := ih (k + 1) r' (by omega) (by omega)
    rw [show ((k + 1 : Nat) : Int) = (k : Int) + 1 from by omega] at y
    by_cases q : sCt E g s d pa kn k
    · obtain ⟨q1, q2, q3, q4, q5⟩ := id q
      rw [if_pos ⟨q2, by rw [if_neg (by omega)]; decide, by omega, by omega, q5, q3⟩]
      exact (tv_t ⟨k, by omega, hk5, q⟩).symm
    · rw [if_neg (fun w => q ⟨by have z := w.2.1; by_cases v : kn < E.1 (46545 + 6 * k); · rw [if_pos v] at z; exact absurd rfl z
                                 · omega, w.1, w.2.2.2.2.2, ⟨by omega, by omega⟩, w.2.2.2.2.1⟩), y]
      refine tv_c ⟨fun ⟨j, j1, j2⟩ => ⟨j, by omega, j2⟩, fun ⟨j, j1, j2, j3⟩ => ⟨j, ?_, j2, j3⟩⟩
      by_cases e : j = k
      · rw [e] at j3; exact absurd j3 q
      · omega
theorem xce {pa : Int} (P : pXs X E g) (T : pT X 32 pt_5 E.1) (F : pIf E) : d_X0_isCertified_r98d s pa d kn X = tv (sCe E g s d pa kn) := by
  have f0 := F.1
  unfold d_X0_isCertified_r98d
  have y := @ce_e X E g s d kn pa P T F (E.1 5).toNat 0 101 (by omega) (by omega)
  rw [show ((0 : Nat) : Int) = 0 from rfl] at y
  rw [y]
  exact tv_c ⟨fun ⟨j, _, j2, j3⟩ => ⟨j, j2, j3⟩, fun ⟨j, j2, j3⟩ => ⟨j, by omega, j2, j3⟩⟩
theorem cem_s {r : Nat} {pa k : Int} : d_X12_isCertified_r125d_6 (r + 1) s d pa 0 k M = if M.1 126 5 ≤ k then 0 else if M.1 126 (46540 + 6 * k + 5).toNat ≤ M.1 125 28 ∧ M.1 126 (46540 + 6 * k + 1).toNat = 4 ∧ M.1 139 (M.1 126 (46540 + 6 * k).toNat).toNat = s ∧ (M.1 126 (46540 + 6 * k + 3).toNat ≤ d ∧ d ≤ M.1 126 (46540 + 6 * k + 4).toNat) ∧ (pa = -1 ∨ M.1 126 (46540 + 6 * k + 2).toNat = pa) then d_X12_isCertified_r125d_6 r s d pa 1 (k + 1) M else d_X12_isCertified_r125d_6 r s d pa 0 (k + 1) M := by
  show (if M.1 126 5 ≤ k then (0 : Int) else if (0 : Int) = 0 then (if M.1 125 28 < M.1 126 (46540 + 6 * k + 5).toNat then _ else if M.1 126 (46540 + 6 * k + 1).toNat = 4 then (if M.1 139 (M.1 126 (46540 + 6 * k).toNat).toNat = s then (if M.1 126 (46540 + 6 * k + 3).toNat ≤ d ∧ d ≤ M.1 126 (46540 + 6 * k + 4).toNat then (if pa = -1 then _ else if M.1 126 (46540 + 6 * k + 2).toNat = pa then _ else _) else _) else _) else _) else _) = _
  rw [if_pos (c := (0 : Int) = 0) rfl]
  repeat' split
  all_goals first
    | rfl
    | (exfalso; omega)
theorem cem_1 {pa : Int} : ∀ (r : Nat) (k : Int), M.1 126 5 - k < (r : Int) → 0 < r → d_X12_isCertified_r125d_6 r s d pa 1 k M = 1 := by
  intro r
  induction r with
  | zero => intro k _ h; exact absurd h (Nat.not_lt_zero _)
  | succ r ih =>
    intro k h _
    show (if M.1 126 5 ≤ k then (1 : Int) else if (1 : Int) = 0 then _ else d_X12_isCertified_r125d_6 r s d pa 1 (k + 1) M) = 1
    by_cases c : M.1 126 5 ≤ k
    · rw [if_pos c]
    · rw [if_neg c, if_neg (show ¬ (1 : Int) = 0 from by decide)]
      exact ih (k + 1) (by omega) (by omega)
theorem cem_e {pa : Int} (P : pMs M E g) (F : pIf E) (hn : M.1 125 28 = kn) : ∀ (c k r : Nat), ((k + c : Nat) : Int) = E.1 5 → c < r → d_X12_isCertified_r125d_6 r s d pa 0 (k : Int) M = tv (∃ j : Nat, k ≤ j ∧ (j : Int) < E.1 5 ∧ sCt E g s d pa kn j) := by
  have w : M.1 126 = E.1 := congrArg (fun z : pE => z.1) P.1
  intro c
  induction c with
  | zero =>
    intro k r hk hr
    obtain ⟨r', rfl⟩ : ∃ r', r = r' + 1 := ⟨r - 1, by omega⟩
    rw [cem_s, w, if_pos (by omega)]
    exact (tv_f fun ⟨j, j1, j2, _⟩ => by omega).symm
  | succ c ih =>
    intro k r hk hr
    obtain ⟨r', rfl⟩ : ∃ r', r = r' + 1 := ⟨r - 1, by omega⟩
    have hk5 : (k : Int) < E.1 5 := by omega
    have fk := F.2 k hk5
    have b := P.2.2.2.2.2.1
    rw [cem_s, w, hn, if_neg (by omega), show (46540 + 6 * (k : Int) + 5).toNat = 46545 + 6 * k from by omega, show (46540 + 6 * (k : Int) + 1).toNat = 46541 + 6 * k from by omega, show (46540 + 6 * (k : Int)).toNat = 46540 + 6 * k from by omega, show (46540 + 6 * (k : Int) + 3).toNat = 46543 + 6 * k from by omega, show (46540 + 6 * (k : Int) + 4).toNat = 46544 + 6 * k from by omega, show (46540 + 6 * (k : Int) + 2).toNat = 46542 + 6 * k from by omega, P.2.2.2.2.2.2 _ (show (E.1 (46540 + 6 * k)).toNat < sNl E from by unfold sNl; omega)]
    have y := ih (k + 1) r' (by omega) (by omega)
    rw [show ((k + 1 : Nat) : Int) = (k : Int) + 1 from by omega] at y
    by_cases q : sCt E g s d pa kn k
    · have q' := id q
      unfold sCt at q'
      rw [if_pos q', cem_1 r' _ (by rw [w]; omega) (by omega)]
      exact (tv_t ⟨k, by omega, hk5, q⟩).symm
    · have q' := id q
      unfold sCt at q'
      rw [if_neg q', y]
      refine tv_c ⟨fun ⟨j, j1, j2⟩ => ⟨j, by omega, j2⟩, fun ⟨j, j1, j2, j3⟩ => ⟨j, ?_, j2, j3⟩⟩
      by_cases e : j = k
      · rw [e] at j3; exact absurd j3 q
      · omega
theorem mce {pa : Int} (P : pMs M E g) (F : pIf E) (hn : M.1 125 28 = kn) : d_X12_isCertified_r125d s d pa M = tv (sCe E g s d pa kn) := by
  have f0 := F.1
  unfold d_X12_isCertified_r125d
  have y := @cem_e M E g s d kn pa P F hn (E.1 5).toNat 0 101 (by omega) (by omega)
  rw [show ((0 : Nat) : Int) = 0 from rfl] at y
  rw [y]
  exact tv_c ⟨fun ⟨j, _, j2, j3⟩ => ⟨j, j2, j3⟩, fun ⟨j, j2, j3⟩ => ⟨j, by omega, j2, j3⟩⟩
end
/-! the PARISH by a GROUND -/
def sWn (E : pE) (gr : Int) (k : Nat) : Int := if gr = 0 then 0 else if gr = 2 then E.1 (46543 + 6 * k) else E.1 (46544 + 6 * k)
abbrev sPc (E : pE) (g : Nat → Int) (gr s d kn best : Int) (k : Nat) : Prop := E.1 (46545 + 6 * k) ≤ kn ∧ E.1 (46541 + 6 * k) = gr ∧ g (E.1 (46540 + 6 * k)).toNat = s ∧ ((gr = 0 ∧ E.1 (46543 + 6 * k) ≤ d) ∨ (gr = 2 ∧ E.1 (46543 + 6 * k) ≤ d - 40) ∨ (¬ gr = 0 ∧ ¬ gr = 2 ∧ 365 ≤ E.1 (46544 + 6 * k) - E.1 (46543 + 6 * k) ∧ E.1 (46544 + 6 * k) ≤ d)) ∧ best ≤ sWn E gr k
def sPk (E : pE) (g : Nat → Int) (gr s d kn : Int) : Nat → Int × Int
  | 0 => (-1, -1)
  | k + 1 => if sPc E g gr s d kn (sPk E g gr s d kn k).2 k then (E.1 (46542 + 6 * k), sWn E gr k) else sPk E g gr s d kn k
noncomputable def sPy (E : pE) (g : Nat → Int) (gr s d kn : Int) : Int := if gr = 0 ∧ (sPk E g gr s d kn (E.1 5).toNat).1 = -1 ∧ ¬ tv (sHb E g s 0 d) = 0 then 0 else (sPk E g gr s d kn (E.1 5).toNat).1
theorem pbm_s {M : jW} {r : Nat} {gr s d its best k : Int} : d_X12_parishBy_r125d_9 (r + 1) gr s d its best k M = if M.1 126 5 ≤ k then (if gr = 0 ∧ its = -1 ∧ ¬ d_X12_mentionOf_r125d s 0 d M = -1 then 0 else its) else (if M.1 126 (46540 + 6 * k + 5).toNat ≤ M.1 125 28 ∧ M.1 126 (46540 + 6 * k + 1).toNat = gr ∧ M.1 139 (M.1 126 (46540 + 6 * k).toNat).toNat = s ∧ ((gr = 0 ∧ M.1 126 (46540 + 6 * k + 3).toNat ≤ d) ∨ (gr = 2 ∧ M.1 126 (46540 + 6 * k + 3).toNat ≤ d - 40) ∨ (¬ gr = 0 ∧ ¬ gr = 2 ∧ 365 ≤ M.1 126 (46540 + 6 * k + 4).toNat - M.1 126 (46540 + 6 * k + 3).toNat ∧ M.1 126 (46540 + 6 * k + 4).toNat ≤ d)) ∧ best ≤ (if gr = 0 then 0 else if gr = 2 then M.1 126 (46540 + 6 * k + 3).toNat else M.1 126 (46540 + 6 * k + 4).toNat) then d_X12_parishBy_r125d_9 r gr s d (M.1 126 (46540 + 6 * k + 2).toNat) (if gr = 0 then 0 else if gr = 2 then M.1 126 (46540 + 6 * k + 3).toNat else M.1 126 (46540 + 6 * k + 4).toNat) (k + 1) M else d_X12_parishBy_r125d_9 r gr s d its best (k + 1) M) := by
  show (if M.1 126 5 ≤ k then (if gr = 0 then (if its = -1 then (if d_X12_mentionOf_r125d s 0 d M = -1 then _ else _) else _) else _) else if M.1 125 28 < M.1 126 (46540 + 6 * k + 5).toNat then _ else if M.1 126 (46540 + 6 * k + 1).toNat = gr then (if M.1 139 (M.1 126 (46540 + 6 * k).toNat).toNat = s then (if gr = 0 then (if d < M.1 126 (46540 + 6 * k + 3).toNat then _ else _) else if gr = 2 then (if d - 40 < M.1 126 (46540 + 6 * k + 3).toNat then _ else _) else if M.1 126 (46540 + 6 * k + 4).toNat - M.1 126 (46540 + 6 * k + 3).toNat < 365 then _ else if d < M.1 126 (46540 + 6 * k + 4).toNat then _ else _) else _) else _) = _
  unfold d_X12_parishBy_r125d_131 d_X12_parishBy_r125d_300132 d_X12_parishBy_r125d_200132 d_X12_parishBy_r125d_154 d_X12_parishBy_r125d_200154
  by_cases g0 : gr = 0
  · subst g0
    simp only [if_true, if_false, show ((1 : Int) = 0) = False from by simp]
    repeat' split
    all_goals first
      | rfl
      | (exfalso; omega)
      | (exfalso; simp_all; done)
  · simp only [if_neg g0]
    by_cases g2 : gr = 2
    · subst g2
      simp only [if_true, if_false, show ((1 : Int) = 0) = False from by simp]
      repeat' split
      all_goals first
        | rfl
        | (exfalso; omega)
        | (exfalso; rename_i hh; exact hh ⟨by omega, by assumption, by assumption, Or.inr (Or.inl ⟨trivial, by omega⟩), by omega⟩)
    · simp only [if_neg g2, if_true, if_false, show ((1 : Int) = 0) = False from by simp]
      repeat' split
      all_goals first
        | rfl
        | (exfalso; omega)
theorem pbm_e {M : jW} {E : pE} {g : Nat → Int} {gr s d kn : Int} (P : pMs M E g) (F : pIf E) (hn : M.1 125 28 = kn) (hs : s ≠ -1) : ∀ (c k r : Nat), ((k + c : Nat) : Int) = E.1 5 → c < r → d_X12_parishBy_r125d_9 r gr s d (sPk E g gr s d kn k).1 (sPk E g gr s d kn k).2 (k : Int) M = sPy E g gr s d kn := by
  have w : M.1 126 = E.1 := congrArg (fun z : pE => z.1) P.1
  intro c
  induction c with
  | zero =>
    intro k r hk hr
    obtain ⟨r', rfl⟩ : ∃ r', r = r' + 1 := ⟨r - 1, by omega⟩
    rw [pbm_s, w, if_pos (by omega), @mmo M E g s P hs 0 d (by decide)]
    unfold sPy
    rw [show (E.1 5).toNat = k from by omega]
    by_cases q : gr = 0 ∧ (sPk E g gr s d kn k).1 = -1 ∧ ¬ sMo E g s 0 d = -1
    · rw [if_pos q, if_pos ⟨q.1, q.2.1, fun z => q.2.2 (sMo_h.2 (tv_0.1 z))⟩]
    · rw [if_neg q, if_neg (fun z => q ⟨z.1, z.2.1, fun y => z.2.2 (tv_f (sMo_h.1 y))⟩)]
  | succ c ih =>
    intro k r hk hr
    obtain ⟨r', rfl⟩ : ∃ r', r = r' + 1 := ⟨r - 1, by omega⟩
    have hk5 : (k : Int) < E.1 5 := by omega
    have fk := F.2 k hk5
    have b := P.2.2.2.2.2.1
    rw [pbm_s, w, hn, if_neg (by omega), show (46540 + 6 * (k : Int) + 5).toNat = 46545 + 6 * k from by omega, show (46540 + 6 * (k : Int) + 1).toNat = 46541 + 6 * k from by omega, show (46540 + 6 * (k : Int)).toNat = 46540 + 6 * k from by omega, show (46540 + 6 * (k : Int) + 3).toNat = 46543 + 6 * k from by omega, show (46540 + 6 * (k : Int) + 4).toNat = 46544 + 6 * k from by omega, show (46540 + 6 * (k : Int) + 2).toNat = 46542 + 6 * k from by omega, P.2.2.2.2.2.2 _ (show (E.1 (46540 + 6 * k)).toNat < sNl E from by unfold sNl; omega)]
    have y := ih (k + 1) r' (by omega) (by omega)
    rw [show ((k + 1 : Nat) : Int) = (k : Int) + 1 from by omega] at y
    have st : sPk E g gr s d kn (k + 1) = if sPc E g gr s d kn (sPk E g gr s d kn k).2 k then (E.1 (46542 + 6 * k), sWn E gr k) else sPk E g gr s d kn k := rfl
    by_cases q : sPc E g gr s d kn (sPk E g gr s d kn k).2 k
    · rw [st, if_pos q] at y
      exact (if_pos q).trans y
    · rw [st, if_neg q] at y
      exact (if_neg q).trans y
theorem mpy {M : jW} {E : pE} {g : Nat → Int} {gr s d kn : Int} (P : pMs M E g) (F : pIf E) (hn : M.1 125 28 = kn) (hs : s ≠ -1) : d_X12_parishBy_r125d gr s d M = sPy E g gr s d kn := by
  have f0 := F.1
  exact pbm_e P F hn hs (E.1 5).toNat 0 101 (by omega) (by omega)
/-! the class's -/
theorem bl_s {X : jW} {r : Nat} {s gr co nb la pa k : Int} : d_X6_byLatest_r120d_9 (r + 1) s gr co nb la pa k X = if X.1 43 3 ≤ k then pa else if ¬ nb < d_X8_at_r43d k co X ∧ ¬ d_X8_at_r43d k co X < la ∧ (gr = 2 ∨ ¬ d_X8_at_r43_c2d k X - d_X8_at_r43_c1d k X < 365) ∧ d_X8_at_r43_c4d k X = gr ∧ ¬ d_X8_isKnown_r43d k (X.1 120 5) X = 0 ∧ ¬ X.1 33 3 ≤ d_X8_at_r43_c3d k X / 3 ∧ X.1 82 (d_X8_at_r43_c3d k X).toNat = s then d_X6_byLatest_r120d_9 r s gr co nb (d_X8_at_r43d k co X) (d_X8_at_r43_c5d k X) (k + 1) X else d_X6_byLatest_r120d_9 r s gr co nb la pa (k + 1) X := by
  show (if X.1 43 3 ≤ k then pa else if nb < d_X8_at_r43d k co X then _ else if d_X8_at_r43d k co X < la then _ else if gr = 2 then _ else if d_X8_at_r43_c2d k X - d_X8_at_r43_c1d k X < 365 then _ else _) = _
  unfold d_X6_byLatest_r120d_95
  repeat' split
  all_goals first
    | rfl
    | (exfalso; omega)
theorem bl_e {X : jW} {E : pE} {g : Nat → Int} {gr s d kn : Int} {co : Nat} (P : pXs X E g) (T : pT X 32 pt_5 E.1) (F : pIf E) (hn : X.1 120 5 = kn) (h0 : ¬ gr = 0) (hc : co = if gr = 2 then 1 else 2) : ∀ (c k r : Nat), ((k + c : Nat) : Int) = E.1 5 → c < r → d_X6_byLatest_r120d_9 r s gr (co : Int) (if gr = 2 then d - 40 else d) (sPk E g gr s d kn k).2 (sPk E g gr s d kn k).1 (k : Int) X = (sPk E g gr s d kn (E.1 5).toNat).1 := by
  have e43 : X.1 43 3 = E.1 5 := T.1
  intro c
  induction c with
  | zero =>
    intro k r hk hr
    obtain ⟨r', rfl⟩ : ∃ r', r = r' + 1 := ⟨r - 1, by omega⟩
    rw [bl_s, e43, if_pos (by omega), show (E.1 5).toNat = k from by omega]
  | succ c ih =>
    intro k r hk hr
    obtain ⟨r', rfl⟩ : ∃ r', r = r' + 1 := ⟨r - 1, by omega⟩
    have hk5 : (k : Int) < E.1 5 := by omega
    obtain ⟨f1, f2, f3, f4, f5, f6⟩ := f43 T hk5
    have fk := F.2 k hk5
    have b := P.2.1
    have ec : d_X8_at_r43d (k : Int) (co : Int) X = sWn E gr k := by
      unfold sWn
      rw [if_neg h0]
      by_cases g2 : gr = 2
      · rw [if_pos g2] at hc ⊢
        rw [hc, ← f1]
        rfl
      · rw [if_neg g2] at hc ⊢
        rw [hc, ← f2]
        rfl
    rw [bl_s, e43, if_neg (by omega), ec, f1, f2, f3, f4, f5, hn, f6, P.2.2.1, P.2.2.2.2.1 _ (show (E.1 (46540 + 6 * k)).toNat < sNl E from by unfold sNl; omega)]
    have y := ih (k + 1) r' (by omega) (by omega)
    rw [show ((k + 1 : Nat) : Int) = (k : Int) + 1 from by omega] at y
    have st : sPk E g gr s d kn (k + 1) = if sPc E g gr s d kn (sPk E g gr s d kn k).2 k then (E.1 (46542 + 6 * k), sWn E gr k) else sPk E g gr s d kn k := rfl
    have kz : ¬ (if kn < E.1 (46545 + 6 * k) then (0 : Int) else 1) = 0 ↔ E.1 (46545 + 6 * k) ≤ kn := by
      by_cases v : kn < E.1 (46545 + 6 * k)
      · rw [if_pos v]; omega
      · rw [if_neg v]; omega
    have wn : sWn E gr k = if gr = 2 then E.1 (46543 + 6 * k) else E.1 (46544 + 6 * k) := by unfold sWn; rw [if_neg h0]
    by_cases q : sPc E g gr s d kn (sPk E g gr s d kn k).2 k
    · rw [st, if_pos q] at y
      obtain ⟨q1, q2, q3, q4, q5⟩ := q
      rw [if_pos]
      · exact y
      · refine ⟨?_, by omega, ?_, q2, kz.2 q1, by omega, q3⟩
        · rw [wn]
          by_cases g2 : gr = 2
          · rw [if_pos g2, if_pos g2]; omega
          · rw [if_neg g2, if_neg g2]; omega
        · by_cases g2 : gr = 2
          · exact Or.inl g2
          · right; omega
    · rw [st, if_neg q] at y
      rw [if_neg]
      · exact y
      · intro z
        obtain ⟨z1, z2, z3, z4, z5, z6, z7⟩ := z
        refine q ⟨kz.1 z5, z4, z7, ?_, by omega⟩
        rw [wn] at z1
        by_cases g2 : gr = 2
        · rw [if_pos g2, if_pos g2] at z1
          exact Or.inr (Or.inl ⟨g2, by omega⟩)
        · rw [if_neg g2, if_neg g2] at z1
          exact Or.inr (Or.inr ⟨h0, g2, by omega, by omega⟩)
theorem xbl {X : jW} {E : pE} {g : Nat → Int} {gr s d kn : Int} {co : Nat} (P : pXs X E g) (T : pT X 32 pt_5 E.1) (F : pIf E) (hn : X.1 120 5 = kn) (h0 : ¬ gr = 0) (hc : co = if gr = 2 then 1 else 2) : d_X6_byLatest_r120d s gr (co : Int) (if gr = 2 then d - 40 else d) X = sPy E g gr s d kn := by
  have f0 := F.1
  have e : sPy E g gr s d kn = (sPk E g gr s d kn (E.1 5).toNat).1 := by
    unfold sPy
    rw [if_neg (fun z => h0 z.1)]
  rw [e]
  unfold d_X6_byLatest_r120d
  exact bl_e P T F hn h0 hc (E.1 5).toNat 0 101 (by omega) (by omega)
theorem bb_s {X : jW} {r : Nat} {s d k : Int} : d_X6_byBirth_r120d_13 (r + 1) s d k X = if k < 0 then (if d_X7_hasBy_r78d s 0 d X = 0 then -1 else 0) else if d_X8_at_r43_c4d k X = 0 ∧ ¬ d_X8_isKnown_r43d k (X.1 120 5) X = 0 ∧ ¬ X.1 33 3 ≤ d_X8_at_r43_c3d k X / 3 ∧ X.1 82 (d_X8_at_r43_c3d k X).toNat = s ∧ ¬ d < d_X8_at_r43_c1d k X then d_X8_at_r43_c5d k X else d_X6_byBirth_r120d_13 r s d (k + -1) X := by
  show (if k < 0 then (if d_X7_hasBy_r78d s 0 d X = 0 then _ else _) else if d_X8_at_r43_c4d k X = 0 then (if d_X8_isKnown_r43d k (X.1 120 5) X = 0 then _ else if X.1 33 3 ≤ d_X8_at_r43_c3d k X / 3 then _ else if X.1 82 (d_X8_at_r43_c3d k X).toNat = s then (if d < d_X8_at_r43_c1d k X then _ else _) else _) else _) = _
  repeat' split
  all_goals first
    | rfl
    | (exfalso; omega)
theorem sPk_b {E : pE} {g : Nat → Int} {s d kn : Int} (F : pIf E) : ∀ k : Nat, (k : Int) ≤ E.1 5 → ((sPk E g 0 s d kn k).1 = -1 ∧ (sPk E g 0 s d kn k).2 = -1) ∨ (0 ≤ (sPk E g 0 s d kn k).1 ∧ (sPk E g 0 s d kn k).2 = 0) := by
  intro k
  induction k with
  | zero => intro _; exact Or.inl ⟨rfl, rfl⟩
  | succ k ih =>
    intro h
    have fk := F.2 k (by omega)
    have st : sPk E g 0 s d kn (k + 1) = if sPc E g 0 s d kn (sPk E g 0 s d kn k).2 k then (E.1 (46542 + 6 * k), sWn E 0 k) else sPk E g 0 s d kn k := rfl
    rw [st]
    by_cases q : sPc E g 0 s d kn (sPk E g 0 s d kn k).2 k
    · rw [if_pos q]
      exact Or.inr ⟨fk.2.1.1, rfl⟩
    · rw [if_neg q]
      exact ih (by omega)
theorem bb_e {X : jW} {E : pE} {g : Nat → Int} {d kn : Int} {p : Nat} (P : pXs X E g) (T : pT X 32 pt_5 E.1) (F : pIf E) (hn : X.1 120 5 = kn) (hp : p < sNl E) (ep : g p = (p : Int)) : ∀ (k r : Nat), (k : Int) ≤ E.1 5 → k < r → d_X6_byBirth_r120d_13 r (p : Int) d ((k : Int) - 1) X = if (sPk E g 0 (p : Int) d kn k).1 = -1 then (if tv (sHb E g (p : Int) 0 d) = 0 then -1 else 0) else (sPk E g 0 (p : Int) d kn k).1 := by
  intro k
  induction k with
  | zero =>
    intro r hk hr
    obtain ⟨r', rfl⟩ : ∃ r', r = r' + 1 := ⟨r - 1, by omega⟩
    rw [bb_s, if_pos (by omega), xhb P hp ep]
    show _ = if (-1 : Int) = -1 then _ else _
    rw [if_pos rfl]
  | succ k ih =>
    intro r hk hr
    obtain ⟨r', rfl⟩ : ∃ r', r = r' + 1 := ⟨r - 1, by omega⟩
    have hk5 : (k : Int) < E.1 5 := by omega
    obtain ⟨f1, f2, f3, f4, f5, f6⟩ := f43 T hk5
    have fk := F.2 k hk5
    have b := P.2.1
    have kz : ¬ (if kn < E.1 (46545 + 6 * k) then (0 : Int) else 1) = 0 ↔ E.1 (46545 + 6 * k) ≤ kn := by
      by_cases v : kn < E.1 (46545 + 6 * k)
      · rw [if_pos v]; omega
      · rw [if_neg v]; omega
    rw [bb_s, show ((k + 1 : Nat) : Int) - 1 = (k : Int) from by omega, if_neg (by omega), f1, f3, f4, f5, hn, f6, P.2.2.1, P.2.2.2.2.1 _ (show (E.1 (46540 + 6 * k)).toNat < sNl E from by unfold sNl; omega), show (k : Int) + -1 = (k : Int) - 1 from by omega, ih r' (by omega) (by omega)]
    have st : sPk E g 0 (p : Int) d kn (k + 1) = if sPc E g 0 (p : Int) d kn (sPk E g 0 (p : Int) d kn k).2 k then (E.1 (46542 + 6 * k), sWn E 0 k) else sPk E g 0 (p : Int) d kn k := rfl
    have sb := @sPk_b E g (p : Int) d kn F k (by omega)
    have w0 : sWn E 0 k = 0 := rfl
    by_cases q : sPc E g 0 (p : Int) d kn (sPk E g 0 (p : Int) d kn k).2 k
    · rw [st, if_pos q]
      obtain ⟨q1, q2, q3, q4, q5⟩ := q
      rw [if_pos ⟨q2, kz.2 q1, by omega, q3, by omega⟩, if_neg (show ¬ E.1 (46542 + 6 * k) = -1 from by omega)]
    · rw [st, if_neg q]
      rw [if_neg]
      intro z
      obtain ⟨z1, z2, z3, z4, z5⟩ := z
      exact q ⟨kz.1 z2, z1, z4, Or.inl ⟨rfl, by omega⟩, by rw [w0]; omega⟩
theorem xbb {X : jW} {E : pE} {g : Nat → Int} {d kn : Int} {p : Nat} (P : pXs X E g) (T : pT X 32 pt_5 E.1) (F : pIf E) (hn : X.1 120 5 = kn) (hp : p < sNl E) (ep : g p = (p : Int)) : d_X6_byBirth_r120d (p : Int) d X = sPy E g 0 (p : Int) d kn := by
  have f0 := F.1
  have e43 : X.1 43 3 = E.1 5 := T.1
  unfold d_X6_byBirth_r120d sPy
  have y := @bb_e X E g d kn p P T F hn hp ep (E.1 5).toNat 101 (by omega) (by omega)
  rw [show (((E.1 5).toNat : Nat) : Int) - 1 = X.1 43 3 - 1 from by omega] at y
  rw [y]
  by_cases q : (sPk E g 0 (p : Int) d kn (E.1 5).toNat).1 = -1
  · rw [if_pos q]
    by_cases t : tv (sHb E g (p : Int) 0 d) = 0
    · rw [if_pos t, if_neg (fun z => z.2.2 t), q]
    · rw [if_neg t, if_pos ⟨rfl, q, t⟩]
  · rw [if_neg q, if_neg (fun z => q z.2.1)]
end jG26

section jG27
/-! pure: HOLDINGS on a DAY -/
def sLt (E : pE) (bs : Nat) (h d kn : Int) : Nat → Int × Int
  | 0 => (-2, -1)
  | k + 1 => if E.1 (bs + 4 * k) = h ∧ E.1 (bs + 4 * k + 3) ≤ kn ∧ E.1 (bs + 4 * k + 2) ≤ d ∧ (sLt E bs h d kn k).2 ≤ E.1 (bs + 4 * k + 2) then (E.1 (bs + 4 * k + 1), E.1 (bs + 4 * k + 2)) else sLt E bs h d kn k
/-- VALUES and HOLDERS are told of HOLDINGS that are there; a SPLIT one has no VALUE -/
def pIh (E : pE) : Prop := (0 ≤ E.1 8 ∧ E.1 8 ≤ 100) ∧ (0 ≤ E.1 10 ∧ E.1 10 ≤ 100) ∧ (∀ k : Nat, (k : Int) < E.1 8 → (0 ≤ E.1 (47260 + 4 * k) ∧ E.1 (47260 + 4 * k) < E.1 7) ∧ (0 ≤ E.1 (47261 + 4 * k) ∧ E.1 (47261 + 4 * k) ≤ 10000) ∧ 0 ≤ E.1 (47262 + 4 * k) ∧ ∀ j : Nat, (j : Int) < E.1 9 → E.1 (47660 + 6 * j) ≠ E.1 (47260 + 4 * k)) ∧ ∀ k : Nat, (k : Int) < E.1 10 → (0 ≤ E.1 (47900 + 4 * k) ∧ E.1 (47900 + 4 * k) < E.1 7) ∧ (-1 ≤ E.1 (47901 + 4 * k) ∧ E.1 (47901 + 4 * k) < 3 * E.1 0) ∧ 0 ≤ E.1 (47902 + 4 * k)
/-- SPLITS are in their order -/
def pIs (E : pE) : Prop := (0 ≤ E.1 7 ∧ E.1 7 ≤ 40) ∧ (0 ≤ E.1 9 ∧ E.1 9 ≤ E.1 7) ∧ (∀ k : Nat, (k : Int) < E.1 9 → (0 ≤ E.1 (47661 + 6 * k) ∧ E.1 (47661 + 6 * k) < E.1 (47660 + 6 * k) ∧ E.1 (47660 + 6 * k) < E.1 7) ∧ (1 ≤ E.1 (47662 + 6 * k) ∧ E.1 (47662 + 6 * k) < E.1 (47663 + 6 * k) ∧ E.1 (47663 + 6 * k) ≤ 100)) ∧ ∀ k m : Nat, k < m → (m : Int) < E.1 9 → E.1 (47660 + 6 * k) < E.1 (47660 + 6 * m)
def sSk (E : pE) (h : Int) : Nat → Int
  | 0 => -1
  | k + 1 => if E.1 (47660 + 6 * k) = h then (k : Int) else sSk E h k
def sSo (E : pE) (h : Int) : Int := sSk E h (E.1 9).toNat
theorem sSk_p {E : pE} {h : Int} : ∀ n : Nat, (sSk E h n = -1 ∧ ∀ k : Nat, k < n → E.1 (47660 + 6 * k) ≠ h) ∨ ∃ k : Nat, sSk E h n = (k : Int) ∧ k < n ∧ E.1 (47660 + 6 * k) = h := by
  intro n
  induction n with
  | zero => exact Or.inl ⟨rfl, fun k hk => absurd hk (Nat.not_lt_zero _)⟩
  | succ n ih =>
    have st : sSk E h (n + 1) = if E.1 (47660 + 6 * n) = h then (n : Int) else sSk E h n := rfl
    rw [st]
    by_cases c : E.1 (47660 + 6 * n) = h
    · rw [if_pos c]
      exact Or.inr ⟨n, rfl, by omega, c⟩
    · rw [if_neg c]
      rcases ih with ⟨i1, i2⟩ | ⟨k, k1, k2, k3⟩
      · refine Or.inl ⟨i1, fun k hk => ?_⟩
        by_cases e : k = n
        · rw [e]; exact c
        · exact i2 k (by omega)
      · exact Or.inr ⟨k, k1, by omega, k3⟩
theorem sSo_p {E : pE} (I : pIs E) {h : Int} : (sSo E h = -1 ∧ ∀ k : Nat, (k : Int) < E.1 9 → E.1 (47660 + 6 * k) ≠ h) ∨ ∃ k : Nat, sSo E h = (k : Int) ∧ (k : Int) < E.1 9 ∧ E.1 (47660 + 6 * k) = h := by
  have b := I.2.1
  rcases @sSk_p E h (E.1 9).toNat with ⟨i1, i2⟩ | ⟨k, k1, k2, k3⟩
  · exact Or.inl ⟨i1, fun k hk => i2 k (by omega)⟩
  · exact Or.inr ⟨k, k1, by omega, k3⟩
theorem sSo_k {E : pE} (I : pIs E) {k : Nat} (hk : (k : Int) < E.1 9) : sSo E (E.1 (47660 + 6 * k)) = (k : Int) := by
  rcases @sSo_p E I (E.1 (47660 + 6 * k)) with ⟨i1, i2⟩ | ⟨j, j1, j2, j3⟩
  · exact absurd rfl (i2 k hk)
  · rcases Nat.lt_trichotomy j k with c | c | c
    · have := I.2.2.2 j k c hk; omega
    · rw [j1, c]
    · have := I.2.2.2 k j c j2; omega
/-- the part that a SPLIT takes, if it is in its DAYS -/
abbrev sEf (E : pE) (d kn : Int) (h : Nat) : Prop := 0 ≤ sSo E (h : Int) ∧ E.1 (47664 + 6 * (sSo E (h : Int)).toNat) ≤ d ∧ E.1 (47665 + 6 * (sSo E (h : Int)).toNat) ≤ kn
def sPa (E : pE) (h : Nat) : Nat := (E.1 (47661 + 6 * (sSo E (h : Int)).toNat)).toNat
def sTk (E : pE) (h : Nat) (v : Int) : Int := v * E.1 (47662 + 6 * (sSo E (h : Int)).toNat) / E.1 (47663 + 6 * (sSo E (h : Int)).toNat)
def sTo (E : pE) (d kn : Int) (q : Nat) : Int := if (sLt E 47260 (q : Int) d kn (E.1 8).toNat).2 = -1 then 0 else (sLt E 47260 (q : Int) d kn (E.1 8).toNat).1
def sLf (E : pE) (d kn : Int) : Nat → Nat → Int
  | 0, q => sTo E d kn q
  | h + 1, q => if sEf E d kn h then (if q = h then sTk E h (sLf E d kn h (sPa E h)) else if q = sPa E h then sLf E d kn h q - sTk E h (sLf E d kn h (sPa E h)) else sLf E d kn h q) else sLf E d kn h q
def sHa (E : pE) (g : Nat → Int) (d kn : Int) : Nat → Nat → Int
  | 0, _ => -1
  | h + 1, q => if q = h then (if (sLt E 47900 (h : Int) d kn (E.1 10).toNat).2 = -1 then (if sSo E (h : Int) = -1 then -1 else sHa E g d kn h (sPa E h)) else if (sLt E 47900 (h : Int) d kn (E.1 10).toNat).1 = -1 then -1 else g (sLt E 47900 (h : Int) d kn (E.1 10).toNat).1.toNat) else sHa E g d kn h q
theorem sHa_o {E : pE} {g : Nat → Int} {d kn : Int} {q : Nat} : ∀ h : Nat, q < h → sHa E g d kn h q = sHa E g d kn (q + 1) q := by
  intro h
  induction h with
  | zero => intro c; exact absurd c (Nat.not_lt_zero _)
  | succ h ih =>
    intro c
    by_cases e : q = h
    · rw [e]
    · have st : sHa E g d kn (h + 1) q = sHa E g d kn h q := if_neg e
      rw [st]
      exact ih (by omega)
theorem sPa_b {E : pE} (I : pIs E) {h : Nat} (hs : ¬ sSo E (h : Int) = -1) : sPa E h < h ∧ ((sPa E h : Nat) : Int) = E.1 (47661 + 6 * (sSo E (h : Int)).toNat) := by
  rcases @sSo_p E I (h : Int) with ⟨i1, _⟩ | ⟨k, k1, k2, k3⟩
  · exact absurd i1 hs
  · have z := (I.2.2.1 k k2).1
    unfold sPa
    rw [k1, show ((k : Int)).toNat = k from by omega]
    omega
theorem sTo_b {E : pE} {d kn : Int} (H : pIh E) {q : Nat} : 0 ≤ sTo E d kn q ∧ sTo E d kn q ≤ 10000 := by
  have key : ∀ n : Nat, (n : Int) ≤ E.1 8 → (sLt E 47260 (q : Int) d kn n).2 = -1 ∨ (0 ≤ (sLt E 47260 (q : Int) d kn n).1 ∧ (sLt E 47260 (q : Int) d kn n).1 ≤ 10000) := by
    intro n
    induction n with
    | zero => intro _; exact Or.inl rfl
    | succ n ih =>
      intro h
      have st : sLt E 47260 (q : Int) d kn (n + 1) = if E.1 (47260 + 4 * n) = (q : Int) ∧ E.1 (47260 + 4 * n + 3) ≤ kn ∧ E.1 (47260 + 4 * n + 2) ≤ d ∧ (sLt E 47260 (q : Int) d kn n).2 ≤ E.1 (47260 + 4 * n + 2) then (E.1 (47260 + 4 * n + 1), E.1 (47260 + 4 * n + 2)) else sLt E 47260 (q : Int) d kn n := rfl
      rw [st]
      split
      · have z := (H.2.2.1 n (by omega)).2.1
        rw [show 47261 + 4 * n = 47260 + 4 * n + 1 from by omega] at z
        exact Or.inr z
      · exact ih (by omega)
  have h8 := H.1
  unfold sTo
  rcases key (E.1 8).toNat (by omega) with k | k
  · rw [if_pos k]; omega
  · split
    · omega
    · exact k
theorem tk_b {E : pE} (I : pIs E) {h : Nat} (hs : ¬ sSo E (h : Int) = -1) {v : Int} (hv : 0 ≤ v ∧ v ≤ 10000) : 0 ≤ sTk E h v ∧ sTk E h v ≤ v := by
  rcases @sSo_p E I (h : Int) with ⟨i1, _⟩ | ⟨k, k1, k2, k3⟩
  · exact absurd i1 hs
  · obtain ⟨z1, z2, z3⟩ := (I.2.2.1 k k2).2
    unfold sTk
    rw [k1, show ((k : Int)).toNat = k from by omega]
    generalize E.1 (47662 + 6 * k) = a at *
    generalize E.1 (47663 + 6 * k) = b at *
    refine ⟨Int.ediv_nonneg (Int.mul_nonneg hv.1 (by omega)) (by omega), ?_⟩
    refine Int.ediv_le_of_le_mul (by omega) ?_
    exact Int.mul_le_mul_of_nonneg_left (by omega) hv.1
theorem sLf_b {E : pE} {d kn : Int} (H : pIh E) (I : pIs E) : ∀ (h q : Nat), 0 ≤ sLf E d kn h q ∧ sLf E d kn h q ≤ 10000 := by
  intro h
  induction h with
  | zero => intro q; exact sTo_b H
  | succ h ih =>
    intro q
    have st : sLf E d kn (h + 1) q = if sEf E d kn h then (if q = h then sTk E h (sLf E d kn h (sPa E h)) else if q = sPa E h then sLf E d kn h q - sTk E h (sLf E d kn h (sPa E h)) else sLf E d kn h q) else sLf E d kn h q := rfl
    rw [st]
    have iq := ih q
    by_cases c : sEf E d kn h
    · rw [if_pos c]
      have ip := ih (sPa E h)
      have t := tk_b I (show ¬ sSo E (h : Int) = -1 from by have := c.1; omega) ip
      by_cases e1 : q = h
      · rw [if_pos e1]; omega
      · rw [if_neg e1]
        by_cases e2 : q = sPa E h
        · rw [if_pos e2, e2]; omega
        · rw [if_neg e2]; exact iq
    · rw [if_neg c]; exact iq
/-! the class's side: what was told last -/
theorem rl47_s {X : jW} {r : Nat} {k : Int} : d_X0_readLatest_r98_r47_r102d_55 (r + 1) 3 k X = if X.1 47 3 ≤ k then X else if ¬ d_X8_isKnown_r47d k (X.1 98 11) X = 0 ∧ ¬ X.1 98 10 < d_X8_at_r47_c1d k X ∧ ¬ d_X8_at_r47_c1d k X < X.1 104 (d_X8_at_r47_c2d k X).toNat then d_X0_readLatest_r98_r47_r102d_55 r 3 (k + 1) (vu (vu X 104 (d_X8_at_r47_c2d k X).toNat (d_X8_at_r47_c1d k X)) 102 (d_X8_at_r47_c2d k X).toNat (d_X8_at_r47d k 3 (vu X 104 (d_X8_at_r47_c2d k X).toNat (d_X8_at_r47_c1d k X)))) else d_X0_readLatest_r98_r47_r102d_55 r 3 (k + 1) X := by
  show (if X.1 47 3 ≤ k then X else if d_X8_isKnown_r47d k (X.1 98 11) X = 0 then _ else if X.1 98 10 < d_X8_at_r47_c1d k X then _ else if d_X8_at_r47_c1d k X < X.1 104 (d_X8_at_r47_c2d k X).toNat then _ else _) = _
  repeat' split
  all_goals first
    | rfl
    | (exfalso; omega)
abbrev fwL47 : List (Nat × Nat) := [(104, 0), (102, 0)]
theorem rl47_e {E : pE} {d kn w : Int} (H : pIh E) (h7 : 0 ≤ E.1 7 ∧ E.1 7 ≤ 40) : ∀ (c k r : Nat) (X : jW), ((k + c : Nat) : Int) = E.1 8 → c < r → pT X 32 pt_7 E.1 → X.1 98 10 = d → X.1 98 11 = kn → (∀ q : Nat, (q : Int) < E.1 7 → X.1 104 q = (sLt E 47260 (q : Int) d kn k).2 ∧ X.1 102 q = if (sLt E 47260 (q : Int) d kn k).2 = -1 then w else (sLt E 47260 (q : Int) d kn k).1) → (∀ q : Nat, (q : Int) < E.1 7 → (d_X0_readLatest_r98_r47_r102d_55 r 3 (k : Int) X).1 104 q = (sLt E 47260 (q : Int) d kn (E.1 8).toNat).2 ∧ (d_X0_readLatest_r98_r47_r102d_55 r 3 (k : Int) X).1 102 q = if (sLt E 47260 (q : Int) d kn (E.1 8).toNat).2 = -1 then w else (sLt E 47260 (q : Int) d kn (E.1 8).toNat).1) := by
  intro c
  induction c with
  | zero =>
    intro k r X hk hr T hd hn G
    obtain ⟨r', rfl⟩ : ∃ r', r = r' + 1 := ⟨r - 1, by omega⟩
    have e : X.1 47 3 = E.1 8 := T.1
    rw [rl47_s, e, if_pos (by omega), show (E.1 8).toNat = k from by omega]
    exact G
  | succ c ih =>
    intro k r X hk hr T hd hn G
    obtain ⟨r', rfl⟩ : ∃ r', r = r' + 1 := ⟨r - 1, by omega⟩
    have e : X.1 47 3 = E.1 8 := T.1
    have hk8 : (k : Int) < E.1 8 := by omega
    have rk := H.2.2.1 k hk8
    have c1 : d_X8_at_r47_c1d (k : Int) X = E.1 (47260 + 4 * k + 2) := by rw [at_47_1 T (by omega) hk8, show (47260 + 4 * (k : Int) + 2).toNat = 47260 + 4 * k + 2 from by omega]
    have c2 : d_X8_at_r47_c2d (k : Int) X = E.1 (47260 + 4 * k) := by rw [at_47_2 T (by omega) hk8, show (47260 + 4 * (k : Int) + 0).toNat = 47260 + 4 * k from by omega]
    have kn' : d_X8_isKnown_r47d (k : Int) kn X = if kn < E.1 (47260 + 4 * k + 3) then 0 else 1 := by rw [kn_47 T (by omega) hk8, show (47260 + 4 * (k : Int) + 3).toNat = 47260 + 4 * k + 3 from by omega]
    have c3 : ∀ j v, d_X8_at_r47d (k : Int) 3 (vu X 104 j v) = E.1 (47260 + 4 * k + 1) := fun j v => by
      unfold d_X8_at_r47d
      rw [vu_n (by omega), if_neg (by omega), vu_n (by omega)]
      exact pT_at T (i := (k : Int)) (by omega) hk8 (c := 3) (by decide) (by show _ = 4 * ((k : Int)).toNat + 3; omega) (by show _ = 47260 + 4 * ((k : Int)).toNat + 1; omega)
    obtain ⟨h, hh⟩ : ∃ h : Nat, E.1 (47260 + 4 * k) = (h : Int) := ⟨(E.1 (47260 + 4 * k)).toNat, by omega⟩
    have gh := G h (by omega)
    have day0 : 0 ≤ E.1 (47260 + 4 * k + 2) := by
      have := rk.2.2.1
      rw [show 47262 + 4 * k = 47260 + 4 * k + 2 from by omega] at this
      exact this
    rw [rl47_s, e, if_neg (by omega), c1, c2, hd, hn, kn', c3, hh, show ((h : Int)).toNat = h from by omega, gh.1]
    have st : ∀ q : Nat, sLt E 47260 (q : Int) d kn (k + 1) = if E.1 (47260 + 4 * k) = (q : Int) ∧ E.1 (47260 + 4 * k + 3) ≤ kn ∧ E.1 (47260 + 4 * k + 2) ≤ d ∧ (sLt E 47260 (q : Int) d kn k).2 ≤ E.1 (47260 + 4 * k + 2) then (E.1 (47260 + 4 * k + 1), E.1 (47260 + 4 * k + 2)) else sLt E 47260 (q : Int) d kn k := fun _ => rfl
    by_cases cd : E.1 (47260 + 4 * k + 3) ≤ kn ∧ E.1 (47260 + 4 * k + 2) ≤ d ∧ (sLt E 47260 (h : Int) d kn k).2 ≤ E.1 (47260 + 4 * k + 2)
    · rw [if_pos ⟨by rw [if_neg (by omega)]; decide, by omega, by omega⟩]
      have F : pF [(104, 0), (102, 0)] X (vu (vu X 104 h (E.1 (47260 + 4 * k + 2))) 102 h (E.1 (47260 + 4 * k + 1))) := pF_v (pF_v pF_r rfl) rfl
      have y := ih (k + 1) r' _ (by omega) (by omega) (pT_x F rfl T) ((F.1 98 10 rfl).trans hd) ((F.1 98 11 rfl).trans hn) (fun q hq => ?_)
      · rw [show ((k + 1 : Nat) : Int) = (k : Int) + 1 from by omega] at y
        exact y
      · rw [st q, hh]
        by_cases e2 : q = h
        · rw [e2, if_pos ⟨rfl, cd⟩]
          refine ⟨by rw [vu_n (by omega)]; exact vu_e rfl, ?_⟩
          rw [vu_e rfl, if_neg (show ¬ E.1 (47260 + 4 * k + 2) = -1 from by omega)]
        · rw [if_neg (fun z => e2 (by omega)), vu_n (by omega), vu_n (by omega), vu_n (by omega), vu_n (by omega)]
          exact G q hq
    · rw [if_neg (fun z => cd ⟨by have z1 := z.1; by_cases v : kn < E.1 (47260 + 4 * k + 3); · rw [if_pos v] at z1; exact absurd rfl z1
                                  · omega, by omega, by omega⟩)]
      have y := ih (k + 1) r' X (by omega) (by omega) T hd hn (fun q hq => ?_)
      · rw [show ((k + 1 : Nat) : Int) = (k : Int) + 1 from by omega] at y
        exact y
      · rw [st q, hh]
        by_cases e2 : q = h
        · rw [e2, if_neg (fun z => cd z.2)]
          exact gh
        · rw [if_neg (fun z => e2 (by omega))]
          exact G q hq
theorem rl47_3 {r : Nat} {w k : Int} {X : jW} : d_X0_readLatest_r98_r47_r102d_3 (r + 1) 3 w k X = if 40 ≤ k ∨ X.1 49 3 ≤ k then d_X0_readLatest_r98_r47_r102d_55 101 3 0 X else d_X0_readLatest_r98_r47_r102d_3 r 3 w (k + 1) (vu (vu X 102 k.toNat w) 104 k.toNat (-1)) := by
  show (if 40 ≤ k then d_X0_readLatest_r98_r47_r102d_55 101 3 0 X else if X.1 49 3 ≤ k then d_X0_readLatest_r98_r47_r102d_55 101 3 0 X else _) = _
  generalize d_X0_readLatest_r98_r47_r102d_55 101 3 0 X = y
  repeat' split
  all_goals first
    | rfl
    | (exfalso; omega)
theorem rl47 {E : pE} {d kn w : Int} (H : pIh E) (h7 : 0 ≤ E.1 7 ∧ E.1 7 ≤ 40) : ∀ (c k r : Nat) (X : jW), ((k + c : Nat) : Int) = E.1 7 → c < r → pT X 32 pt_7 E.1 → X.1 49 3 = E.1 7 → X.1 98 10 = d → X.1 98 11 = kn → (∀ q : Nat, q < k → X.1 104 q = -1 ∧ X.1 102 q = w) → (∀ q : Nat, (q : Int) < E.1 7 → (d_X0_readLatest_r98_r47_r102d_3 r 3 w (k : Int) X).1 104 q = (sLt E 47260 (q : Int) d kn (E.1 8).toNat).2 ∧ (d_X0_readLatest_r98_r47_r102d_3 r 3 w (k : Int) X).1 102 q = if (sLt E 47260 (q : Int) d kn (E.1 8).toNat).2 = -1 then w else (sLt E 47260 (q : Int) d kn (E.1 8).toNat).1) := by
  intro c
  induction c with
  | zero =>
    intro k r X hk hr T h49 hd hn G
    obtain ⟨r', rfl⟩ : ∃ r', r = r' + 1 := ⟨r - 1, by omega⟩
    rw [rl47_3, if_pos (by omega)]
    have h8 := H.1
    exact rl47_e H h7 (E.1 8).toNat 0 101 X (by omega) (by omega) T hd hn (fun q hq => by
      show X.1 104 q = -1 ∧ X.1 102 q = if (-1 : Int) = -1 then w else _
      rw [if_pos rfl]
      exact G q (by omega))
  | succ c ih =>
    intro k r X hk hr T h49 hd hn G
    obtain ⟨r', rfl⟩ : ∃ r', r = r' + 1 := ⟨r - 1, by omega⟩
    rw [rl47_3, if_neg (by omega), show ((k : Int)).toNat = k from by omega]
    have F : pF [(102, 0), (104, 0)] X (vu (vu X 102 k w) 104 k (-1)) := pF_v (pF_v pF_r rfl) rfl
    have y := ih (k + 1) r' _ (by omega) (by omega) (pT_x F rfl T) ((F.1 49 3 rfl).trans h49) ((F.1 98 10 rfl).trans hd) ((F.1 98 11 rfl).trans hn) (fun q hq => ?_)
    · rw [show ((k + 1 : Nat) : Int) = (k : Int) + 1 from by omega] at y
      exact y
    · by_cases e : q = k
      · rw [e]
        exact ⟨vu_e rfl, (vu_n (by omega)).trans (vu_e rfl)⟩
      · rw [vu_n (by omega), vu_n (by omega), vu_n (by omega), vu_n (by omega)]
        exact G q (by omega)
theorem rl51_s {X : jW} {r : Nat} {k : Int} : d_X0_readLatest_r98_r51_r103d_55 (r + 1) 3 k X = if X.1 51 3 ≤ k then X else if ¬ d_X8_isKnown_r51d k (X.1 98 11) X = 0 ∧ ¬ X.1 98 10 < d_X8_at_r51_c1d k X ∧ ¬ d_X8_at_r51_c1d k X < X.1 104 (d_X8_at_r51_c2d k X).toNat then d_X0_readLatest_r98_r51_r103d_55 r 3 (k + 1) (vu (vu X 104 (d_X8_at_r51_c2d k X).toNat (d_X8_at_r51_c1d k X)) 103 (d_X8_at_r51_c2d k X).toNat (d_X8_at_r51d k 3 (vu X 104 (d_X8_at_r51_c2d k X).toNat (d_X8_at_r51_c1d k X)))) else d_X0_readLatest_r98_r51_r103d_55 r 3 (k + 1) X := by
  show (if X.1 51 3 ≤ k then X else if d_X8_isKnown_r51d k (X.1 98 11) X = 0 then _ else if X.1 98 10 < d_X8_at_r51_c1d k X then _ else if d_X8_at_r51_c1d k X < X.1 104 (d_X8_at_r51_c2d k X).toNat then _ else _) = _
  repeat' split
  all_goals first
    | rfl
    | (exfalso; omega)
abbrev fwL51 : List (Nat × Nat) := [(104, 0), (103, 0)]
theorem rl51_e {E : pE} {d kn w : Int} (H : pIh E) (h7 : 0 ≤ E.1 7 ∧ E.1 7 ≤ 40) : ∀ (c k r : Nat) (X : jW), ((k + c : Nat) : Int) = E.1 10 → c < r → pT X 32 pt_9 E.1 → X.1 98 10 = d → X.1 98 11 = kn → (∀ q : Nat, (q : Int) < E.1 7 → X.1 104 q = (sLt E 47900 (q : Int) d kn k).2 ∧ X.1 103 q = if (sLt E 47900 (q : Int) d kn k).2 = -1 then w else (sLt E 47900 (q : Int) d kn k).1) → (∀ q : Nat, (q : Int) < E.1 7 → (d_X0_readLatest_r98_r51_r103d_55 r 3 (k : Int) X).1 104 q = (sLt E 47900 (q : Int) d kn (E.1 10).toNat).2 ∧ (d_X0_readLatest_r98_r51_r103d_55 r 3 (k : Int) X).1 103 q = if (sLt E 47900 (q : Int) d kn (E.1 10).toNat).2 = -1 then w else (sLt E 47900 (q : Int) d kn (E.1 10).toNat).1) := by
  intro c
  induction c with
  | zero =>
    intro k r X hk hr T hd hn G
    obtain ⟨r', rfl⟩ : ∃ r', r = r' + 1 := ⟨r - 1, by omega⟩
    have e : X.1 51 3 = E.1 10 := T.1
    rw [rl51_s, e, if_pos (by omega), show (E.1 10).toNat = k from by omega]
    exact G
  | succ c ih =>
    intro k r X hk hr T hd hn G
    obtain ⟨r', rfl⟩ : ∃ r', r = r' + 1 := ⟨r - 1, by omega⟩
    have e : X.1 51 3 = E.1 10 := T.1
    have hk8 : (k : Int) < E.1 10 := by omega
    have rk := H.2.2.2 k hk8
    have c1 : d_X8_at_r51_c1d (k : Int) X = E.1 (47900 + 4 * k + 2) := by rw [at_51_1 T (by omega) hk8, show (47900 + 4 * (k : Int) + 2).toNat = 47900 + 4 * k + 2 from by omega]
    have c2 : d_X8_at_r51_c2d (k : Int) X = E.1 (47900 + 4 * k) := by rw [at_51_2 T (by omega) hk8, show (47900 + 4 * (k : Int) + 0).toNat = 47900 + 4 * k from by omega]
    have kn' : d_X8_isKnown_r51d (k : Int) kn X = if kn < E.1 (47900 + 4 * k + 3) then 0 else 1 := by rw [kn_51 T (by omega) hk8, show (47900 + 4 * (k : Int) + 3).toNat = 47900 + 4 * k + 3 from by omega]
    have c3 : ∀ j v, d_X8_at_r51d (k : Int) 3 (vu X 104 j v) = E.1 (47900 + 4 * k + 1) := fun j v => by
      unfold d_X8_at_r51d
      rw [vu_n (by omega), if_neg (by omega), vu_n (by omega)]
      exact pT_at T (i := (k : Int)) (by omega) hk8 (c := 3) (by decide) (by show _ = 4 * ((k : Int)).toNat + 3; omega) (by show _ = 47900 + 4 * ((k : Int)).toNat + 1; omega)
    obtain ⟨h, hh⟩ : ∃ h : Nat, E.1 (47900 + 4 * k) = (h : Int) := ⟨(E.1 (47900 + 4 * k)).toNat, by omega⟩
    have gh := G h (by omega)
    have day0 : 0 ≤ E.1 (47900 + 4 * k + 2) := by
      have := rk.2.2
      rw [show 47902 + 4 * k = 47900 + 4 * k + 2 from by omega] at this
      exact this
    rw [rl51_s, e, if_neg (by omega), c1, c2, hd, hn, kn', c3, hh, show ((h : Int)).toNat = h from by omega, gh.1]
    have st : ∀ q : Nat, sLt E 47900 (q : Int) d kn (k + 1) = if E.1 (47900 + 4 * k) = (q : Int) ∧ E.1 (47900 + 4 * k + 3) ≤ kn ∧ E.1 (47900 + 4 * k + 2) ≤ d ∧ (sLt E 47900 (q : Int) d kn k).2 ≤ E.1 (47900 + 4 * k + 2) then (E.1 (47900 + 4 * k + 1), E.1 (47900 + 4 * k + 2)) else sLt E 47900 (q : Int) d kn k := fun _ => rfl
    by_cases cd : E.1 (47900 + 4 * k + 3) ≤ kn ∧ E.1 (47900 + 4 * k + 2) ≤ d ∧ (sLt E 47900 (h : Int) d kn k).2 ≤ E.1 (47900 + 4 * k + 2)
    · rw [if_pos ⟨by rw [if_neg (by omega)]; decide, by omega, by omega⟩]
      have F : pF [(104, 0), (103, 0)] X (vu (vu X 104 h (E.1 (47900 + 4 * k + 2))) 103 h (E.1 (47900 + 4 * k + 1))) := pF_v (pF_v pF_r rfl) rfl
      have y := ih (k + 1) r' _ (by omega) (by omega) (pT_x F rfl T) ((F.1 98 10 rfl).trans hd) ((F.1 98 11 rfl).trans hn) (fun q hq => ?_)
      · rw [show ((k + 1 : Nat) : Int) = (k : Int) + 1 from by omega] at y
        exact y
      · rw [st q, hh]
        by_cases e2 : q = h
        · rw [e2, if_pos ⟨rfl, cd⟩]
          refine ⟨by rw [vu_n (by omega)]; exact vu_e rfl, ?_⟩
          rw [vu_e rfl, if_neg (show ¬ E.1 (47900 + 4 * k + 2) = -1 from by omega)]
        · rw [if_neg (fun z => e2 (by omega)), vu_n (by omega), vu_n (by omega), vu_n (by omega), vu_n (by omega)]
          exact G q hq
    · rw [if_neg (fun z => cd ⟨by have z1 := z.1; by_cases v : kn < E.1 (47900 + 4 * k + 3); · rw [if_pos v] at z1; exact absurd rfl z1
                                  · omega, by omega, by omega⟩)]
      have y := ih (k + 1) r' X (by omega) (by omega) T hd hn (fun q hq => ?_)
      · rw [show ((k + 1 : Nat) : Int) = (k : Int) + 1 from by omega] at y
        exact y
      · rw [st q, hh]
        by_cases e2 : q = h
        · rw [e2, if_neg (fun z => cd z.2)]
          exact gh
        · rw [if_neg (fun z => e2 (by omega))]
          exact G q hq
theorem rl51_3 {r : Nat} {w k : Int} {X : jW} : d_X0_readLatest_r98_r51_r103d_3 (r + 1) 3 w k X = if 40 ≤ k ∨ X.1 49 3 ≤ k then d_X0_readLatest_r98_r51_r103d_55 101 3 0 X else d_X0_readLatest_r98_r51_r103d_3 r 3 w (k + 1) (vu (vu X 103 k.toNat w) 104 k.toNat (-1)) := by
  show (if 40 ≤ k then d_X0_readLatest_r98_r51_r103d_55 101 3 0 X else if X.1 49 3 ≤ k then d_X0_readLatest_r98_r51_r103d_55 101 3 0 X else _) = _
  generalize d_X0_readLatest_r98_r51_r103d_55 101 3 0 X = y
  repeat' split
  all_goals first
    | rfl
    | (exfalso; omega)
theorem rl51 {E : pE} {d kn w : Int} (H : pIh E) (h7 : 0 ≤ E.1 7 ∧ E.1 7 ≤ 40) : ∀ (c k r : Nat) (X : jW), ((k + c : Nat) : Int) = E.1 7 → c < r → pT X 32 pt_9 E.1 → X.1 49 3 = E.1 7 → X.1 98 10 = d → X.1 98 11 = kn → (∀ q : Nat, q < k → X.1 104 q = -1 ∧ X.1 103 q = w) → (∀ q : Nat, (q : Int) < E.1 7 → (d_X0_readLatest_r98_r51_r103d_3 r 3 w (k : Int) X).1 104 q = (sLt E 47900 (q : Int) d kn (E.1 10).toNat).2 ∧ (d_X0_readLatest_r98_r51_r103d_3 r 3 w (k : Int) X).1 103 q = if (sLt E 47900 (q : Int) d kn (E.1 10).toNat).2 = -1 then w else (sLt E 47900 (q : Int) d kn (E.1 10).toNat).1) := by
  intro c
  induction c with
  | zero =>
    intro k r X hk hr T h49 hd hn G
    obtain ⟨r', rfl⟩ : ∃ r', r = r' + 1 := ⟨r - 1, by omega⟩
    rw [rl51_3, if_pos (by omega)]
    have h8 := H.2.1
    exact rl51_e H h7 (E.1 10).toNat 0 101 X (by omega) (by omega) T hd hn (fun q hq => by
      show X.1 104 q = -1 ∧ X.1 103 q = if (-1 : Int) = -1 then w else _
      rw [if_pos rfl]
      exact G q (by omega))
  | succ c ih =>
    intro k r X hk hr T h49 hd hn G
    obtain ⟨r', rfl⟩ : ∃ r', r = r' + 1 := ⟨r - 1, by omega⟩
    rw [rl51_3, if_neg (by omega), show ((k : Int)).toNat = k from by omega]
    have F : pF [(103, 0), (104, 0)] X (vu (vu X 103 k w) 104 k (-1)) := pF_v (pF_v pF_r rfl) rfl
    have y := ih (k + 1) r' _ (by omega) (by omega) (pT_x F rfl T) ((F.1 49 3 rfl).trans h49) ((F.1 98 10 rfl).trans hd) ((F.1 98 11 rfl).trans hn) (fun q hq => ?_)
    · rw [show ((k + 1 : Nat) : Int) = (k : Int) + 1 from by omega] at y
      exact y
    · by_cases e : q = k
      · rw [e]
        exact ⟨vu_e rfl, (vu_n (by omega)).trans (vu_e rfl)⟩
      · rw [vu_n (by omega), vu_n (by omega), vu_n (by omega), vu_n (by omega)]
        exact G q (by omega)
end jG27

section jG28
/-! pure: HOLDINGS on a DAY, the class's side -/
theorem j_id {x y : Int} (hx : 0 ≤ x ∧ x ≤ 2147483647) (hy : 0 < y ∧ y ≤ 2147483647) : j_idiv x y = x / y := by
  unfold j_idiv
  have h3 : x / y ≤ x := Int.ediv_le_self _ hx.1
  have h4 : 0 ≤ x / y := Int.ediv_nonneg hx.1 (by omega)
  rw [Int32.toInt_div, j_of (by omega), j_of (by omega), Int.tdiv_eq_ediv_of_nonneg hx.1]
  exact Int.bmod_eq_of_le (by omega) (by omega)
theorem ho_is {X : jW} {E : pE} (H : pHo X 32 E.1) : pIs E := by
  obtain ⟨h0, h1, h2, h3, h4⟩ := H
  refine ⟨by omega, by omega, fun k hk => ?_, h3⟩
  have z := h2 k hk
  rcases h4 (E.1 (47660 + 6 * k)).toNat (by omega) with ⟨_, q⟩ | ⟨j, j1, j2⟩
  · exact absurd (by omega) (q k hk)
  · obtain ⟨p1, p2, p3, p4, p5, p6, p7, p8, p9, p10⟩ := j2
    have e : j = k := by
      rcases Nat.lt_trichotomy j k with c | c | c
      · have := h3 j k c hk; omega
      · exact c
      · have := h3 k j c j1; omega
    subst e
    exact ⟨⟨p7.1, by omega, z.2⟩, p8, p9, p10⟩
theorem ho_so {X : jW} {E : pE} (H : pHo X 32 E.1) {h : Nat} (hh : (h : Int) < E.1 7) : (X.1 50 (5 * h + 2) = -1 ∧ sSo E (h : Int) = -1) ∨ ∃ k : Nat, sSo E (h : Int) = (k : Int) ∧ (k : Int) < E.1 9 ∧ pHs X 32 E.1 h k := by
  have I := ho_is H
  rcases H.2.2.2.2 h hh with ⟨p, q⟩ | ⟨k, k1, k2⟩
  · refine Or.inl ⟨p, ?_⟩
    rcases @sSo_p E I (h : Int) with ⟨i1, _⟩ | ⟨k, _, k2, k3⟩
    · exact i1
    · exact absurd k3 (q k k2)
  · refine Or.inr ⟨k, ?_, k1, k2⟩
    rw [← k2.1]
    exact sSo_k I k1
/-- the class's arrays while HOLDINGS are gone through -/
def pHx (X : jW) (E : pE) (g : Nat → Int) (d kn : Int) (h : Nat) : Prop := (∀ q : Nat, (q : Int) < E.1 7 → X.1 102 q = sLf E d kn h q) ∧ (∀ q : Nat, q < h → X.1 103 q = sHa E g d kn h q) ∧ (∀ q : Nat, h ≤ q → (q : Int) < E.1 7 → X.1 103 q = if (sLt E 47900 (q : Int) d kn (E.1 10).toNat).2 = -1 then -1 else (sLt E 47900 (q : Int) d kn (E.1 10).toNat).1) ∧ ∀ q : Nat, (q : Int) < E.1 7 → X.1 104 q = (sLt E 47900 (q : Int) d kn (E.1 10).toNat).2
/-- what stays meanwhile -/
def pHc (X : jW) (E : pE) (g : Nat → Int) (d kn : Int) : Prop := pHo X 32 E.1 ∧ X.1 33 3 = E.1 0 ∧ (∀ m : Nat, m < sNl E → X.1 82 m = g m) ∧ X.1 98 10 = d ∧ X.1 98 11 = kn
theorem pHc_f {l : List (Nat × Nat)} {X N : jW} {E : pE} {g : Nat → Int} {d kn : Int} (F : pF l X N) (c1 : cok l 32 8 = true) (c2 : pc l 33 3 = false) (c3 : (l.any fun q => Nat.beq q.1 82) = false) (c4 : pc l 98 10 = false) (c5 : pc l 98 11 = false) (P : pHc X E g d kn) : pHc N E g d kn := by
  have c := cok_e F c1
  exact ⟨pHo_e c.1 c.2 (fun _ _ => rfl) P.1, (F.1 33 3 c2).trans P.2.1, fun m hm => by rw [pF_c F c3]; exact P.2.2.1 m hm, (F.1 98 10 c4).trans P.2.2.2.1, (F.1 98 11 c5).trans P.2.2.2.2⟩
theorem lt_r {E : pE} {d kn : Int} (H : pIh E) {q : Int} : ∀ n : Nat, (n : Int) ≤ E.1 10 → ((sLt E 47900 q d kn n).2 = -1 ∧ (sLt E 47900 q d kn n).1 = -2) ∨ (0 ≤ (sLt E 47900 q d kn n).2 ∧ -1 ≤ (sLt E 47900 q d kn n).1 ∧ (sLt E 47900 q d kn n).1 < 3 * E.1 0) := by
  intro n
  induction n with
  | zero => intro _; exact Or.inl ⟨rfl, rfl⟩
  | succ n ih =>
    intro h
    have st : sLt E 47900 q d kn (n + 1) = if E.1 (47900 + 4 * n) = q ∧ E.1 (47900 + 4 * n + 3) ≤ kn ∧ E.1 (47900 + 4 * n + 2) ≤ d ∧ (sLt E 47900 q d kn n).2 ≤ E.1 (47900 + 4 * n + 2) then (E.1 (47900 + 4 * n + 1), E.1 (47900 + 4 * n + 2)) else sLt E 47900 q d kn n := rfl
    rw [st]
    split
    · have z := (H.2.2.2 n (by omega)).2
      rw [show 47901 + 4 * n = 47900 + 4 * n + 1 from by omega, show 47902 + 4 * n = 47900 + 4 * n + 2 from by omega] at z
      exact Or.inr ⟨z.2, z.1.1, z.1.2⟩
    · exact ih (by omega)
theorem h89_s {r : Nat} {n h : Int} {X : jW} : d_X0_readHouses_r98d_89 (r + 1) n h X = if n ≤ h then X else d_X0_readHouses_r98d_130 (fun l3 l4 W => d_X0_readHouses_r98d_89 r l3 l4 W) n h (if X.1 103 h.toNat = -1 ∨ X.1 33 3 ≤ X.1 103 h.toNat / 3 then -1 else X.1 82 (X.1 103 h.toNat).toNat) h X := by
  show (if n ≤ h then X else if X.1 103 h.toNat = -1 then _ else if X.1 33 3 ≤ X.1 103 h.toNat / 3 then _ else _) = _
  repeat' split
  all_goals first
    | rfl
    | (exfalso; omega)
theorem so_s {h p : Nat} {W : jW} {v a b t kn d : Int} (e4 : d_X8_at_r49_c4d (h : Int) W = b) (e3 : d_X8_at_r49_c3d (h : Int) W = a) (e1 : d_X8_at_r49_c1d (h : Int) W = t) (ek : d_X8_isKnown_r49d (h : Int) kn W = if kn < v then 0 else 1) (hd : W.1 98 10 = d) (hn : W.1 98 11 = kn) (hab : 1 ≤ a ∧ a < b ∧ b ≤ 100) (hl : 0 ≤ W.1 102 p ∧ W.1 102 p ≤ 10000) (hp : p < h) : ∃ V : jW, d_X0_splitOff_r98d (h : Int) (p : Int) W = V ∧ pF [(102, 0), (103, 0)] W V ∧ (∀ q : Nat, V.1 102 q = if v ≤ kn ∧ t ≤ d then (if q = h then W.1 102 p * a / b else if q = p then W.1 102 q - W.1 102 p * a / b else W.1 102 q) else W.1 102 q) ∧ ∀ q : Nat, V.1 103 q = if q = h ∧ W.1 104 h = -1 then W.1 103 p else W.1 103 q := by
  have tkv : j_idiv (j_imul (W.1 102 p) a) b = W.1 102 p * a / b := by
    have m1 : 0 ≤ W.1 102 p * a := Int.mul_nonneg hl.1 (by omega)
    have m2 : W.1 102 p * a ≤ 10000 * 100 := Int.mul_le_mul hl.2 (by omega) (by omega) (by omega)
    rw [j_im (by omega) (by omega) (by omega), j_id (by omega) (by omega)]
  have tb : 0 ≤ W.1 102 p * a / b ∧ W.1 102 p * a / b ≤ W.1 102 p := ⟨Int.ediv_nonneg (Int.mul_nonneg hl.1 (by omega)) (by omega), Int.ediv_le_of_le_mul (by omega) (Int.mul_le_mul_of_nonneg_left (by omega) hl.1)⟩
  have k96 : ∀ U : jW, U.1 104 h = W.1 104 h → U.1 103 = W.1 103 → (d_X0_splitOff_r98d_96 (h : Int) (p : Int) U).1 102 = U.1 102 ∧ pF [(102, 0), (103, 0)] U (d_X0_splitOff_r98d_96 (h : Int) (p : Int) U) ∧ ∀ q : Nat, (d_X0_splitOff_r98d_96 (h : Int) (p : Int) U).1 103 q = if q = h ∧ W.1 104 h = -1 then W.1 103 p else W.1 103 q := fun U u4 u3 => by
    unfold d_X0_splitOff_r98d_96
    rw [show ((h : Int)).toNat = h from by omega, show ((p : Int)).toNat = p from by omega, u4]
    by_cases c : W.1 104 h = -1
    · rw [if_pos c]
      refine ⟨vu_c (by decide), pF_v pF_r rfl, fun q => ?_⟩
      show (vu U 103 h (U.1 103 p)).1 103 q = _
      by_cases e : q = h
      · rw [if_pos ⟨e, c⟩, e, vu_e rfl, u3]
      · rw [if_neg (fun z => e z.1), vu_n (by omega), u3]
    · rw [if_neg c]
      refine ⟨rfl, pF_r, fun q => ?_⟩
      rw [if_neg (fun z => c z.2)]
      show U.1 103 q = W.1 103 q
      rw [u3]
  unfold d_X0_splitOff_r98d
  rw [e4, e3, e1, hd, hn, ek, if_neg (show ¬ b ≤ 0 from by omega), show ((h : Int)).toNat = h from by omega, show ((p : Int)).toNat = p from by omega, tkv, show (vu W 102 h (W.1 102 p * a / b)).1 102 p = W.1 102 p from vu_n (by omega), j_is (by omega) (by omega) (by omega)]
  by_cases c : v ≤ kn ∧ t ≤ d
  · rw [if_neg (show ¬ (if kn < v then (0 : Int) else 1) = 0 from by rw [if_neg (by omega)]; decide), if_neg (by omega)]
    obtain ⟨z1, z2, z3⟩ := k96 (vu (vu W 102 h (W.1 102 p * a / b)) 102 p (W.1 102 p - W.1 102 p * a / b)) (by rw [vu_n (by omega), vu_n (by omega)]) (by rw [vu_c (by decide), vu_c (by decide)])
    refine ⟨_, rfl, pF_t (pF_v (pF_v pF_r rfl) rfl) z2, fun q => ?_, z3⟩
    rw [z1, if_pos c]
    by_cases e1 : q = h
    · rw [if_pos e1, e1, vu_n (by omega)]
      exact vu_e rfl
    · rw [if_neg e1]
      by_cases e2 : q = p
      · rw [if_pos e2, e2]
        exact vu_e rfl
      · rw [if_neg e2, vu_n (by omega), vu_n (by omega)]
  · obtain ⟨z1, z2, z3⟩ := k96 W rfl rfl
    refine ⟨d_X0_splitOff_r98d_96 (h : Int) (p : Int) W, ?_, z2, fun q => ?_, z3⟩
    · by_cases v1 : kn < v
      · rw [if_pos (show (if kn < v then (0 : Int) else 1) = 0 from if_pos v1)]
      · rw [if_neg (show ¬ (if kn < v then (0 : Int) else 1) = 0 from by rw [if_neg v1]; decide), if_pos (by omega)]
    · rw [z1, if_neg c]
theorem h89_k {E : pE} {g : Nat → Int} {d kn : Int} {r h : Nat} {X : jW} (H : pIh E) (P : pHc X E g d kn) (Q : pHx X E g d kn h) (hh : (h : Int) < E.1 7) : ∃ Y : jW, d_X0_readHouses_r98d_89 (r + 1) (E.1 7) (h : Int) X = d_X0_readHouses_r98d_89 r (E.1 7) ((h : Int) + 1) Y ∧ pF [(102, 0), (103, 0)] X Y ∧ pHx Y E g d kn (h + 1) := by
  obtain ⟨q1, q2, q3, q4⟩ := Q
  obtain ⟨p1, p2, p3, p4, p5⟩ := id P
  have I := ho_is p1
  have h10 := H.2.1
  have lr := @lt_r E d kn H (h : Int) (E.1 10).toNat (by omega)
  have e49 : X.1 49 3 = E.1 7 := p1.2.1
  have v3 := q3 h (by omega) hh
  -- the HOLDER that was told
  obtain ⟨s0, hs0⟩ : ∃ s0 : Int, s0 = if (sLt E 47900 (h : Int) d kn (E.1 10).toNat).2 = -1 then -1 else if (sLt E 47900 (h : Int) d kn (E.1 10).toNat).1 = -1 then -1 else g (sLt E 47900 (h : Int) d kn (E.1 10).toNat).1.toNat := ⟨_, rfl⟩
  have es : (if X.1 103 h = -1 ∨ X.1 33 3 ≤ X.1 103 h / 3 then -1 else X.1 82 (X.1 103 h).toNat) = s0 := by
    rw [v3, p2, hs0]
    rcases lr with ⟨l1, l2⟩ | ⟨l1, l2, l3⟩
    · rw [if_pos l1, if_pos (Or.inl rfl), if_pos l1]
    · rw [if_neg (show ¬ (sLt E 47900 (h : Int) d kn (E.1 10).toNat).2 = -1 from by omega), if_neg (show ¬ (sLt E 47900 (h : Int) d kn (E.1 10).toNat).2 = -1 from by omega)]
      by_cases c : (sLt E 47900 (h : Int) d kn (E.1 10).toNat).1 = -1
      · rw [if_pos (Or.inl c), if_pos c]
      · rw [if_neg (by omega), if_neg c]
        exact p3 _ (by unfold sNl; omega)
  rw [h89_s, if_neg (by omega), show ((h : Int)).toNat = h from by omega, es]
  have F1 : pF [(102, 0), (103, 0)] X (vu X 103 h s0) := pF_v pF_r rfl
  have sh : sHa E g d kn (h + 1) h = if (sLt E 47900 (h : Int) d kn (E.1 10).toNat).2 = -1 then (if sSo E (h : Int) = -1 then -1 else sHa E g d kn h (sPa E h)) else if (sLt E 47900 (h : Int) d kn (E.1 10).toNat).1 = -1 then -1 else g (sLt E 47900 (h : Int) d kn (E.1 10).toNat).1.toNat := if_pos rfl
  have so : ∀ q : Nat, q ≠ h → sHa E g d kn (h + 1) q = sHa E g d kn h q := fun q hq => if_neg hq
  have lf : ∀ q : Nat, sLf E d kn (h + 1) q = if sEf E d kn h then (if q = h then sTk E h (sLf E d kn h (sPa E h)) else if q = sPa E h then sLf E d kn h q - sTk E h (sLf E d kn h (sPa E h)) else sLf E d kn h q) else sLf E d kn h q := fun _ => rfl
  have c2 : d_X8_at_r49_c2d (h : Int) (vu X 103 h s0) = X.1 50 (5 * h + 2) := by
    unfold d_X8_at_r49_c2d
    rw [vu_n (by omega), if_neg (by omega), vu_n (by omega), show ((h : Int) * 5 + 2).toNat = 5 * h + 2 from by omega]
  unfold d_X0_readHouses_r98d_130
  rw [show ((h : Int)).toNat = h from by omega, c2]
  rcases ho_so p1 hh with ⟨o1, o2⟩ | ⟨k, k1, k2, k3⟩
  · rw [o1, if_pos (by decide)]
    refine ⟨vu X 103 h s0, rfl, F1, fun q hq => ?_, fun q hq => ?_, fun q hq hq7 => ?_, fun q hq => ?_⟩
    · rw [vu_n (by omega), q1 q hq, lf q, if_neg (fun z => by have := z.1; omega)]
    · by_cases e : q = h
      · rw [e, vu_e rfl, sh, hs0, o2, if_pos (c := (-1 : Int) = -1) rfl]
      · rw [vu_n (by omega), so q e]
        exact q2 q (by omega)
    · rw [vu_n (by omega)]
      exact q3 q (by omega) hq7
    · rw [vu_n (by omega)]
      exact q4 q hq
  · obtain ⟨r1, r2, r3, r4, r5, r6, r7, r8, r9, r10⟩ := k3
    have kN : (sSo E (h : Int)).toNat = k := by omega
    have hpp : ((sPa E h : Nat) : Int) = E.1 (47661 + 6 * k) := by unfold sPa; rw [kN]; omega
    have php : sPa E h < h := by omega
    have tk : sTk E h (sLf E d kn h (sPa E h)) = sLf E d kn h (sPa E h) * E.1 (47662 + 6 * k) / E.1 (47663 + 6 * k) := by unfold sTk; rw [kN]
    rw [← r2, if_neg (by omega), if_neg (by omega), ← hpp]
    have w2 : ∀ q : Nat, (q : Int) < E.1 7 → (vu X 103 h s0).1 102 q = sLf E d kn h q := fun q hq => (vu_n (by omega)).trans (q1 q hq)
    have cc : ∀ j : Nat, (vu X 103 h s0).1 50 j = X.1 50 j := fun j => vu_n (by omega)
    have c49 : (vu X 103 h s0).1 49 3 = E.1 7 := (vu_n (by omega)).trans e49
    obtain ⟨V, V1, V2, V3, V4⟩ := @so_s h (sPa E h) (vu X 103 h s0) (E.1 (47665 + 6 * k)) (E.1 (47662 + 6 * k)) (E.1 (47663 + 6 * k)) (E.1 (47664 + 6 * k)) kn d (by unfold d_X8_at_r49_c4d; rw [c49, if_neg (by omega), cc, show ((h : Int) * 5 + 4).toNat = 5 * h + 4 from by omega]; exact r4.symm) (by unfold d_X8_at_r49_c3d; rw [c49, if_neg (by omega), cc, show ((h : Int) * 5 + 3).toNat = 5 * h + 3 from by omega]; exact r3.symm) (by unfold d_X8_at_r49_c1d; rw [c49, if_neg (by omega), cc, show ((h : Int) * 5 + 1).toNat = 5 * h + 1 from by omega]; exact r5.symm) (by unfold d_X8_isKnown_r49d; rw [c49, if_neg (by omega), cc, show ((h : Int) * 5).toNat = 5 * h from by omega, show X.1 50 (5 * h) = E.1 (47665 + 6 * k) from r6.symm]; rfl) ((vu_n (by omega)).trans p4) ((vu_n (by omega)).trans p5) ⟨r8, r9, r10⟩ (by rw [w2 _ (by omega)]; exact sLf_b H I h _) php
    rw [w2 _ (by omega)] at V3
    refine ⟨V, by rw [V1]; rfl, pF_t F1 V2, fun q hq => ?_, fun q hq => ?_, fun q hq hq7 => ?_, fun q hq => ?_⟩
    · rw [V3 q, w2 q hq, lf q, tk]
      by_cases c : E.1 (47665 + 6 * k) ≤ kn ∧ E.1 (47664 + 6 * k) ≤ d
      · rw [if_pos c, if_pos (show sEf E d kn h from ⟨by omega, by rw [kN]; exact c.2, by rw [kN]; exact c.1⟩)]
      · rw [if_neg c, if_neg (show ¬ sEf E d kn h from fun z => c ⟨by have := z.2.2; rw [kN] at this; exact this, by have := z.2.1; rw [kN] at this; exact this⟩)]
    · rw [V4 q, show (vu X 103 h s0).1 104 h = (sLt E 47900 (h : Int) d kn (E.1 10).toNat).2 from (vu_n (by omega)).trans (q4 h hh)]
      by_cases e : q = h
      · rw [e, sh]
        by_cases c : (sLt E 47900 (h : Int) d kn (E.1 10).toNat).2 = -1
        · rw [if_pos ⟨rfl, c⟩, if_pos c, if_neg (by omega), vu_n (by omega)]
          exact q2 _ php
        · rw [if_neg (fun z => c z.2), if_neg c, vu_e rfl, hs0, if_neg c]
      · rw [if_neg (fun z => e z.1), vu_n (by omega), so q e]
        exact q2 q (by omega)
    · rw [V4 q, if_neg (fun z => by have := z.1; omega), vu_n (by omega)]
      exact q3 q (by omega) hq7
    · rw [V2.1 104 q rfl, vu_n (by omega)]
      exact q4 q hq
theorem h89_e {E : pE} {g : Nat → Int} {d kn : Int} (H : pIh E) (h7 : 0 ≤ E.1 7 ∧ E.1 7 ≤ 40) : ∀ (c h r : Nat) (X : jW), ((h + c : Nat) : Int) = E.1 7 → c < r → pHc X E g d kn → pHx X E g d kn h → pHx (d_X0_readHouses_r98d_89 r (E.1 7) (h : Int) X) E g d kn (E.1 7).toNat ∧ pF [(102, 0), (103, 0)] X (d_X0_readHouses_r98d_89 r (E.1 7) (h : Int) X) := by
  intro c
  induction c with
  | zero =>
    intro h r X hh hr P Q
    obtain ⟨r', rfl⟩ : ∃ r', r = r' + 1 := ⟨r - 1, by omega⟩
    rw [h89_s, if_pos (by omega), show (E.1 7).toNat = h from by omega]
    exact ⟨Q, pF_r⟩
  | succ c ih =>
    intro h r X hh hr P Q
    obtain ⟨r', rfl⟩ : ∃ r', r = r' + 1 := ⟨r - 1, by omega⟩
    obtain ⟨Y, y1, y2, y3⟩ := @h89_k E g d kn r' h X H P Q (by omega)
    rw [y1]
    have z := ih (h + 1) r' Y (by omega) (by omega) (pHc_f y2 rfl rfl rfl rfl rfl P) y3
    rw [show ((h + 1 : Nat) : Int) = (h : Int) + 1 from by omega] at z
    exact ⟨z.1, pF_t y2 z.2⟩
end jG28

section jG29
/-! pure: HOLDINGS on a DAY, the reference's side -/
theorem l_2 {x : Int} (h : -2147483648 ≤ x ∧ x ≤ 2147483647) : j_l2i x = x := by
  unfold j_l2i
  rw [Int64.toInt_toInt32, l_of (by omega)]
  exact Int.bmod_eq_of_le (by omega) (by omega)
theorem sLt_no {E : pE} {bs : Nat} {h d kn : Int} : ∀ n : Nat, (∀ k : Nat, k < n → E.1 (bs + 4 * k) ≠ h) → sLt E bs h d kn n = (-2, -1) := by
  intro n
  induction n with
  | zero => intro _; rfl
  | succ n ih =>
    intro e
    have st : sLt E bs h d kn (n + 1) = if E.1 (bs + 4 * n) = h ∧ E.1 (bs + 4 * n + 3) ≤ kn ∧ E.1 (bs + 4 * n + 2) ≤ d ∧ (sLt E bs h d kn n).2 ≤ E.1 (bs + 4 * n + 2) then (E.1 (bs + 4 * n + 1), E.1 (bs + 4 * n + 2)) else sLt E bs h d kn n := rfl
    rw [st, if_neg (fun z => e n (by omega) z.1)]
    exact ih (fun k hk => e k (by omega))
theorem la47260_s {M : jW} {r : Nat} {n h d v b k : Int} : d_X12_latest_r125_c47260d_10 (r + 1) n h d v b k M = if n ≤ k then v else if M.1 126 (47260 + 4 * k).toNat = h ∧ M.1 126 (47260 + 4 * k + 3).toNat ≤ M.1 125 28 ∧ M.1 126 (47260 + 4 * k + 2).toNat ≤ d ∧ b ≤ M.1 126 (47260 + 4 * k + 2).toNat then d_X12_latest_r125_c47260d_10 r n h d (M.1 126 (47260 + 4 * k + 1).toNat) (M.1 126 (47260 + 4 * k + 2).toNat) (k + 1) M else d_X12_latest_r125_c47260d_10 r n h d v b (k + 1) M := by
  show (if n ≤ k then v else if M.1 126 (47260 + 4 * k).toNat = h then (if M.1 125 28 < M.1 126 (47260 + 4 * k + 3).toNat then _ else if d < M.1 126 (47260 + 4 * k + 2).toNat then _ else if M.1 126 (47260 + 4 * k + 2).toNat < b then _ else _) else _) = _
  repeat' split
  all_goals first
    | rfl
    | (exfalso; omega)
theorem la47260_e {M : jW} {E : pE} {h d kn : Int} (w : M.1 126 = E.1) (hn : M.1 125 28 = kn) : ∀ (c k r : Nat), ((k + c : Nat) : Int) = E.1 8 → c < r → d_X12_latest_r125_c47260d_10 r (E.1 8) h d (sLt E 47260 h d kn k).1 (sLt E 47260 h d kn k).2 (k : Int) M = (sLt E 47260 h d kn (E.1 8).toNat).1 := by
  intro c
  induction c with
  | zero =>
    intro k r hk hr
    obtain ⟨r', rfl⟩ : ∃ r', r = r' + 1 := ⟨r - 1, by omega⟩
    rw [la47260_s, if_pos (by omega), show (E.1 8).toNat = k from by omega]
  | succ c ih =>
    intro k r hk hr
    obtain ⟨r', rfl⟩ : ∃ r', r = r' + 1 := ⟨r - 1, by omega⟩
    rw [la47260_s, if_neg (by omega), w, hn, show (47260 + 4 * (k : Int)).toNat = 47260 + 4 * k from by omega, show (47260 + 4 * (k : Int) + 1).toNat = 47260 + 4 * k + 1 from by omega, show (47260 + 4 * (k : Int) + 2).toNat = 47260 + 4 * k + 2 from by omega, show (47260 + 4 * (k : Int) + 3).toNat = 47260 + 4 * k + 3 from by omega]
    have y := ih (k + 1) r' (by omega) (by omega)
    rw [show ((k + 1 : Nat) : Int) = (k : Int) + 1 from by omega] at y
    have st : sLt E 47260 h d kn (k + 1) = if E.1 (47260 + 4 * k) = h ∧ E.1 (47260 + 4 * k + 3) ≤ kn ∧ E.1 (47260 + 4 * k + 2) ≤ d ∧ (sLt E 47260 h d kn k).2 ≤ E.1 (47260 + 4 * k + 2) then (E.1 (47260 + 4 * k + 1), E.1 (47260 + 4 * k + 2)) else sLt E 47260 h d kn k := rfl
    by_cases q : E.1 (47260 + 4 * k) = h ∧ E.1 (47260 + 4 * k + 3) ≤ kn ∧ E.1 (47260 + 4 * k + 2) ≤ d ∧ (sLt E 47260 h d kn k).2 ≤ E.1 (47260 + 4 * k + 2)
    · rw [st, if_pos q] at y
      rw [if_pos q]
      exact y
    · rw [st, if_neg q] at y
      rw [if_neg q]
      exact y
theorem la47260 {M : jW} {E : pE} {h d kn : Int} (w : M.1 126 = E.1) (hn : M.1 125 28 = kn) (b : 0 ≤ E.1 8 ∧ E.1 8 ≤ 100) : d_X12_latest_r125_c47260d (E.1 8) h d M = (sLt E 47260 h d kn (E.1 8).toNat).1 := la47260_e w hn (E.1 8).toNat 0 101 (by omega) (by omega)
theorem la47900_s {M : jW} {r : Nat} {n h d v b k : Int} : d_X12_latest_r125_c47900d_10 (r + 1) n h d v b k M = if n ≤ k then v else if M.1 126 (47900 + 4 * k).toNat = h ∧ M.1 126 (47900 + 4 * k + 3).toNat ≤ M.1 125 28 ∧ M.1 126 (47900 + 4 * k + 2).toNat ≤ d ∧ b ≤ M.1 126 (47900 + 4 * k + 2).toNat then d_X12_latest_r125_c47900d_10 r n h d (M.1 126 (47900 + 4 * k + 1).toNat) (M.1 126 (47900 + 4 * k + 2).toNat) (k + 1) M else d_X12_latest_r125_c47900d_10 r n h d v b (k + 1) M := by
  show (if n ≤ k then v else if M.1 126 (47900 + 4 * k).toNat = h then (if M.1 125 28 < M.1 126 (47900 + 4 * k + 3).toNat then _ else if d < M.1 126 (47900 + 4 * k + 2).toNat then _ else if M.1 126 (47900 + 4 * k + 2).toNat < b then _ else _) else _) = _
  repeat' split
  all_goals first
    | rfl
    | (exfalso; omega)
theorem la47900_e {M : jW} {E : pE} {h d kn : Int} (w : M.1 126 = E.1) (hn : M.1 125 28 = kn) : ∀ (c k r : Nat), ((k + c : Nat) : Int) = E.1 10 → c < r → d_X12_latest_r125_c47900d_10 r (E.1 10) h d (sLt E 47900 h d kn k).1 (sLt E 47900 h d kn k).2 (k : Int) M = (sLt E 47900 h d kn (E.1 10).toNat).1 := by
  intro c
  induction c with
  | zero =>
    intro k r hk hr
    obtain ⟨r', rfl⟩ : ∃ r', r = r' + 1 := ⟨r - 1, by omega⟩
    rw [la47900_s, if_pos (by omega), show (E.1 10).toNat = k from by omega]
  | succ c ih =>
    intro k r hk hr
    obtain ⟨r', rfl⟩ : ∃ r', r = r' + 1 := ⟨r - 1, by omega⟩
    rw [la47900_s, if_neg (by omega), w, hn, show (47900 + 4 * (k : Int)).toNat = 47900 + 4 * k from by omega, show (47900 + 4 * (k : Int) + 1).toNat = 47900 + 4 * k + 1 from by omega, show (47900 + 4 * (k : Int) + 2).toNat = 47900 + 4 * k + 2 from by omega, show (47900 + 4 * (k : Int) + 3).toNat = 47900 + 4 * k + 3 from by omega]
    have y := ih (k + 1) r' (by omega) (by omega)
    rw [show ((k + 1 : Nat) : Int) = (k : Int) + 1 from by omega] at y
    have st : sLt E 47900 h d kn (k + 1) = if E.1 (47900 + 4 * k) = h ∧ E.1 (47900 + 4 * k + 3) ≤ kn ∧ E.1 (47900 + 4 * k + 2) ≤ d ∧ (sLt E 47900 h d kn k).2 ≤ E.1 (47900 + 4 * k + 2) then (E.1 (47900 + 4 * k + 1), E.1 (47900 + 4 * k + 2)) else sLt E 47900 h d kn k := rfl
    by_cases q : E.1 (47900 + 4 * k) = h ∧ E.1 (47900 + 4 * k + 3) ≤ kn ∧ E.1 (47900 + 4 * k + 2) ≤ d ∧ (sLt E 47900 h d kn k).2 ≤ E.1 (47900 + 4 * k + 2)
    · rw [st, if_pos q] at y
      rw [if_pos q]
      exact y
    · rw [st, if_neg q] at y
      rw [if_neg q]
      exact y
theorem la47900 {M : jW} {E : pE} {h d kn : Int} (w : M.1 126 = E.1) (hn : M.1 125 28 = kn) (b : 0 ≤ E.1 10 ∧ E.1 10 ≤ 100) : d_X12_latest_r125_c47900d (E.1 10) h d M = (sLt E 47900 h d kn (E.1 10).toNat).1 := la47900_e w hn (E.1 10).toNat 0 101 (by omega) (by omega)
theorem so_e {M : jW} {E : pE} {h : Int} (w : M.1 126 = E.1) : ∀ (c k r : Nat), ((k + c : Nat) : Int) = E.1 9 → c < r → d_X12_splitOf_r125d_4 r h (if sSk E h k = -1 then -1 else 47660 + 6 * sSk E h k) (k : Int) M = if sSo E h = -1 then -1 else 47660 + 6 * sSo E h := by
  intro c
  induction c with
  | zero =>
    intro k r hk hr
    obtain ⟨r', rfl⟩ : ∃ r', r = r' + 1 := ⟨r - 1, by omega⟩
    unfold sSo
    rw [sp_s, w, if_pos (by omega), show (E.1 9).toNat = k from by omega]
  | succ c ih =>
    intro k r hk hr
    obtain ⟨r', rfl⟩ : ∃ r', r = r' + 1 := ⟨r - 1, by omega⟩
    have y := ih (k + 1) r' (by omega) (by omega)
    rw [show ((k + 1 : Nat) : Int) = (k : Int) + 1 from by omega] at y
    have st : sSk E h (k + 1) = if E.1 (47660 + 6 * k) = h then (k : Int) else sSk E h k := rfl
    rw [sp_s, w, if_neg (by omega), show (47660 + 6 * (k : Int)).toNat = 47660 + 6 * k from by omega]
    by_cases q : E.1 (47660 + 6 * k) = h
    · rw [st, if_pos q, if_neg (by omega)] at y
      rw [if_pos q]
      exact y
    · rw [st, if_neg q] at y
      rw [if_neg q]
      exact y
theorem mso {M : jW} {E : pE} {h : Int} (w : M.1 126 = E.1) (I : pIs E) : d_X12_splitOf_r125d h M = if sSo E h = -1 then -1 else 47660 + 6 * sSo E h := by
  have b := I.1
  have b9 := I.2.1
  unfold d_X12_splitOf_r125d
  have y := @so_e M E h w (E.1 9).toNat 0 41 (by omega) (by omega)
  rw [show (if sSk E h 0 = -1 then (-1 : Int) else 47660 + 6 * sSk E h 0) = -1 from if_pos rfl, show ((0 : Nat) : Int) = 0 from rfl] at y
  exact y
theorem sTo_s {E : pE} {d kn : Int} (I : pIs E) (H : pIh E) {h : Nat} (hs : ¬ sSo E (h : Int) = -1) : sTo E d kn h = 0 := by
  rcases @sSo_p E I (h : Int) with ⟨i1, _⟩ | ⟨k, k1, k2, k3⟩
  · exact absurd i1 hs
  · unfold sTo
    have h8 := H.1
    rw [sLt_no (E.1 8).toNat (fun j hj z => (H.2.2.1 j (by omega)).2.2.2 k k2 (by omega)), if_pos rfl]
/-- who is of no SPLIT of p changes nothing of p -/
theorem sLf_j {E : pE} {d kn : Int} {p : Nat} : ∀ (c a : Nat), p < a → (∀ j : Nat, a ≤ j → j < a + c → ¬ (sEf E d kn j ∧ sPa E j = p)) → sLf E d kn (a + c) p = sLf E d kn a p := by
  intro c
  induction c with
  | zero => intro a _ _; rfl
  | succ c ih =>
    intro a h e
    have lf : sLf E d kn (a + c + 1) p = if sEf E d kn (a + c) then (if p = a + c then sTk E (a + c) (sLf E d kn (a + c) (sPa E (a + c))) else if p = sPa E (a + c) then sLf E d kn (a + c) p - sTk E (a + c) (sLf E d kn (a + c) (sPa E (a + c))) else sLf E d kn (a + c) p) else sLf E d kn (a + c) p := rfl
    show sLf E d kn (a + c + 1) p = _
    rw [lf]
    have z := e (a + c) (by omega) (by omega)
    by_cases q : sEf E d kn (a + c)
    · rw [if_pos q, if_neg (by omega), if_neg (fun y => z ⟨q, y.symm⟩)]
      exact ih a h (fun j j1 j2 => e j j1 (by omega))
    · rw [if_neg q]
      exact ih a h (fun j j1 j2 => e j j1 (by omega))
theorem sLf_o {E : pE} {d kn : Int} (I : pIs E) {q : Nat} : ∀ j : Nat, j ≤ q → sLf E d kn j q = sTo E d kn q := by
  intro j
  induction j with
  | zero => intro _; rfl
  | succ j ih =>
    intro h
    have lf : sLf E d kn (j + 1) q = if sEf E d kn j then (if q = j then sTk E j (sLf E d kn j (sPa E j)) else if q = sPa E j then sLf E d kn j q - sTk E j (sLf E d kn j (sPa E j)) else sLf E d kn j q) else sLf E d kn j q := rfl
    rw [lf]
    by_cases c : sEf E d kn j
    · have pb := (@sPa_b E I j (by have := c.1; omega)).1
      rw [if_pos c, if_neg (by omega), if_neg (by omega)]
      exact ih (by omega)
    · rw [if_neg c]
      exact ih (by omega)
def jnk (E : pE) (k : Nat) : Nat := if (k : Int) < E.1 9 then (E.1 (47660 + 6 * k)).toNat else (E.1 7).toNat
theorem jnk_g {E : pE} (I : pIs E) {k j : Nat} (hk : (k : Int) < E.1 9) (h1 : (E.1 (47660 + 6 * k)).toNat < j) (h2 : j < jnk E (k + 1)) : sSo E (j : Int) = -1 := by
  rcases @sSo_p E I (j : Int) with ⟨i1, _⟩ | ⟨m, m1, m2, m3⟩
  · exact i1
  · exfalso
    have a := (I.2.2.1 k hk).1
    rcases Nat.lt_trichotomy m k with c | c | c
    · have := I.2.2.2 m k c hk; omega
    · rw [c] at m3; omega
    · unfold jnk at h2
      rw [if_pos (by omega)] at h2
      by_cases e : m = k + 1
      · rw [e] at m3; omega
      · have := I.2.2.2 (k + 1) m (by omega) m2; omega
theorem jnk_0 {E : pE} (I : pIs E) {j : Nat} (h2 : j < jnk E 0) : sSo E (j : Int) = -1 := by
  rcases @sSo_p E I (j : Int) with ⟨i1, _⟩ | ⟨m, m1, m2, m3⟩
  · exact i1
  · exfalso
    unfold jnk at h2
    rw [if_pos (by omega)] at h2
    by_cases e : m = 0
    · rw [e] at m3; omega
    · have := I.2.2.2 0 m (by omega) m2; omega
theorem jnk_l {E : pE} (I : pIs E) {k : Nat} (hk : (k : Int) < E.1 9) : (E.1 (47660 + 6 * k)).toNat + 1 ≤ jnk E (k + 1) ∧ jnk E (k + 1) ≤ (E.1 7).toNat := by
  have a := (I.2.2.1 k hk).1
  unfold jnk
  by_cases c : ((k + 1 : Nat) : Int) < E.1 9
  · rw [if_pos c]
    have := I.2.2.2 k (k + 1) (by omega) c
    have := (I.2.2.1 (k + 1) c).1
    omega
  · rw [if_neg c]; omega
/-- the step from a SPLIT to the next changes nothing else of p -/
theorem sLf_n {E : pE} {d kn : Int} (I : pIs E) {k p a : Nat} (hk : (k : Int) < E.1 9) (h1 : p < a) (h2 : a ≤ max (p + 1) (jnk E (k + 1))) (h3 : ∀ j : Nat, a ≤ j → j = (E.1 (47660 + 6 * k)).toNat → ¬ (sEf E d kn j ∧ sPa E j = p)) (h4 : (E.1 (47660 + 6 * k)).toNat ≤ a) : sLf E d kn (max (p + 1) (jnk E (k + 1))) p = sLf E d kn a p := by
  have e : max (p + 1) (jnk E (k + 1)) = a + (max (p + 1) (jnk E (k + 1)) - a) := by omega
  rw [e]
  refine sLf_j _ a h1 (fun j j1 j2 => ?_)
  by_cases c : j = (E.1 (47660 + 6 * k)).toNat
  · exact h3 j j1 c
  · by_cases c2 : (E.1 (47660 + 6 * k)).toNat < j
    · have z := @jnk_g E I k j hk c2 (by omega)
      exact fun y => by have := y.1.1; omega
    · exfalso; omega
/-- the reference's arrays: WHOLES before HOLDING p, its SPLITS below k gone through -/
def pWh (W : jW) (E : pE) (d kn : Int) (p k : Nat) : Prop := ∀ j : Nat, (j : Int) < E.1 7 → W.1 164 j = if sEf E d kn j ∧ (sPa E j < p ∨ (sPa E j = p ∧ (sSo E (j : Int)).toNat < k)) then sLf E d kn (j + 1) j else sTo E d kn j
def pMh (W : jW) (E : pE) (g : Nat → Int) (kn : Int) : Prop := W.1 126 = E.1 ∧ W.1 125 28 = kn ∧ ∀ m : Nat, m < sNl E → W.1 139 m = g m
def pHz (A B : Nat → Int) (off : Nat) (E : pE) (g : Nat → Int) (d kn : Int) (p : Nat) : Prop := ∀ q : Nat, q < p → A (off + q) = sLf E d kn (E.1 7).toNat q ∧ B (off + q) = sHa E g d kn p q
theorem pWh_0 {W : jW} {E : pE} {d kn : Int} {p : Nat} (I : pIs E) (h : pWh W E d kn p (E.1 9).toNat) : pWh W E d kn (p + 1) 0 := by
  intro j hj
  rw [h j hj]
  by_cases c : sEf E d kn j ∧ (sPa E j < p ∨ (sPa E j = p ∧ (sSo E (j : Int)).toNat < (E.1 9).toNat))
  · rw [if_pos c, if_pos ⟨c.1, by omega⟩]
  · rw [if_neg c, if_neg]
    intro z
    refine c ⟨z.1, ?_⟩
    have s0 := z.1.1
    rcases @sSo_p E I (j : Int) with ⟨i1, _⟩ | ⟨m, m1, m2, m3⟩
    · omega
    · omega
theorem tk_m {E : pE} {d kn : Int} (I : pIs E) (H : pIh E) {k c p : Nat} (hk : (k : Int) < E.1 9) (hc : E.1 (47660 + 6 * k) = (c : Int)) (hp : E.1 (47661 + 6 * k) = (p : Int)) {left : Int} (hl : left = sLf E d kn c p) : j_l2i (j_ldiv (j_lmul left (E.1 (47662 + 6 * k))) (E.1 (47663 + 6 * k))) = sTk E c (sLf E d kn c (sPa E c)) ∧ sPa E c = p ∧ sSo E (c : Int) = (k : Int) ∧ 0 ≤ sTk E c (sLf E d kn c (sPa E c)) ∧ sTk E c (sLf E d kn c (sPa E c)) ≤ left ∧ left ≤ 10000 := by
  have so : sSo E (c : Int) = (k : Int) := by rw [← hc]; exact sSo_k I hk
  have pa : sPa E c = p := by unfold sPa; rw [so, show ((k : Int)).toNat = k from by omega]; omega
  have lb := @sLf_b E d kn H I c p
  have ab := (I.2.2.1 k hk).2
  have tb := @tk_b E I c (by omega) (sLf E d kn c (sPa E c)) (by rw [pa]; exact lb)
  have te : sTk E c (sLf E d kn c (sPa E c)) = left * E.1 (47662 + 6 * k) / E.1 (47663 + 6 * k) := by
    unfold sTk
    rw [so, show ((k : Int)).toNat = k from by omega, pa, hl]
  rw [pa] at tb
  refine ⟨?_, pa, so, by rw [pa]; exact tb.1, by rw [pa, hl]; exact tb.2, by omega⟩
  have m1 : 0 ≤ left * E.1 (47662 + 6 * k) := Int.mul_nonneg (by omega) (by omega)
  have m2 : left * E.1 (47662 + 6 * k) ≤ 10000 * 100 := Int.mul_le_mul (by omega) (by omega) (by omega) (by omega)
  rw [l_m (by omega) (by omega) (by omega), l_d (by omega) (by omega), ← te, l_2 (by rw [pa]; omega)]
theorem fh0_s {K : Int → Int → Int → jW → jW} {r : Nat} {d n p left k : Int} {W : jW} : d_X12_findHouses_r125_c0d_93 K (r + 1) d n p left k W = if W.1 126 9 ≤ k then K d n (p + 1) (vu (vu W 162 (0 + p).toNat left) 163 (0 + p).toNat (if d_X12_latest_r125_c47900d (W.1 126 10) p d (vu W 162 (0 + p).toNat left) < 0 then (if d_X12_latest_r125_c47900d (W.1 126 10) p d (vu W 162 (0 + p).toNat left) = -1 ∨ d_X12_splitOf_r125d p (vu W 162 (0 + p).toNat left) = -1 then -1 else W.1 163 (0 + W.1 126 (d_X12_splitOf_r125d p (vu W 162 (0 + p).toNat left) + 1).toNat).toNat) else W.1 139 (d_X12_latest_r125_c47900d (W.1 126 10) p d (vu W 162 (0 + p).toNat left)).toNat)) else if W.1 126 (47660 + 6 * k + 1).toNat = p ∧ ¬ d < W.1 126 (47660 + 6 * k + 4).toNat ∧ ¬ W.1 125 28 < W.1 126 (47660 + 6 * k + 5).toNat then d_X12_findHouses_r125_c0d_93 K r d n p (j_isub left (j_l2i (j_ldiv (j_lmul left (W.1 126 (47660 + 6 * k + 2).toNat)) (W.1 126 (47660 + 6 * k + 3).toNat)))) (k + 1) (vu W 164 (W.1 126 (47660 + 6 * k).toNat).toNat (j_l2i (j_ldiv (j_lmul left (W.1 126 (47660 + 6 * k + 2).toNat)) (W.1 126 (47660 + 6 * k + 3).toNat)))) else d_X12_findHouses_r125_c0d_93 K r d n p left (k + 1) W := by
  show (if W.1 126 9 ≤ k then (if d_X12_latest_r125_c47900d (W.1 126 10) p d (vu W 162 (0 + p).toNat left) < 0 then (if d_X12_latest_r125_c47900d (W.1 126 10) p d (vu W 162 (0 + p).toNat left) = -1 then _ else if d_X12_splitOf_r125d p (vu W 162 (0 + p).toNat left) = -1 then _ else _) else _) else if W.1 126 (47660 + 6 * k + 1).toNat = p then (if d < W.1 126 (47660 + 6 * k + 4).toNat then _ else if W.1 125 28 < W.1 126 (47660 + 6 * k + 5).toNat then _ else _) else _) = _
  generalize d_X12_latest_r125_c47900d (W.1 126 10) p d (vu W 162 (0 + p).toNat left) = y
  generalize d_X12_splitOf_r125d p (vu W 162 (0 + p).toNat left) = z
  repeat' split
  all_goals first
    | rfl
    | (exfalso; omega)
theorem fh0_e {K : Int → Int → Int → jW → jW} {E : pE} {g : Nat → Int} {d kn : Int} {p : Nat} (I : pIs E) (H : pIh E) (hp : (p : Int) < E.1 7) : ∀ (c k r : Nat) (left : Int) (W : jW), ((k + c : Nat) : Int) = E.1 9 → c < r → pMh W E g kn → pWh W E d kn p k → pHz (W.1 162) (W.1 163) 0 E g d kn p → left = sLf E d kn (max (p + 1) (jnk E k)) p → ∃ V : jW, d_X12_findHouses_r125_c0d_93 K r d (E.1 7) (p : Int) left (k : Int) W = K d (E.1 7) ((p : Int) + 1) V ∧ pF [(162, 0), (163, 0), (164, 0)] W V ∧ pWh V E d kn (p + 1) 0 ∧ pHz (V.1 162) (V.1 163) 0 E g d kn (p + 1) := by
  have b7 := I.1
  have b9 := I.2.1
  intro c
  induction c with
  | zero =>
    intro k r left W hk hr P Q Z hl
    obtain ⟨r', rfl⟩ : ∃ r', r = r' + 1 := ⟨r - 1, by omega⟩
    obtain ⟨w, w1, w2⟩ := P
    have jn : jnk E k = (E.1 7).toNat := by unfold jnk; rw [if_neg (by omega)]
    rw [jn, show max (p + 1) (E.1 7).toNat = (E.1 7).toNat from by omega] at hl
    have F1 : pF [(162, 0), (163, 0), (164, 0)] W (vu W 162 (0 + p) left) := pF_v pF_r rfl
    have e1 : (vu W 162 (0 + p) left).1 126 = E.1 := (vu_c (by decide)).trans w
    have la := @la47900 (vu W 162 (0 + p) left) E (p : Int) d kn e1 ((vu_n (by omega)).trans w1) H.2.1
    have sp := @mso (vu W 162 (0 + p) left) E (p : Int) e1 I
    have lr := @lt_r E d kn H (p : Int) (E.1 10).toNat (by have := H.2.1; omega)
    rw [fh0_s, w, if_pos (by omega), show (0 + (p : Int)).toNat = 0 + p from by omega, la, sp]
    refine ⟨_, rfl, pF_v F1 rfl, ?_, ?_⟩
    · refine pWh_0 I (fun j hj => ?_)
      rw [vu_n (by omega), vu_n (by omega), show (E.1 9).toNat = k from by omega]
      exact Q j hj
    · intro q hq
      have so : ∀ q : Nat, q ≠ p → sHa E g d kn (p + 1) q = sHa E g d kn p q := fun q hq => if_neg hq
      have sh : sHa E g d kn (p + 1) p = if (sLt E 47900 (p : Int) d kn (E.1 10).toNat).2 = -1 then (if sSo E (p : Int) = -1 then -1 else sHa E g d kn p (sPa E p)) else if (sLt E 47900 (p : Int) d kn (E.1 10).toNat).1 = -1 then -1 else g (sLt E 47900 (p : Int) d kn (E.1 10).toNat).1.toNat := if_pos rfl
      by_cases e : q = p
      · rw [e]
        refine ⟨by rw [vu_n (by omega), vu_e rfl]; exact hl, ?_⟩
        rw [vu_e rfl, sh]
        rcases lr with ⟨l1, l2⟩ | ⟨l1, l2, l3⟩
        · rw [l2, if_pos (by decide), if_pos l1]
          by_cases s1 : sSo E (p : Int) = -1
          · rw [if_pos s1, if_pos (Or.inr rfl), if_pos s1]
          · have pb := sPa_b I s1
            rcases @sSo_p E I (p : Int) with ⟨i1, _⟩ | ⟨m, m1, m2, m3⟩
            · exact absurd i1 s1
            · rw [if_neg s1, if_neg (by omega), if_neg s1, m1, show (47660 + 6 * (m : Int) + 1).toNat = 47661 + 6 * m from by omega]
              have q1 := pb.2
              rw [m1, show ((m : Int)).toNat = m from by omega] at q1
              rw [← q1, show (0 + ((sPa E p : Nat) : Int)).toNat = 0 + sPa E p from by omega]
              exact (Z (sPa E p) pb.1).2
        · rw [if_neg (show ¬ (sLt E 47900 (p : Int) d kn (E.1 10).toNat).2 = -1 from by omega)]
          by_cases c1 : (sLt E 47900 (p : Int) d kn (E.1 10).toNat).1 = -1
          · rw [if_pos (by omega), if_pos (Or.inl c1), if_pos c1]
          · rw [if_neg (by omega), if_neg c1]
            exact w2 _ (by unfold sNl; omega)
      · rw [vu_n (by omega), vu_n (by omega), vu_n (by omega), vu_n (by omega), so q e]
        exact Z q (by omega)
  | succ c ih =>
    intro k r left W hk hr P Q Z hl
    obtain ⟨r', rfl⟩ : ∃ r', r = r' + 1 := ⟨r - 1, by omega⟩
    obtain ⟨w, w1, w2⟩ := id P
    have hk9 : (k : Int) < E.1 9 := by omega
    have sk := (I.2.2.1 k hk9).1
    obtain ⟨ch, hc⟩ : ∃ ch : Nat, E.1 (47660 + 6 * k) = (ch : Int) := ⟨(E.1 (47660 + 6 * k)).toNat, by omega⟩
    have jn : jnk E k = ch := by unfold jnk; rw [if_pos hk9]; omega
    have jl := jnk_l I hk9
    rw [jn] at hl
    rw [fh0_s, w, w1, if_neg (by omega), show (47660 + 6 * (k : Int) + 1).toNat = 47661 + 6 * k from by omega, show (47660 + 6 * (k : Int) + 4).toNat = 47664 + 6 * k from by omega, show (47660 + 6 * (k : Int) + 5).toNat = 47665 + 6 * k from by omega, show (47660 + 6 * (k : Int) + 2).toNat = 47662 + 6 * k from by omega, show (47660 + 6 * (k : Int) + 3).toNat = 47663 + 6 * k from by omega, show (47660 + 6 * (k : Int)).toNat = 47660 + 6 * k from by omega]
    by_cases cd : E.1 (47661 + 6 * k) = (p : Int) ∧ ¬ d < E.1 (47664 + 6 * k) ∧ ¬ kn < E.1 (47665 + 6 * k)
    · rw [if_pos cd]
      rw [show max (p + 1) ch = ch from by omega] at hl
      obtain ⟨t1, t2, t3, t4, t5, t6⟩ := tk_m I H hk9 hc cd.1 hl
      have ef : sEf E d kn ch := ⟨by omega, by rw [t3, show ((k : Int)).toNat = k from by omega]; omega, by rw [t3, show ((k : Int)).toNat = k from by omega]; omega⟩
      have lf : ∀ q : Nat, sLf E d kn (ch + 1) q = if sEf E d kn ch then (if q = ch then sTk E ch (sLf E d kn ch (sPa E ch)) else if q = sPa E ch then sLf E d kn ch q - sTk E ch (sLf E d kn ch (sPa E ch)) else sLf E d kn ch q) else sLf E d kn ch q := fun _ => rfl
      rw [t1, hc, show ((ch : Int)).toNat = ch from by omega, j_is (by omega) (by omega) (by omega)]
      have F1 : pF [(162, 0), (163, 0), (164, 0)] W (vu W 164 ch (sTk E ch (sLf E d kn ch (sPa E ch)))) := pF_v pF_r rfl
      obtain ⟨V, v1, v2, v3, v4⟩ := ih (k + 1) r' (left - sTk E ch (sLf E d kn ch (sPa E ch))) (vu W 164 ch (sTk E ch (sLf E d kn ch (sPa E ch)))) (by omega) (by omega) ⟨(vu_c (by decide)).trans w, (vu_n (by omega)).trans w1, fun m hm => (vu_n (by omega)).trans (w2 m hm)⟩ (fun j hj => by
        by_cases e : j = ch
        · rw [e, vu_e rfl, if_pos ⟨ef, Or.inr ⟨t2, by omega⟩⟩, lf, if_pos ef, if_pos rfl]
        · rw [vu_n (by omega), Q j hj]
          by_cases c1 : sEf E d kn j ∧ (sPa E j < p ∨ (sPa E j = p ∧ (sSo E (j : Int)).toNat < k))
          · rw [if_pos c1, if_pos ⟨c1.1, by omega⟩]
          · rw [if_neg c1, if_neg]
            intro z
            refine c1 ⟨z.1, ?_⟩
            have s0 := z.1.1
            by_cases sj : (sSo E (j : Int)).toNat = k
            · exfalso
              rcases @sSo_p E I (j : Int) with ⟨i1, _⟩ | ⟨m, m1, m2, m3⟩
              · omega
              · have : m = k := by omega
                rw [this, hc] at m3
                omega
            · omega) (by
        have a1 : (vu W 164 ch (sTk E ch (sLf E d kn ch (sPa E ch)))).1 162 = W.1 162 := vu_c (by decide)
        have a2 : (vu W 164 ch (sTk E ch (sLf E d kn ch (sPa E ch)))).1 163 = W.1 163 := vu_c (by decide)
        rw [a1, a2]
        exact Z) (by
        rw [@sLf_n E d kn I k p (ch + 1) hk9 (by omega) (by omega) (fun j j1 j2 => by omega) (by omega), lf, if_pos ef, if_neg (by omega), if_pos t2.symm, hl])
      rw [show ((k + 1 : Nat) : Int) = (k : Int) + 1 from by omega] at v1
      exact ⟨V, v1, pF_t F1 v2, v3, v4⟩
    · rw [if_neg cd]
      have no : ¬ (sEf E d kn ch ∧ sPa E ch = p) := fun z => by
        have so : sSo E (ch : Int) = (k : Int) := by rw [← hc]; exact sSo_k I hk9
        have z1 := z.1.2
        rw [so, show ((k : Int)).toNat = k from by omega] at z1
        have z2 := z.2
        unfold sPa at z2
        rw [so, show ((k : Int)).toNat = k from by omega] at z2
        exact cd ⟨by omega, by omega, by omega⟩
      obtain ⟨V, v1, v2, v3, v4⟩ := ih (k + 1) r' left W (by omega) (by omega) P (fun j hj => by
        rw [Q j hj]
        by_cases c1 : sEf E d kn j ∧ (sPa E j < p ∨ (sPa E j = p ∧ (sSo E (j : Int)).toNat < k))
        · rw [if_pos c1, if_pos ⟨c1.1, by omega⟩]
        · rw [if_neg c1, if_neg]
          intro z
          refine c1 ⟨z.1, ?_⟩
          have s0 := z.1.1
          by_cases sj : (sSo E (j : Int)).toNat = k
          · rcases z.2 with z2 | z2
            · omega
            · exfalso
              rcases @sSo_p E I (j : Int) with ⟨i1, _⟩ | ⟨m, m1, m2, m3⟩
              · omega
              · have : m = k := by omega
                rw [this, hc] at m3
                have : j = ch := by omega
                rw [this] at z z2
                exact no ⟨z.1, z2.1⟩
          · omega) Z (by
        rw [@sLf_n E d kn I k p (max (p + 1) ch) hk9 (by omega) (by omega) (fun j j1 j2 => (show ch = j from by omega) ▸ no) (by omega), hl])
      rw [show ((k + 1 : Nat) : Int) = (k : Int) + 1 from by omega] at v1
      exact ⟨V, v1, v2, v3, v4⟩
theorem fh0_7 {E : pE} {g : Nat → Int} {d kn : Int} (I : pIs E) (H : pIh E) : ∀ (c p r : Nat) (W : jW), ((p + c : Nat) : Int) = E.1 7 → c < r → pMh W E g kn → pWh W E d kn p 0 → pHz (W.1 162) (W.1 163) 0 E g d kn p → pHz ((d_X12_findHouses_r125_c0d_75 r d (E.1 7) (p : Int) W).1 162) ((d_X12_findHouses_r125_c0d_75 r d (E.1 7) (p : Int) W).1 163) 0 E g d kn (E.1 7).toNat := by
  have st : ∀ (r : Nat) (d n p : Int) (W : jW), d_X12_findHouses_r125_c0d_75 (r + 1) d n p W = if n ≤ p then W else d_X12_findHouses_r125_c0d_93 (fun l1 l3 l4 W => d_X12_findHouses_r125_c0d_75 r l1 l3 l4 W) 41 d n p (W.1 164 p.toNat) 0 W := fun _ _ _ _ _ => rfl
  intro c
  induction c with
  | zero =>
    intro p r W hp hr P Q Z
    obtain ⟨r', rfl⟩ : ∃ r', r = r' + 1 := ⟨r - 1, by omega⟩
    rw [st, if_pos (by omega), show (E.1 7).toNat = p from by omega]
    exact Z
  | succ c ih =>
    intro p r W hp hr P Q Z
    obtain ⟨r', rfl⟩ : ∃ r', r = r' + 1 := ⟨r - 1, by omega⟩
    have b7 := I.1
    have b9 := I.2.1
    have l0 : W.1 164 p = sLf E d kn (max (p + 1) (jnk E 0)) p := by
      have e1 : sLf E d kn (max (p + 1) (jnk E 0)) p = sLf E d kn (p + 1) p := by
        have e : max (p + 1) (jnk E 0) = (p + 1) + (max (p + 1) (jnk E 0) - (p + 1)) := by omega
        rw [e]
        exact sLf_j _ (p + 1) (by omega) (fun j j1 j2 z => by have := @jnk_0 E I j (by omega); have := z.1.1; omega)
      rw [e1, Q p (by omega)]
      by_cases ef : sEf E d kn p
      · rw [if_pos ⟨ef, Or.inl (sPa_b I (by have := ef.1; omega)).1⟩]
      · rw [if_neg (fun z => ef z.1)]
        have lf : sLf E d kn (p + 1) p = if sEf E d kn p then (if p = p then sTk E p (sLf E d kn p (sPa E p)) else if p = sPa E p then sLf E d kn p p - sTk E p (sLf E d kn p (sPa E p)) else sLf E d kn p p) else sLf E d kn p p := rfl
        rw [lf, if_neg ef]
        exact (sLf_o I p (Nat.le_refl p)).symm
    obtain ⟨V, v1, v2, v3, v4⟩ := @fh0_e (fun l1 l3 l4 W => d_X12_findHouses_r125_c0d_75 r' l1 l3 l4 W) E g d kn p I H (by omega) (E.1 9).toNat 0 41 (W.1 164 p) W (by omega) (by omega) P Q Z l0
    rw [show ((0 : Nat) : Int) = 0 from rfl] at v1
    rw [st, if_neg (by omega), show ((p : Int)).toNat = p from by omega, v1]
    have y := ih (p + 1) r' V (by omega) (by omega) ⟨(pF_c v2 rfl).trans P.1, (v2.1 125 28 rfl).trans P.2.1, fun m hm => by rw [pF_c v2 rfl]; exact P.2.2 m hm⟩ v3 v4
    rw [show ((p + 1 : Nat) : Int) = (p : Int) + 1 from by omega] at y
    exact y
theorem fh0_1 {E : pE} {g : Nat → Int} {d kn : Int} (I : pIs E) (H : pIh E) : ∀ (c h r : Nat) (W : jW), ((h + c : Nat) : Int) = E.1 7 → c < r → pMh W E g kn → (∀ q : Nat, q < h → W.1 164 q = sTo E d kn q) → pHz ((d_X12_findHouses_r125_c0d_11 r d (E.1 7) (h : Int) W).1 162) ((d_X12_findHouses_r125_c0d_11 r d (E.1 7) (h : Int) W).1 163) 0 E g d kn (E.1 7).toNat := by
  have st : ∀ (r : Nat) (d n h : Int) (W : jW), d_X12_findHouses_r125_c0d_11 (r + 1) d n h W = if n ≤ h then d_X12_findHouses_r125_c0d_75 41 d n 0 W else d_X12_findHouses_r125_c0d_11 r d n (h + 1) (vu W 164 h.toNat (if d_X12_splitOf_r125d h W = -1 ∧ ¬ d_X12_latest_r125_c47260d (W.1 126 8) h d W = -2 then d_X12_latest_r125_c47260d (W.1 126 8) h d W else 0)) := fun r d n h W => by
    show (if n ≤ h then d_X12_findHouses_r125_c0d_75 41 d n 0 W else if d_X12_splitOf_r125d h W = -1 then (if d_X12_latest_r125_c47260d (W.1 126 8) h d W = -2 then _ else _) else _) = _
    generalize d_X12_splitOf_r125d h W = y
    generalize d_X12_latest_r125_c47260d (W.1 126 8) h d W = z
    generalize d_X12_findHouses_r125_c0d_75 41 d n 0 W = x
    repeat' split
    all_goals first
      | rfl
      | (exfalso; omega)
  intro c
  induction c with
  | zero =>
    intro h r W hh hr P Q
    obtain ⟨r', rfl⟩ : ∃ r', r = r' + 1 := ⟨r - 1, by omega⟩
    have b7 := I.1
    rw [st, if_pos (by omega)]
    exact fh0_7 I H (E.1 7).toNat 0 41 W (by omega) (by omega) P (fun j hj => by
      rw [if_neg (fun z => by have := z.2; omega)]
      exact Q j (by omega)) (fun q hq => absurd hq (Nat.not_lt_zero _))
  | succ c ih =>
    intro h r W hh hr P Q
    obtain ⟨r', rfl⟩ : ∃ r', r = r' + 1 := ⟨r - 1, by omega⟩
    rw [st, if_neg (by omega), show ((h : Int)).toNat = h from by omega, P.1, @la47260 W E (h : Int) d kn P.1 P.2.1 H.1, @mso W E (h : Int) P.1 I]
    have v : (if (if sSo E (h : Int) = -1 then (-1 : Int) else 47660 + 6 * sSo E (h : Int)) = -1 ∧ ¬ (sLt E 47260 (h : Int) d kn (E.1 8).toNat).1 = -2 then (sLt E 47260 (h : Int) d kn (E.1 8).toNat).1 else 0) = sTo E d kn h := by
      by_cases s1 : sSo E (h : Int) = -1
      · have z : ∀ n : Nat, (n : Int) ≤ E.1 8 → ((sLt E 47260 (h : Int) d kn n).2 = -1 ∧ (sLt E 47260 (h : Int) d kn n).1 = -2) ∨ (0 ≤ (sLt E 47260 (h : Int) d kn n).2 ∧ 0 ≤ (sLt E 47260 (h : Int) d kn n).1) := by
          intro n
          induction n with
          | zero => intro _; exact Or.inl ⟨rfl, rfl⟩
          | succ n ihn =>
            intro hn
            have st : sLt E 47260 (h : Int) d kn (n + 1) = if E.1 (47260 + 4 * n) = (h : Int) ∧ E.1 (47260 + 4 * n + 3) ≤ kn ∧ E.1 (47260 + 4 * n + 2) ≤ d ∧ (sLt E 47260 (h : Int) d kn n).2 ≤ E.1 (47260 + 4 * n + 2) then (E.1 (47260 + 4 * n + 1), E.1 (47260 + 4 * n + 2)) else sLt E 47260 (h : Int) d kn n := rfl
            rw [st]
            split
            · have y := (H.2.2.1 n (by omega)).2
              rw [show 47261 + 4 * n = 47260 + 4 * n + 1 from by omega, show 47262 + 4 * n = 47260 + 4 * n + 2 from by omega] at y
              exact Or.inr ⟨y.2.1, y.1.1⟩
            · exact ihn (by omega)
        rw [if_pos s1]
        unfold sTo
        rcases z (E.1 8).toNat (by have := H.1; omega) with ⟨z1, z2⟩ | ⟨z1, z2⟩
        · rw [if_neg (fun y => y.2 z2), if_pos z1]
        · rw [if_pos ⟨rfl, by omega⟩, if_neg (by omega)]
      · rw [sTo_s I H s1, if_neg]
        intro y
        have y1 := y.1
        rw [if_neg s1] at y1
        rcases @sSo_p E I (h : Int) with ⟨i1, _⟩ | ⟨m, m1, _, _⟩
        · exact s1 i1
        · omega
    rw [v]
    have y := ih (h + 1) r' (vu W 164 h (sTo E d kn h)) (by omega) (by omega) ⟨(vu_c (by decide)).trans P.1, (vu_n (by omega)).trans P.2.1, fun m hm => (vu_n (by omega)).trans (P.2.2 m hm)⟩ (fun q hq => by
      by_cases e : q = h
      · rw [e]; exact vu_e rfl
      · rw [vu_n (by omega)]; exact Q q (by omega))
    rw [show ((h + 1 : Nat) : Int) = (h : Int) + 1 from by omega] at y
    exact y
theorem mhs0 {W : jW} {E : pE} {g : Nat → Int} {d kn : Int} (I : pIs E) (H : pIh E) (P : pMh W E g kn) : pHz ((d_X12_findHouses_r125_c0d d W).1 162) ((d_X12_findHouses_r125_c0d d W).1 163) 0 E g d kn (E.1 7).toNat := by
  have b7 := I.1
  unfold d_X12_findHouses_r125_c0d
  rw [P.1]
  exact fh0_1 I H (E.1 7).toNat 0 41 W (by omega) (by omega) P (fun q hq => absurd hq (Nat.not_lt_zero _))
theorem fh1_s {K : Int → Int → Int → jW → jW} {r : Nat} {d n p left k : Int} {W : jW} : d_X12_findHouses_r125_c1d_93 K (r + 1) d n p left k W = if W.1 126 9 ≤ k then K d n (p + 1) (vu (vu W 162 (40 + p).toNat left) 163 (40 + p).toNat (if d_X12_latest_r125_c47900d (W.1 126 10) p d (vu W 162 (40 + p).toNat left) < 0 then (if d_X12_latest_r125_c47900d (W.1 126 10) p d (vu W 162 (40 + p).toNat left) = -1 ∨ d_X12_splitOf_r125d p (vu W 162 (40 + p).toNat left) = -1 then -1 else W.1 163 (40 + W.1 126 (d_X12_splitOf_r125d p (vu W 162 (40 + p).toNat left) + 1).toNat).toNat) else W.1 139 (d_X12_latest_r125_c47900d (W.1 126 10) p d (vu W 162 (40 + p).toNat left)).toNat)) else if W.1 126 (47660 + 6 * k + 1).toNat = p ∧ ¬ d < W.1 126 (47660 + 6 * k + 4).toNat ∧ ¬ W.1 125 28 < W.1 126 (47660 + 6 * k + 5).toNat then d_X12_findHouses_r125_c1d_93 K r d n p (j_isub left (j_l2i (j_ldiv (j_lmul left (W.1 126 (47660 + 6 * k + 2).toNat)) (W.1 126 (47660 + 6 * k + 3).toNat)))) (k + 1) (vu W 164 (W.1 126 (47660 + 6 * k).toNat).toNat (j_l2i (j_ldiv (j_lmul left (W.1 126 (47660 + 6 * k + 2).toNat)) (W.1 126 (47660 + 6 * k + 3).toNat)))) else d_X12_findHouses_r125_c1d_93 K r d n p left (k + 1) W := by
  show (if W.1 126 9 ≤ k then (if d_X12_latest_r125_c47900d (W.1 126 10) p d (vu W 162 (40 + p).toNat left) < 0 then (if d_X12_latest_r125_c47900d (W.1 126 10) p d (vu W 162 (40 + p).toNat left) = -1 then _ else if d_X12_splitOf_r125d p (vu W 162 (40 + p).toNat left) = -1 then _ else _) else _) else if W.1 126 (47660 + 6 * k + 1).toNat = p then (if d < W.1 126 (47660 + 6 * k + 4).toNat then _ else if W.1 125 28 < W.1 126 (47660 + 6 * k + 5).toNat then _ else _) else _) = _
  generalize d_X12_latest_r125_c47900d (W.1 126 10) p d (vu W 162 (40 + p).toNat left) = y
  generalize d_X12_splitOf_r125d p (vu W 162 (40 + p).toNat left) = z
  repeat' split
  all_goals first
    | rfl
    | (exfalso; omega)
theorem fh1_e {K : Int → Int → Int → jW → jW} {E : pE} {g : Nat → Int} {d kn : Int} {p : Nat} (I : pIs E) (H : pIh E) (hp : (p : Int) < E.1 7) : ∀ (c k r : Nat) (left : Int) (W : jW), ((k + c : Nat) : Int) = E.1 9 → c < r → pMh W E g kn → pWh W E d kn p k → pHz (W.1 162) (W.1 163) 40 E g d kn p → left = sLf E d kn (max (p + 1) (jnk E k)) p → ∃ V : jW, d_X12_findHouses_r125_c1d_93 K r d (E.1 7) (p : Int) left (k : Int) W = K d (E.1 7) ((p : Int) + 1) V ∧ pF [(162, 0), (163, 0), (164, 0)] W V ∧ pWh V E d kn (p + 1) 0 ∧ pHz (V.1 162) (V.1 163) 40 E g d kn (p + 1) := by
  have b7 := I.1
  have b9 := I.2.1
  intro c
  induction c with
  | zero =>
    intro k r left W hk hr P Q Z hl
    obtain ⟨r', rfl⟩ : ∃ r', r = r' + 1 := ⟨r - 1, by omega⟩
    obtain ⟨w, w1, w2⟩ := P
    have jn : jnk E k = (E.1 7).toNat := by unfold jnk; rw [if_neg (by omega)]
    rw [jn, show max (p + 1) (E.1 7).toNat = (E.1 7).toNat from by omega] at hl
    have F1 : pF [(162, 0), (163, 0), (164, 0)] W (vu W 162 (40 + p) left) := pF_v pF_r rfl
    have e1 : (vu W 162 (40 + p) left).1 126 = E.1 := (vu_c (by decide)).trans w
    have la := @la47900 (vu W 162 (40 + p) left) E (p : Int) d kn e1 ((vu_n (by omega)).trans w1) H.2.1
    have sp := @mso (vu W 162 (40 + p) left) E (p : Int) e1 I
    have lr := @lt_r E d kn H (p : Int) (E.1 10).toNat (by have := H.2.1; omega)
    rw [fh1_s, w, if_pos (by omega), show (40 + (p : Int)).toNat = 40 + p from by omega, la, sp]
    refine ⟨_, rfl, pF_v F1 rfl, ?_, ?_⟩
    · refine pWh_0 I (fun j hj => ?_)
      rw [vu_n (by omega), vu_n (by omega), show (E.1 9).toNat = k from by omega]
      exact Q j hj
    · intro q hq
      have so : ∀ q : Nat, q ≠ p → sHa E g d kn (p + 1) q = sHa E g d kn p q := fun q hq => if_neg hq
      have sh : sHa E g d kn (p + 1) p = if (sLt E 47900 (p : Int) d kn (E.1 10).toNat).2 = -1 then (if sSo E (p : Int) = -1 then -1 else sHa E g d kn p (sPa E p)) else if (sLt E 47900 (p : Int) d kn (E.1 10).toNat).1 = -1 then -1 else g (sLt E 47900 (p : Int) d kn (E.1 10).toNat).1.toNat := if_pos rfl
      by_cases e : q = p
      · rw [e]
        refine ⟨by rw [vu_n (by omega), vu_e rfl]; exact hl, ?_⟩
        rw [vu_e rfl, sh]
        rcases lr with ⟨l1, l2⟩ | ⟨l1, l2, l3⟩
        · rw [l2, if_pos (by decide), if_pos l1]
          by_cases s1 : sSo E (p : Int) = -1
          · rw [if_pos s1, if_pos (Or.inr rfl), if_pos s1]
          · have pb := sPa_b I s1
            rcases @sSo_p E I (p : Int) with ⟨i1, _⟩ | ⟨m, m1, m2, m3⟩
            · exact absurd i1 s1
            · rw [if_neg s1, if_neg (by omega), if_neg s1, m1, show (47660 + 6 * (m : Int) + 1).toNat = 47661 + 6 * m from by omega]
              have q1 := pb.2
              rw [m1, show ((m : Int)).toNat = m from by omega] at q1
              rw [← q1, show (40 + ((sPa E p : Nat) : Int)).toNat = 40 + sPa E p from by omega]
              exact (Z (sPa E p) pb.1).2
        · rw [if_neg (show ¬ (sLt E 47900 (p : Int) d kn (E.1 10).toNat).2 = -1 from by omega)]
          by_cases c1 : (sLt E 47900 (p : Int) d kn (E.1 10).toNat).1 = -1
          · rw [if_pos (by omega), if_pos (Or.inl c1), if_pos c1]
          · rw [if_neg (by omega), if_neg c1]
            exact w2 _ (by unfold sNl; omega)
      · rw [vu_n (by omega), vu_n (by omega), vu_n (by omega), vu_n (by omega), so q e]
        exact Z q (by omega)
  | succ c ih =>
    intro k r left W hk hr P Q Z hl
    obtain ⟨r', rfl⟩ : ∃ r', r = r' + 1 := ⟨r - 1, by omega⟩
    obtain ⟨w, w1, w2⟩ := id P
    have hk9 : (k : Int) < E.1 9 := by omega
    have sk := (I.2.2.1 k hk9).1
    obtain ⟨ch, hc⟩ : ∃ ch : Nat, E.1 (47660 + 6 * k) = (ch : Int) := ⟨(E.1 (47660 + 6 * k)).toNat, by omega⟩
    have jn : jnk E k = ch := by unfold jnk; rw [if_pos hk9]; omega
    have jl := jnk_l I hk9
    rw [jn] at hl
    rw [fh1_s, w, w1, if_neg (by omega), show (47660 + 6 * (k : Int) + 1).toNat = 47661 + 6 * k from by omega, show (47660 + 6 * (k : Int) + 4).toNat = 47664 + 6 * k from by omega, show (47660 + 6 * (k : Int) + 5).toNat = 47665 + 6 * k from by omega, show (47660 + 6 * (k : Int) + 2).toNat = 47662 + 6 * k from by omega, show (47660 + 6 * (k : Int) + 3).toNat = 47663 + 6 * k from by omega, show (47660 + 6 * (k : Int)).toNat = 47660 + 6 * k from by omega]
    by_cases cd : E.1 (47661 + 6 * k) = (p : Int) ∧ ¬ d < E.1 (47664 + 6 * k) ∧ ¬ kn < E.1 (47665 + 6 * k)
    · rw [if_pos cd]
      rw [show max (p + 1) ch = ch from by omega] at hl
      obtain ⟨t1, t2, t3, t4, t5, t6⟩ := tk_m I H hk9 hc cd.1 hl
      have ef : sEf E d kn ch := ⟨by omega, by rw [t3, show ((k : Int)).toNat = k from by omega]; omega, by rw [t3, show ((k : Int)).toNat = k from by omega]; omega⟩
      have lf : ∀ q : Nat, sLf E d kn (ch + 1) q = if sEf E d kn ch then (if q = ch then sTk E ch (sLf E d kn ch (sPa E ch)) else if q = sPa E ch then sLf E d kn ch q - sTk E ch (sLf E d kn ch (sPa E ch)) else sLf E d kn ch q) else sLf E d kn ch q := fun _ => rfl
      rw [t1, hc, show ((ch : Int)).toNat = ch from by omega, j_is (by omega) (by omega) (by omega)]
      have F1 : pF [(162, 0), (163, 0), (164, 0)] W (vu W 164 ch (sTk E ch (sLf E d kn ch (sPa E ch)))) := pF_v pF_r rfl
      obtain ⟨V, v1, v2, v3, v4⟩ := ih (k + 1) r' (left - sTk E ch (sLf E d kn ch (sPa E ch))) (vu W 164 ch (sTk E ch (sLf E d kn ch (sPa E ch)))) (by omega) (by omega) ⟨(vu_c (by decide)).trans w, (vu_n (by omega)).trans w1, fun m hm => (vu_n (by omega)).trans (w2 m hm)⟩ (fun j hj => by
        by_cases e : j = ch
        · rw [e, vu_e rfl, if_pos ⟨ef, Or.inr ⟨t2, by omega⟩⟩, lf, if_pos ef, if_pos rfl]
        · rw [vu_n (by omega), Q j hj]
          by_cases c1 : sEf E d kn j ∧ (sPa E j < p ∨ (sPa E j = p ∧ (sSo E (j : Int)).toNat < k))
          · rw [if_pos c1, if_pos ⟨c1.1, by omega⟩]
          · rw [if_neg c1, if_neg]
            intro z
            refine c1 ⟨z.1, ?_⟩
            have s0 := z.1.1
            by_cases sj : (sSo E (j : Int)).toNat = k
            · exfalso
              rcases @sSo_p E I (j : Int) with ⟨i1, _⟩ | ⟨m, m1, m2, m3⟩
              · omega
              · have : m = k := by omega
                rw [this, hc] at m3
                omega
            · omega) (by
        have a1 : (vu W 164 ch (sTk E ch (sLf E d kn ch (sPa E ch)))).1 162 = W.1 162 := vu_c (by decide)
        have a2 : (vu W 164 ch (sTk E ch (sLf E d kn ch (sPa E ch)))).1 163 = W.1 163 := vu_c (by decide)
        rw [a1, a2]
        exact Z) (by
        rw [@sLf_n E d kn I k p (ch + 1) hk9 (by omega) (by omega) (fun j j1 j2 => by omega) (by omega), lf, if_pos ef, if_neg (by omega), if_pos t2.symm, hl])
      rw [show ((k + 1 : Nat) : Int) = (k : Int) + 1 from by omega] at v1
      exact ⟨V, v1, pF_t F1 v2, v3, v4⟩
    · rw [if_neg cd]
      have no : ¬ (sEf E d kn ch ∧ sPa E ch = p) := fun z => by
        have so : sSo E (ch : Int) = (k : Int) := by rw [← hc]; exact sSo_k I hk9
        have z1 := z.1.2
        rw [so, show ((k : Int)).toNat = k from by omega] at z1
        have z2 := z.2
        unfold sPa at z2
        rw [so, show ((k : Int)).toNat = k from by omega] at z2
        exact cd ⟨by omega, by omega, by omega⟩
      obtain ⟨V, v1, v2, v3, v4⟩ := ih (k + 1) r' left W (by omega) (by omega) P (fun j hj => by
        rw [Q j hj]
        by_cases c1 : sEf E d kn j ∧ (sPa E j < p ∨ (sPa E j = p ∧ (sSo E (j : Int)).toNat < k))
        · rw [if_pos c1, if_pos ⟨c1.1, by omega⟩]
        · rw [if_neg c1, if_neg]
          intro z
          refine c1 ⟨z.1, ?_⟩
          have s0 := z.1.1
          by_cases sj : (sSo E (j : Int)).toNat = k
          · rcases z.2 with z2 | z2
            · omega
            · exfalso
              rcases @sSo_p E I (j : Int) with ⟨i1, _⟩ | ⟨m, m1, m2, m3⟩
              · omega
              · have : m = k := by omega
                rw [this, hc] at m3
                have : j = ch := by omega
                rw [this] at z z2
                exact no ⟨z.1, z2.1⟩
          · omega) Z (by
        rw [@sLf_n E d kn I k p (max (p + 1) ch) hk9 (by omega) (by omega) (fun j j1 j2 => (show ch = j from by omega) ▸ no) (by omega), hl])
      rw [show ((k + 1 : Nat) : Int) = (k : Int) + 1 from by omega] at v1
      exact ⟨V, v1, v2, v3, v4⟩
theorem fh1_7 {E : pE} {g : Nat → Int} {d kn : Int} (I : pIs E) (H : pIh E) : ∀ (c p r : Nat) (W : jW), ((p + c : Nat) : Int) = E.1 7 → c < r → pMh W E g kn → pWh W E d kn p 0 → pHz (W.1 162) (W.1 163) 40 E g d kn p → pHz ((d_X12_findHouses_r125_c1d_75 r d (E.1 7) (p : Int) W).1 162) ((d_X12_findHouses_r125_c1d_75 r d (E.1 7) (p : Int) W).1 163) 40 E g d kn (E.1 7).toNat := by
  have st : ∀ (r : Nat) (d n p : Int) (W : jW), d_X12_findHouses_r125_c1d_75 (r + 1) d n p W = if n ≤ p then W else d_X12_findHouses_r125_c1d_93 (fun l1 l3 l4 W => d_X12_findHouses_r125_c1d_75 r l1 l3 l4 W) 41 d n p (W.1 164 p.toNat) 0 W := fun _ _ _ _ _ => rfl
  intro c
  induction c with
  | zero =>
    intro p r W hp hr P Q Z
    obtain ⟨r', rfl⟩ : ∃ r', r = r' + 1 := ⟨r - 1, by omega⟩
    rw [st, if_pos (by omega), show (E.1 7).toNat = p from by omega]
    exact Z
  | succ c ih =>
    intro p r W hp hr P Q Z
    obtain ⟨r', rfl⟩ : ∃ r', r = r' + 1 := ⟨r - 1, by omega⟩
    have b7 := I.1
    have b9 := I.2.1
    have l0 : W.1 164 p = sLf E d kn (max (p + 1) (jnk E 0)) p := by
      have e1 : sLf E d kn (max (p + 1) (jnk E 0)) p = sLf E d kn (p + 1) p := by
        have e : max (p + 1) (jnk E 0) = (p + 1) + (max (p + 1) (jnk E 0) - (p + 1)) := by omega
        rw [e]
        exact sLf_j _ (p + 1) (by omega) (fun j j1 j2 z => by have := @jnk_0 E I j (by omega); have := z.1.1; omega)
      rw [e1, Q p (by omega)]
      by_cases ef : sEf E d kn p
      · rw [if_pos ⟨ef, Or.inl (sPa_b I (by have := ef.1; omega)).1⟩]
      · rw [if_neg (fun z => ef z.1)]
        have lf : sLf E d kn (p + 1) p = if sEf E d kn p then (if p = p then sTk E p (sLf E d kn p (sPa E p)) else if p = sPa E p then sLf E d kn p p - sTk E p (sLf E d kn p (sPa E p)) else sLf E d kn p p) else sLf E d kn p p := rfl
        rw [lf, if_neg ef]
        exact (sLf_o I p (Nat.le_refl p)).symm
    obtain ⟨V, v1, v2, v3, v4⟩ := @fh1_e (fun l1 l3 l4 W => d_X12_findHouses_r125_c1d_75 r' l1 l3 l4 W) E g d kn p I H (by omega) (E.1 9).toNat 0 41 (W.1 164 p) W (by omega) (by omega) P Q Z l0
    rw [show ((0 : Nat) : Int) = 0 from rfl] at v1
    rw [st, if_neg (by omega), show ((p : Int)).toNat = p from by omega, v1]
    have y := ih (p + 1) r' V (by omega) (by omega) ⟨(pF_c v2 rfl).trans P.1, (v2.1 125 28 rfl).trans P.2.1, fun m hm => by rw [pF_c v2 rfl]; exact P.2.2 m hm⟩ v3 v4
    rw [show ((p + 1 : Nat) : Int) = (p : Int) + 1 from by omega] at y
    exact y
theorem fh1_1 {E : pE} {g : Nat → Int} {d kn : Int} (I : pIs E) (H : pIh E) : ∀ (c h r : Nat) (W : jW), ((h + c : Nat) : Int) = E.1 7 → c < r → pMh W E g kn → (∀ q : Nat, q < h → W.1 164 q = sTo E d kn q) → pHz ((d_X12_findHouses_r125_c1d_11 r d (E.1 7) (h : Int) W).1 162) ((d_X12_findHouses_r125_c1d_11 r d (E.1 7) (h : Int) W).1 163) 40 E g d kn (E.1 7).toNat := by
  have st : ∀ (r : Nat) (d n h : Int) (W : jW), d_X12_findHouses_r125_c1d_11 (r + 1) d n h W = if n ≤ h then d_X12_findHouses_r125_c1d_75 41 d n 0 W else d_X12_findHouses_r125_c1d_11 r d n (h + 1) (vu W 164 h.toNat (if d_X12_splitOf_r125d h W = -1 ∧ ¬ d_X12_latest_r125_c47260d (W.1 126 8) h d W = -2 then d_X12_latest_r125_c47260d (W.1 126 8) h d W else 0)) := fun r d n h W => by
    show (if n ≤ h then d_X12_findHouses_r125_c1d_75 41 d n 0 W else if d_X12_splitOf_r125d h W = -1 then (if d_X12_latest_r125_c47260d (W.1 126 8) h d W = -2 then _ else _) else _) = _
    generalize d_X12_splitOf_r125d h W = y
    generalize d_X12_latest_r125_c47260d (W.1 126 8) h d W = z
    generalize d_X12_findHouses_r125_c1d_75 41 d n 0 W = x
    repeat' split
    all_goals first
      | rfl
      | (exfalso; omega)
  intro c
  induction c with
  | zero =>
    intro h r W hh hr P Q
    obtain ⟨r', rfl⟩ : ∃ r', r = r' + 1 := ⟨r - 1, by omega⟩
    have b7 := I.1
    rw [st, if_pos (by omega)]
    exact fh1_7 I H (E.1 7).toNat 0 41 W (by omega) (by omega) P (fun j hj => by
      rw [if_neg (fun z => by have := z.2; omega)]
      exact Q j (by omega)) (fun q hq => absurd hq (Nat.not_lt_zero _))
  | succ c ih =>
    intro h r W hh hr P Q
    obtain ⟨r', rfl⟩ : ∃ r', r = r' + 1 := ⟨r - 1, by omega⟩
    rw [st, if_neg (by omega), show ((h : Int)).toNat = h from by omega, P.1, @la47260 W E (h : Int) d kn P.1 P.2.1 H.1, @mso W E (h : Int) P.1 I]
    have v : (if (if sSo E (h : Int) = -1 then (-1 : Int) else 47660 + 6 * sSo E (h : Int)) = -1 ∧ ¬ (sLt E 47260 (h : Int) d kn (E.1 8).toNat).1 = -2 then (sLt E 47260 (h : Int) d kn (E.1 8).toNat).1 else 0) = sTo E d kn h := by
      by_cases s1 : sSo E (h : Int) = -1
      · have z : ∀ n : Nat, (n : Int) ≤ E.1 8 → ((sLt E 47260 (h : Int) d kn n).2 = -1 ∧ (sLt E 47260 (h : Int) d kn n).1 = -2) ∨ (0 ≤ (sLt E 47260 (h : Int) d kn n).2 ∧ 0 ≤ (sLt E 47260 (h : Int) d kn n).1) := by
          intro n
          induction n with
          | zero => intro _; exact Or.inl ⟨rfl, rfl⟩
          | succ n ihn =>
            intro hn
            have st : sLt E 47260 (h : Int) d kn (n + 1) = if E.1 (47260 + 4 * n) = (h : Int) ∧ E.1 (47260 + 4 * n + 3) ≤ kn ∧ E.1 (47260 + 4 * n + 2) ≤ d ∧ (sLt E 47260 (h : Int) d kn n).2 ≤ E.1 (47260 + 4 * n + 2) then (E.1 (47260 + 4 * n + 1), E.1 (47260 + 4 * n + 2)) else sLt E 47260 (h : Int) d kn n := rfl
            rw [st]
            split
            · have y := (H.2.2.1 n (by omega)).2
              rw [show 47261 + 4 * n = 47260 + 4 * n + 1 from by omega, show 47262 + 4 * n = 47260 + 4 * n + 2 from by omega] at y
              exact Or.inr ⟨y.2.1, y.1.1⟩
            · exact ihn (by omega)
        rw [if_pos s1]
        unfold sTo
        rcases z (E.1 8).toNat (by have := H.1; omega) with ⟨z1, z2⟩ | ⟨z1, z2⟩
        · rw [if_neg (fun y => y.2 z2), if_pos z1]
        · rw [if_pos ⟨rfl, by omega⟩, if_neg (by omega)]
      · rw [sTo_s I H s1, if_neg]
        intro y
        have y1 := y.1
        rw [if_neg s1] at y1
        rcases @sSo_p E I (h : Int) with ⟨i1, _⟩ | ⟨m, m1, _, _⟩
        · exact s1 i1
        · omega
    rw [v]
    have y := ih (h + 1) r' (vu W 164 h (sTo E d kn h)) (by omega) (by omega) ⟨(vu_c (by decide)).trans P.1, (vu_n (by omega)).trans P.2.1, fun m hm => (vu_n (by omega)).trans (P.2.2 m hm)⟩ (fun q hq => by
      by_cases e : q = h
      · rw [e]; exact vu_e rfl
      · rw [vu_n (by omega)]; exact Q q (by omega))
    rw [show ((h + 1 : Nat) : Int) = (h : Int) + 1 from by omega] at y
    exact y
theorem mhs1 {W : jW} {E : pE} {g : Nat → Int} {d kn : Int} (I : pIs E) (H : pIh E) (P : pMh W E g kn) : pHz ((d_X12_findHouses_r125_c1d d W).1 162) ((d_X12_findHouses_r125_c1d d W).1 163) 40 E g d kn (E.1 7).toNat := by
  have b7 := I.1
  unfold d_X12_findHouses_r125_c1d
  rw [P.1]
  exact fh1_1 I H (E.1 7).toNat 0 41 W (by omega) (by omega) P (fun q hq => absurd hq (Nat.not_lt_zero _))
end jG29

section jG30
/-! pure: what is asked about a SOUL -/
def pXh (X : jW) (E : pE) (g : Nat → Int) (d kn : Int) : Prop := X.1 49 3 = E.1 7 ∧ ∀ q : Nat, (q : Int) < E.1 7 → X.1 102 q = sLf E d kn (E.1 7).toNat q ∧ X.1 103 q = sHa E g d kn (E.1 7).toNat q
/-- HOLDINGS that were worked out may be taken while nothing was told since -/
def pKh (X : jW) (E : pE) : Prop := X.1 105 2 = X.1 32 19 → pXh X E (sGs E (X.1 105 1)).1 (X.1 105 0) (X.1 105 1)
theorem xrh {X : jW} {E : pE} {d kn : Int} (H : pIh E) (D : pHo X 32 E.1) (T7 : pT X 32 pt_7 E.1) (T9 : pT X 32 pt_9 E.1) (e33 : X.1 33 3 = E.1 0) (x82 : ∀ m : Nat, m < sNl E → X.1 82 m = (sGs E kn).1 m) (K : pKh X E) : pXh (d_X0_readHouses_r98d d kn X) E (sGs E kn).1 d kn ∧ (d_X0_readHouses_r98d d kn X).1 98 10 = d ∧ (d_X0_readHouses_r98d d kn X).1 98 11 = kn ∧ (d_X0_readHouses_r98d d kn X).1 105 0 = d ∧ (d_X0_readHouses_r98d d kn X).1 105 1 = kn ∧ (d_X0_readHouses_r98d d kn X).1 105 2 = X.1 32 19 := by
  have I := ho_is D
  have b7 := I.1
  have e49 : X.1 49 3 = E.1 7 := D.2.1
  have F0 : pF [(98, 11), (98, 12), (105, 0)] X (vu (vu (vu (vu (vu X 98 10 d) 98 11 kn) 105 0 d) 105 1 kn) 105 2 (X.1 32 19)) := pF_v (pF_v (pF_v (pF_u (pF_u pF_r rfl) rfl) rfl) rfl) rfl
  have v0 : (vu (vu (vu (vu (vu X 98 10 d) 98 11 kn) 105 0 d) 105 1 kn) 105 2 (X.1 32 19)).1 98 10 = d := by rw [vu_n (by omega), vu_n (by omega), vu_n (by omega), vu_n (by omega)]; exact vu_e rfl
  have v1 : (vu (vu (vu (vu (vu X 98 10 d) 98 11 kn) 105 0 d) 105 1 kn) 105 2 (X.1 32 19)).1 98 11 = kn := by rw [vu_n (by omega), vu_n (by omega), vu_n (by omega)]; exact vu_e rfl
  have v2 : (vu (vu (vu (vu (vu X 98 10 d) 98 11 kn) 105 0 d) 105 1 kn) 105 2 (X.1 32 19)).1 105 0 = d := by rw [vu_n (by omega), vu_n (by omega)]; exact vu_e rfl
  have v3 : (vu (vu (vu (vu (vu X 98 10 d) 98 11 kn) 105 0 d) 105 1 kn) 105 2 (X.1 32 19)).1 105 1 = kn := by rw [vu_n (by omega)]; exact vu_e rfl
  have v4 : (vu (vu (vu (vu (vu X 98 10 d) 98 11 kn) 105 0 d) 105 1 kn) 105 2 (X.1 32 19)).1 105 2 = X.1 32 19 := vu_e rfl
  have fresh : pXh (d_X0_readHouses_r98d_89 41 (min 40 (X.1 49 3)) 0 (d_X0_readLatest_r98_r51_r103d 3 (-1) (d_X0_readLatest_r98_r47_r102d 3 0 (vu (vu (vu (vu (vu X 98 10 d) 98 11 kn) 105 0 d) 105 1 kn) 105 2 (X.1 32 19))))) E (sGs E kn).1 d kn ∧ (d_X0_readHouses_r98d_89 41 (min 40 (X.1 49 3)) 0 (d_X0_readLatest_r98_r51_r103d 3 (-1) (d_X0_readLatest_r98_r47_r102d 3 0 (vu (vu (vu (vu (vu X 98 10 d) 98 11 kn) 105 0 d) 105 1 kn) 105 2 (X.1 32 19))))).1 98 10 = d ∧ (d_X0_readHouses_r98d_89 41 (min 40 (X.1 49 3)) 0 (d_X0_readLatest_r98_r51_r103d 3 (-1) (d_X0_readLatest_r98_r47_r102d 3 0 (vu (vu (vu (vu (vu X 98 10 d) 98 11 kn) 105 0 d) 105 1 kn) 105 2 (X.1 32 19))))).1 98 11 = kn ∧ (d_X0_readHouses_r98d_89 41 (min 40 (X.1 49 3)) 0 (d_X0_readLatest_r98_r51_r103d 3 (-1) (d_X0_readLatest_r98_r47_r102d 3 0 (vu (vu (vu (vu (vu X 98 10 d) 98 11 kn) 105 0 d) 105 1 kn) 105 2 (X.1 32 19))))).1 105 0 = d ∧ (d_X0_readHouses_r98d_89 41 (min 40 (X.1 49 3)) 0 (d_X0_readLatest_r98_r51_r103d 3 (-1) (d_X0_readLatest_r98_r47_r102d 3 0 (vu (vu (vu (vu (vu X 98 10 d) 98 11 kn) 105 0 d) 105 1 kn) 105 2 (X.1 32 19))))).1 105 1 = kn ∧ (d_X0_readHouses_r98d_89 41 (min 40 (X.1 49 3)) 0 (d_X0_readLatest_r98_r51_r103d 3 (-1) (d_X0_readLatest_r98_r47_r102d 3 0 (vu (vu (vu (vu (vu X 98 10 d) 98 11 kn) 105 0 d) 105 1 kn) 105 2 (X.1 32 19))))).1 105 2 = X.1 32 19 := by
    generalize vu (vu (vu (vu (vu X 98 10 d) 98 11 kn) 105 0 d) 105 1 kn) 105 2 (X.1 32 19) = Y at *
    have A := @rl47 E d kn 0 H b7 (E.1 7).toNat 0 41 Y (by omega) (by omega) (pT_x F0 rfl T7) ((F0.1 49 3 rfl).trans e49) v0 v1 (fun q hq => absurd hq (Nat.not_lt_zero _))
    have F1 := fr_d_X0_readLatest_r98_r47_r102d 3 0 Y
    rw [show ((0 : Nat) : Int) = 0 from rfl] at A
    change ∀ q : Nat, (q : Int) < E.1 7 → (d_X0_readLatest_r98_r47_r102d 3 0 Y).1 104 q = _ ∧ (d_X0_readLatest_r98_r47_r102d 3 0 Y).1 102 q = _ at A
    generalize d_X0_readLatest_r98_r47_r102d 3 0 Y = Z at *
    have B := @rl51 E d kn (-1) H b7 (E.1 7).toNat 0 41 Z (by omega) (by omega) (pT_x F1 rfl (pT_x F0 rfl T9)) ((F1.1 49 3 rfl).trans ((F0.1 49 3 rfl).trans e49)) ((F1.1 98 10 rfl).trans v0) ((F1.1 98 11 rfl).trans v1) (fun q hq => absurd hq (Nat.not_lt_zero _))
    have F2 := fr_d_X0_readLatest_r98_r51_r103d 3 (-1) Z
    rw [show ((0 : Nat) : Int) = 0 from rfl] at B
    change ∀ q : Nat, (q : Int) < E.1 7 → (d_X0_readLatest_r98_r51_r103d 3 (-1) Z).1 104 q = _ ∧ (d_X0_readLatest_r98_r51_r103d 3 (-1) Z).1 103 q = _ at B
    generalize d_X0_readLatest_r98_r51_r103d 3 (-1) Z = U at *
    have C : pHc U E (sGs E kn).1 d kn := by
      refine pHc_f F2 rfl rfl rfl rfl rfl (pHc_f F1 rfl rfl rfl rfl rfl ⟨?_, (F0.1 33 3 rfl).trans e33, fun m hm => by rw [pF_c F0 rfl]; exact x82 m hm, v0, v1⟩)
      have c := cok_e F0 (show cok _ 32 8 = true from rfl)
      exact pHo_e c.1 c.2 (fun _ _ => rfl) D
    have Q : pHx U E (sGs E kn).1 d kn 0 := ⟨fun q hq => by rw [pF_c F2 rfl]; exact (A q hq).2, fun q hq => absurd hq (Nat.not_lt_zero _), fun q _ hq => (B q hq).2, fun q hq => (B q hq).1⟩
    have R := @h89_e E (sGs E kn).1 d kn H b7 (E.1 7).toNat 0 41 U (by omega) (by omega) C Q
    rw [show ((0 : Nat) : Int) = 0 from rfl] at R
    have m7 : min 40 (X.1 49 3) = E.1 7 := by omega
    rw [m7]
    obtain ⟨⟨R1, R2, R3, R4⟩, R5⟩ := R
    refine ⟨⟨?_, fun q hq => ⟨R1 q hq, R2 q (by omega)⟩⟩, ?_, ?_, ?_, ?_, ?_⟩
    · exact (R5.1 49 3 rfl).trans ((F2.1 49 3 rfl).trans ((F1.1 49 3 rfl).trans ((F0.1 49 3 rfl).trans e49)))
    · exact (R5.1 98 10 rfl).trans ((F2.1 98 10 rfl).trans ((F1.1 98 10 rfl).trans v0))
    · exact (R5.1 98 11 rfl).trans ((F2.1 98 11 rfl).trans ((F1.1 98 11 rfl).trans v1))
    · exact (R5.1 105 0 rfl).trans ((F2.1 105 0 rfl).trans ((F1.1 105 0 rfl).trans v2))
    · exact (R5.1 105 1 rfl).trans ((F2.1 105 1 rfl).trans ((F1.1 105 1 rfl).trans v3))
    · exact (R5.1 105 2 rfl).trans ((F2.1 105 2 rfl).trans ((F1.1 105 2 rfl).trans v4))
  unfold d_X0_readHouses_r98d
  by_cases c0 : X.1 105 0 = d
  · rw [if_pos c0]
    by_cases c1 : X.1 105 1 = kn
    · rw [if_pos c1]
      by_cases c2 : X.1 105 2 = X.1 32 19
      · rw [if_pos c2]
        have G := K c2
        rw [c0, c1] at G
        refine ⟨⟨(F0.1 49 3 rfl).trans G.1, fun q hq => ?_⟩, v0, v1, v2, v3, v4⟩
        rw [pF_c F0 rfl, pF_c F0 rfl]
        exact G.2 q hq
      · rw [if_neg c2]; exact fresh
    · rw [if_neg c1]; exact fresh
  · rw [if_neg c0]; exact fresh
/-! the VALUE of all that a SOUL holds -/
def sVs (E : pE) (g : Nat → Int) (d kn s : Int) : Nat → Int
  | 0 => 0
  | h + 1 => sVs E g d kn s h + if sHa E g d kn (E.1 7).toNat h = s then sLf E d kn (E.1 7).toNat h else 0
def sVa (E : pE) (g : Nat → Int) (d kn s : Int) : Int := sVs E g d kn s (E.1 7).toNat
theorem sVs_b {E : pE} {g : Nat → Int} {d kn s : Int} (H : pIh E) (I : pIs E) : ∀ h : Nat, 0 ≤ sVs E g d kn s h ∧ sVs E g d kn s h ≤ 10000 * (h : Int) := by
  intro h
  induction h with
  | zero => exact ⟨Int.le_refl 0, Int.le_refl 0⟩
  | succ h ih =>
    have b := @sLf_b E d kn H I (E.1 7).toNat h
    show 0 ≤ sVs E g d kn s h + (if sHa E g d kn (E.1 7).toNat h = s then sLf E d kn (E.1 7).toNat h else 0) ∧ sVs E g d kn s h + (if sHa E g d kn (E.1 7).toNat h = s then sLf E d kn (E.1 7).toNat h else 0) ≤ 10000 * ((h + 1 : Nat) : Int)
    split <;> omega
theorem vx_e {X : jW} {E : pE} {g : Nat → Int} {d kn s : Int} (H : pIh E) (I : pIs E) (P : pXh X E g d kn) : ∀ (c h r : Nat), ((h + c : Nat) : Int) = E.1 7 → c < r → d_X0_valueOf_r98d_5 r s (sVs E g d kn s h) (h : Int) X = sVa E g d kn s := by
  have b7 := I.1
  have st : ∀ (r : Nat) (s a h : Int), d_X0_valueOf_r98d_5 (r + 1) s a h X = if 40 ≤ h ∨ X.1 49 3 ≤ h then a else d_X0_valueOf_r98d_5 r s (if X.1 103 h.toNat = s then j_ladd a (X.1 102 h.toNat) else a) (h + 1) X := fun r s a h => by
    show (if 40 ≤ h then a else if X.1 49 3 ≤ h then a else if X.1 103 h.toNat = s then _ else _) = _
    repeat' split
    all_goals first
      | rfl
      | (exfalso; omega)
  intro c
  induction c with
  | zero =>
    intro h r hh hr
    obtain ⟨r', rfl⟩ : ∃ r', r = r' + 1 := ⟨r - 1, by omega⟩
    rw [st, P.1, if_pos (by omega)]
    unfold sVa
    rw [show (E.1 7).toNat = h from by omega]
  | succ c ih =>
    intro h r hh hr
    obtain ⟨r', rfl⟩ : ∃ r', r = r' + 1 := ⟨r - 1, by omega⟩
    obtain ⟨q1, q2⟩ := P.2 h (by omega)
    rw [st, P.1, if_neg (by omega), show ((h : Int)).toNat = h from by omega, q1, q2]
    have y := ih (h + 1) r' (by omega) (by omega)
    rw [show ((h + 1 : Nat) : Int) = (h : Int) + 1 from by omega] at y
    have v : (if sHa E g d kn (E.1 7).toNat h = s then j_ladd (sVs E g d kn s h) (sLf E d kn (E.1 7).toNat h) else sVs E g d kn s h) = sVs E g d kn s (h + 1) := by
      have b := @sLf_b E d kn H I (E.1 7).toNat h
      have vb := @sVs_b E g d kn s H I h
      show _ = sVs E g d kn s h + if sHa E g d kn (E.1 7).toNat h = s then sLf E d kn (E.1 7).toNat h else 0
      by_cases z : sHa E g d kn (E.1 7).toNat h = s
      · rw [if_pos z, if_pos z, l_a (by omega) (by omega) (by omega)]
      · rw [if_neg z, if_neg z, Int.add_zero]
    rw [v]
    exact y
theorem xva {X : jW} {E : pE} {g : Nat → Int} {d kn s : Int} (H : pIh E) (I : pIs E) (P : pXh X E g d kn) : d_X0_valueOf_r98d s X = sVa E g d kn s := by
  have b7 := I.1
  exact vx_e H I P (E.1 7).toNat 0 41 (by omega) (by omega)
theorem vm_e {M : jW} {E : pE} {g : Nat → Int} {d kn s : Int} (H : pIh E) (I : pIs E) (w : M.1 126 7 = E.1 7) (P : pHz (M.1 162) (M.1 163) 0 E g d kn (E.1 7).toNat) : ∀ (c h r : Nat), ((h + c : Nat) : Int) = E.1 7 → c < r → (d_X12_valueHeld_r125d_11 r s (sVs E g d kn s h) (h : Int) M).1 = sVa E g d kn s := by
  have b7 := I.1
  have st : ∀ (r : Nat) (s a h : Int), d_X12_valueHeld_r125d_11 (r + 1) s a h M = if M.1 126 7 ≤ h then (a, M) else d_X12_valueHeld_r125d_11 r s (if M.1 163 h.toNat = s then j_iadd a (M.1 162 h.toNat) else a + 0) (h + 1) M := fun r s a h => by
    show (if M.1 126 7 ≤ h then (a, M) else if M.1 163 h.toNat = s then _ else _) = _
    repeat' split
    all_goals rfl
  intro c
  induction c with
  | zero =>
    intro h r hh hr
    obtain ⟨r', rfl⟩ : ∃ r', r = r' + 1 := ⟨r - 1, by omega⟩
    rw [st, w, if_pos (by omega)]
    unfold sVa
    rw [show (E.1 7).toNat = h from by omega]
  | succ c ih =>
    intro h r hh hr
    obtain ⟨r', rfl⟩ : ∃ r', r = r' + 1 := ⟨r - 1, by omega⟩
    obtain ⟨q1, q2⟩ := P h (by omega)
    rw [Nat.zero_add] at q1 q2
    rw [st, w, if_neg (by omega), show ((h : Int)).toNat = h from by omega, q1, q2]
    have y := ih (h + 1) r' (by omega) (by omega)
    rw [show ((h + 1 : Nat) : Int) = (h : Int) + 1 from by omega] at y
    have v : (if sHa E g d kn (E.1 7).toNat h = s then j_iadd (sVs E g d kn s h) (sLf E d kn (E.1 7).toNat h) else sVs E g d kn s h + 0) = sVs E g d kn s (h + 1) := by
      have b := @sLf_b E d kn H I (E.1 7).toNat h
      have vb := @sVs_b E g d kn s H I h
      show _ = sVs E g d kn s h + if sHa E g d kn (E.1 7).toNat h = s then sLf E d kn (E.1 7).toNat h else 0
      by_cases z : sHa E g d kn (E.1 7).toNat h = s
      · rw [if_pos z, if_pos z, j_ia (by omega) (by omega) (by omega)]
      · rw [if_neg z, if_neg z]
    rw [v]
    exact y
theorem mva {M : jW} {E : pE} {g : Nat → Int} {d kn s : Int} (H : pIh E) (I : pIs E) (P : pMs M E g) (hn : M.1 125 28 = kn) : (d_X12_valueHeld_r125d s d M).1 = sVa E g d kn s := by
  have b7 := I.1
  have w : M.1 126 = E.1 := congrArg (fun z : pE => z.1) P.1
  have Z := @mhs0 M E g d kn I H ⟨w, hn, P.2.2.2.2.2.2⟩
  have F := fr_d_X12_findHouses_r125_c0d d M
  unfold d_X12_valueHeld_r125d
  exact vm_e H I (by rw [pF_c F rfl, w]) Z (E.1 7).toNat 0 41 (by omega) (by omega)
end jG30

section jG31
/-! pure: what is told about a SOUL -/
noncomputable def sQu (E : pE) (g : Nat → Int) (d kn w s : Int) : Int := if w = 0 then max 0 (d - (sSn E g s).2.1) / 366 else if w = 1 then sCh E g s d else if w = 2 then sVa E g d kn s else if w = 3 then j_idiv (d - sFy E g s d) 366 else if w = 4 then sRe E g s (d - 365) d else if w = 5 then (if tv (sHb E g s 3 d) = 0 then (if tv (sHb E g s 4 d) = 0 then 0 else 1) else 1) else if w = 6 then (if tv (sHb E g s 5 d) = 0 then 0 else 1) else if w = 7 then (if sRe E g s (d - 365) d ≤ 0 then 0 else 1) else if w = 8 then (if sVa E g d kn s ≤ 0 then 0 else 1) else (if tv (sCe E g s d (-1) kn) = 0 then 0 else 1)
/-- all that questions about SOULS rest on at the class's -/
def pXq (X : jW) (E : pE) (g : Nat → Int) (d kn : Int) : Prop := pXs X E g ∧ pXh X E g d kn ∧ X.1 98 10 = d ∧ X.1 98 11 = kn ∧ pT X 32 pt_5 E.1
def pIq (E : pE) (g : Nat → Int) : Prop := pIf E ∧ pIh E ∧ pIs E ∧ sGw E g
theorem sn_b {E : pE} {g : Nat → Int} {s : Int} : 0 ≤ (sSn E g s).2.1 ∧ (sSn E g s).2.1 ≤ 146399 := by
  unfold sSn sSf
  dsimp only
  omega
theorem xqu {X : jW} {E : pE} {g : Nat → Int} {d kn w : Int} {p : Nat} (Q : pXq X E g d kn) (I : pIq E g) (hd : 0 ≤ d ∧ d ≤ 146399) (hp : p < sNl E) (ep : g p = (p : Int)) : (d_X0_quantity_r98d w (p : Int) X).1 = sQu E g d kn w (p : Int) := by
  obtain ⟨P, P2, h10, h11, T⟩ := Q
  obtain ⟨F, H, S, G⟩ := I
  have sp := xsp P hp ep
  have sb := @sn_b E g (p : Int)
  unfold d_X0_quantity_r98d sQu
  rw [h10, h11, sp.2.1, xch P, xva H S P2, xfd P hp ep, xre P hp ep, xhb P hp ep, xhb P hp ep, xhb P hp ep, xce P T F, j_is (by omega) (by omega) (by omega)]
  by_cases c0 : w = 0
  · rw [if_pos c0, if_pos c0]
  · rw [if_neg c0, if_neg c0]
    by_cases c1 : w = 1
    · rw [if_pos c1, if_pos c1]
    · rw [if_neg c1, if_neg c1]
      by_cases c2 : w = 2
      · rw [if_pos c2, if_pos c2]
      · rw [if_neg c2, if_neg c2]
        by_cases c3 : w = 3
        · rw [if_pos c3, if_pos c3]
        · rw [if_neg c3, if_neg c3]
          by_cases c4 : w = 4
          · rw [if_pos c4, if_pos c4]
          · rw [if_neg c4, if_neg c4]
            by_cases c5 : w = 5
            · rw [if_pos c5, if_pos c5]
              repeat' split
              all_goals rfl
            · rw [if_neg c5, if_neg c5]
              by_cases c6 : w = 6
              · rw [if_pos c6, if_pos c6]
                repeat' split
                all_goals rfl
              · rw [if_neg c6, if_neg c6]
                by_cases c7 : w = 7
                · rw [if_pos c7, if_pos c7]
                  repeat' split
                  all_goals rfl
                · rw [if_neg c7, if_neg c7]
                  by_cases c8 : w = 8
                  · rw [if_pos c8, if_pos c8]
                    repeat' split
                    all_goals rfl
                  · rw [if_neg c8, if_neg c8]
                    repeat' split
                    all_goals rfl
theorem j_in {x : Int} (hx : -2147483647 ≤ x ∧ x ≤ 2147483647) : (if 0 ≤ j_idiv x 366 then j_idiv x 366 else 0) = max 0 x / 366 := by
  by_cases c : 0 ≤ x
  · have h4 : 0 ≤ x / 366 := Int.ediv_nonneg c (by omega)
    rw [j_id (by omega) (by decide), if_pos h4, show max 0 x = x from by omega]
  · have e : j_idiv x 366 = -((-x) / 366) := by
      unfold j_idiv
      have h3 : (-x) / 366 ≤ -x := Int.ediv_le_self _ (by omega)
      have h4 : 0 ≤ (-x) / 366 := Int.ediv_nonneg (by omega) (by omega)
      have q : Int.tdiv x 366 = -((-x) / 366) := by
        have z : Int.tdiv (-(-x)) 366 = -(Int.tdiv (-x) 366) := Int.neg_tdiv (-x) 366
        rw [Int.neg_neg, Int.tdiv_eq_ediv_of_nonneg (show 0 ≤ -x from by omega)] at z
        exact z
      rw [Int32.toInt_div, j_of (by omega), j_of (by decide), q]
      exact Int.bmod_eq_of_le (by omega) (by omega)
    have h4 : 0 ≤ (-x) / 366 := Int.ediv_nonneg (by omega) (by omega)
    rw [e, show max 0 x = 0 from by omega, show (0 : Int) / 366 = 0 from rfl]
    split <;> omega
theorem mqu {M : jW} {E : pE} {g : Nat → Int} {d kn w s : Int} (P : pMs M E g) (hn : M.1 125 28 = kn) (I : pIq E g) (hd : 0 ≤ d ∧ d ≤ 146399) (hs : s ≠ -1) : (d_X12_fact2_r125d s d w M).1 = sQu E g d kn w s := by
  obtain ⟨F, H, S, G⟩ := I
  have sp : (d_X12_findSpan_r125d s M).1 125 33 = (sSn E g s).2.1 := congrArg (fun t : sT4 => t.2.1) (msp P hs)
  have sb := @sn_b E g s
  have mo : ∀ w : Int, 0 ≤ w ∧ w ≤ 5 → (d_X12_mentionOf_r125d s w d M = -1 ↔ tv (sHb E g s w d) = 0) := fun w hw => by
    rw [mmo P hs hw, sMo_h, tv_0]
  have o3 := mo 3 (by decide)
  have o4 := mo 4 (by decide)
  have o5 := mo 5 (by decide)
  unfold d_X12_fact2_r125d sQu
  rw [sp, mch P G, myo P hs hd, mre P hs, mce P F hn, j_is (by omega) (by omega) (by omega)]
  by_cases c0 : w = 0
  · rw [if_pos c0, if_pos c0, ← j_in (by omega)]
    split <;> rfl
  · rw [if_neg c0, if_neg c0]
    by_cases c1 : w = 1
    · rw [if_pos c1, if_pos c1]
    · rw [if_neg c1, if_neg c1]
      by_cases c2 : w = 2
      · rw [if_pos c2, if_pos c2]
        exact mva H S P hn
      · rw [if_neg c2, if_neg c2]
        by_cases c3 : w = 3
        · rw [if_pos c3, if_pos c3]
        · rw [if_neg c3, if_neg c3]
          by_cases c4 : w = 4
          · rw [if_pos c4, if_pos c4]
          · rw [if_neg c4, if_neg c4]
            by_cases c5 : w = 5
            · rw [if_pos c5, if_pos c5]
              by_cases a3 : d_X12_mentionOf_r125d s 3 d M = -1
              · rw [if_pos a3, if_pos (o3.1 a3)]
                by_cases a4 : d_X12_mentionOf_r125d s 4 d M = -1
                · rw [if_pos a4, if_pos (o4.1 a4)]; rfl
                · rw [if_neg a4, if_neg (fun z => a4 (o4.2 z))]; rfl
              · rw [if_neg a3, if_neg (fun z => a3 (o3.2 z))]; rfl
            · rw [if_neg c5, if_neg c5]
              by_cases c6 : w = 6
              · rw [if_pos c6, if_pos c6]
                by_cases a5 : d_X12_mentionOf_r125d s 5 d M = -1
                · rw [if_pos a5, if_pos (o5.1 a5)]; rfl
                · rw [if_neg a5, if_neg (fun z => a5 (o5.2 z))]; rfl
              · rw [if_neg c6, if_neg c6]
                by_cases c7 : w = 7
                · rw [if_pos c7, if_pos c7]
                  split <;> rfl
                · rw [if_neg c7, if_neg c7]
                  by_cases c8 : w = 8
                  · rw [if_pos c8, if_pos c8, mva H S P hn]
                    split <;> rfl
                  · rw [if_neg c8, if_neg c8]
                    split <;> rfl
end jG31

section jG32
/-! pure: masks of bits; LAWS in force, and the reference's finding of them -/
def bt (a : Int) (c : Nat) : Bool := (Int32.ofInt a).toBitVec.getLsbD c
theorem bt_and {a b : Int} {c : Nat} : bt (j_iand a b) c = (bt a c && bt b c) := by
  unfold bt j_iand
  rw [Int32.ofInt_toInt, Int32.toBitVec_and, BitVec.getLsbD_and]
theorem bt_or {a b : Int} {c : Nat} : bt (j_ior a b) c = (bt a c || bt b c) := by
  unfold bt j_ior
  rw [Int32.ofInt_toInt, Int32.toBitVec_or, BitVec.getLsbD_or]
theorem bt_xor {a b : Int} {c : Nat} : bt (j_ixor a b) c = (bt a c ^^ bt b c) := by
  unfold bt j_ixor
  rw [Int32.ofInt_toInt, Int32.toBitVec_xor, BitVec.getLsbD_xor]
theorem bt_n {c : Nat} (hc : c < 12) : bt (-1) c = true := by
  have h : ∀ k : Fin 12, bt (-1) k.1 = true := by decide
  exact h ⟨c, hc⟩
theorem bt_0 {c : Nat} : bt 0 c = false := by
  have h : (Int32.ofInt 0).toBitVec = 0#32 := by decide
  unfold bt
  rw [h, BitVec.getLsbD_zero]
theorem bt_l {n c : Nat} (hn : n < 12) (hc : c < 12) : bt (j_ishl 1 (n : Int)) c = decide (n = c) := by
  have h : ∀ n c : Fin 12, bt (j_ishl 1 (n.1 : Int)) c.1 = decide (n.1 = c.1) := by decide
  exact h ⟨n, hn⟩ ⟨c, hc⟩
theorem bt_m {n c : Nat} (hn : n < 13) (hc : c < 12) : bt (j_isub (j_ishl 1 (n : Int)) 1) c = decide (c < n) := by
  have h : ∀ (n : Fin 13) (c : Fin 12), bt (j_isub (j_ishl 1 (n.1 : Int)) 1) c.1 = decide (c.1 < n.1) := by decide
  exact h ⟨n, hn⟩ ⟨c, hc⟩
theorem bt_g {a : Int} {c : Nat} (hc : c < 12) : j_iand (j_ishr a (c : Int)) 1 = 1 ↔ bt a c = true := by
  have e : ∀ k : Fin 12, ((Int32.ofInt (k.1 : Int) &&& 31).toBitVec.smod 32#32).toNat = k.1 := by decide
  have e' : ((Int32.ofInt (c : Int) &&& 31).toBitVec.smod 32#32).toNat = c := e ⟨c, hc⟩
  have h : ((Int32.ofInt a >>> (Int32.ofInt (c : Int) &&& 31)) &&& Int32.ofInt 1).toBitVec = BitVec.setWidth 32 (BitVec.ofBool ((Int32.ofInt a).toBitVec.getLsbD c)) := by
    rw [Int32.toBitVec_and, Int32.toBitVec_shiftRight, show (Int32.ofInt 1).toBitVec = 1#32 from by decide, BitVec.and_one_eq_setWidth_ofBool_getLsbD]
    have g : (BitVec.sshiftRight' (Int32.ofInt a).toBitVec ((Int32.ofInt (c : Int) &&& 31).toBitVec.smod 32#32)).getLsbD 0 = (Int32.ofInt a).toBitVec.getLsbD c := by
      unfold BitVec.sshiftRight'
      rw [e', BitVec.getLsbD_sshiftRight, Nat.add_zero, if_pos (show c < 32 from by omega)]
      simp
    exact congrArg (fun b => BitVec.setWidth 32 (BitVec.ofBool b)) g
  unfold j_iand j_ishr bt
  rw [Int32.ofInt_toInt]
  cases q : (Int32.ofInt a).toBitVec.getLsbD c
  · rw [q] at h
    constructor
    · intro z
      exfalso
      have z2 : ((Int32.ofInt a >>> (Int32.ofInt (c : Int) &&& 31)) &&& Int32.ofInt 1) = Int32.ofInt 1 := Int32.toInt_inj.mp (by rw [z]; decide)
      rw [z2] at h
      exact absurd h (by decide)
    · intro z
      exact absurd z (by decide)
  · rw [q] at h
    constructor
    · intro _
      rfl
    · intro _
      have z2 : ((Int32.ofInt a >>> (Int32.ofInt (c : Int) &&& 31)) &&& Int32.ofInt 1) = Int32.ofInt 1 := Int32.toBitVec_inj.mp (by rw [h]; decide)
      rw [z2]
      decide
def sU (s : Nat → Int) (k : Nat) (x : Int) : Nat → Int := fun i => if i = k then x else s i
/-- one CLAUSE after the other of a TEXT strikes -/
def lC (r : Nat → Int) (t : Int) : Nat → Int → (Nat → Int) → (Nat → Int)
  | 0, _, s => s
  | n + 1, c, s => if r ((18820 + (924 * t)) + 3).toNat ≤ c then s else lC r t n (c + 1) (if r (((18820 + (924 * t)) + 4) + (10 * c)).toNat = 0 ∧ s ((12 * t) + c).toNat = 0 ∧ r ((((18820 + (924 * t)) + 4) + (10 * c)) + 2).toNat < t then sU s ((12 * (r ((((18820 + (924 * t)) + 4) + (10 * c)) + 2).toNat)) + (r ((((18820 + (924 * t)) + 4) + (10 * c)) + 3).toNat)).toNat 1 else s)
/-- a TEXT is known and begun -/
def sLo (r : Nat → Int) (d kn t : Int) : Prop := r ((18820 + (924 * t)) + 2).toNat ≤ kn ∧ r ((18820 + (924 * t)) + 1).toNat ≤ d
noncomputable def lT (r : Nat → Int) (d kn : Int) : Nat → Int → (Nat → Int) → (Nat → Int)
  | 0, _, s => s
  | n + 1, t, s => if t < 0 then s else lT r d kn n (t + (-1)) (if tv (sLo r d kn t) = 0 then s else lC r t 13 0 s)
/-- struck CLAUSES -/
noncomputable def sLs (r : Nat → Int) (d kn : Int) : Nat → Int := lT r d kn 31 (r 4 - 1) (fun _ => 0)
/-- ranges of TEXTS -/
def pIl (r : Nat → Int) : Prop := 0 ≤ r 4 ∧ r 4 ≤ 30 ∧ ∀ t : Int, 0 ≤ t → t < r 4 → 0 ≤ r ((18820 + (924 * t)) + 3).toNat ∧ r ((18820 + (924 * t)) + 3).toNat ≤ 12 ∧ ∀ c : Int, 0 ≤ c → c < r ((18820 + (924 * t)) + 3).toNat → r (((18820 + (924 * t)) + 4) + (10 * c)).toNat = 0 → 0 ≤ r ((((18820 + (924 * t)) + 4) + (10 * c)) + 2).toNat ∧ r ((((18820 + (924 * t)) + 4) + (10 * c)) + 2).toNat ≤ 29 ∧ 0 ≤ r ((((18820 + (924 * t)) + 4) + (10 * c)) + 3).toNat ∧ r ((((18820 + (924 * t)) + 4) + (10 * c)) + 3).toNat ≤ 11
def v2 (W : jW) (s o : Nat → Int) : jW := (fun a i => if a = 152 then s i else if a = 153 then o i else W.1 a i, W.2)
theorem v2_o {W : jW} {s o : Nat → Int} {a : Nat} (h : a ≠ 152) (hx9 : a ≠ 153) : (v2 W s o).1 a = W.1 a := funext fun i => by
  show (if a = 152 then s i else if a = 153 then o i else W.1 a i) = _
  rw [if_neg h, if_neg hx9]
theorem v2_s {W : jW} {s o : Nat → Int} : (v2 W s o).1 152 = s := rfl
theorem v2_p {W : jW} {s o : Nat → Int} : (v2 W s o).1 153 = o := rfl
theorem v2_u {W : jW} {s o : Nat → Int} {k : Nat} {x : Int} : vu (v2 W s o) 152 k x = v2 W (sU s k x) o := by
  refine Prod.ext (funext fun a => funext fun i => ?_) rfl
  show (if a = 152 ∧ i = k then x else if a = 152 then s i else if a = 153 then o i else W.1 a i) = (if a = 152 then (if i = k then x else s i) else if a = 153 then o i else W.1 a i)
  by_cases e : a = 152
  · by_cases f : i = k
    · rw [if_pos ⟨e, f⟩, if_pos e, if_pos f]
    · rw [if_neg (fun z => f z.2), if_pos e, if_pos e, if_neg f]
  · rw [if_neg (fun z => e z.1), if_neg e, if_neg e]
theorem v2_v {W : jW} {s o : Nat → Int} {k : Nat} {x : Int} : vu (v2 W s o) 153 k x = v2 W s (sU o k x) := by
  refine Prod.ext (funext fun a => funext fun i => ?_) rfl
  show (if a = 153 ∧ i = k then x else if a = 152 then s i else if a = 153 then o i else W.1 a i) = (if a = 152 then s i else if a = 153 then (if i = k then x else o i) else W.1 a i)
  by_cases e : a = 153
  · subst e
    by_cases f : i = k
    · rw [if_pos ⟨rfl, f⟩, if_neg (by decide), if_pos rfl, if_pos f]
    · rw [if_neg (fun z => f z.2), if_neg (by decide), if_pos rfl, if_neg (by decide), if_pos rfl, if_neg f]
  · rw [if_neg (fun z => e z.1), if_neg e, if_neg e]
theorem v2_e {W : jW} : v2 W (W.1 152) (W.1 153) = W := by
  refine Prod.ext (funext fun a => funext fun i => ?_) rfl
  show (if a = 152 then W.1 152 i else if a = 153 then W.1 153 i else W.1 a i) = _
  by_cases e : a = 152
  · rw [if_pos e, e]
  · rw [if_neg e]
    by_cases f : a = 153
    · rw [if_pos f, f]
    · rw [if_neg f]
theorem mf95 {W : jW} {o : Nat → Int} {t d : Int} (K : Int → Int → jW → jW) : ∀ (n : Nat) (c : Int) (s : Nat → Int), d_X12_findForce_r125d_95 K (n + 1) d t (18820 + (924 * t)) c (v2 W s o) = if o t.toNat = 0 then K d (t + (-1)) (v2 W s o) else if 13 ≤ n + 1 + c.toNat ∧ 0 ≤ c ∧ W.1 126 ((18820 + (924 * t)) + 3).toNat ≤ 12 then K d (t + (-1)) (v2 W (lC (W.1 126) t (n + 1) c s) o) else d_X12_findForce_r125d_95 K (n + 1) d t (18820 + (924 * t)) c (v2 W s o) := by
  intro n
  induction n with
  | zero =>
    intro c s
    by_cases q : o t.toNat = 0
    · rw [if_pos q]
      show (if (v2 W s o).1 126 ((18820 + (924 * t)) + 3).toNat ≤ c then K d (t + (-1)) (v2 W s o) else if (v2 W s o).1 153 t.toNat = 0 then K d (t + (-1)) (v2 W s o) else _) = _
      by_cases z : (v2 W s o).1 126 ((18820 + (924 * t)) + 3).toNat ≤ c
      · rw [if_pos z]
      · rw [if_neg z, v2_p, if_pos q]
    · rw [if_neg q]
      by_cases z : 13 ≤ 0 + 1 + c.toNat ∧ 0 ≤ c ∧ W.1 126 ((18820 + (924 * t)) + 3).toNat ≤ 12
      · rw [if_pos z]
        have z2 : W.1 126 ((18820 + (924 * t)) + 3).toNat ≤ c := by omega
        show (if W.1 126 ((18820 + (924 * t)) + 3).toNat ≤ c then K d (t + (-1)) (v2 W s o) else _) = K d (t + (-1)) (v2 W (if W.1 126 ((18820 + (924 * t)) + 3).toNat ≤ c then s else _) o)
        rw [if_pos z2, if_pos z2]
      · rw [if_neg z]
  | succ n ih =>
    intro c s
    by_cases q : o t.toNat = 0
    · rw [if_pos q]
      show (if (v2 W s o).1 126 ((18820 + (924 * t)) + 3).toNat ≤ c then K d (t + (-1)) (v2 W s o) else if (v2 W s o).1 153 t.toNat = 0 then K d (t + (-1)) (v2 W s o) else _) = _
      by_cases z : (v2 W s o).1 126 ((18820 + (924 * t)) + 3).toNat ≤ c
      · rw [if_pos z]
      · rw [if_neg z, v2_p, if_pos q]
    · rw [if_neg q]
      by_cases z : 13 ≤ n + 1 + 1 + c.toNat ∧ 0 ≤ c ∧ W.1 126 ((18820 + (924 * t)) + 3).toNat ≤ 12
      · rw [if_pos z]
        by_cases z2 : W.1 126 ((18820 + (924 * t)) + 3).toNat ≤ c
        · show (if W.1 126 ((18820 + (924 * t)) + 3).toNat ≤ c then K d (t + (-1)) (v2 W s o) else _) = K d (t + (-1)) (v2 W (if W.1 126 ((18820 + (924 * t)) + 3).toNat ≤ c then s else _) o)
          rw [if_pos z2, if_pos z2]
        · have st : ∀ s', d_X12_findForce_r125d_95 K (n + 1) d t (18820 + (924 * t)) (c + 1) (v2 W s' o) = K d (t + (-1)) (v2 W (lC (W.1 126) t (n + 1) (c + 1) s') o) := fun s' => by
            rw [ih (c + 1) s', if_neg q, if_pos (show _ from by omega)]
          show (if W.1 126 ((18820 + (924 * t)) + 3).toNat ≤ c then K d (t + (-1)) (v2 W s o) else if o t.toNat = 0 then K d (t + (-1)) (v2 W s o) else if W.1 126 (((18820 + (924 * t)) + 4) + (10 * c)).toNat = 0 then (if s ((12 * t) + c).toNat = 0 then (if t ≤ W.1 126 ((((18820 + (924 * t)) + 4) + (10 * c)) + 2).toNat then d_X12_findForce_r125d_95 K (n + 1) d t (18820 + (924 * t)) (c + 1) (v2 W s o) else d_X12_findForce_r125d_95 K (n + 1) d t (18820 + (924 * t)) (c + 1) (vu (v2 W s o) 152 ((12 * (W.1 126 ((((18820 + (924 * t)) + 4) + (10 * c)) + 2).toNat)) + (W.1 126 ((((18820 + (924 * t)) + 4) + (10 * c)) + 3).toNat)).toNat 1)) else d_X12_findForce_r125d_95 K (n + 1) d t (18820 + (924 * t)) (c + 1) (v2 W s o)) else d_X12_findForce_r125d_95 K (n + 1) d t (18820 + (924 * t)) (c + 1) (v2 W s o)) = K d (t + (-1)) (v2 W (if W.1 126 ((18820 + (924 * t)) + 3).toNat ≤ c then s else lC (W.1 126) t (n + 1) (c + 1) (if W.1 126 (((18820 + (924 * t)) + 4) + (10 * c)).toNat = 0 ∧ s ((12 * t) + c).toNat = 0 ∧ W.1 126 ((((18820 + (924 * t)) + 4) + (10 * c)) + 2).toNat < t then sU s ((12 * (W.1 126 ((((18820 + (924 * t)) + 4) + (10 * c)) + 2).toNat)) + (W.1 126 ((((18820 + (924 * t)) + 4) + (10 * c)) + 3).toNat)).toNat 1 else s)) o)
          rw [if_neg z2, if_neg z2, if_neg q, v2_u, st, st]
          by_cases a1 : W.1 126 (((18820 + (924 * t)) + 4) + (10 * c)).toNat = 0
          · rw [if_pos a1]
            by_cases a2 : s ((12 * t) + c).toNat = 0
            · rw [if_pos a2]
              by_cases a3 : t ≤ W.1 126 ((((18820 + (924 * t)) + 4) + (10 * c)) + 2).toNat
              · rw [if_pos a3, if_neg (fun z => absurd z.2.2 (by omega))]
              · rw [if_neg a3, if_pos ⟨a1, a2, by omega⟩]
            · rw [if_neg a2, if_neg (fun z => a2 z.2.1)]
          · rw [if_neg a1, if_neg (fun z => a1 z.1)]
      · rw [if_neg z]
end jG32
