section jG116
/-! pure: owe, arrear -/
theorem gv_u {n : Nat} : ∀ (k : Nat) (s : (Nat → Int) × (Nat → Int)) (h : Nat), (sGv n k s).1 h ≤ s.1 h + (k : Int) := by
  intro k
  induction k with
  | zero => intro s h; show s.1 h ≤ _; omega
  | succ k ih =>
    intro s h
    have y := ih (sU s.1 (gRs s.2 n).2.toNat (s.1 (gRs s.2 n).2.toNat + 1), sU s.2 (gRs s.2 n).2.toNat (-1)) h
    show (sGv n k (sU s.1 (gRs s.2 n).2.toNat (s.1 (gRs s.2 n).2.toNat + 1), sU s.2 (gRs s.2 n).2.toNat (-1))).1 h ≤ _
    have z : sU s.1 (gRs s.2 n).2.toNat (s.1 (gRs s.2 n).2.toNat + 1) h ≤ s.1 h + 1 := by
      by_cases c : h = (gRs s.2 n).2.toNat
      · rw [sU_e c, c]; omega
      · rw [sU_n c]; omega
    have y2 : (sGv n k (sU s.1 (gRs s.2 n).2.toNat (s.1 (gRs s.2 n).2.toNat + 1), sU s.2 (gRs s.2 n).2.toNat (-1))).1 h ≤ sU s.1 (gRs s.2 n).2.toNat (s.1 (gRs s.2 n).2.toNat + 1) h + (k : Int) := y
    omega
theorem sx_p {f : Nat → Int} : ∀ n : Nat, (∀ h : Nat, h < n → 0 ≤ f h) → 0 ≤ sSx f n ∧ ∀ h : Nat, h < n → f h ≤ sSx f n := by
  intro n
  induction n with
  | zero => intro _; exact ⟨Int.le_refl 0, fun h hh => absurd hh (Nat.not_lt_zero h)⟩
  | succ n ih =>
    intro e
    have y := ih (fun h hh => e h (by omega))
    have z := e n (by omega)
    have s : sSx f (n + 1) = sSx f n + f n := rfl
    rw [s]
    refine ⟨by omega, fun h hh => ?_⟩
    by_cases c : h = n
    · rw [c]; omega
    · have := y.2 h (by omega); omega
theorem ow_u {P A : Int} {w : Nat → Int} {n : Nat} (H : sPw P w n) (eA : sSx w n = A) {q : Nat} (hq : q < n) : sOw P A w n q ≤ 2000000 := by
  obtain ⟨hP, hn, hw⟩ := H
  have sp := sx_p (f := w) n (fun h hh => (hw h hh).1)
  rw [eA] at sp
  have s1 : 0 ≤ sS1 P A w q ∧ sS1 P A w q ≤ 1000000 := by
    unfold sS1
    by_cases c : A = 0
    · rw [if_pos c]; decide
    · rw [if_neg c]
      have wq := sp.2 q hq
      have w0 := (hw q hq).1
      refine ⟨Int.ediv_nonneg (Int.mul_nonneg hP.1 w0) (by omega), ?_⟩
      have m : P * w q ≤ P * A := Int.mul_le_mul_of_nonneg_left wq hP.1
      have d : P * w q / A ≤ P * A / A := Int.ediv_le_ediv (by omega) m
      rw [Int.mul_ediv_cancel P c] at d
      omega
  have ss : 0 ≤ sSx (sS1 P A w) n := (sx_p n (fun h hh => by
    unfold sS1
    by_cases c : A = 0
    · rw [if_pos c]; decide
    · rw [if_neg c]; exact Int.ediv_nonneg (Int.mul_nonneg hP.1 (hw h hh).1) (by omega))).1
  have l0 : sL0 P A ≤ 1000000 := by
    unfold sL0
    by_cases c : A = 0
    · rw [if_pos c]; decide
    · rw [if_neg c]; omega
  have y := gv_u (n := n) (sL0 P A - sSx (sS1 P A w) n).toNat (sS1 P A w, sR1 P A w) q
  have y2 : sOw P A w n q ≤ sS1 P A w q + (((sL0 P A - sSx (sS1 P A w) n).toNat : Nat) : Int) := y
  omega
section
variable {X M : jW} {E : pE} {t : jT} {w : Nat} {wm : Nat → Nat} {kn l : Int}
theorem lv_b {g : Nat → Int} {d wh P : Int} (I : pIq E g) (hP : 0 ≤ P ∧ P ≤ 1000000) {q : Nat} (hq : (q : Int) < E.1 7) : 0 ≤ sLv E g d kn wh P q ∧ sLv E g d kn wh P q ≤ 2000000 := by
  have H := sW_h (d := d) (kn := kn) (wh := wh) I hP
  have a := ow_z H rfl (q := q) (by omega)
  have b := ow_u H rfl (q := q) (by omega)
  have o : sOd E g d kn wh P q = sOw P (sSx (sWt E g d kn wh) (E.1 7).toNat) (sWt E g d kn wh) (E.1 7).toNat q := rfl
  rw [← o] at a b
  unfold sLv
  by_cases c1 : tv (sPz E g d kn wh q) = 0
  · rw [if_pos c1]; decide
  · rw [if_neg c1]
    by_cases c2 : sBx E g d kn 3 wh (sHo E g d kn q) = -1
    · rw [if_pos c2]; exact ⟨a.1, b⟩
    · rw [if_neg c2]; omega
theorem ll_b (V : pEv E t w wm) (Ew : pEw E) (hl : 0 ≤ l ∧ l < E.1 11) {q : Nat} (hq : (q : Int) < E.1 7) : 0 ≤ sLl E kn l q ∧ sLl E kn l q ≤ 2000000 := by
  have e := Ew.1 l.toNat (by omega)
  rw [show 48302 + 4 * l.toNat = (48300 + 4 * l + 2).toNat from by omega] at e
  exact lv_b (ev_q V kn) e.2 hq
def sKv (E : pE) (l kn : Int) : Prop := (0 ≤ kn ∧ kn ≤ 146399) ∧ (0 ≤ l ∧ l < E.1 11) ∧ E.1 (48300 + 4 * l + 3).toNat ≤ kn
theorem kv_x (T : pT X 32 pt_10 E.1) : d_X8_isKnown_r53d l kn X = 0 ↔ ¬ ((0 ≤ l ∧ l < E.1 11) ∧ E.1 (48300 + 4 * l + 3).toNat ≤ kn) := by
  by_cases c : 0 ≤ l ∧ l < E.1 11
  · rw [kn_53 T c.1 c.2]
    by_cases z : kn < E.1 (48300 + 4 * l + 3).toNat
    · rw [if_pos z]; exact ⟨fun _ h => by omega, fun _ => rfl⟩
    · rw [if_neg z]; exact ⟨fun h => absurd h (by decide), fun h => absurd ⟨c, by omega⟩ h⟩
  · refine ⟨fun _ h => c h.1, fun _ => ?_⟩
    have e : X.1 53 3 = E.1 11 := T.1
    unfold d_X8_isKnown_r53d
    by_cases z : l < 0
    · rw [if_pos z]; rfl
    · rw [if_neg z, if_pos (by omega)]; rfl
/-- the class parts a LEVY out -/
theorem c_po (P : pCp X E t w wm) (K : pCk X E t w wm) (V : pEv E t w wm) (Ew : pEw E) (hl : 0 ≤ l ∧ l < E.1 11) : (∀ j : Nat, (j : Int) < E.1 7 → (d_X4_partOut_r107d l kn (d_X7_asKnown_r78d kn X)).1 108 j = sLl E kn l j) ∧ pCk (d_X4_partOut_r107d l kn (d_X7_asKnown_r78d kn X)) E t w wm ∧ pCp (d_X4_partOut_r107d l kn (d_X7_asKnown_r78d kn X)) E t w wm := by
  obtain ⟨P1, K1, Q1, G1, y1⟩ := c_as P K V kn
  have e := Ew.1 l.toNat (by omega)
  rw [show 48301 + 4 * l.toNat = (48300 + 4 * l + 1).toNat from by omega, show 48302 + 4 * l.toNat = (48300 + 4 * l + 2).toNat from by omega] at e
  have F := fr_d_X4_partOut_r107d l kn (d_X7_asKnown_r78d kn X)
  have P2 := pCp_Q0 (pQ0_F F rfl) P1
  generalize d_X7_asKnown_r78d kn X = A at *
  obtain ⟨a, b, c⟩ := xpo (l := l) Q1 (P1.2.1.1 pt_10 (by decide)) K1.2.2.2.2.2.1 (ev_q V kn) hl e.1 e.2 V.2.2.2.2.2.1 V.2.2.2.2.1 (fun y h1 h2 p _ _ => ev_o V kn (by omega) (p : Int))
  exact ⟨a, ⟨pKs_e (fun c hc => by rcases hc with rfl | rfl | rfl | rfl | rfl <;> exact pF_c F rfl) (F.1 78 13 rfl) K1.1, b.2.2.2.2.2.2.1, b.2.2.2.2.2.2.2, pKe_e (fun c hc => by rcases hc with rfl | rfl | rfl <;> exact pF_c F rfl) (F.1 107 9 rfl) K1.2.2.2.1, pKt_e (fun c hc => by rcases hc with rfl | rfl | rfl | rfl | rfl <;> exact pF_c F rfl) (F.1 107 15 rfl) (F.1 107 16 rfl) K1.2.2.2.2.1, c, pKj_e (fun c hc => by rcases hc with rfl | rfl | rfl <;> exact pF_c F rfl) (fun k _ _ => by rw [show (d_X4_partOut_r107d l kn A).1 87 = A.1 87 from pF_c F rfl]) K1.2.2.2.2.2.2⟩, P2⟩
/-- the reference parts a LEVY out -/
theorem m_po {A : jW} (A1 : pAs A E (sGs E kn).1 kn) (V : pEv E t w wm) (C : pCa E.1) (Ew : pEw E) (hl : 0 ≤ l ∧ l < E.1 11) : (∀ j : Nat, (j : Int) < E.1 7 → (d_X12_partLevy_r125d l A).2.1 165 j = sLl E kn l j) ∧ (d_X12_partLevy_r125d l A).1 126 = E.1 := by
  have e := Ew.1 l.toNat (by omega)
  rw [show 48301 + 4 * l.toNat = (48300 + 4 * l + 1).toNat from by omega, show 48302 + 4 * l.toNat = (48300 + 4 * l + 2).toNat from by omega] at e
  have e126 : A.1 126 = E.1 := congrArg Prod.fst A1.1.1
  have hd : 0 ≤ E.1 (48300 + 4 * l + 1).toNat * 366 ∧ E.1 (48300 + 4 * l + 1).toNat * 366 ≤ 146399 := by omega
  obtain ⟨A2, Z⟩ := m_fh (d := E.1 (48300 + 4 * l + 1).toNat * 366) A1 V
  have f126 : (d_X12_findHouses_r125_c1d (E.1 (48300 + 4 * l + 1).toNat * 366) A).1 126 = E.1 := congrArg Prod.fst A2.1.1
  unfold d_X12_partLevy_r125d
  rw [e126]
  have q := mpl (l2 := 48300 + 4 * l) (wh := E.1 (48300 + 4 * l).toNat) (P := E.1 (48300 + 4 * l + 2).toNat) A2.1 (ev_q V kn) A2.2.1 hd (ha_q (ev_q V kn) (ev_g V kn)) V.2.2.2.2.1 V.2.2.2.2.2.2.2.1 C (fun p _ _ => ev_o V kn hd (p : Int)) e.2 Z (by rw [f126]) A2.2.2
  refine ⟨fun j hj => ?_, (zm_126 q.1).trans f126⟩
  rw [q.2.2 j hj]
  unfold sLl
  rw [Int.add_zero]
/-! owe -/
noncomputable def aOwe (E : pE) (l h kn : Int) : Int := if tv (sKv E l kn ∧ (h = -1 ∨ (0 ≤ h ∧ h < E.1 7))) = 0 then -1 else if h = -1 then wr (sSx (sLl E kn l) (E.1 7).toNat) else sLl E kn l h.toNat
theorem x_ob {W : jW} {f : Nat → Int} {n : Nat} (hn : min 40 (W.1 49 3) = (n : Int)) (e : ∀ j : Nat, j < n → W.1 108 j = f j) : ∀ (c j r : Nat), j + c = n → c < r → d_X4_owedByAll_r107d_4 r (wr (sSx f j)) (j : Int) W = wr (sSx f n) := by
  intro c
  induction c with
  | zero =>
    intro j r hj hr
    obtain ⟨r, rfl⟩ : ∃ q, r = q + 1 := ⟨r - 1, by omega⟩
    obtain rfl : j = n := by omega
    exact if_pos (by omega)
  | succ c ih =>
    intro j r hj hr
    obtain ⟨r, rfl⟩ : ∃ q, r = q + 1 := ⟨r - 1, by omega⟩
    have y := ih (j + 1) r (by omega) (by omega)
    rw [show ((j + 1 : Nat) : Int) = (j : Int) + 1 from by omega] at y
    refine (if_neg (by omega)).trans ?_
    rw [show ((j : Int)).toNat = j from by omega, e j (by omega)]
    have s : j_iadd (wr (sSx f j)) (f j) = wr (sSx f (j + 1)) := by
      show _ = wr (sSx f j + f j)
      unfold j_iadd wr
      rw [Int32.ofInt_toInt, Int32.ofInt_add]
    rw [s]
    exact y
theorem x_owe {h : Int} (P : pCp X E t w wm) (K : pCk X E t w wm) (V : pEv E t w wm) (Ew : pEw E) : (d_X11_owe_r31d l h kn X).1 = aOwe E l h kn ∧ pCk (d_X11_owe_r31d l h kn X).2 E t w wm := by
  have T := P.2.1.1 pt_10 (by decide)
  have e49 : X.1 49 3 = E.1 7 := P.2.1.2.2.2.2.1
  have b7 := V.2.2.2.1.1
  unfold d_X11_owe_r31d d_X11_owe_r31d_35 aOwe
  by_cases c1 : 0 ≤ kn ∧ kn ≤ 146399
  · rw [if_pos c1]
    by_cases c2 : (0 ≤ l ∧ l < E.1 11) ∧ E.1 (48300 + 4 * l + 3).toNat ≤ kn
    · rw [if_neg (fun q => ((kv_x T).mp q) c2)]
      obtain ⟨a, b, c⟩ := c_po (kn := kn) P K V Ew c2.1
      unfold d_X11_owe_r31d_37 d_X11_owe_r31d_78
      by_cases c3 : h = -1
      · rw [if_pos c3, if_pos c3, tv_t ⟨⟨c1, c2⟩, Or.inl c3⟩, if_neg (show ¬ (1 : Int) = 0 from by decide), if_pos c3]
        have f49 : (d_X4_partOut_r107d l kn (d_X7_asKnown_r78d kn X)).1 49 3 = E.1 7 := c.2.1.2.2.2.2.1
        have o := x_ob (f := sLl E kn l) (n := (E.1 7).toNat) (W := d_X4_partOut_r107d l kn (d_X7_asKnown_r78d kn X)) (by rw [f49]; omega) (fun j hj => a j (by omega)) (E.1 7).toNat 0 41 (by omega) (by omega)
        exact ⟨o, b⟩
      · rw [if_neg c3]
        by_cases c4 : h < 0
        · rw [if_pos c4, if_pos (tv_f (fun q => by have := q.2; omega))]; exact ⟨rfl, K⟩
        · rw [if_neg c4, e49]
          by_cases c5 : E.1 7 ≤ h
          · rw [if_pos c5, if_pos (tv_f (fun q => by have := q.2; omega))]; exact ⟨rfl, K⟩
          · rw [if_neg c5, if_neg c3, tv_t ⟨⟨c1, c2⟩, Or.inr ⟨by omega, by omega⟩⟩, if_neg (show ¬ (1 : Int) = 0 from by decide), if_neg c3]
            exact ⟨a h.toNat (by omega), b⟩
    · rw [if_pos ((kv_x T).mpr c2), if_pos (tv_f (fun q => c2 q.1.2))]; exact ⟨rfl, K⟩
  · rw [if_neg c1, if_pos (tv_f (fun q => c1 q.1.1))]; exact ⟨rfl, K⟩
theorem m_ob {W : jW} {f : Nat → Int} {h : Int} (h7 : 0 ≤ E.1 7 ∧ E.1 7 ≤ 40) (e126 : W.1 126 = E.1) (e : ∀ j : Nat, (j : Int) < E.1 7 → W.2.1 165 j = f j ∧ 0 ≤ f j ∧ f j ≤ 2000000) : ∀ (c j r : Nat) (x : Int), (j : Int) + (c : Int) = E.1 7 → c < r → 0 ≤ x → x ≤ 2000000 * (j : Int) → d_X12_owe_r125d_69 r h x (j : Int) W = (j_l2i (x + (sSx (fun i => if h = -1 ∨ h = (i : Int) then f i else 0) (E.1 7).toNat - sSx (fun i => if h = -1 ∨ h = (i : Int) then f i else 0) j)), W) := by
  intro c
  induction c with
  | zero =>
    intro j r x hj hr _ _
    obtain ⟨r, rfl⟩ : ∃ q, r = q + 1 := ⟨r - 1, by omega⟩
    rw [show (E.1 7).toNat = j from by omega, show x + (sSx (fun i => if h = -1 ∨ h = (i : Int) then f i else 0) j - sSx (fun i => if h = -1 ∨ h = (i : Int) then f i else 0) j) = x from by omega]
    exact if_pos (by rw [e126]; omega)
  | succ c ih =>
    intro j r x hj hr x0 x1
    obtain ⟨r, rfl⟩ : ∃ q, r = q + 1 := ⟨r - 1, by omega⟩
    obtain ⟨e1, e2, e3⟩ := e j (by omega)
    have s : sSx (fun i => if h = -1 ∨ h = (i : Int) then f i else 0) (j + 1) = sSx (fun i => if h = -1 ∨ h = (i : Int) then f i else 0) j + (if h = -1 ∨ h = (j : Int) then f j else 0) := rfl
    refine (if_neg (by rw [e126]; omega)).trans ?_
    unfold d_X12_owe_r125d_94 d_X12_owe_r125d_105 d_X12_owe_r125d_5000105
    dsimp only
    rw [show ((j : Int)).toNat = j from by omega, e1, l_a (x := x) (y := f j) (by omega) (by omega) (by omega), Int.add_zero]
    have go : ∀ v : Int, v = (if h = -1 ∨ h = (j : Int) then f j else 0) → d_X12_owe_r125d_69 r h (x + v) ((j : Int) + 1) W = (j_l2i (x + (sSx (fun i => if h = -1 ∨ h = (i : Int) then f i else 0) (E.1 7).toNat - sSx (fun i => if h = -1 ∨ h = (i : Int) then f i else 0) j)), W) := fun v hv => by
      have vb : 0 ≤ v ∧ v ≤ 2000000 := by
        rw [hv]
        split <;> omega
      have y := ih (j + 1) r (x + v) (by omega) (by omega) (by omega) (by omega)
      rw [show ((j + 1 : Nat) : Int) = (j : Int) + 1 from by omega, s, ← hv, show x + v + (sSx (fun i => if h = -1 ∨ h = (i : Int) then f i else 0) (E.1 7).toNat - (sSx (fun i => if h = -1 ∨ h = (i : Int) then f i else 0) j + v)) = x + (sSx (fun i => if h = -1 ∨ h = (i : Int) then f i else 0) (E.1 7).toNat - sSx (fun i => if h = -1 ∨ h = (i : Int) then f i else 0) j) from by omega] at y
      exact y
    by_cases z1 : h = -1
    · rw [if_pos z1]; exact go (f j) (if_pos (Or.inl z1)).symm
    · rw [if_neg z1]
      by_cases z2 : h = (j : Int)
      · rw [if_pos z2]; exact go (f j) (if_pos (Or.inr z2)).symm
      · rw [if_neg z2]
        have y := go 0 (if_neg (fun q => q.elim z1 z2)).symm
        rw [Int.add_zero] at y
        exact y
theorem sx_1 {f : Nat → Int} {h : Nat} : ∀ n : Nat, sSx (fun i => if (h : Int) = -1 ∨ (h : Int) = (i : Int) then f i else 0) n = if h < n then f h else 0 := by
  intro n
  induction n with
  | zero => rw [if_neg (Nat.not_lt_zero h)]; rfl
  | succ n ih =>
    show sSx (fun i => if (h : Int) = -1 ∨ (h : Int) = (i : Int) then f i else 0) n + (if (h : Int) = -1 ∨ (h : Int) = (n : Int) then f n else 0) = _
    rw [ih]
    by_cases c : h = n
    · rw [if_neg (by omega), if_pos (Or.inr (by omega)), if_pos (by omega), c]; omega
    · by_cases d : h < n
      · rw [if_pos d, if_neg (by omega), if_pos (by omega)]; omega
      · rw [if_neg d, if_neg (by omega), if_neg (by omega)]; rfl
theorem sx_a {f g : Nat → Int} : ∀ n : Nat, (∀ i : Nat, i < n → f i = g i) → sSx f n = sSx g n := by
  intro n
  induction n with
  | zero => intro _; rfl
  | succ n ih =>
    intro e
    show sSx f n + f n = sSx g n + g n
    rw [ih (fun i hi => e i (by omega)), e n (by omega)]
theorem l2_w (x : Int) : j_l2i x = wr x := by
  unfold j_l2i wr
  rw [Int64.toInt32_ofInt]
theorem m_owe {h : Int} (P : pCm M E t w wm) (Y : pYm M) (V : pEv E t w wm) (C : pCa E.1) (Ew : pEw E) : (d_X12_owe_r125d l h kn M).1 = aOwe E l h kn := by
  have e126 := cm_126 P
  have P0 : pCm (vu M 125 0 0) E t w wm := cm_u P (Or.inl ⟨rfl, Or.inl (by decide)⟩)
  have Y0 : pYm (vu M 125 0 0) := pYm_e (P0.1.trans P.1.symm) Y
  obtain ⟨A1, G1, P1, _⟩ := m_fi P0 Y0 V kn
  have b7 := V.2.2.2.1.1
  unfold d_X12_owe_r125d d_X12_owe_r125d_51 aOwe
  rw [e126]
  by_cases c1 : 0 ≤ l ∧ l ≤ E.1 11 - 1
  · rw [if_pos c1]
    have body : (h = -1 ∨ (0 ≤ h ∧ h < E.1 7)) → (d_X12_owe_r125d_26 l h kn (vu M 125 0 0)).1 = if tv (sKv E l kn ∧ (h = -1 ∨ (0 ≤ h ∧ h < E.1 7))) = 0 then -1 else if h = -1 then wr (sSx (sLl E kn l) (E.1 7).toNat) else sLl E kn l h.toNat := fun hh => by
      unfold d_X12_owe_r125d_26 d_X12_owe_r125d_51
      rw [cm_126 P0]
      by_cases c2 : 0 ≤ kn ∧ kn ≤ 146399
      · rw [if_pos c2]
        by_cases c3 : E.1 (48300 + 4 * l + 3).toNat ≤ kn
        · rw [if_pos c3, tv_t ⟨⟨c2, ⟨c1.1, by omega⟩, c3⟩, hh⟩, if_neg (show ¬ (1 : Int) = 0 from by decide)]
          obtain ⟨a, b⟩ := m_po (l := l) A1 V C Ew ⟨c1.1, by omega⟩
          have o := m_ob (h := h) b7 b (f := sLl E kn l) (fun j hj => ⟨a j hj, ll_b V Ew ⟨c1.1, by omega⟩ hj⟩) (E.1 7).toNat 0 41 0 (by omega) (by omega) (by omega) (by omega)
          have o2 : (d_X12_owe_r125d_69 41 h 0 0 (d_X12_partLevy_r125d l (d_X12_find_r125d kn (vu M 125 0 0)))).1 = j_l2i (0 + (sSx (fun i => if h = -1 ∨ h = (i : Int) then sLl E kn l i else 0) (E.1 7).toNat - sSx (fun i => if h = -1 ∨ h = (i : Int) then sLl E kn l i else 0) 0)) := congrArg Prod.fst o
          rw [o2, show sSx (fun i => if h = -1 ∨ h = (i : Int) then sLl E kn l i else 0) 0 = 0 from rfl, Int.sub_zero, Int.zero_add]
          by_cases d : h = -1
          · rw [if_pos d, sx_a (g := sLl E kn l) (E.1 7).toNat (fun i _ => if_pos (Or.inl d))]
            exact l2_w _
          · rw [if_neg d]
            have hr : 0 ≤ h ∧ h < E.1 7 := hh.elim (fun z => absurd z d) id
            have sx := sx_1 (f := sLl E kn l) (h := h.toNat) (E.1 7).toNat
            rw [show ((h.toNat : Nat) : Int) = h from by omega, if_pos (by omega)] at sx
            rw [sx]
            have lb := ll_b (kn := kn) V Ew ⟨c1.1, by omega⟩ (l := l) (q := h.toNat) (by omega)
            exact l_2 (by omega)
        · rw [if_neg c3, if_pos (tv_f (fun q => c3 q.1.2.2))]
      · rw [if_neg c2, if_pos (tv_f (fun q => c2 q.1.1))]
    by_cases d : h = -1
    · rw [if_pos d]; exact body (Or.inl d)
    · rw [if_neg d]
      by_cases d2 : 0 ≤ h ∧ h ≤ E.1 7 - 1
      · rw [if_pos d2]; exact body (Or.inr ⟨d2.1, by omega⟩)
      · rw [if_neg d2, if_pos (tv_f (fun q => by have := q.2; omega))]
  · rw [if_neg c1, if_pos (tv_f (fun q => by have := q.1.2.1; omega))]
/-! arrear -/
noncomputable def sAr (E : pE) (l h d kn : Int) : Nat → Int → Int
  | 0, x => x
  | n + 1, x => (fun y => if E.1 (48460 + 5 * n) = l ∧ E.1 (48461 + 5 * n) = h ∧ E.1 (48463 + 5 * n) ≤ d ∧ E.1 (48464 + 5 * n) ≤ kn then j_isub y (E.1 (48462 + 5 * n)) else y) (sAr E l h d kn n x)
noncomputable def aArrear (E : pE) (l h d kn : Int) : Int := if tv (sKv E l kn ∧ (0 ≤ h ∧ h < E.1 7) ∧ 0 ≤ d ∧ d ≤ 146399) = 0 then -2000000000 else sAr E l h d kn (E.1 12).toNat (sLl E kn l h.toNat)
theorem x_ar {W : jW} {h d x : Int} (T : pT W 32 pt_11 E.1) (h12 : 0 ≤ E.1 12 ∧ E.1 12 ≤ 100) : ∀ (c j r : Nat), (j : Int) + (c : Int) = E.1 12 → c < r → d_X11_arrear_r31d_76 r l h d kn (sAr E l h d kn j x) (j : Int) W = (sAr E l h d kn (E.1 12).toNat x, W) := by
  have e55 : W.1 55 3 = E.1 12 := T.1
  intro c
  induction c with
  | zero =>
    intro j r hj hr
    obtain ⟨r, rfl⟩ : ∃ q, r = q + 1 := ⟨r - 1, by omega⟩
    rw [show (E.1 12).toNat = j from by omega]
    exact if_pos (by omega)
  | succ c ih =>
    intro j r hj hr
    obtain ⟨r, rfl⟩ : ∃ q, r = q + 1 := ⟨r - 1, by omega⟩
    have y := ih (j + 1) r (by omega) (by omega)
    rw [show ((j + 1 : Nat) : Int) = (j : Int) + 1 from by omega] at y
    have ak := kn_55 T (k := kn) (i := (j : Int)) (by omega) (by omega)
    have a1 := at_55_1 T (i := (j : Int)) (by omega) (by omega)
    have a2 := at_55_2 T (i := (j : Int)) (by omega) (by omega)
    have a3 := at_55_3 T (i := (j : Int)) (by omega) (by omega)
    have a4 := at_55_4 T (i := (j : Int)) (by omega) (by omega)
    rw [show (48460 + 5 * (j : Int) + 4).toNat = 48464 + 5 * j from by omega] at ak
    rw [show (48460 + 5 * (j : Int) + 3).toNat = 48463 + 5 * j from by omega] at a1
    rw [show (48460 + 5 * (j : Int) + 1).toNat = 48461 + 5 * j from by omega] at a2
    rw [show (48460 + 5 * (j : Int) + 0).toNat = 48460 + 5 * j from by omega] at a3
    rw [show (48460 + 5 * (j : Int) + 2).toNat = 48462 + 5 * j from by omega] at a4
    have s : sAr E l h d kn (j + 1) x = if E.1 (48460 + 5 * j) = l ∧ E.1 (48461 + 5 * j) = h ∧ E.1 (48463 + 5 * j) ≤ d ∧ E.1 (48464 + 5 * j) ≤ kn then j_isub (sAr E l h d kn j x) (E.1 (48462 + 5 * j)) else sAr E l h d kn j x := rfl
    refine (if_neg (by omega)).trans ?_
    unfold d_X11_arrear_r31d_177
    dsimp only
    rw [ak, a1, a2, a3, a4]
    by_cases z1 : kn < E.1 (48464 + 5 * j)
    · rw [if_pos z1, if_pos rfl]
      rw [s, if_neg (fun q => by have := q.2.2.2; omega)] at y
      exact y
    · rw [if_neg z1, if_neg (show ¬ (1 : Int) = 0 from by decide)]
      by_cases z2 : d < E.1 (48463 + 5 * j)
      · rw [if_pos z2]
        rw [s, if_neg (fun q => by have := q.2.2.1; omega)] at y
        exact y
      · rw [if_neg z2]
        by_cases z3 : E.1 (48461 + 5 * j) = h
        · rw [if_pos z3]
          by_cases z4 : E.1 (48460 + 5 * j) = l
          · rw [if_pos z4]
            rw [s, if_pos ⟨z4, z3, by omega, by omega⟩] at y
            exact y
          · rw [if_neg z4]
            rw [s, if_neg (fun q => z4 q.1)] at y
            exact y
        · rw [if_neg z3]
          rw [s, if_neg (fun q => z3 q.2.1)] at y
          exact y
theorem x_arrear {h d : Int} (P : pCp X E t w wm) (K : pCk X E t w wm) (V : pEv E t w wm) (Ew : pEw E) : (d_X11_arrear_r31d l h d kn X).1 = aArrear E l h d kn ∧ pCk (d_X11_arrear_r31d l h d kn X).2 E t w wm := by
  have T := P.2.1.1 pt_10 (by decide)
  have e49 : X.1 49 3 = E.1 7 := P.2.1.2.2.2.2.1
  unfold d_X11_arrear_r31d d_X11_arrear_r31d_39 aArrear
  by_cases c0 : 0 ≤ d ∧ d ≤ 146399
  · rw [if_pos c0]
    by_cases c1 : 0 ≤ kn ∧ kn ≤ 146399
    · rw [if_pos c1]
      by_cases c2 : (0 ≤ l ∧ l < E.1 11) ∧ E.1 (48300 + 4 * l + 3).toNat ≤ kn
      · rw [if_neg (fun q => ((kv_x T).mp q) c2)]
        by_cases c4 : h < 0
        · rw [if_pos c4, if_pos (tv_f (fun q => by have := q.2.1; omega))]; exact ⟨rfl, K⟩
        · rw [if_neg c4, e49]
          by_cases c5 : E.1 7 ≤ h
          · rw [if_pos c5, if_pos (tv_f (fun q => by have := q.2.1; omega))]; exact ⟨rfl, K⟩
          · rw [if_neg c5, tv_t ⟨⟨c1, c2⟩, ⟨by omega, by omega⟩, c0⟩, if_neg (show ¬ (1 : Int) = 0 from by decide)]
            obtain ⟨a, b, c⟩ := c_po (kn := kn) P K V Ew c2.1
            have b12 := Ew.2.2.2.2.2.1
            have y := x_ar (l := l) (kn := kn) (h := h) (d := d) (x := sLl E kn l h.toNat) (c.2.1.1 pt_11 (by decide)) b12 (E.1 12).toNat 0 101 (by omega) (by omega)
            rw [a h.toNat (by omega)]
            have y2 : d_X11_arrear_r31d_76 101 l h d kn (sLl E kn l h.toNat) 0 (d_X4_partOut_r107d l kn (d_X7_asKnown_r78d kn X)) = (sAr E l h d kn (E.1 12).toNat (sLl E kn l h.toNat), d_X4_partOut_r107d l kn (d_X7_asKnown_r78d kn X)) := y
            rw [y2]
            exact ⟨rfl, b⟩
      · rw [if_pos ((kv_x T).mpr c2), if_pos (tv_f (fun q => c2 q.1.2))]; exact ⟨rfl, K⟩
    · rw [if_neg c1, if_pos (tv_f (fun q => c1 q.1.1))]; exact ⟨rfl, K⟩
  · rw [if_neg c0, if_pos (tv_f (fun q => c0 q.2.2))]; exact ⟨rfl, K⟩
theorem m_ar {W : jW} {h d x : Int} (e126 : W.1 126 = E.1) (h12 : 0 ≤ E.1 12 ∧ E.1 12 ≤ 100) : ∀ (c j r : Nat), (j : Int) + (c : Int) = E.1 12 → c < r → d_X12_arrear_r125d_82 r l h d kn (sAr E l h d kn j x) (j : Int) W = (sAr E l h d kn (E.1 12).toNat x, W) := by
  intro c
  induction c with
  | zero =>
    intro j r hj hr
    obtain ⟨r, rfl⟩ : ∃ q, r = q + 1 := ⟨r - 1, by omega⟩
    rw [show (E.1 12).toNat = j from by omega]
    exact if_pos (by rw [e126]; omega)
  | succ c ih =>
    intro j r hj hr
    obtain ⟨r, rfl⟩ : ∃ q, r = q + 1 := ⟨r - 1, by omega⟩
    have y := ih (j + 1) r (by omega) (by omega)
    rw [show ((j + 1 : Nat) : Int) = (j : Int) + 1 from by omega] at y
    have s : sAr E l h d kn (j + 1) x = if E.1 (48460 + 5 * j) = l ∧ E.1 (48461 + 5 * j) = h ∧ E.1 (48463 + 5 * j) ≤ d ∧ E.1 (48464 + 5 * j) ≤ kn then j_isub (sAr E l h d kn j x) (E.1 (48462 + 5 * j)) else sAr E l h d kn j x := rfl
    refine (if_neg (by rw [e126]; omega)).trans ?_
    unfold d_X12_arrear_r125d_169 d_X12_arrear_r125d_170 d_X12_arrear_r125d_200170
    dsimp only
    rw [e126, show (48460 + (5 * (j : Int))).toNat = 48460 + 5 * j from by omega, show ((48460 + (5 * (j : Int))) + 1).toNat = 48461 + 5 * j from by omega, show ((48460 + (5 * (j : Int))) + 2).toNat = 48462 + 5 * j from by omega, show ((48460 + (5 * (j : Int))) + 3).toNat = 48463 + 5 * j from by omega, show ((48460 + (5 * (j : Int))) + 4).toNat = 48464 + 5 * j from by omega, Int.sub_zero]
    by_cases z4 : E.1 (48460 + 5 * j) = l
    · rw [if_pos z4]
      by_cases z3 : E.1 (48461 + 5 * j) = h
      · rw [if_pos z3]
        by_cases z2 : d < E.1 (48463 + 5 * j)
        · rw [if_pos z2]
          rw [s, if_neg (fun q => by have := q.2.2.1; omega)] at y
          exact y
        · rw [if_neg z2]
          by_cases z1 : kn < E.1 (48464 + 5 * j)
          · rw [if_pos z1]
            rw [s, if_neg (fun q => by have := q.2.2.2; omega)] at y
            exact y
          · rw [if_neg z1]
            rw [s, if_pos ⟨z4, z3, by omega, by omega⟩] at y
            exact y
      · rw [if_neg z3]
        rw [s, if_neg (fun q => z3 q.2.1)] at y
        exact y
    · rw [if_neg z4]
      rw [s, if_neg (fun q => z4 q.1)] at y
      exact y
theorem m_arrear {h d : Int} (P : pCm M E t w wm) (Y : pYm M) (V : pEv E t w wm) (C : pCa E.1) (Ew : pEw E) : (d_X12_arrear_r125d l h d kn M).1 = aArrear E l h d kn := by
  have e126 := cm_126 P
  have P0 : pCm (vu M 125 0 0) E t w wm := cm_u P (Or.inl ⟨rfl, Or.inl (by decide)⟩)
  have Y0 : pYm (vu M 125 0 0) := pYm_e (P0.1.trans P.1.symm) Y
  obtain ⟨A1, G1, P1, _⟩ := m_fi P0 Y0 V kn
  unfold d_X12_arrear_r125d d_X12_arrear_r125d_55 aArrear
  rw [e126]
  by_cases c1 : 0 ≤ l ∧ l ≤ E.1 11 - 1
  · rw [if_pos c1]
    by_cases c2 : 0 ≤ h ∧ h ≤ E.1 7 - 1
    · rw [if_pos c2]
      by_cases c3 : 0 ≤ d ∧ d ≤ 146399
      · rw [if_pos c3]
        by_cases c4 : 0 ≤ kn ∧ kn ≤ 146399
        · rw [if_pos c4]
          by_cases c5 : E.1 (48300 + 4 * l + 3).toNat ≤ kn
          · rw [if_pos c5, tv_t ⟨⟨c4, ⟨c1.1, by omega⟩, c5⟩, ⟨c2.1, by omega⟩, c3⟩, if_neg (show ¬ (1 : Int) = 0 from by decide)]
            obtain ⟨a, b⟩ := m_po (l := l) A1 V C Ew ⟨c1.1, by omega⟩
            have lb := ll_b (kn := kn) V Ew ⟨c1.1, by omega⟩ (l := l) (q := h.toNat) (by omega)
            rw [a h.toNat (by omega), l_2 (x := sLl E kn l h.toNat) (by omega)]
            have b12 := Ew.2.2.2.2.2.1
            have y := m_ar (l := l) (kn := kn) (h := h) (d := d) (x := sLl E kn l h.toNat) b b12 (E.1 12).toNat 0 101 (by omega) (by omega)
            exact congrArg Prod.fst y
          · rw [if_neg c5, if_pos (tv_f (fun q => c5 q.1.2.2))]
        · rw [if_neg c4, if_pos (tv_f (fun q => c4 q.1.1))]
      · rw [if_neg c3, if_pos (tv_f (fun q => c3 q.2.2))]
    · rw [if_neg c2, if_pos (tv_f (fun q => by have := q.2.1; omega))]
  · rw [if_neg c1, if_pos (tv_f (fun q => by have := q.1.2.1; omega))]
end
end jG116

section jG117
/-! pure: name, piece, found -/
section
variable {X M : jW} {E : pE} {t : jT} {w : Nat} {wm : Nat → Nat} {a kn : Int}
noncomputable def aName (E : pE) (a k i : Int) : Int := if tv (sMe E a) = 0 then -1 else if 0 ≤ k ∧ k ≤ 1 then (if i = -1 then ((sF E a.toNat k.toNat).length : Int) else if 0 ≤ i ∧ i < ((sF E a.toNat k.toNat).length : Int) then nth (sF E a.toNat k.toNat) i.toNat else -1) else -1
theorem sFo_0 {n h f : Nat} (z : E.1 n = 0) : sFo E n h (f + 1) 0 = [] := if_pos (by rw [z]; exact Int.le_refl 0)
theorem x_name {k i : Int} (P : pCp X E t w wm) (V : pEv E t w wm) : d_X11_name_r31d a k i X = aName E a k i := by
  have e33 : X.1 33 3 = E.1 0 := (P.2.1.1 pt_0 (by decide)).1
  have e : d_X11_name_r31d a k i X = hX a X (-1) (if k < 0 then -1 else if 1 < k then -1 else if -1 ≤ i then (if i = -1 then max 0 (X.1 76 (a * 2 + k).toNat) else if max 0 (X.1 76 (a * 2 + k).toNat) ≤ i then -1 else X.1 75 ((a * 2 + k) * 36 + i).toNat) else -1) := rfl
  rw [e, hX_e P.1 e33 V.2.2.2.2.2.2.2.2.2.2.2.2.2.2.2]
  unfold aName
  by_cases c : sMe E a
  · rw [tv_t c, if_neg (show ¬ (1 : Int) = 0 from by decide), if_neg (show ¬ (1 : Int) = 0 from by decide)]
    by_cases c1 : 0 ≤ k ∧ k ≤ 1
    · rw [if_neg (by omega), if_neg (by omega), if_pos c1]
      have hm := c.2.1
      have c0 := c.1
      have hq : (((2 * a.toNat + k.toNat) / 6 : Nat) : Int) < E.1 0 := by omega
      obtain ⟨f1, f2, f3⟩ := P.1.2.2.2.2.2.2.1 (2 * a.toNat + k.toNat) hq
      have el : fcL E (2 * a.toNat + k.toNat) = sF E a.toNat k.toNat := fcL_s (by omega)
      rw [show (a * 2 + k).toNat = 2 * a.toNat + k.toNat from by omega]
      have em : max 0 (X.1 76 (2 * a.toNat + k.toNat)) = ((sF E a.toNat k.toNat).length : Int) := by
        rw [f1]
        by_cases z : E.1 (fcN (2 * a.toNat + k.toNat)) = 0
        · rw [if_pos z, ← el]
          unfold fcL
          rw [sFo_0 z]
          rfl
        · rw [if_neg z, el]
          omega
      rw [em]
      rw [el] at f3
      by_cases c2 : i = -1
      · rw [if_pos (by omega), if_pos c2, if_pos c2]
      · rw [if_neg c2]
        by_cases c3 : 0 ≤ i
        · rw [if_pos (by omega), if_neg c2]
          by_cases c4 : ((sF E a.toNat k.toNat).length : Int) ≤ i
          · rw [if_pos c4, if_neg (by omega)]
          · rw [if_neg c4, if_pos (c := 0 ≤ i ∧ i < _) ⟨c3, by omega⟩, show ((a * 2 + k) * 36 + i).toNat = 36 * (2 * a.toNat + k.toNat) + i.toNat from by omega]
            exact f3 i.toNat (by omega)
        · rw [if_neg (by omega), if_neg c2, if_neg (c := 0 ≤ i ∧ i < _) (fun h => c3 h.1)]
    · rw [if_neg c1]
      by_cases c2 : k < 0
      · rw [if_pos c2]
      · rw [if_neg c2, if_pos (by omega)]
  · rw [if_pos (tv_f c), if_pos (tv_f c)]
theorem m_name {k i : Int} (P : pCm M E t w wm) (Y : pYm M) : (d_X12_name_r125d a k i M).1 = aName E a k i := by
  have P0 : pCm (vu M 125 0 0) E t w wm := cm_u P (Or.inl ⟨rfl, Or.inl (by decide)⟩)
  have Y0 : pYm (vu M 125 0 0) := pYm_e (P0.1.trans P.1.symm) Y
  have e : d_X12_name_r125d a k i M = hM a M (-1, vu M 125 0 0) (if 0 ≤ k ∧ k ≤ 1 then (if i = -1 then ((d_X12_fold_r125d a k 0 (vu M 125 0 0)).1 138 0, d_X12_fold_r125d a k 0 (vu M 125 0 0)) else if 0 ≤ i ∧ i ≤ (d_X12_fold_r125d a k 0 (vu M 125 0 0)).1 138 0 - 1 then ((d_X12_fold_r125d a k 0 (vu M 125 0 0)).1 137 i.toNat, d_X12_fold_r125d a k 0 (vu M 125 0 0)) else (-1, d_X12_fold_r125d a k 0 (vu M 125 0 0))) else (-1, vu M 125 0 0)) := rfl
  have Ir : pIr E := P.1 ▸ Y.2.1
  rw [e, hM_e (cm_126 P) Ir]
  unfold aName
  by_cases c : sMe E a
  · rw [tv_t c, if_neg (show ¬ (1 : Int) = 0 from by decide), if_neg (show ¬ (1 : Int) = 0 from by decide)]
    by_cases c1 : 0 ≤ k ∧ k ≤ 1
    · rw [if_pos c1, if_pos c1]
      have hm := c.2.1
      have c0 := c.1
      obtain ⟨i1, i2, i3, i4, i5⟩ := Ir (a.toNat / 3) hm
      have z := i5 (2 * (a.toNat % 3) + k.toNat) (by omega)
      have n : sNm a.toNat k.toNat = 26 + 90 * (a.toNat / 3) + 14 * (2 * (a.toNat % 3) + k.toNat) := by unfold sNm; omega
      have F := mfo (M := vu M 125 0 0) (m := a.toNat) (w := k.toNat) (sl := 0) Y0.1 (by rw [cm_126 P0]; exact i2) (by rw [cm_126 P0, n]; exact z)
      rw [P0.1, show ((a.toNat : Nat) : Int) = a from by omega, show ((k.toNat : Nat) : Int) = k from by omega] at F
      obtain ⟨f1, f2, f3, f4⟩ := F
      change (d_X12_fold_r125d a k 0 (vu M 125 0 0)).1 138 0 = _ at f3
      rw [show ((0 + (sF E a.toNat k.toNat).length : Nat) : Int) = ((sF E a.toNat k.toNat).length : Int) from by omega] at f3
      rw [f3]
      by_cases c2 : i = -1
      · rw [if_pos c2, if_pos c2]
      · rw [if_neg c2, if_neg c2]
        by_cases c3 : 0 ≤ i ∧ i < ((sF E a.toNat k.toNat).length : Int)
        · rw [if_pos (c := 0 ≤ i ∧ i ≤ _) ⟨c3.1, by omega⟩, if_pos c3]
          have y := f4 i.toNat (by omega)
          rw [show 40 * 0 + 0 + i.toNat = i.toNat from by omega] at y
          exact y
        · rw [if_neg (c := 0 ≤ i ∧ i ≤ _) (fun h => c3 ⟨h.1, by omega⟩), if_neg c3]
    · rw [if_neg c1, if_neg c1]
  · rw [if_pos (tv_f c), if_pos (tv_f c)]
/-! piece -/
theorem w_ia {x y : Int} : j_iadd (wr x) y = wr (x + y) := by unfold j_iadd wr; rw [Int32.ofInt_toInt, Int32.ofInt_add]
theorem w_is {x y : Int} : j_isub (wr x) y = wr (x - y) := by unfold j_isub wr; rw [Int32.ofInt_toInt, Int32.ofInt_sub]
theorem w_im {x y : Int} : j_imul x y = wr (x * y) := by unfold j_imul wr; rw [Int32.ofInt_mul]
def sPi (f : Nat → Int) : Nat → Nat → Int → Int
  | 0, _, v => v
  | c + 1, k, v => sPi f c (k + 1) (wr (27 * v + f k - 96))
noncomputable def aPiece (E : pE) (a k i n : Int) : Int := if 0 ≤ n ∧ n ≤ 6 then (if tv (sMe E a) = 0 then -2 else if 0 ≤ k ∧ k ≤ 1 then (if E.1 (sNm a.toNat k.toNat) ≤ 0 then -2 else if 0 ≤ i ∧ i ≤ E.1 (sNm a.toNat k.toNat) - n then sPi (fun j => E.1 (sNm a.toNat k.toNat + 2 + i.toNat + j)) n.toNat 0 0 else -3) else -2) else -1
theorem x_pi {q i n N : Nat} (A : pNa X E q N) (hn : 2 + i + n ≤ 14) : ∀ (c j r : Nat) (v : Int), j + c = n → c < r → d_X11_piece_r31d_95 r (i : Int) (n : Int) (q : Int) v (j : Int) X = sPi (fun j => E.1 (N + 2 + i + j)) c j v := by
  intro c
  induction c with
  | zero =>
    intro j r v hj hr
    obtain ⟨r, rfl⟩ : ∃ q, r = q + 1 := ⟨r - 1, by omega⟩
    exact if_pos (by omega)
  | succ c ih =>
    intro j r v hj hr
    obtain ⟨r, rfl⟩ : ∃ q, r = q + 1 := ⟨r - 1, by omega⟩
    refine (if_neg (by omega)).trans ?_
    have e := at_35 (X := X) (q := q) (c := 2 + i + j) A.1 (by omega)
    rw [A.2 (2 + i + j) (by omega), show ((2 + i + j : Nat) : Int) = (2 + (i : Int)) + (j : Int) from by omega] at e
    rw [e, w_im, w_ia, w_is, w_ia, show N + (2 + i + j) = N + 2 + i + j from by omega, show v * 27 + E.1 (N + 2 + i + j) - 97 + 1 = 27 * v + E.1 (N + 2 + i + j) - 96 from by omega]
    exact ih (j + 1) r _ (by omega) (by omega)
theorem x_piece {k i n : Int} (P : pCp X E t w wm) (V : pEv E t w wm) : d_X11_piece_r31d a k i n X = aPiece E a k i n := by
  have e33 : X.1 33 3 = E.1 0 := (P.2.1.1 pt_0 (by decide)).1
  have e : d_X11_piece_r31d a k i n X = if n < 0 then -1 else if n ≤ 6 then hX a X (-2) (if k < 0 then -2 else if k ≤ 1 then (if d_X8_at_r35_c0d (a * 2 + k) X = 0 then -2 else if i < 0 then -3 else if d_X8_at_r35_c0d (a * 2 + k) X < i then -3 else if n ≤ d_X8_at_r35_c0d (a * 2 + k) X - i then d_X11_piece_r31d_95 7 i n (a * 2 + k) 0 0 X else -3) else -2) else -1 := rfl
  rw [e, hX_e P.1 e33 V.2.2.2.2.2.2.2.2.2.2.2.2.2.2.2]
  unfold aPiece
  by_cases c0 : 0 ≤ n ∧ n ≤ 6
  · rw [if_neg (by omega), if_pos c0.2, if_pos c0]
    by_cases c : sMe E a
    · rw [tv_t c, if_neg (show ¬ (1 : Int) = 0 from by decide), if_neg (show ¬ (1 : Int) = 0 from by decide)]
      by_cases c1 : 0 ≤ k ∧ k ≤ 1
      · rw [if_neg (by omega), if_pos c1.2, if_pos c1]
        have hm := c.2.1
        have a0 := c.1
        have hq : (((2 * a.toNat + k.toNat) / 6 : Nat) : Int) < E.1 0 := by omega
        have A := pNm_na P.2.1.2.1 hq
        have fn : fcN (2 * a.toNat + k.toNat) = sNm a.toNat k.toNat := by unfold fcN sNm; omega
        rw [fn] at A
        obtain ⟨i1, i2, i3, i4, i5⟩ := P.1.2.1 (a.toNat / 3) hm
        have z := i5 (2 * (a.toNat % 3) + k.toNat) (by omega)
        have nn : sNm a.toNat k.toNat = 26 + 90 * (a.toNat / 3) + 14 * (2 * (a.toNat % 3) + k.toNat) := by unfold sNm; omega
        rw [← nn] at z
        have ea : d_X8_at_r35_c0d (a * 2 + k) X = E.1 (sNm a.toNat k.toNat) := by
          have y := A.2 0 (by omega)
          have y1 := A.1
          refine (if_neg (by omega)).trans ?_
          rw [show ((a * 2 + k) * 14 + 0).toNat = 14 * (2 * a.toNat + k.toNat) + 0 from by omega]
          exact y
        rw [ea]
        generalize E.1 (sNm a.toNat k.toNat) = L at z
        by_cases d1 : L = 0
        · rw [if_pos d1, if_pos (by omega)]
        · rw [if_neg d1, if_neg (show ¬ L ≤ 0 by omega)]
          by_cases d2 : 0 ≤ i ∧ i ≤ L - n
          · rw [if_neg (by omega), if_neg (by omega), if_pos (by omega), if_pos d2]
            have y := x_pi (i := i.toNat) (n := n.toNat) A (by omega) n.toNat 0 7 0 (by omega) (by omega)
            rw [show ((i.toNat : Nat) : Int) = i from by omega, show ((n.toNat : Nat) : Int) = n from by omega, show ((2 * a.toNat + k.toNat : Nat) : Int) = a * 2 + k from by omega] at y
            exact y
          · rw [if_neg d2]
            by_cases d3 : i < 0
            · rw [if_pos d3]
            · rw [if_neg d3]
              by_cases d4 : L < i
              · rw [if_pos d4]
              · rw [if_neg d4, if_neg (by omega)]
      · rw [if_neg c1]
        by_cases c2 : k < 0
        · rw [if_pos c2]
        · rw [if_neg c2, if_neg (by omega)]
    · rw [if_pos (tv_f c), if_pos (tv_f c)]
  · rw [if_neg c0]
    by_cases c1 : n < 0
    · rw [if_pos c1]
    · rw [if_neg c1, if_neg (by omega)]
theorem m_pi {i n N : Nat} {W : jW} (e : W.1 126 = E.1) : ∀ (c j r : Nat) (v : Int), j + c = n → c < r → (d_X12_piece_r125d_87 r (i : Int) (n : Int) (N : Int) v (j : Int) W).1 = sPi (fun j => E.1 (N + 2 + i + j)) c j v := by
  intro c
  induction c with
  | zero =>
    intro j r v hj hr
    obtain ⟨r, rfl⟩ : ∃ q, r = q + 1 := ⟨r - 1, by omega⟩
    exact congrArg Prod.fst (if_pos (by omega))
  | succ c ih =>
    intro j r v hj hr
    obtain ⟨r, rfl⟩ : ∃ q, r = q + 1 := ⟨r - 1, by omega⟩
    refine (congrArg Prod.fst (if_neg (by omega))).trans ?_
    rw [e, w_im, w_ia, w_is, show (((N : Int) + 2) + (i : Int) + (j : Int)).toNat = N + 2 + i + j from by omega]
    exact ih (j + 1) r _ (by omega) (by omega)
theorem m_piece {k i n : Int} (P : pCm M E t w wm) (Y : pYm M) : (d_X12_piece_r125d a k i n M).1 = aPiece E a k i n := by
  have P0 : pCm (vu M 125 0 0) E t w wm := cm_u P (Or.inl ⟨rfl, Or.inl (by decide)⟩)
  have e : d_X12_piece_r125d a k i n M = if 0 ≤ n ∧ n ≤ 6 then hM a M (-2, vu M 125 0 0) (if 0 ≤ k ∧ k ≤ 1 then (if M.1 126 ((((20 + (90 * (a / 3))) + 6) + (28 * (a % 3))) + (14 * k)).toNat ≤ 0 then (-2, vu M 125 0 0) else if 0 ≤ i ∧ i ≤ M.1 126 ((((20 + (90 * (a / 3))) + 6) + (28 * (a % 3))) + (14 * k)).toNat - n then d_X12_piece_r125d_87 7 i n ((((20 + (90 * (a / 3))) + 6) + (28 * (a % 3))) + (14 * k)) 0 0 (vu M 125 0 0) else (-3, vu M 125 0 0)) else (-2, vu M 125 0 0)) else (-1, vu M 125 0 0) := rfl
  have Ir : pIr E := P.1 ▸ Y.2.1
  rw [e, hM_e (cm_126 P) Ir]
  unfold aPiece
  by_cases c0 : 0 ≤ n ∧ n ≤ 6
  · rw [if_pos c0, if_pos c0]
    by_cases c : sMe E a
    · rw [tv_t c, if_neg (show ¬ (1 : Int) = 0 from by decide), if_neg (show ¬ (1 : Int) = 0 from by decide)]
      by_cases c1 : 0 ≤ k ∧ k ≤ 1
      · have a0 := c.1
        have nn : ((((20 + (90 * (a / 3))) + 6) + (28 * (a % 3))) + (14 * k)) = (sNm a.toNat k.toNat : Int) := by unfold sNm; omega
        rw [if_pos c1, if_pos c1, nn, show ((sNm a.toNat k.toNat : Nat) : Int).toNat = sNm a.toNat k.toNat from by omega, cm_126 P]
        by_cases d1 : E.1 (sNm a.toNat k.toNat) ≤ 0
        · rw [if_pos d1, if_pos d1]
        · rw [if_neg d1, if_neg d1]
          by_cases d2 : 0 ≤ i ∧ i ≤ E.1 (sNm a.toNat k.toNat) - n
          · rw [if_pos d2, if_pos d2]
            have y := m_pi (i := i.toNat) (n := n.toNat) (N := sNm a.toNat k.toNat) (cm_126 P0) n.toNat 0 7 0 (by omega) (by omega)
            rw [show ((i.toNat : Nat) : Int) = i from by omega, show ((n.toNat : Nat) : Int) = n from by omega] at y
            exact y
          · rw [if_neg d2, if_neg d2]
      · rw [if_neg c1, if_neg c1]
    · rw [if_pos (tv_f c), if_pos (tv_f c)]
  · rw [if_neg c0, if_neg c0]
end
end jG117

section jG118
/-! pure: found, seal -/
theorem ls_z {x y : Int} : j_lsub x y = 0 ↔ j_lsub y x = 0 := by
  have g : ∀ x y : Int, j_lsub x y = 0 → j_lsub y x = 0 := by
    intro x y h
    unfold j_lsub at h ⊢
    have e : Int64.ofInt x - Int64.ofInt y = 0 := Int64.toInt_inj.mp h
    have e2 : Int64.ofInt y - Int64.ofInt x = 0 := by rw [← Int64.neg_sub, e]; rfl
    rw [e2]; rfl
  exact ⟨g x y, g y x⟩
theorem lm_g {x y z u n : Int} (h : j_lmul (j_lsub x y) n = j_lsub z u) : j_lmul (j_lsub y x) n = j_lsub u z := by
  unfold j_lmul j_lsub at h ⊢
  rw [Int64.ofInt_toInt] at h ⊢
  have e := Int64.toInt_inj.mp h
  rw [← Int64.neg_sub, Int64.neg_mul, e, Int64.neg_sub]
/-- where the one number stands that was altered: y YEAR, d difference, D difference of the places -/
def sFnd (r : Nat → Int) (y d D : Int) : Nat → Nat → Int → Int
  | 0, _, _ => -2
  | c + 1, l, n => if r (22 + 90 * l) / 366 = y then (if j_lmul d (n + 1) = D then (l : Int) else sFnd r y d D c (l + 1) (n + 1)) else sFnd r y d D c (l + 1) n
theorem sFnd_g {r : Nat → Int} {y d e D F : Int} (h : ∀ n : Int, j_lmul d n = D ↔ j_lmul e n = F) : ∀ (c l : Nat) (n : Int), sFnd r y d D c l n = sFnd r y e F c l n := by
  intro c
  induction c with
  | zero => intro l n; rfl
  | succ c ih =>
    intro l n
    have i1 := ih (l + 1) (n + 1)
    have i2 := ih (l + 1) n
    show (if r (22 + 90 * l) / 366 = y then (if j_lmul d (n + 1) = D then (l : Int) else sFnd r y d D c (l + 1) (n + 1)) else sFnd r y d D c (l + 1) n) = (if r (22 + 90 * l) / 366 = y then (if j_lmul e (n + 1) = F then (l : Int) else sFnd r y e F c (l + 1) (n + 1)) else sFnd r y e F c (l + 1) n)
    rw [i1, i2]
    by_cases q : j_lmul d (n + 1) = D
    · rw [if_pos q, if_pos ((h (n + 1)).mp q)]
    · rw [if_neg q, if_neg (fun z => q ((h (n + 1)).mpr z))]
theorem sFnd_n {r : Nat → Int} {y x z u v : Int} (c l : Nat) (n : Int) : sFnd r y (j_lsub x z) (j_lsub u v) c l n = sFnd r y (j_lsub z x) (j_lsub v u) c l n := sFnd_g (fun _ => ⟨lm_g, lm_g⟩) c l n
def aFound (E : pE) (S : Nat → Int) (a : Int) : Int := if 0 ≤ a ∧ a ≤ 399 then (if S (4 * a).toNat = 0 then -3 else if S (4 * a + 1).toNat = (sYr E.1 a (E.1 0).toNat).1 then (if j_lsub (S (4 * a + 2).toNat) (sYr E.1 a (E.1 0).toNat).2.1 = 0 then (if j_lsub (S (4 * a + 3).toNat) (sYr E.1 a (E.1 0).toNat).2.2 = 0 then -1 else -2) else sFnd E.1 a (j_lsub (S (4 * a + 2).toNat) (sYr E.1 a (E.1 0).toNat).2.1) (j_lsub (S (4 * a + 3).toNat) (sYr E.1 a (E.1 0).toNat).2.2) (E.1 0).toNat 0 0) else -2) else -3
def pSx (X : jW) (S : Nat → Int) : Prop := ∀ k : Nat, X.2.1 65 k = S k
def pSzm (M : jW) (S : Nat → Int) : Prop := ∀ k : Nat, M.2.1 129 k = S k
theorem vS_1 {W : jW} {a : Nat} {l3 : Int} {t : Int × Int × Int} (h : 0 ≤ l3) : (vS W a l3 t).2.1 a l3.toNat = 1 ∧ (vS W a l3 t).2.1 a (l3 + 1).toNat = t.1 ∧ (vS W a l3 t).2.1 a (l3 + 2).toNat = t.2.1 ∧ (vS W a l3 t).2.1 a (l3 + 3).toNat = t.2.2 := by
  unfold vS
  refine ⟨?_, ?_, ?_, if_pos ⟨rfl, rfl⟩⟩
  · rw [vl_n (by omega), vl_n (by omega), vl_n (by omega)]; exact if_pos ⟨rfl, rfl⟩
  · rw [vl_n (by omega), vl_n (by omega)]; exact if_pos ⟨rfl, rfl⟩
  · rw [vl_n (by omega)]; exact if_pos ⟨rfl, rfl⟩
theorem vS_2 {W : jW} {a b j : Nat} {l3 : Int} {t : Int × Int × Int} (h : b ≠ a) : (vS W a l3 t).2.1 b j = W.2.1 b j := by
  unfold vS
  rw [vl_n (fun q => h q.1), vl_n (fun q => h q.1), vl_n (fun q => h q.1), vl_n (fun q => h q.1)]
theorem vS_3 {W : jW} {a j : Nat} {l3 : Int} {t : Int × Int × Int} (h : 0 ≤ l3) (hj : (j : Int) < l3 ∨ l3 + 3 < (j : Int)) : (vS W a l3 t).2.1 a j = W.2.1 a j := by
  unfold vS
  rw [vl_n (by omega), vl_n (by omega), vl_n (by omega), vl_n (by omega)]
section
variable {X M : jW} {E : pE} {t : jT} {w : Nat} {wm : Nat → Nat} {a : Int} {S : Nat → Int}
theorem x_fd {d D : Int} (T : pT X 32 pt_0 E.1) : ∀ (c l f : Nat) (n : Int), l + c = (E.1 0).toNat → c < f → 0 ≤ n → n ≤ (l : Int) → (d_X11_found_r31d_129 f a d D n (l : Int) X).1 = sFnd E.1 a d D c l n := by
  intro c
  have e0 : X.1 33 3 = E.1 0 := T.1
  have b0 : 0 ≤ E.1 0 ∧ E.1 0 ≤ 200 := T.2.1
  induction c with
  | zero =>
    intro l f n hl hf h0 hn
    obtain ⟨f, rfl⟩ : ∃ q, f = q + 1 := ⟨f - 1, by omega⟩
    exact congrArg Prod.fst (if_pos (by omega))
  | succ c ih =>
    intro l f n hl hf h0 hn
    obtain ⟨f, rfl⟩ : ∃ q, f = q + 1 := ⟨f - 1, by omega⟩
    refine (congrArg Prod.fst (if_neg (by omega))).trans ?_
    have e := at_33_1 (i := (l : Int)) T (by omega) (by omega)
    rw [show (20 + 90 * (l : Int) + 2).toNat = 22 + 90 * l from by omega] at e
    rw [e, show j_iadd n 1 = n + 1 from j_ia (by omega) (by omega) (by omega)]
    unfold sFnd
    by_cases c1 : E.1 (22 + 90 * l) / 366 = a
    · rw [if_pos c1, if_pos c1]
      by_cases c2 : j_lmul d (n + 1) = D
      · rw [if_pos c2, if_pos c2]
      · rw [if_neg c2, if_neg c2]
        exact ih (l + 1) f (n + 1) (by omega) (by omega) (by omega) (by omega)
    · rw [if_neg c1, if_neg c1]
      exact ih (l + 1) f n (by omega) (by omega) (by omega) (by omega)
theorem m_fd {d D : Int} {W : jW} (e : W.1 126 = E.1) (b0 : 0 ≤ E.1 0 ∧ E.1 0 ≤ 200) : ∀ (c l f : Nat) (n : Int), l + c = (E.1 0).toNat → c < f → 0 ≤ n → n ≤ (l : Int) → (d_X12_found_r125d_114 f a d D n (l : Int) W).1 = sFnd E.1 a d D c l n := by
  intro c
  induction c with
  | zero =>
    intro l f n hl hf h0 hn
    obtain ⟨f, rfl⟩ : ∃ q, f = q + 1 := ⟨f - 1, by omega⟩
    exact congrArg Prod.fst (if_pos (by rw [e]; omega))
  | succ c ih =>
    intro l f n hl hf h0 hn
    obtain ⟨f, rfl⟩ : ∃ q, f = q + 1 := ⟨f - 1, by omega⟩
    refine (congrArg Prod.fst (if_neg (by rw [e]; omega))).trans ?_
    rw [e, show (20 + 90 * (l : Int) + 2).toNat = 22 + 90 * l from by omega, show j_iadd n 1 = n + 1 from j_ia (by omega) (by omega) (by omega)]
    unfold sFnd
    by_cases c1 : E.1 (22 + 90 * l) / 366 = a
    · rw [if_pos c1, if_pos c1]
      by_cases c2 : j_lmul d (n + 1) = D
      · rw [if_pos c2, if_pos c2]
      · rw [if_neg c2, if_neg c2]
        exact ih (l + 1) f (n + 1) (by omega) (by omega) (by omega) (by omega)
    · rw [if_neg c1, if_neg c1]
      exact ih (l + 1) f n (by omega) (by omega) (by omega) (by omega)
theorem kl_F {l : List (Nat × Nat)} {Y : jW} (F : pF l X Y) (a : l.all okk = true) (e : ∀ c : Nat, c = 99 ∨ c = 101 ∨ c = 102 ∨ c = 103 ∨ c = 105 → Y.1 c = X.1 c) (K : pCk X E t w wm) : pCk Y E t w wm := by
  have g : ∀ c : Nat, c ≤ 84 → Y.1 c = X.1 c := fun c hc => funext fun k => F.1 c k (okk_n a (Or.inl hc))
  refine pCk_k (fun c hc => funext fun k => F.1 c k (okk_n a hc)) ?_ ?_ K
  · unfold pKl pXl; rw [e 101 (by omega), g 32 (by omega), e 99 (by omega)]; exact K.2.1
  · unfold pKh pXh; rw [e 105 (by omega), g 32 (by omega), g 49 (by omega), e 102 (by omega), e 103 (by omega)]; exact K.2.2.1
theorem x_found (P : pCp X E t w wm) (K : pCk X E t w wm) (Q : pSx X S) (Y : yrs E.1) : (d_X11_found_r31d a X).1 = aFound E S a ∧ pCk (d_X11_found_r31d a X).2 E t w wm := by
  have T : pT X 32 pt_0 E.1 := P.2.1.1 pt_0 (by decide)
  have b0 : 0 ≤ E.1 0 ∧ E.1 0 ≤ 200 := T.2.1
  have F := fr_d_X11_found_r31d a X
  refine ⟨?_, kl_F F rfl (fun c hc => by rcases hc with rfl | rfl | rfl | rfl | rfl <;> exact pF_c F rfl) K⟩
  unfold d_X11_found_r31d aFound
  by_cases c1 : 0 ≤ a ∧ a ≤ 399
  · rw [if_pos c1, if_pos c1, (xsu (y := a) (l3 := 0) T Y).2, Q, show (a * 4).toNat = (4 * a).toNat from by omega]
    have v := vS_1 (W := X) (a := 124) (l3 := 0) (t := sYr E.1 a (E.1 0).toNat) (by decide)
    have v2 : (vS X 124 0 (sYr E.1 a (E.1 0).toNat)).2.1 124 1 = (sYr E.1 a (E.1 0).toNat).1 := v.2.1
    have v3 : (vS X 124 0 (sYr E.1 a (E.1 0).toNat)).2.1 124 2 = (sYr E.1 a (E.1 0).toNat).2.1 := v.2.2.1
    have v4 : (vS X 124 0 (sYr E.1 a (E.1 0).toNat)).2.1 124 3 = (sYr E.1 a (E.1 0).toNat).2.2 := v.2.2.2
    rw [v2, v3, v4, vS_2 (by decide), vS_2 (by decide), vS_2 (by decide), Q, Q, Q, show (a * 4 + 1).toNat = (4 * a + 1).toNat from by omega, show (a * 4 + 2).toNat = (4 * a + 2).toNat from by omega, show (a * 4 + 3).toNat = (4 * a + 3).toNat from by omega]
    have T2 : pT (vS X 124 0 (sYr E.1 a (E.1 0).toNat)) 32 pt_0 E.1 := T
    generalize vS X 124 0 (sYr E.1 a (E.1 0).toNat) = Z at T2
    by_cases c2 : S (4 * a).toNat = 0
    · rw [if_pos c2, if_pos c2]; rfl
    · rw [if_neg c2, if_neg c2]
      by_cases c3 : S (4 * a + 1).toNat = (sYr E.1 a (E.1 0).toNat).1
      · rw [if_pos c3, if_pos c3]
        by_cases c4 : j_lsub (S (4 * a + 2).toNat) (sYr E.1 a (E.1 0).toNat).2.1 = 0
        · rw [if_pos c4, if_pos c4]
          by_cases c5 : j_lsub (S (4 * a + 3).toNat) (sYr E.1 a (E.1 0).toNat).2.2 = 0
          · rw [if_pos c5, if_pos c5]; rfl
          · rw [if_neg c5, if_neg c5]; rfl
        · rw [if_neg c4, if_neg c4]
          exact x_fd T2 (E.1 0).toNat 0 201 0 (by omega) (by omega) (by omega) (by omega)
      · rw [if_neg c3, if_neg c3]
  · rw [if_neg c1, if_neg c1]; rfl
theorem m_found (P : pCm M E t w wm) (Q : pSzm M S) (b0 : 0 ≤ E.1 0 ∧ E.1 0 ≤ 200) (Y : yrs E.1) : (d_X12_found_r125d a M).1 = aFound E S a := by
  have P0 : pCm (vu M 125 0 0) E t w wm := cm_u P (Or.inl ⟨rfl, Or.inl (by decide)⟩)
  have Q0 : pSzm (vu M 125 0 0) S := Q
  have e126 := cm_126 P0
  unfold d_X12_found_r125d aFound
  by_cases c1 : 0 ≤ a ∧ a ≤ 399
  · have A := mad (M := vu M 125 0 0) (y := a) (by rw [e126]; exact b0) (by rw [e126]; exact Y)
    rw [e126] at A
    have F := fr_d_X12_addYear_r125d a (vu M 125 0 0)
    have q : ∀ k : Nat, (d_X12_addYear_r125d a (vu M 125 0 0)).2.1 129 k = S k := fun k => (F.2.1 129 k rfl).trans (Q0 k)
    have f126 : (d_X12_addYear_r125d a (vu M 125 0 0)).1 126 = E.1 := (pF_c F rfl).trans e126
    rw [if_pos c1, if_pos c1, Q0, q, q, q, A.1, A.2.1, A.2.2]
    generalize d_X12_addYear_r125d a (vu M 125 0 0) = Z at f126
    by_cases c2 : S (4 * a).toNat = 0
    · rw [if_pos c2, if_pos c2]; rfl
    · rw [if_neg c2, if_neg c2]
      by_cases c3 : S (4 * a + 1).toNat = (sYr E.1 a (E.1 0).toNat).1
      · rw [if_pos c3.symm, if_pos c3]
        by_cases c4 : j_lsub (S (4 * a + 2).toNat) (sYr E.1 a (E.1 0).toNat).2.1 = 0
        · rw [if_pos (ls_z.mp c4), if_pos c4]
          by_cases c5 : j_lsub (S (4 * a + 3).toNat) (sYr E.1 a (E.1 0).toNat).2.2 = 0
          · rw [if_pos (ls_z.mp c5), if_pos c5]; rfl
          · rw [if_neg (fun h => c5 (ls_z.mp h)), if_neg c5]; rfl
        · rw [if_neg (fun h => c4 (ls_z.mp h)), if_neg c4, sFnd_n]
          exact m_fd f126 b0 (E.1 0).toNat 0 201 0 (by omega) (by omega) (by omega) (by omega)
      · rw [if_neg (fun h => c3 h.symm), if_neg c3]
  · rw [if_neg c1, if_neg c1]; rfl
end
end jG118

section jG119
/-! pure: calls that write: seal, alter, apart, fact, hold -/
theorem vu_k {W V : jW} {a k b j : Nat} {x : Int} (h : W.1 b j = V.1 b j) : (vu W a k x).1 b j = (vu V a k x).1 b j := by
  show (if b = a ∧ j = k then x else W.1 b j) = (if b = a ∧ j = k then x else V.1 b j)
  rw [h]
def pOv (X M X1 M1 : jW) (v : Int) (G : Prop) (x m : Int × jW) : Prop := pRf X M x m ∨ (G ∧ x = (v, pAx X X1) ∧ m = (v, vu M1 125 1 0))
section
variable {X M : jW} {E : pE} {t : jT} {w : Nat} {wm : Nat → Nat} {S : Nat → Int}
def mSe (M : jW) (a : Int) : jW := vuL (vuL (vuL (vuL (d_X12_addYear_r125d a (vu M 125 0 0)) 129 (4 * a).toNat 1) 129 ((4 * a) + 1).toNat ((d_X12_addYear_r125d a (vu M 125 0 0)).1 125 89)) 129 ((4 * a) + 2).toNat ((vuL (vuL (d_X12_addYear_r125d a (vu M 125 0 0)) 129 (4 * a).toNat 1) 129 ((4 * a) + 1).toNat ((d_X12_addYear_r125d a (vu M 125 0 0)).1 125 89)).2.1 125 90)) 129 ((4 * a) + 3).toNat ((vuL (vuL (vuL (d_X12_addYear_r125d a (vu M 125 0 0)) 129 (4 * a).toNat 1) 129 ((4 * a) + 1).toNat ((d_X12_addYear_r125d a (vu M 125 0 0)).1 125 89)) 129 ((4 * a) + 2).toNat ((vuL (vuL (d_X12_addYear_r125d a (vu M 125 0 0)) 129 (4 * a).toNat 1) 129 ((4 * a) + 1).toNat ((d_X12_addYear_r125d a (vu M 125 0 0)).1 125 89)).2.1 125 90)).2.1 125 91)
theorem mSe_e {a : Int} (e126 : M.1 126 = E.1) (b0 : 0 ≤ E.1 0 ∧ E.1 0 ≤ 200) (Y : yrs E.1) : mSe M a = vS (d_X12_addYear_r125d a (vu M 125 0 0)) 129 (4 * a) (sYr E.1 a (E.1 0).toNat) := by
  have f : (vu M 125 0 0).1 126 = E.1 := (vu_c (by decide)).trans e126
  have A := mad (M := vu M 125 0 0) (y := a) (by rw [f]; exact b0) (by rw [f]; exact Y)
  rw [f] at A
  unfold mSe vS
  rw [vl_n (by omega), vl_n (by omega), vl_n (by omega), vl_n (by omega), vl_n (by omega), A.1, A.2.1, A.2.2]
theorem to_seal {a : Int} (P : pCp X E t w wm) (Q : pCm M E t w wm) (V : pEv E t w wm) (Y : yrs E.1) : pOu X M (vS X 65 (4 * a) (sYr E.1 a (E.1 0).toNat)) (vS (d_X12_addYear_r125d a (vu M 125 0 0)) 129 (4 * a) (sYr E.1 a (E.1 0).toNat)) (sYr E.1 a (E.1 0).toNat).1 (0 ≤ a ∧ a ≤ 399) (d_X11_seal_r31d a X) (d_X12_seal_r125d a M) := by
  have T : pT X 32 pt_0 E.1 := P.2.1.1 pt_0 (by decide)
  have b0 : 0 ≤ E.1 0 ∧ E.1 0 ≤ 200 := T.2.1
  by_cases c : 0 ≤ a ∧ a ≤ 399
  · refine Or.inr ⟨c, ?_⟩
    have sb := sY_b (r := E.1) (y := a) (E.1 0).toNat (by omega) (fun k hk => Y k (by omega))
    refine ⟨sb.1.1, ?_, ?_⟩
    · unfold d_X11_seal_r31d
      rw [if_pos c, (xsu (y := a) (l3 := a * 4) T Y).1, (vS_1 (by omega)).2.1, l_2 (by omega), show a * 4 = 4 * a from by omega]
      rfl
    · have e : d_X12_seal_r125d a M = if 0 ≤ a ∧ a ≤ 399 then d_X12_told_r125d ((d_X12_addYear_r125d a (vu M 125 0 0)).1 125 89) (mSe M a) else d_X12_told_r125d (-1) (vu M 125 0 0) := rfl
      have f : (vu M 125 0 0).1 126 = E.1 := (vu_c (by decide)).trans (cm_126 Q)
      have A := mad (M := vu M 125 0 0) (y := a) (by rw [f]; exact b0) (by rw [f]; exact Y)
      rw [f] at A
      rw [e, if_pos c, mSe_e (cm_126 Q) b0 Y, A.1]
      exact told_p sb.1.1
  · refine Or.inl ⟨-1, by decide, ?_, ?_⟩
    · unfold d_X11_seal_r31d
      rw [if_neg c]
    · unfold d_X12_seal_r125d
      rw [if_neg c]
      exact told_n (by decide)
def sSl (S : Nat → Int) (a : Int) (t : Int × Int × Int) (k : Nat) : Int := if k = (4 * a + 3).toNat then t.2.2 else if k = (4 * a + 2).toNat then t.2.1 else if k = (4 * a + 1).toNat then t.1 else if k = (4 * a).toNat then 1 else S k
theorem vS_f {W : jW} {a : Nat} {b : Int} {t : Int × Int × Int} (h : ∀ k : Nat, W.2.1 a k = S k) (k : Nat) : (vS W a (4 * b) t).2.1 a k = sSl S b t k := by
  unfold vS sSl
  by_cases c1 : k = (4 * b + 3).toNat
  · rw [if_pos c1]; exact if_pos ⟨rfl, c1⟩
  · rw [if_neg c1, vl_n (fun z => c1 z.2)]
    by_cases c2 : k = (4 * b + 2).toNat
    · rw [if_pos c2]; exact if_pos ⟨rfl, c2⟩
    · rw [if_neg c2, vl_n (fun z => c2 z.2)]
      by_cases c3 : k = (4 * b + 1).toNat
      · rw [if_pos c3]; exact if_pos ⟨rfl, c3⟩
      · rw [if_neg c3, vl_n (fun z => c3 z.2)]
        by_cases c4 : k = (4 * b).toNat
        · rw [if_pos c4]; exact if_pos ⟨rfl, c4⟩
        · rw [if_neg c4, vl_n (fun z => c4 z.2)]; exact h k
theorem dd_seal {a : Int} (A : pSx X S) (B : pSzm M S) : pSx (vS X 65 (4 * a) (sYr E.1 a (E.1 0).toNat)) (sSl S a (sYr E.1 a (E.1 0).toNat)) ∧ pSzm (vS (d_X12_addYear_r125d a (vu M 125 0 0)) 129 (4 * a) (sYr E.1 a (E.1 0).toNat)) (sSl S a (sYr E.1 a (E.1 0).toNat)) :=
  ⟨vS_f A, vS_f (fun k => ((fr_d_X12_addYear_r125d a (vu M 125 0 0)).2.1 129 k rfl).trans (B k))⟩
/-! alter -/
theorem to_alter {a b : Int} (P : pCp X E t w wm) (Q : pCm M E t w wm) : pOv X M (d_X7_learn_r78d a (vu X 34 (a * 6 + 4).toNat (j_ixor (E.1 (20 + 90 * a + 4).toNat) b))) (vu (vu M 125 0 0) 126 (20 + 90 * a + 4).toNat (j_ixor (E.1 (20 + 90 * a + 4).toNat) b)) (j_ixor (E.1 (20 + 90 * a + 4).toNat) b) ((1 ≤ b ∧ b ≤ 255) ∧ 0 ≤ a ∧ a < E.1 0) (d_X11_alter_r31d a b X) (d_X12_alter_r125d a b M) := by
  have T : pT X 32 pt_0 E.1 := P.2.1.1 pt_0 (by decide)
  have e33 : X.1 33 3 = E.1 0 := T.1
  unfold d_X11_alter_r31d d_X12_alter_r125d
  rw [cm_126 Q]
  by_cases c : 1 ≤ b ∧ b ≤ 255
  · rw [if_pos c, if_pos c]
    by_cases c1 : 0 ≤ a ∧ a < E.1 0
    · rw [if_neg (by omega), if_neg (by omega), if_pos (by omega), at_33_4 T c1.1 c1.2, pu_33_4 (by omega)]
      exact Or.inr ⟨⟨c, c1⟩, rfl, Prod.ext (vu_e rfl) rfl⟩
    · refine Or.inl ⟨-2, by decide, ?_, ?_⟩
      · by_cases c2 : a < 0
        · rw [if_pos c2]
        · rw [if_neg c2, if_pos (by omega)]
      · rw [if_neg (by omega)]
        exact told_n (by decide)
  · refine Or.inl ⟨-1, by decide, ?_, ?_⟩
    · rw [if_neg c]
    · rw [if_neg c]
      exact told_n (by decide)
/-! apart -/
theorem to_apart {a b : Int} (P : pCp X E t w wm) (Q : pCm M E t w wm) (V : pEv E t w wm) : pOu X M (d_X8_add_r37d a b 0 0 0 0 X) (vu (vu (vu (vu M 125 0 0) 126 (18020 + 2 * E.1 1).toNat a) 126 (18020 + 2 * E.1 1 + 1).toNat b) 126 1 (E.1 1 + 1)) 0 (E.1 1 < 60 ∧ sMe E a ∧ sMe E b ∧ a ≠ b) (d_X11_apart_r31d a b X) (d_X12_apart_r125d a b M) := by
  have e33 : X.1 33 3 = E.1 0 := (P.2.1.1 pt_0 (by decide)).1
  have T2 := P.2.1.1 pt_2 (by decide)
  have e37 : X.1 37 3 = E.1 1 := T2.1
  have b1 : 0 ≤ E.1 1 ∧ E.1 1 ≤ 60 := T2.2.1
  have f := @fu_37 X
  have v0 := V.2.2.2.2.2.2.2.2.2.2.2.2.2.2.2
  have e : d_X11_apart_r31d a b X = hX a X (-2, vu X 31 12 (-2)) (hX b X (-2, vu X 31 12 (-2)) (if a = b then (-3, vu X 31 12 (-3)) else if d_X8_isFull_r37d X = 0 then (0, vu (vu (d_X8_add_r37d a b 0 0 0 0 X) 31 12 0) 32 19 (j_iadd (X.1 32 19) 1)) else (-5, vu X 31 12 (-5)))) := rfl
  have em : d_X12_apart_r125d a b M = hM a M (d_X12_told_r125d (-2) (vu M 125 0 0)) (hM b M (d_X12_told_r125d (-2) (vu M 125 0 0)) (if a = b then d_X12_told_r125d (-3) (vu M 125 0 0) else if M.1 126 1 = 60 then d_X12_told_r125d (-5) (vu M 125 0 0) else d_X12_told_r125d 0 (vu (vu (vu (vu M 125 0 0) 126 (18020 + 2 * M.1 126 1).toNat a) 126 (18020 + 2 * M.1 126 1 + 1).toNat b) 126 1 (M.1 126 1 + 1)))) := rfl
  rw [e, em, hX_e P.1 e33 v0, hX_e P.1 e33 v0, hM_e (cm_126 Q) P.1.2.1, hM_e (cm_126 Q) P.1.2.1, cm_126 Q, f, e37]
  by_cases c : sMe E a
  · rw [tv_t c, if_neg (show ¬ (1 : Int) = 0 from by decide), if_neg (show ¬ (1 : Int) = 0 from by decide)]
    by_cases d : sMe E b
    · rw [tv_t d, if_neg (show ¬ (1 : Int) = 0 from by decide), if_neg (show ¬ (1 : Int) = 0 from by decide)]
      by_cases g : a = b
      · rw [if_pos g, if_pos g]
        exact Or.inl ⟨-3, by decide, rfl, told_n (by decide)⟩
      · rw [if_neg g, if_neg g]
        by_cases h : E.1 1 < 60
        · rw [if_pos h, if_pos rfl, if_neg (by omega)]
          exact Or.inr ⟨⟨h, c, d, g⟩, Int.le_refl 0, rfl, told_p (Int.le_refl 0)⟩
        · rw [if_neg h, if_neg (show ¬ (1 : Int) = 0 from by decide), if_pos (by omega)]
          exact Or.inl ⟨-5, by decide, rfl, told_n (by decide)⟩
    · rw [if_pos (tv_f d), if_pos (tv_f d)]
      exact Or.inl ⟨-2, by decide, rfl, told_n (by decide)⟩
  · rw [if_pos (tv_f c), if_pos (tv_f c)]
    exact Or.inl ⟨-2, by decide, rfl, told_n (by decide)⟩
/-! hold -/
theorem to_hold {h a d k : Int} (P : pCp X E t w wm) (Q : pCm M E t w wm) (V : pEv E t w wm) : pOu X M (d_X8_add_r51d k d h a 0 0 X) (vu (vu (vu (vu (vu (vu M 125 0 0) 126 (47900 + 4 * E.1 10).toNat h) 126 (47900 + 4 * E.1 10 + 1).toNat a) 126 (47900 + 4 * E.1 10 + 2).toNat d) 126 (47900 + 4 * E.1 10 + 3).toNat k) 126 10 (E.1 10 + 1)) (E.1 10 + 1) (E.1 10 < 100 ∧ (0 ≤ d ∧ d ≤ 146399) ∧ (0 ≤ k ∧ k ≤ 146399) ∧ (0 ≤ h ∧ h < E.1 7) ∧ (a = -1 ∨ sMe E a)) (d_X11_hold_r31d h a d k X) (d_X12_hold_r125d h a d k M) := by
  have e33 : X.1 33 3 = E.1 0 := (P.2.1.1 pt_0 (by decide)).1
  have e49 : X.1 49 3 = E.1 7 := P.2.1.2.2.2.2.1
  have T9 := P.2.1.1 pt_9 (by decide)
  have e51 : X.1 51 3 = E.1 10 := T9.1
  have b1 : 0 ≤ E.1 10 ∧ E.1 10 ≤ 100 := T9.2.1
  have f := @fu_51 X
  have v0 := V.2.2.2.2.2.2.2.2.2.2.2.2.2.2.2
  have e : d_X11_hold_r31d h a d k X = if 0 ≤ d ∧ d ≤ 146399 then (if 0 ≤ k ∧ k ≤ 146399 then (if h < 0 then (-2, vu X 31 12 (-2)) else if X.1 49 3 ≤ h then (-2, vu X 31 12 (-2)) else if a = -1 then d_X11_hold_r31d_52 h a d k X else hX a X (-2, vu X 31 12 (-2)) (d_X11_hold_r31d_52 h a d k X)) else (-1, vu X 31 12 (-1))) else (-1, vu X 31 12 (-1)) := rfl
  have em : d_X12_hold_r125d h a d k M = if 0 ≤ d ∧ d ≤ 146399 then (if 0 ≤ k ∧ k ≤ 146399 then (if 0 ≤ h ∧ h ≤ M.1 126 7 - 1 then (if a = -1 then d_X12_hold_r125d_54 h a d k (vu M 125 0 0) else hM a M (d_X12_told_r125d (-2) (vu M 125 0 0)) (d_X12_hold_r125d_54 h a d k (vu M 125 0 0))) else d_X12_told_r125d (-2) (vu M 125 0 0)) else d_X12_told_r125d (-1) (vu M 125 0 0)) else d_X12_told_r125d (-1) (vu M 125 0 0) := rfl
  rw [e, em, hX_e P.1 e33 v0, hM_e (cm_126 Q) P.1.2.1, cm_126 Q, e49]
  by_cases c1 : 0 ≤ d ∧ d ≤ 146399
  · rw [if_pos c1, if_pos c1]
    by_cases c2 : 0 ≤ k ∧ k ≤ 146399
    · rw [if_pos c2, if_pos c2]
      by_cases c3 : 0 ≤ h ∧ h < E.1 7
      · rw [if_neg (show ¬ h < 0 by omega), if_neg (show ¬ E.1 7 ≤ h by omega), if_pos (show 0 ≤ h ∧ h ≤ E.1 7 - 1 by omega)]
        have body : (a = -1 ∨ sMe E a) → pOu X M (d_X8_add_r51d k d h a 0 0 X) (vu (vu (vu (vu (vu (vu M 125 0 0) 126 (47900 + 4 * E.1 10).toNat h) 126 (47900 + 4 * E.1 10 + 1).toNat a) 126 (47900 + 4 * E.1 10 + 2).toNat d) 126 (47900 + 4 * E.1 10 + 3).toNat k) 126 10 (E.1 10 + 1)) (E.1 10 + 1) (E.1 10 < 100 ∧ (0 ≤ d ∧ d ≤ 146399) ∧ (0 ≤ k ∧ k ≤ 146399) ∧ (0 ≤ h ∧ h < E.1 7) ∧ (a = -1 ∨ sMe E a)) (d_X11_hold_r31d_52 h a d k X) (d_X12_hold_r125d_54 h a d k (vu M 125 0 0)) := by
          intro ha
          unfold d_X11_hold_r31d_52 d_X12_hold_r125d_54
          rw [show (vu M 125 0 0).1 126 = E.1 from (vu_c (by decide)).trans (cm_126 Q), f, e51]
          by_cases c4 : E.1 10 < 100
          · rw [if_pos c4, if_pos rfl, if_neg (by omega), an_51 (by omega), e51]
            exact Or.inr ⟨⟨c4, c1, c2, c3, ha⟩, by omega, rfl, told_p (by omega)⟩
          · rw [if_neg c4, if_neg (show ¬ (1 : Int) = 0 from by decide), if_pos (by omega)]
            exact Or.inl ⟨-5, by decide, rfl, told_n (by decide)⟩
        by_cases c5 : a = -1
        · rw [if_pos c5, if_pos c5]
          exact body (Or.inl c5)
        · rw [if_neg c5, if_neg c5]
          by_cases c6 : sMe E a
          · rw [tv_t c6, if_neg (show ¬ (1 : Int) = 0 from by decide), if_neg (show ¬ (1 : Int) = 0 from by decide)]
            exact body (Or.inr c6)
          · rw [if_pos (tv_f c6), if_pos (tv_f c6)]
            exact Or.inl ⟨-2, by decide, rfl, told_n (by decide)⟩
      · rw [if_neg (show ¬ (0 ≤ h ∧ h ≤ E.1 7 - 1) by omega)]
        refine Or.inl ⟨-2, by decide, ?_, told_n (by decide)⟩
        by_cases c4 : h < 0
        · rw [if_pos c4]
        · rw [if_neg c4, if_pos (by omega)]
    · rw [if_neg c2, if_neg c2]
      exact Or.inl ⟨-1, by decide, rfl, told_n (by decide)⟩
  · rw [if_neg c1, if_neg c1]
    exact Or.inl ⟨-1, by decide, rfl, told_n (by decide)⟩
/-! fact -/
def mFa (M : jW) (E : pE) (a k o d1 d2 kn : Int) : jW := vu (vu (vu (vu (vu (vu (vu (vu (vu (vu (vu M 125 0 0) 126 (46540 + (6 * (E.1 5))).toNat a) 126 ((46540 + (6 * (E.1 5))) + 1).toNat k) 126 ((46540 + (6 * (E.1 5))) + 2).toNat o) 126 ((46540 + (6 * (E.1 5))) + 3).toNat d1) 126 ((46540 + (6 * (E.1 5))) + 4).toNat d2) 126 ((46540 + (6 * (E.1 5))) + 5).toNat kn) 126 5 ((E.1 5) + 1)) 126 (49920 + (2 * (E.1 16))).toNat 2) 126 ((49920 + (2 * (E.1 16))) + 1).toNat (((E.1 5) + 1) - 1)) 126 16 ((E.1 16) + 1)
theorem to_fact {a k o d1 d2 kn : Int} (P : pCp X E t w wm) (Q : pCm M E t w wm) (V : pEv E t w wm) : pOu X M (d_X8_add_r43d kn d1 d2 a k o (d_X8_add_r63d 2 (X.1 43 3) 0 0 0 0 X)) (mFa M E a k o d1 d2 kn) (E.1 5 + 1) (E.1 5 < 100 ∧ (0 ≤ k ∧ k ≤ 4) ∧ (0 ≤ o ∧ o ≤ 11) ∧ (0 ≤ d1 ∧ d1 ≤ d2 ∧ d2 ≤ 146399) ∧ (0 ≤ kn ∧ kn ≤ 146399) ∧ sMe E a) (d_X11_fact_r31d a k o d1 d2 kn X) (d_X12_fact_r125d a k o d1 d2 kn M) := by
  have e33 : X.1 33 3 = E.1 0 := (P.2.1.1 pt_0 (by decide)).1
  have T5 := P.2.1.1 pt_5 (by decide)
  have e43 : X.1 43 3 = E.1 5 := T5.1
  have b1 : 0 ≤ E.1 5 ∧ E.1 5 ≤ 100 := T5.2.1
  have f := @fu_43 X
  have v0 := V.2.2.2.2.2.2.2.2.2.2.2.2.2.2.2
  have e : d_X11_fact_r31d a k o d1 d2 kn X = if k < 0 then (-1, vu X 31 12 (-1)) else if 4 < k then (-1, vu X 31 12 (-1)) else if o < 0 then (-1, vu X 31 12 (-1)) else if 11 < o then (-1, vu X 31 12 (-1)) else if 0 ≤ d1 ∧ d1 ≤ 146399 then (if 0 ≤ d2 ∧ d2 ≤ 146399 then (if d2 < d1 then (-1, vu X 31 12 (-1)) else if 0 ≤ kn ∧ kn ≤ 146399 then hX a X (-2, vu X 31 12 (-2)) (if d_X8_isFull_r43d X = 0 then ((d_X8_add_r43d kn d1 d2 a k o (d_X8_add_r63d 2 (X.1 43 3) 0 0 0 0 X)).1 43 3, vu (vu (d_X8_add_r43d kn d1 d2 a k o (d_X8_add_r63d 2 (X.1 43 3) 0 0 0 0 X)) 31 12 0) 32 19 (j_iadd (X.1 32 19) 1)) else (-5, vu X 31 12 (-5))) else (-1, vu X 31 12 (-1))) else (-1, vu X 31 12 (-1))) else (-1, vu X 31 12 (-1)) := rfl
  have em : d_X12_fact_r125d a k o d1 d2 kn M = if 0 ≤ k ∧ k ≤ 4 then (if 0 ≤ o ∧ o ≤ 11 then (if 0 ≤ d2 ∧ d2 ≤ 146399 then (if 0 ≤ d1 ∧ d1 ≤ d2 then (if 0 ≤ kn ∧ kn ≤ 146399 then hM a M (d_X12_told_r125d (-2) (vu M 125 0 0)) (if M.1 126 5 = 100 then d_X12_told_r125d (-5) (vu M 125 0 0) else d_X12_told_r125d (M.1 126 5 + 1) (mFa M (M.1 126, E.2) a k o d1 d2 kn)) else d_X12_told_r125d (-1) (vu M 125 0 0)) else d_X12_told_r125d (-1) (vu M 125 0 0)) else d_X12_told_r125d (-1) (vu M 125 0 0)) else d_X12_told_r125d (-1) (vu M 125 0 0)) else d_X12_told_r125d (-1) (vu M 125 0 0) := rfl
  rw [e, em, hX_e P.1 e33 v0, hM_e (cm_126 Q) P.1.2.1, cm_126 Q, f]
  by_cases c : (0 ≤ k ∧ k ≤ 4) ∧ (0 ≤ o ∧ o ≤ 11) ∧ (0 ≤ d1 ∧ d1 ≤ d2 ∧ d2 ≤ 146399) ∧ (0 ≤ kn ∧ kn ≤ 146399)
  · rw [if_neg (show ¬ k < 0 by omega), if_neg (show ¬ 4 < k by omega), if_neg (show ¬ o < 0 by omega), if_neg (show ¬ 11 < o by omega), if_pos (show 0 ≤ d1 ∧ d1 ≤ 146399 by omega), if_pos (show 0 ≤ d2 ∧ d2 ≤ 146399 by omega), if_neg (show ¬ d2 < d1 by omega), if_pos c.2.2.2, if_pos c.1, if_pos c.2.1, if_pos (show 0 ≤ d2 ∧ d2 ≤ 146399 by omega), if_pos (show 0 ≤ d1 ∧ d1 ≤ d2 by omega), if_pos c.2.2.2]
    by_cases d : sMe E a
    · rw [tv_t d, if_neg (show ¬ (1 : Int) = 0 from by decide), if_neg (show ¬ (1 : Int) = 0 from by decide)]
      by_cases h : E.1 5 < 100
      · have g : (d_X8_add_r63d 2 (X.1 43 3) 0 0 0 0 X).1 43 = X.1 43 := pF_c (fr_d_X8_add_r63d 2 (X.1 43 3) 0 0 0 0 X) rfl
        rw [if_pos (by omega), if_neg (by omega), an_43 (by rw [g]; omega), g]
        refine Or.inr ⟨⟨h, c.1, c.2.1, c.2.2.1, c.2.2.2, d⟩, by omega, ?_, told_p (by omega)⟩
        rw [e43]
        rfl
      · rw [if_neg (by omega), if_pos (by omega)]
        exact Or.inl ⟨-5, by decide, rfl, told_n (by decide)⟩
    · rw [if_pos (tv_f d), if_pos (tv_f d)]
      exact Or.inl ⟨-2, by decide, rfl, told_n (by decide)⟩
  · refine Or.inl ⟨-1, by decide, ?_, ?_⟩
    · by_cases g1 : k < 0
      · rw [if_pos g1]
      · rw [if_neg g1]
        by_cases g2 : 4 < k
        · rw [if_pos g2]
        · rw [if_neg g2]
          by_cases d3 : o < 0
          · rw [if_pos d3]
          · rw [if_neg d3]
            by_cases d4 : 11 < o
            · rw [if_pos d4]
            · rw [if_neg d4]
              by_cases d5 : 0 ≤ d1 ∧ d1 ≤ 146399
              · rw [if_pos d5]
                by_cases d6 : 0 ≤ d2 ∧ d2 ≤ 146399
                · rw [if_pos d6]
                  by_cases d7 : d2 < d1
                  · rw [if_pos d7]
                  · rw [if_neg d7, if_neg (by omega)]
                · rw [if_neg d6]
              · rw [if_neg d5]
    · by_cases g1 : 0 ≤ k ∧ k ≤ 4
      · rw [if_pos g1]
        by_cases g2 : 0 ≤ o ∧ o ≤ 11
        · rw [if_pos g2]
          by_cases d3 : 0 ≤ d2 ∧ d2 ≤ 146399
          · rw [if_pos d3]
            by_cases d4 : 0 ≤ d1 ∧ d1 ≤ d2
            · rw [if_pos d4, if_neg (by omega)]; exact told_n (by decide)
            · rw [if_neg d4]; exact told_n (by decide)
          · rw [if_neg d3]; exact told_n (by decide)
        · rw [if_neg g2]; exact told_n (by decide)
      · rw [if_neg g1]; exact told_n (by decide)
end
end jG119

section jG120
/-! pure: wish, together -/
/-- a BOND more: the class may have the two turned round -/
theorem da_3 {X V : jW} {n u v p q k : Int} (hn : V.1 126 2 = n) (T : pD X 32 (V.1 126)) (h : n < 200) (o : (p = u ∧ q = v) ∨ (p = v ∧ q = u)) : pD (d_X8_add_r39d k u v 0 0 0 X) 32 ((vu (vu (vu (vu V 126 (18140 + 3 * n).toNat p) 126 (18140 + 3 * n + 1).toNat q) 126 (18140 + 3 * n + 2).toNat k) 126 2 (n + 1)).1 126) := by
  have B := T.2.2.1
  have b := B.1
  have e : X.1 39 3 = n := B.2.1.trans hn
  rw [hn] at b
  have a := @ad_39 X k u v 0 0 0 (by omega)
  have F := fr_d_X8_add_r39d k u v 0 0 0 X
  have R : ∀ j, j ≠ 2 → (j < 18140 ∨ 18740 ≤ j) → (vu (vu (vu (vu V 126 (18140 + 3 * n).toNat p) 126 (18140 + 3 * n + 1).toNat q) 126 (18140 + 3 * n + 2).toNat k) 126 2 (n + 1)).1 126 j = V.1 126 j := by
    intro j h1 h2
    repeat rw [vu_n (by omega)]
  have c1 := cok_e (A := 32) (f := 1) F rfl
  have c8 := cok_e (A := 32) (f := 8) F rfl
  refine ⟨fun t ht => ?_, pNm_e c1.1 c1.2 (fun j hj => R j (by omega) (by omega)) T.2.1, ?_, pHo_e c8.1 c8.2 (fun j hj => R j (by omega) (by omega)) T.2.2.2⟩
  · have k1 : (pTs.all fun t => (tok fw_X8_add_r39d 32 t && (rok 2 18140 18740 t && pok t))) = true := by decide
    have k2 := List.all_eq_true.1 k1 t ht
    simp only [Bool.and_eq_true] at k2
    exact pT_m (c := 2) (lo := 18140) (hi := 18740) R k2.2.1 k2.2.2 (pT_x F k2.1 (T.1 t ht))
  · rw [a, e]
    refine ⟨?_, ?_, fun i hi => ?_⟩
    · rw [vu_e rfl]; omega
    · show (vu (vu (vu (vu X 39 3 (n + 1)) 40 (n * 3 + 0).toNat k) 40 (n * 3 + 1).toNat u) 40 (n * 3 + 2).toNat v).1 39 3 = _
      rw [vu_n (by omega), vu_n (by omega), vu_n (by omega), vu_e rfl, vu_e rfl]
    · rw [vu_e rfl] at hi
      show (vu (vu (vu (vu X 39 3 (n + 1)) 40 (n * 3 + 0).toNat k) 40 (n * 3 + 1).toNat u) 40 (n * 3 + 2).toNat v).1 40 (3 * i) = _ ∧ (((vu (vu (vu (vu X 39 3 (n + 1)) 40 (n * 3 + 0).toNat k) 40 (n * 3 + 1).toNat u) 40 (n * 3 + 2).toNat v).1 40 (3 * i + 1) = _ ∧ (vu (vu (vu (vu X 39 3 (n + 1)) 40 (n * 3 + 0).toNat k) 40 (n * 3 + 1).toNat u) 40 (n * 3 + 2).toNat v).1 40 (3 * i + 2) = _) ∨ ((vu (vu (vu (vu X 39 3 (n + 1)) 40 (n * 3 + 0).toNat k) 40 (n * 3 + 1).toNat u) 40 (n * 3 + 2).toNat v).1 40 (3 * i + 1) = _ ∧ (vu (vu (vu (vu X 39 3 (n + 1)) 40 (n * 3 + 0).toNat k) 40 (n * 3 + 1).toNat u) 40 (n * 3 + 2).toNat v).1 40 (3 * i + 2) = _))
      by_cases z : (i : Int) < n
      · have y := B.2.2 i (by omega)
        have x0 : ∀ j, j < 3 * n.toNat → (vu (vu (vu (vu X 39 3 (n + 1)) 40 (n * 3 + 0).toNat k) 40 (n * 3 + 1).toNat u) 40 (n * 3 + 2).toNat v).1 40 j = X.1 40 j := by
          intro j hj
          repeat rw [vu_n (by omega)]
        have r0 : ∀ j, 18140 ≤ j → j < 18140 + 3 * n.toNat → (vu (vu (vu (vu V 126 (18140 + 3 * n).toNat p) 126 (18140 + 3 * n + 1).toNat q) 126 (18140 + 3 * n + 2).toNat k) 126 2 (n + 1)).1 126 j = V.1 126 j := by
          intro j h1 h2
          repeat rw [vu_n (by omega)]
        rw [x0 _ (by omega), x0 _ (by omega), x0 _ (by omega), r0 _ (by omega) (by omega), r0 _ (by omega) (by omega), r0 _ (by omega) (by omega)]
        exact y
      · have i0 : i = n.toNat := by omega
        have y0 : (vu (vu (vu (vu X 39 3 (n + 1)) 40 (n * 3 + 0).toNat k) 40 (n * 3 + 1).toNat u) 40 (n * 3 + 2).toNat v).1 40 (3 * i) = k := by
          rw [vu_n (by omega), vu_n (by omega)]; exact vu_e (by omega)
        have y1 : (vu (vu (vu (vu X 39 3 (n + 1)) 40 (n * 3 + 0).toNat k) 40 (n * 3 + 1).toNat u) 40 (n * 3 + 2).toNat v).1 40 (3 * i + 1) = u := by
          rw [vu_n (by omega)]; exact vu_e (by omega)
        have y2 : (vu (vu (vu (vu X 39 3 (n + 1)) 40 (n * 3 + 0).toNat k) 40 (n * 3 + 1).toNat u) 40 (n * 3 + 2).toNat v).1 40 (3 * i + 2) = v := vu_e (by omega)
        have s0 : (vu (vu (vu (vu V 126 (18140 + 3 * n).toNat p) 126 (18140 + 3 * n + 1).toNat q) 126 (18140 + 3 * n + 2).toNat k) 126 2 (n + 1)).1 126 (18140 + 3 * i) = p := by
          rw [vu_n (by omega), vu_n (by omega), vu_n (by omega)]; exact vu_e (by omega)
        have s1 : (vu (vu (vu (vu V 126 (18140 + 3 * n).toNat p) 126 (18140 + 3 * n + 1).toNat q) 126 (18140 + 3 * n + 2).toNat k) 126 2 (n + 1)).1 126 (18141 + 3 * i) = q := by
          rw [vu_n (by omega), vu_n (by omega)]; exact vu_e (by omega)
        have s2 : (vu (vu (vu (vu V 126 (18140 + 3 * n).toNat p) 126 (18140 + 3 * n + 1).toNat q) 126 (18140 + 3 * n + 2).toNat k) 126 2 (n + 1)).1 126 (18142 + 3 * i) = k := by
          rw [vu_n (by omega)]; exact vu_e (by omega)
        rw [y0, y1, y2, s0, s1, s2]
        rcases o with ⟨o1, o2⟩ | ⟨o1, o2⟩
        · exact ⟨rfl, Or.inl ⟨o1.symm, o2.symm⟩⟩
        · exact ⟨rfl, Or.inr ⟨o2.symm, o1.symm⟩⟩
section
variable {X M : jW} {E : pE} {t : jT} {w : Nat} {wm : Nat → Nat}
/-! wish -/
theorem x_iw {a : Int} (h3 : X.1 87 3 = (w : Int)) (h8 : ∀ i : Nat, i < w → X.1 88 i = (wm i : Int)) : ∀ (c j r : Nat), j + c = w → c < r → d_X3_isWished_r87d_2 r a (j : Int) X = tv (∃ i : Nat, j ≤ i ∧ i < w ∧ (wm i : Int) = a) := by
  intro c
  induction c with
  | zero =>
    intro j r hj hr
    obtain ⟨r, rfl⟩ : ∃ q, r = q + 1 := ⟨r - 1, by omega⟩
    rw [tv_f (fun ⟨i, i1, i2, _⟩ => by omega)]
    exact if_pos (by omega)
  | succ c ih =>
    intro j r hj hr
    obtain ⟨r, rfl⟩ : ∃ q, r = q + 1 := ⟨r - 1, by omega⟩
    refine (if_neg (by omega)).trans ?_
    rw [show ((j : Int)).toNat = j from by omega, h8 j (by omega)]
    by_cases c1 : (wm j : Int) = a
    · rw [if_pos c1, tv_t ⟨j, Nat.le_refl j, by omega, c1⟩]
    · rw [if_neg c1]
      have y := ih (j + 1) r (by omega) (by omega)
      rw [show ((j + 1 : Nat) : Int) = (j : Int) + 1 from by omega] at y
      rw [y]
      by_cases z : ∃ i : Nat, j + 1 ≤ i ∧ i < w ∧ (wm i : Int) = a
      · obtain ⟨i, i1, i2, i3⟩ := z
        rw [tv_t ⟨i, i1, i2, i3⟩, tv_t ⟨i, by omega, i2, i3⟩]
      · rw [tv_f z, tv_f (fun ⟨i, i1, i2, i3⟩ => z ⟨i, by
          by_cases e : i = j
          · rw [e] at i3; exact absurd i3 c1
          · omega, i2, i3⟩)]
theorem m_iw {W : jW} {a : Int} (h3 : W.1 125 36 = (w : Int)) (h8 : ∀ i : Nat, i < w → W.1 141 i = (wm i : Int)) : ∀ (c j r : Nat), j + c = w → c < r → d_X12_wish_r125d_22 r a (j : Int) W = if tv (∃ i : Nat, j ≤ i ∧ i < w ∧ (wm i : Int) = a) = 0 then (if W.1 125 36 = 9 then d_X12_told_r125d (-5) W else d_X12_told_r125d (W.1 125 36 + 1) (vu (vu W 141 (W.1 125 36).toNat a) 125 36 (W.1 125 36 + 1))) else d_X12_told_r125d (-4) W := by
  intro c
  induction c with
  | zero =>
    intro j r hj hr
    obtain ⟨r, rfl⟩ : ∃ q, r = q + 1 := ⟨r - 1, by omega⟩
    rw [if_pos (tv_f (fun ⟨i, i1, i2, _⟩ => by omega))]
    exact if_pos (by omega)
  | succ c ih =>
    intro j r hj hr
    obtain ⟨r, rfl⟩ : ∃ q, r = q + 1 := ⟨r - 1, by omega⟩
    refine (if_neg (by omega)).trans ?_
    rw [show ((j : Int)).toNat = j from by omega, h8 j (by omega)]
    by_cases c1 : (wm j : Int) = a
    · rw [if_pos c1, tv_t ⟨j, Nat.le_refl j, by omega, c1⟩, if_neg (show ¬ (1 : Int) = 0 from by decide)]
    · rw [if_neg c1]
      have y := ih (j + 1) r (by omega) (by omega)
      rw [show ((j + 1 : Nat) : Int) = (j : Int) + 1 from by omega] at y
      rw [y]
      by_cases z : ∃ i : Nat, j + 1 ≤ i ∧ i < w ∧ (wm i : Int) = a
      · obtain ⟨i, i1, i2, i3⟩ := z
        rw [tv_t ⟨i, i1, i2, i3⟩, tv_t ⟨i, by omega, i2, i3⟩]
      · rw [tv_f z, tv_f (fun ⟨i, i1, i2, i3⟩ => z ⟨i, by
          by_cases e : i = j
          · rw [e] at i3; exact absurd i3 c1
          · omega, i2, i3⟩)]
theorem to_wish {a : Int} (P : pCp X E t w wm) (Q : pCm M E t w wm) (V : pEv E t w wm) : pOu X M (vu (vu (vu X 88 w a) 87 3 ((w : Int) + 1)) 87 13 0) (vu (vu (vu M 125 0 0) 141 w a) 125 36 ((w : Int) + 1)) ((w : Int) + 1) (w < 9 ∧ sMe E a ∧ ∀ i : Nat, i < w → (wm i : Int) ≠ a) (d_X11_wish_r31d a X) (d_X12_wish_r125d a M) := by
  have e33 : X.1 33 3 = E.1 0 := (P.2.1.1 pt_0 (by decide)).1
  have v0 := V.2.2.2.2.2.2.2.2.2.2.2.2.2.2.2
  have w9 := V.2.2.2.2.2.2.2.2.2.2.2.2.2.1
  have Q0 : pCm (vu M 125 0 0) E t w wm := cm_u Q (Or.inl ⟨rfl, Or.inl (by decide)⟩)
  have h3 := P.2.2.2.2.2.2.1
  have m3 := Q0.2.2.1
  have e : d_X11_wish_r31d a X = hX a X (-2, vu X 31 12 (-2)) (if d_X3_isWished_r87d_2 10 a 0 X = 0 then (if X.1 87 3 < 9 then (X.1 87 3 + 1, vu (vu (vu (vu (vu X 88 (X.1 87 3).toNat a) 87 3 (X.1 87 3 + 1)) 87 13 0) 31 12 0) 32 19 (j_iadd (X.1 32 19) 1)) else (-5, vu X 31 12 (-5))) else (-4, vu X 31 12 (-4))) := rfl
  have em : d_X12_wish_r125d a M = hM a M (d_X12_told_r125d (-2) (vu M 125 0 0)) (d_X12_wish_r125d_22 10 a 0 (vu M 125 0 0)) := rfl
  have y := x_iw (a := a) h3 P.2.2.2.2.2.2.2.1 w 0 10 (by omega) (by omega)
  have z := m_iw (a := a) m3 Q0.2.2.2 w 0 10 (by omega) (by omega)
  change d_X3_isWished_r87d_2 10 a 0 X = _ at y
  change d_X12_wish_r125d_22 10 a 0 (vu M 125 0 0) = _ at z
  rw [e, em, hX_e P.1 e33 v0, hM_e (cm_126 Q) P.1.2.1, y, z, h3, m3, show ((w : Nat) : Int).toNat = w from by omega]
  by_cases c : sMe E a
  · rw [tv_t c, if_neg (show ¬ (1 : Int) = 0 from by decide), if_neg (show ¬ (1 : Int) = 0 from by decide)]
    by_cases d : ∃ i : Nat, 0 ≤ i ∧ i < w ∧ (wm i : Int) = a
    · rw [tv_t d, if_neg (show ¬ (1 : Int) = 0 from by decide), if_neg (show ¬ (1 : Int) = 0 from by decide)]
      exact Or.inl ⟨-4, by decide, rfl, told_n (by decide)⟩
    · rw [if_pos (tv_f d), if_pos (tv_f d)]
      by_cases g : w < 9
      · rw [if_pos (by omega), if_neg (by omega)]
        exact Or.inr ⟨⟨g, c, fun i hi q => d ⟨i, Nat.zero_le i, hi, q⟩⟩, by omega, rfl, told_p (by omega)⟩
      · rw [if_neg (by omega), if_pos (by omega)]
        exact Or.inl ⟨-5, by decide, rfl, told_n (by decide)⟩
  · rw [if_pos (tv_f c), if_pos (tv_f c)]
    exact Or.inl ⟨-2, by decide, rfl, told_n (by decide)⟩
/-! together -/
def gTo (a1 a2 a3 : Int) (W : jW) : Int × jW := (if 0 ≤ 146399 ∧ 146399 ≤ 146399 then (if (W.1 33 3) ≤ (a1 / 3) then (if 0 ≤ 146399 ∧ 146399 ≤ 146399 then (if (W.1 33 3) ≤ (a2 / 3) then ((-4), (vu W 31 12 (-4))) else (if (-1) = ((d_X7_asKnown_r78d 146399 W).1 82 a2.toNat) then ((-4), (vu (d_X7_asKnown_r78d 146399 W) 31 12 (-4))) else (if (d_X8_isFull_r39d (d_X7_asKnown_r78d 146399 W)) = 0 then (((d_X8_add_r39d a3 a1 a2 0 0 0 (d_X7_asKnown_r78d 146399 W)).1 39 3), (vu (vu (d_X8_add_r39d a3 a1 a2 0 0 0 (d_X7_asKnown_r78d 146399 W)) 31 12 0) 32 19 (j_iadd (W.1 32 19) 1))) else ((-5), (vu (d_X7_asKnown_r78d 146399 W) 31 12 (-5)))))) else ((-4), (vu W 31 12 (-4)))) else (if 0 ≤ 146399 ∧ 146399 ≤ 146399 then (if (W.1 33 3) ≤ (a2 / 3) then (if ((d_X7_asKnown_r78d 146399 W).1 82 a1.toNat) = (-1) then ((-4), (vu (d_X7_asKnown_r78d 146399 W) 31 12 (-4))) else (if (d_X8_isFull_r39d (d_X7_asKnown_r78d 146399 W)) = 0 then (((d_X8_add_r39d a3 a1 a2 0 0 0 (d_X7_asKnown_r78d 146399 W)).1 39 3), (vu (vu (d_X8_add_r39d a3 a1 a2 0 0 0 (d_X7_asKnown_r78d 146399 W)) 31 12 0) 32 19 (j_iadd (W.1 32 19) 1))) else ((-5), (vu (d_X7_asKnown_r78d 146399 W) 31 12 (-5))))) else (if ((d_X7_asKnown_r78d 146399 W).1 82 a1.toNat) = ((d_X7_asKnown_r78d 146399 (d_X7_asKnown_r78d 146399 W)).1 82 a2.toNat) then ((-4), (vu (d_X7_asKnown_r78d 146399 (d_X7_asKnown_r78d 146399 W)) 31 12 (-4))) else (if (d_X8_isFull_r39d (d_X7_asKnown_r78d 146399 (d_X7_asKnown_r78d 146399 W))) = 0 then (((d_X8_add_r39d a3 a1 a2 0 0 0 (d_X7_asKnown_r78d 146399 (d_X7_asKnown_r78d 146399 W))).1 39 3), (vu (vu (d_X8_add_r39d a3 a1 a2 0 0 0 (d_X7_asKnown_r78d 146399 (d_X7_asKnown_r78d 146399 W))) 31 12 0) 32 19 (j_iadd (W.1 32 19) 1))) else ((-5), (vu (d_X7_asKnown_r78d 146399 (d_X7_asKnown_r78d 146399 W)) 31 12 (-5)))))) else (if ((d_X7_asKnown_r78d 146399 W).1 82 a1.toNat) = (-1) then ((-4), (vu (d_X7_asKnown_r78d 146399 W) 31 12 (-4))) else (if (d_X8_isFull_r39d (d_X7_asKnown_r78d 146399 W)) = 0 then (((d_X8_add_r39d a3 a1 a2 0 0 0 (d_X7_asKnown_r78d 146399 W)).1 39 3), (vu (vu (d_X8_add_r39d a3 a1 a2 0 0 0 (d_X7_asKnown_r78d 146399 W)) 31 12 0) 32 19 (j_iadd (W.1 32 19) 1))) else ((-5), (vu (d_X7_asKnown_r78d 146399 W) 31 12 (-5))))))) else (if 0 ≤ 146399 ∧ 146399 ≤ 146399 then (if (W.1 33 3) ≤ (a2 / 3) then ((-4), (vu W 31 12 (-4))) else (if (-1) = ((d_X7_asKnown_r78d 146399 W).1 82 a2.toNat) then ((-4), (vu (d_X7_asKnown_r78d 146399 W) 31 12 (-4))) else (if (d_X8_isFull_r39d (d_X7_asKnown_r78d 146399 W)) = 0 then (((d_X8_add_r39d a3 a1 a2 0 0 0 (d_X7_asKnown_r78d 146399 W)).1 39 3), (vu (vu (d_X8_add_r39d a3 a1 a2 0 0 0 (d_X7_asKnown_r78d 146399 W)) 31 12 0) 32 19 (j_iadd (W.1 32 19) 1))) else ((-5), (vu (d_X7_asKnown_r78d 146399 W) 31 12 (-5)))))) else ((-4), (vu W 31 12 (-4)))))
theorem gTo_e {a b k : Int} (ha : a / 3 < X.1 33 3) (hb : b / 3 < X.1 33 3) : gTo a b k X = if (d_X7_asKnown_r78d 146399 X).1 82 a.toNat = (d_X7_asKnown_r78d 146399 (d_X7_asKnown_r78d 146399 X)).1 82 b.toNat then (-4, vu (d_X7_asKnown_r78d 146399 (d_X7_asKnown_r78d 146399 X)) 31 12 (-4)) else if d_X8_isFull_r39d (d_X7_asKnown_r78d 146399 (d_X7_asKnown_r78d 146399 X)) = 0 then ((d_X8_add_r39d k a b 0 0 0 (d_X7_asKnown_r78d 146399 (d_X7_asKnown_r78d 146399 X))).1 39 3, vu (vu (d_X8_add_r39d k a b 0 0 0 (d_X7_asKnown_r78d 146399 (d_X7_asKnown_r78d 146399 X))) 31 12 0) 32 19 (j_iadd (X.1 32 19) 1)) else (-5, vu (d_X7_asKnown_r78d 146399 (d_X7_asKnown_r78d 146399 X)) 31 12 (-5)) := by
  unfold gTo
  refine (if_pos (by decide)).trans ((if_neg (by omega)).trans ((if_pos (by decide)).trans ((if_neg (by omega)).trans rfl)))
/-- what a call that looks first leaves on either side -/
def pAf (X M : jW) (E : pE) (t : jT) (w : Nat) (wm : Nat → Nat) (X2 M2 : jW) : Prop := pQ0 X X2 ∧ pCp X2 E t w wm ∧ pCk X2 E t w wm ∧ pCm M2 E t w wm
theorem to_together {a b k : Int} (P : pCp X E t w wm) (K : pCk X E t w wm) (Q : pCm M E t w wm) (Y : pYm M) (V : pEv E t w wm) : ∃ X2 M2 : jW, (X2 = X ∨ X2 = d_X7_asKnown_r78d 146399 (d_X7_asKnown_r78d 146399 X)) ∧ (M2 = M ∨ M2 = d_X12_find_r125d 146399 (vu M 125 0 0)) ∧ pAf X M E t w wm X2 M2 ∧ ((pRf X2 M (d_X11_together_r31d a b k X) (d_X12_together_r125d a b k M)) ∨ (∃ e : Int, (-6 ≤ e ∧ e < 0) ∧ d_X11_together_r31d a b k X = (e, vu X2 31 12 e) ∧ d_X12_together_r125d a b k M = (e, vu M2 125 1 e)) ∨ ((E.1 2 < 200 ∧ (0 ≤ k ∧ k ≤ 146399) ∧ sMe E a ∧ sMe E b ∧ (sGs E 146399).1 a.toNat ≠ (sGs E 146399).1 b.toNat) ∧ pOk X2 (d_X8_add_r39d k a b 0 0 0 X2) (vu (vu (vu (vu M2 126 (18140 + 3 * E.1 2).toNat a) 126 (18140 + 3 * E.1 2 + 1).toNat b) 126 (18140 + 3 * E.1 2 + 2).toNat k) 126 2 (E.1 2 + 1)) (E.1 2 + 1) (d_X11_together_r31d a b k X) (d_X12_together_r125d a b k M))) := by
  have e33 : X.1 33 3 = E.1 0 := (P.2.1.1 pt_0 (by decide)).1
  have v0 := V.2.2.2.2.2.2.2.2.2.2.2.2.2.2.2
  have q00 : pQ0 X X := ⟨fun _ _ => rfl, fun _ _ => rfl, fun _ _ => rfl, fun _ _ => rfl, fun _ _ _ => rfl, rfl⟩
  have e : d_X11_together_r31d a b k X = if 0 ≤ k ∧ k ≤ 146399 then hX a X (-2, vu X 31 12 (-2)) (hX b X (-2, vu X 31 12 (-2)) (gTo a b k X)) else (-1, vu X 31 12 (-1)) := rfl
  have em : d_X12_together_r125d a b k M = if 0 ≤ k ∧ k ≤ 146399 then hM a M (d_X12_told_r125d (-2) (vu M 125 0 0)) (hM b M (d_X12_told_r125d (-2) (vu M 125 0 0)) (if (d_X12_find_r125d 146399 (vu M 125 0 0)).1 139 a.toNat = (d_X12_find_r125d 146399 (vu M 125 0 0)).1 139 b.toNat then d_X12_told_r125d (-4) (d_X12_find_r125d 146399 (vu M 125 0 0)) else if M.1 126 2 = 200 then d_X12_told_r125d (-5) (d_X12_find_r125d 146399 (vu M 125 0 0)) else d_X12_told_r125d (M.1 126 2 + 1) (vu (vu (vu (vu (d_X12_find_r125d 146399 (vu M 125 0 0)) 126 (18140 + 3 * M.1 126 2).toNat a) 126 (18140 + 3 * M.1 126 2 + 1).toNat b) 126 (18140 + 3 * M.1 126 2 + 2).toNat k) 126 2 (M.1 126 2 + 1)))) else d_X12_told_r125d (-1) (vu M 125 0 0) := rfl
  rw [e, em, hX_e P.1 e33 v0, hX_e P.1 e33 v0, hM_e (cm_126 Q) P.1.2.1, hM_e (cm_126 Q) P.1.2.1, cm_126 Q]
  by_cases c1 : 0 ≤ k ∧ k ≤ 146399
  · rw [if_pos c1, if_pos c1]
    by_cases c : sMe E a
    · rw [tv_t c, if_neg (show ¬ (1 : Int) = 0 from by decide), if_neg (show ¬ (1 : Int) = 0 from by decide)]
      by_cases d : sMe E b
      · rw [tv_t d, if_neg (show ¬ (1 : Int) = 0 from by decide), if_neg (show ¬ (1 : Int) = 0 from by decide), gTo_e (by rw [e33]; have := c.2.1; have := c.1; omega) (by rw [e33]; have := d.2.1; have := d.1; omega)]
        obtain ⟨P1, K1, Q1, G1, y1⟩ := c_as P K V 146399
        obtain ⟨P2, K2, Q2, G2, y2⟩ := c_as P1 K1 V 146399
        have N0 : pCm (vu M 125 0 0) E t w wm := cm_u Q (Or.inl ⟨rfl, Or.inl (by decide)⟩)
        have Y0 : pYm (vu M 125 0 0) := pYm_e (N0.1.trans Q.1.symm) Y
        obtain ⟨A1, H1, N1, _⟩ := m_fi N0 Y0 V 146399
        rw [G1.1 a.toNat (me_l V c), G2.1 b.toNat (me_l V d), H1.1 a.toNat (me_l V c), H1.1 b.toNat (me_l V d)]
        have y12 : pQ0 X (d_X7_asKnown_r78d 146399 (d_X7_asKnown_r78d 146399 X)) := ⟨fun c h => (y2.1 c h).trans (y1.1 c h), fun k h => (y2.2.1 k h).trans (y1.2.1 k h), fun k h => (y2.2.2.1 k h).trans (y1.2.2.1 k h), fun c h => (y2.2.2.2.1 c h).trans (y1.2.2.2.1 c h), fun c k h => (y2.2.2.2.2.1 c k h).trans (y1.2.2.2.2.1 c k h), y2.2.2.2.2.2.trans y1.2.2.2.2.2⟩
        refine ⟨d_X7_asKnown_r78d 146399 (d_X7_asKnown_r78d 146399 X), d_X12_find_r125d 146399 (vu M 125 0 0), Or.inr rfl, Or.inr rfl, ⟨y12, P2, K2, N1⟩, ?_⟩
        have B := P2.2.1.2.2.1
        have e39 : (d_X7_asKnown_r78d 146399 (d_X7_asKnown_r78d 146399 X)).1 39 3 = E.1 2 := B.2.1
        have e19 : (d_X7_asKnown_r78d 146399 (d_X7_asKnown_r78d 146399 X)).1 32 19 = X.1 32 19 := congrFun (y12.1 32 (by unfold qC; omega)) 19
        have b2 := B.1
        have f := @fu_39 (d_X7_asKnown_r78d 146399 (d_X7_asKnown_r78d 146399 X))
        rw [f, e39]
        generalize d_X7_asKnown_r78d 146399 (d_X7_asKnown_r78d 146399 X) = X2 at e39 e19
        generalize d_X12_find_r125d 146399 (vu M 125 0 0) = M2
        by_cases g : (sGs E 146399).1 a.toNat = (sGs E 146399).1 b.toNat
        · rw [if_pos g, if_pos g]
          exact Or.inr (Or.inl ⟨-4, by decide, rfl, told_n (by decide)⟩)
        · rw [if_neg g, if_neg g]
          by_cases h : E.1 2 < 200
          · rw [if_pos h, if_pos rfl, if_neg (by omega), an_39 (by omega), e39]
            refine Or.inr (Or.inr ⟨⟨h, c1, c, d, g⟩, by omega, ?_, told_p (by omega)⟩)
            unfold pAx
            rw [e19]
          · rw [if_neg h, if_neg (show ¬ (1 : Int) = 0 from by decide), if_pos (by omega)]
            exact Or.inr (Or.inl ⟨-5, by decide, rfl, told_n (by decide)⟩)
      · rw [if_pos (tv_f d), if_pos (tv_f d)]
        exact ⟨X, M, Or.inl rfl, Or.inl rfl, ⟨q00, P, K, Q⟩, Or.inl ⟨-2, by decide, rfl, told_n (by decide)⟩⟩
    · rw [if_pos (tv_f c), if_pos (tv_f c)]
      exact ⟨X, M, Or.inl rfl, Or.inl rfl, ⟨q00, P, K, Q⟩, Or.inl ⟨-2, by decide, rfl, told_n (by decide)⟩⟩
  · rw [if_neg c1, if_neg c1]
    exact ⟨X, M, Or.inl rfl, Or.inl rfl, ⟨q00, P, K, Q⟩, Or.inl ⟨-1, by decide, rfl, told_n (by decide)⟩⟩
end
end jG120

section jG121
/-! pure: join -/
def sAd (f : Nat → Int) (v : Int) : Nat → Int
  | 0 => -1
  | n + 1 => if f n = v then (n : Int) else sAd f v n
theorem sAd_b {f : Nat → Int} {v : Int} : ∀ n : Nat, sAd f v n = -1 ∨ ∃ i : Nat, i < n ∧ sAd f v n = (i : Int) := by
  intro n
  induction n with
  | zero => exact Or.inl rfl
  | succ n ih =>
    unfold sAd
    by_cases c : f n = v
    · rw [if_pos c]; exact Or.inr ⟨n, by omega, rfl⟩
    · rw [if_neg c]
      rcases ih with h | ⟨i, h1, h2⟩
      · exact Or.inl h
      · exact Or.inr ⟨i, by omega, h2⟩
section
variable {X M : jW} {E : pE} {t : jT} {w : Nat} {wm : Nat → Nat} {f g : Nat → Int} {a : Int}
/-- what join reads, on either side -/
def pJx (W : jW) (w : Nat) (wm : Nat → Nat) (f g : Nat → Int) : Prop := W.1 87 3 = (w : Int) ∧ ∀ i : Nat, i < w → W.1 88 i = (wm i : Int) ∧ W.1 92 i = f i ∧ W.1 82 (wm i) = g (wm i) ∧ ((wm i / 3 : Nat) : Int) < W.1 33 3
def pJm (W : jW) (w : Nat) (wm : Nat → Nat) (f g : Nat → Int) : Prop := W.1 125 36 = (w : Int) ∧ ∀ i : Nat, i < w → W.1 141 i = (wm i : Int) ∧ W.1 146 i = f i ∧ W.1 139 (wm i) = g (wm i)
theorem ah_x (J : pJx X w wm f g) {j : Nat} (hj : j < w) : ∀ (n r : Nat), n ≤ j → n < r → d_X3_aheadOf_r87d_4 r (j : Int) ((n : Int) - 1) X = sAd f (f j) n := by
  intro n
  induction n with
  | zero =>
    intro r _ hr
    obtain ⟨r, rfl⟩ : ∃ q, r = q + 1 := ⟨r - 1, by omega⟩
    exact if_pos (by omega)
  | succ n ih =>
    intro r hn hr
    obtain ⟨r, rfl⟩ : ∃ q, r = q + 1 := ⟨r - 1, by omega⟩
    have h3 := J.1
    rw [show ((n + 1 : Nat) : Int) - 1 = (n : Int) from by omega]
    refine (if_neg (by omega)).trans ((if_neg (by omega)).trans ((if_neg (by omega)).trans ?_))
    rw [show ((n : Int)).toNat = n from by omega, show ((j : Int)).toNat = j from by omega, (J.2 n (by omega)).2.1, (J.2 j hj).2.1]
    unfold sAd
    by_cases c : f n = f j
    · rw [if_pos c, if_pos c]
    · rw [if_neg c, if_neg c]
      exact ih r (by omega) (by omega)
theorem ah_m (J : pJm M w wm f g) {j : Nat} (hj : j < w) : ∀ (c i r : Nat), i + c = j → c < r → d_X12_aheadOf_r125d_4 r (j : Int) (sAd f (f j) i) (i : Int) M = sAd f (f j) j := by
  intro c
  induction c with
  | zero =>
    intro i r hi hr
    obtain ⟨r, rfl⟩ : ∃ q, r = q + 1 := ⟨r - 1, by omega⟩
    obtain rfl : i = j := by omega
    exact if_pos (by omega)
  | succ c ih =>
    intro i r hi hr
    obtain ⟨r, rfl⟩ : ∃ q, r = q + 1 := ⟨r - 1, by omega⟩
    have y := ih (i + 1) r (by omega) (by omega)
    rw [show ((i + 1 : Nat) : Int) = (i : Int) + 1 from by omega] at y
    refine (if_neg (by omega)).trans ?_
    rw [show ((i : Int)).toNat = i from by omega, show ((j : Int)).toNat = j from by omega, (J.2 i (by omega)).2.1, (J.2 j hj).2.1]
    rw [show sAd f (f j) (i + 1) = if f i = f j then (i : Int) else sAd f (f j) i from rfl] at y
    by_cases c : f i = f j
    · rw [if_pos c] at y
      rw [if_pos c]
      exact y
    · rw [if_neg c] at y
      rw [if_neg c]
      exact y
noncomputable def sAh (f : Nat → Int) (j : Nat) : Int := sAd f (f j) j
theorem ax (J : pJx X w wm f g) (h9 : w ≤ 9) {j : Nat} (hj : j < w) : d_X3_aheadOf_r87d (j : Int) X = sAh f j := ah_x J hj j 9 (Nat.le_refl j) (by omega)
theorem am (J : pJm M w wm f g) (h9 : w ≤ 9) {j : Nat} (hj : j < w) : d_X12_aheadOf_r125d (j : Int) M = sAh f j := ah_m J hj j 0 9 (by omega) (by omega)
/-- the wish in place j brings a new BOND -/
def sNj (wm : Nat → Nat) (f g : Nat → Int) (j : Nat) : Prop := sAh f j ≠ -1 ∧ g (wm (sAh f j).toNat) ≠ g (wm j)
noncomputable def sCnj (wm : Nat → Nat) (f g : Nat → Int) : Nat → Int
  | 0 => 0
  | n + 1 => sCnj wm f g n + tv (sNj wm f g n)
theorem sCnj_b : ∀ n : Nat, 0 ≤ sCnj wm f g n ∧ sCnj wm f g n ≤ (n : Int) := by
  intro n
  induction n with
  | zero => exact ⟨Int.le_refl 0, Int.le_refl 0⟩
  | succ n ih =>
    show 0 ≤ sCnj wm f g n + tv (sNj wm f g n) ∧ sCnj wm f g n + tv (sNj wm f g n) ≤ _
    by_cases c : sNj wm f g n
    · rw [tv_t c]; omega
    · rw [tv_f c]; omega
noncomputable def xJ (a : Int) (wm : Nat → Nat) (f g : Nat → Int) (X : jW) : Nat → jW
  | 0 => X
  | n + 1 => if tv (sNj wm f g n) = 0 then xJ a wm f g X n else d_X8_add_r39d a (wm (sAh f n).toNat : Int) (wm n : Int) 0 0 0 (xJ a wm f g X n)
noncomputable def bndM (W : jW) (p q k : Int) : jW := vu (vu (vu (vu W 126 (18140 + (3 * (W.1 126 2))).toNat p) 126 ((18140 + (3 * (W.1 126 2))) + 1).toNat q) 126 ((18140 + (3 * (W.1 126 2))) + 2).toNat k) 126 2 ((W.1 126 2) + 1)
noncomputable def mJ (a : Int) (wm : Nat → Nat) (f g : Nat → Int) (M : jW) : Nat → jW
  | 0 => M
  | n + 1 => if tv (sNj wm f g n) = 0 then mJ a wm f g M n else bndM (mJ a wm f g M n) (wm n : Int) (wm (sAh f n).toNat : Int) a
theorem pJx_a {u v : Int} (J : pJx X w wm f g) : pJx (d_X8_add_r39d a u v 0 0 0 X) w wm f g := by
  have F := fr_d_X8_add_r39d a u v 0 0 0 X
  unfold pJx
  rw [pF_c F (c := 87) rfl, pF_c F (c := 88) rfl, pF_c F (c := 92) rfl, pF_c F (c := 82) rfl, pF_c F (c := 33) rfl]
  exact J
theorem xJ_j (J : pJx X w wm f g) : ∀ n : Nat, pJx (xJ a wm f g X n) w wm f g := by
  intro n
  induction n with
  | zero => exact J
  | succ n ih =>
    unfold xJ
    by_cases c : tv (sNj wm f g n) = 0
    · rw [if_pos c]; exact ih
    · rw [if_neg c]; exact pJx_a ih
theorem bM_e {W : jW} {p q k : Int} {c : Nat} (h : c ≠ 126) : (bndM W p q k).1 c = W.1 c := by
  unfold bndM
  rw [vu_c h, vu_c h, vu_c h, vu_c h]
theorem mJ_j (J : pJm M w wm f g) : ∀ n : Nat, pJm (mJ a wm f g M n) w wm f g := by
  intro n
  induction n with
  | zero => exact J
  | succ n ih =>
    unfold mJ
    by_cases c : tv (sNj wm f g n) = 0
    · rw [if_pos c]; exact ih
    · rw [if_neg c]
      unfold pJm
      rw [bM_e (by decide), bM_e (by decide), bM_e (by decide), bM_e (by decide)]
      exact ih
theorem nj_c {j : Nat} (c : sAh f j = -1 ∨ g (wm (sAh f j).toNat) = g (wm j)) : tv (sNj wm f g j) = 0 := tv_f (fun h => c.elim h.1 h.2)
/-! one step of each loop -/
theorem x33_s (J : pJx X w wm f g) (h9 : w ≤ 9) {j r : Nat} (hj : j < w) {l2 : Int} (hl : 0 ≤ l2 ∧ l2 ≤ 9) : d_X11_join_r31d_33 (r + 1) a l2 (j : Int) X = d_X11_join_r31d_33 r a (l2 + tv (sNj wm f g j)) ((j : Int) + 1) X := by
  have h3 := J.1
  have hj1 := J.2 j hj
  refine (if_neg (by omega)).trans ?_
  rw [ax J h9 hj]
  rcases sAd_b (f := f) (v := f j) j with h | ⟨i, hi, h⟩
  · have h0 : sAh f j = -1 := h
    rw [if_pos h0, nj_c (Or.inl h0), Int.add_zero]
    rfl
  · have h0 : sAh f j = (i : Int) := h
    have hi1 := J.2 i (by omega)
    rw [h0, if_neg (show ¬ (i : Int) = -1 from by omega)]
    refine (if_neg (by omega)).trans ?_
    rw [show ((i : Int)).toNat = i from by omega, show ((j : Int)).toNat = j from by omega, hi1.1, hj1.1, show ((wm i : Int)).toNat = wm i from by omega, show ((wm j : Int)).toNat = wm j from by omega, hi1.2.2.1, hj1.2.2.1]
    refine (if_neg (by have := hi1.2.2.2; omega)).trans ((if_neg (by omega)).trans ((if_neg (by have := hj1.2.2.2; omega)).trans ?_))
    by_cases c : g (wm i) = g (wm j)
    · rw [if_pos c, nj_c (Or.inr (by rw [h0]; exact c)), Int.add_zero]
      rfl
    · rw [if_neg c, tv_t (show sNj wm f g j from ⟨by omega, by rw [h0]; exact c⟩), show j_iadd l2 1 = l2 + 1 from j_ia (by omega) (by omega) (by omega)]
      rfl
theorem x98_s (J : pJx X w wm f g) (h9 : w ≤ 9) {j r : Nat} (hj : j < w) {l2 : Int} : d_X11_join_r31d_98 (r + 1) a l2 (j : Int) X = d_X11_join_r31d_98 r a l2 ((j : Int) + 1) (if tv (sNj wm f g j) = 0 then X else d_X8_add_r39d a (wm (sAh f j).toNat : Int) (wm j : Int) 0 0 0 X) := by
  have h3 := J.1
  have hj1 := J.2 j hj
  refine (if_neg (by omega)).trans ?_
  rw [ax J h9 hj]
  rcases sAd_b (f := f) (v := f j) j with h | ⟨i, hi, h⟩
  · have h0 : sAh f j = -1 := h
    rw [if_pos h0, if_pos (nj_c (Or.inl h0))]
    rfl
  · have h0 : sAh f j = (i : Int) := h
    have hi1 := J.2 i (by omega)
    rw [h0, if_neg (show ¬ (i : Int) = -1 from by omega)]
    refine (if_neg (by omega)).trans ?_
    rw [show ((i : Int)).toNat = i from by omega, show ((j : Int)).toNat = j from by omega, hi1.1, hj1.1, show ((wm i : Int)).toNat = wm i from by omega, show ((wm j : Int)).toNat = wm j from by omega, hi1.2.2.1, hj1.2.2.1]
    refine (if_neg (by have := hi1.2.2.2; omega)).trans ((if_neg (by omega)).trans ((if_neg (by have := hj1.2.2.2; omega)).trans ?_))
    by_cases c : g (wm i) = g (wm j)
    · rw [if_pos c, if_pos (nj_c (Or.inr (by rw [h0]; exact c)))]
      rfl
    · rw [if_neg c, tv_t (show sNj wm f g j from ⟨by omega, by rw [h0]; exact c⟩), if_neg (show ¬ (1 : Int) = 0 from by decide)]
      refine (if_neg (by omega)).trans ((if_neg (by omega)).trans ((if_neg (by omega)).trans ?_))
      rfl
theorem m27_s (J : pJm M w wm f g) (h9 : w ≤ 9) {j r : Nat} (hj : j < w) {l2 : Int} : d_X12_join_r125d_27 (r + 1) a l2 (j : Int) M = d_X12_join_r125d_27 r a (l2 + tv (sNj wm f g j)) ((j : Int) + 1) M := by
  have h3 := J.1
  have hj1 := J.2 j hj
  refine (if_neg (by omega)).trans ?_
  rw [am J h9 hj]
  rcases sAd_b (f := f) (v := f j) j with h | ⟨i, hi, h⟩
  · have h0 : sAh f j = -1 := h
    rw [if_pos h0, nj_c (Or.inl h0)]
    rfl
  · have h0 : sAh f j = (i : Int) := h
    have hi1 := J.2 i (by omega)
    rw [h0, if_neg (show ¬ (i : Int) = -1 from by omega), show ((i : Int)).toNat = i from by omega, show ((j : Int)).toNat = j from by omega, hi1.1, hj1.1, show ((wm i : Int)).toNat = wm i from by omega, show ((wm j : Int)).toNat = wm j from by omega, hi1.2.2, hj1.2.2]
    by_cases c : g (wm i) = g (wm j)
    · rw [if_pos c, nj_c (Or.inr (by rw [h0]; exact c))]
      rfl
    · rw [if_neg c, tv_t (show sNj wm f g j from ⟨by omega, by rw [h0]; exact c⟩)]
      rfl
theorem m111_s (J : pJm M w wm f g) (h9 : w ≤ 9) {j r : Nat} (hj : j < w) {l2 : Int} : d_X12_join_r125d_111 (r + 1) a l2 (j : Int) M = d_X12_join_r125d_111 r a l2 ((j : Int) + 1) (if tv (sNj wm f g j) = 0 then M else bndM M (wm j : Int) (wm (sAh f j).toNat : Int) a) := by
  have h3 := J.1
  have hj1 := J.2 j hj
  refine (if_neg (by omega)).trans ?_
  rw [am J h9 hj]
  rcases sAd_b (f := f) (v := f j) j with h | ⟨i, hi, h⟩
  · have h0 : sAh f j = -1 := h
    rw [if_pos h0, if_pos (nj_c (Or.inl h0))]
    rfl
  · have h0 : sAh f j = (i : Int) := h
    have hi1 := J.2 i (by omega)
    rw [h0, if_neg (show ¬ (i : Int) = -1 from by omega), show ((i : Int)).toNat = i from by omega, show ((j : Int)).toNat = j from by omega, hi1.1, hj1.1, show ((wm i : Int)).toNat = wm i from by omega, show ((wm j : Int)).toNat = wm j from by omega, hi1.2.2, hj1.2.2]
    by_cases c : g (wm i) = g (wm j)
    · rw [if_pos c, if_pos (nj_c (Or.inr (by rw [h0]; exact c)))]
      rfl
    · rw [if_neg c, tv_t (show sNj wm f g j from ⟨by omega, by rw [h0]; exact c⟩), if_neg (show ¬ (1 : Int) = 0 from by decide)]
      rfl
/-! whole loops -/
theorem x33_e (J : pJx X w wm f g) (h9 : w ≤ 9) : ∀ (c j r : Nat), j + c = w → c < r → d_X11_join_r31d_33 r a (sCnj wm f g j) (j : Int) X = if j_iadd (X.1 39 3) (sCnj wm f g w) ≤ 200 then d_X11_join_r31d_98 10 a (sCnj wm f g w) 0 X else (-5, vu X 31 12 (-5)) := by
  intro c
  have h3 := J.1
  induction c with
  | zero =>
    intro j r hj hr
    obtain ⟨r, rfl⟩ : ∃ q, r = q + 1 := ⟨r - 1, by omega⟩
    obtain rfl : j = w := by omega
    exact if_pos (by omega)
  | succ c ih =>
    intro j r hj hr
    obtain ⟨r, rfl⟩ : ∃ q, r = q + 1 := ⟨r - 1, by omega⟩
    have y := ih (j + 1) r (by omega) (by omega)
    rw [show ((j + 1 : Nat) : Int) = (j : Int) + 1 from by omega] at y
    have b := sCnj_b (wm := wm) (f := f) (g := g) j
    rw [x33_s J h9 (by omega) (by omega)]
    exact y
theorem x98_e {l2 : Int} (J : pJx X w wm f g) (h9 : w ≤ 9) : ∀ (c j r : Nat), j + c = w → c < r → d_X11_join_r31d_98 r a l2 (j : Int) (xJ a wm f g X j) = (l2, vu (vu (xJ a wm f g X w) 31 12 0) 32 19 (j_iadd ((xJ a wm f g X w).1 32 19) 1)) := by
  intro c
  induction c with
  | zero =>
    intro j r hj hr
    obtain ⟨r, rfl⟩ : ∃ q, r = q + 1 := ⟨r - 1, by omega⟩
    obtain rfl : j = w := by omega
    have h3 := (xJ_j (a := a) J j).1
    exact if_pos (by omega)
  | succ c ih =>
    intro j r hj hr
    obtain ⟨r, rfl⟩ : ∃ q, r = q + 1 := ⟨r - 1, by omega⟩
    have y := ih (j + 1) r (by omega) (by omega)
    rw [show ((j + 1 : Nat) : Int) = (j : Int) + 1 from by omega] at y
    rw [x98_s (xJ_j J j) h9 (by omega)]
    exact y
theorem m27_e (J : pJm M w wm f g) (h9 : w ≤ 9) : ∀ (c j r : Nat), j + c = w → c < r → d_X12_join_r125d_27 r a (sCnj wm f g j) (j : Int) M = if M.1 126 2 + sCnj wm f g w ≤ 200 then d_X12_join_r125d_111 10 a (sCnj wm f g w) 0 M else d_X12_told_r125d (-5) M := by
  intro c
  have h3 := J.1
  induction c with
  | zero =>
    intro j r hj hr
    obtain ⟨r, rfl⟩ : ∃ q, r = q + 1 := ⟨r - 1, by omega⟩
    obtain rfl : j = w := by omega
    exact if_pos (by omega)
  | succ c ih =>
    intro j r hj hr
    obtain ⟨r, rfl⟩ : ∃ q, r = q + 1 := ⟨r - 1, by omega⟩
    have y := ih (j + 1) r (by omega) (by omega)
    rw [show ((j + 1 : Nat) : Int) = (j : Int) + 1 from by omega] at y
    rw [m27_s J h9 (by omega)]
    exact y
theorem m111_e {l2 : Int} (J : pJm M w wm f g) (h9 : w ≤ 9) : ∀ (c j r : Nat), j + c = w → c < r → d_X12_join_r125d_111 r a l2 (j : Int) (mJ a wm f g M j) = d_X12_told_r125d l2 (mJ a wm f g M w) := by
  intro c
  induction c with
  | zero =>
    intro j r hj hr
    obtain ⟨r, rfl⟩ : ∃ q, r = q + 1 := ⟨r - 1, by omega⟩
    obtain rfl : j = w := by omega
    have h3 := (mJ_j (a := a) J j).1
    exact if_pos (by omega)
  | succ c ih =>
    intro j r hj hr
    obtain ⟨r, rfl⟩ : ∃ q, r = q + 1 := ⟨r - 1, by omega⟩
    have y := ih (j + 1) r (by omega) (by omega)
    rw [show ((j + 1 : Nat) : Int) = (j : Int) + 1 from by omega] at y
    rw [m111_s (mJ_j J j) h9 (by omega)]
    exact y
/-- the chests stay alike, BOND by BOND -/
theorem dd_join (D : pD X 32 (M.1 126)) (h : M.1 126 2 + sCnj wm f g w ≤ 200) : ∀ n : Nat, n ≤ w → pD (xJ a wm f g X n) 32 ((mJ a wm f g M n).1 126) ∧ (mJ a wm f g M n).1 126 2 = M.1 126 2 + sCnj wm f g n := by
  have mono : ∀ c n : Nat, sCnj wm f g n ≤ sCnj wm f g (n + c) := by
    intro c
    induction c with
    | zero => intro n; exact Int.le_refl _
    | succ c ih =>
      intro n
      have y := ih n
      show _ ≤ sCnj wm f g (n + c) + tv (sNj wm f g (n + c))
      by_cases z : sNj wm f g (n + c)
      · rw [tv_t z]; omega
      · rw [tv_f z]; omega
  intro n
  induction n with
  | zero => intro _; exact ⟨D, by show M.1 126 2 = M.1 126 2 + 0; omega⟩
  | succ n ih =>
    intro hn
    obtain ⟨i1, i2⟩ := ih (by omega)
    have m1 := mono (w - (n + 1)) (n + 1)
    rw [show n + 1 + (w - (n + 1)) = w from by omega] at m1
    have s : sCnj wm f g (n + 1) = sCnj wm f g n + tv (sNj wm f g n) := rfl
    rw [s]
    rw [s] at m1
    unfold xJ mJ
    by_cases c : sNj wm f g n
    · rw [tv_t c] at m1 ⊢
      rw [if_neg (show ¬ (1 : Int) = 0 from by decide), if_neg (show ¬ (1 : Int) = 0 from by decide)]
      refine ⟨da_3 (n := (mJ a wm f g M n).1 126 2) rfl i1 (by omega) (Or.inr ⟨rfl, rfl⟩), ?_⟩
      unfold bndM
      rw [vu_e rfl, i2]
      omega
    · rw [tv_f c, if_pos rfl, if_pos rfl, Int.add_zero]
      exact ⟨i1, i2⟩
/-- what join asks for -/
theorem J_x (P : pCp X E t w wm) (K : pCk X E t w wm) (V : pEv E t w wm) : pJx (d_X3_settle_r87d (d_X7_asKnown_r78d 146399 X)) w wm (sBt E t w wm).2.2.1 (sGs E 146399).1 := by
  obtain ⟨S, K2, P2, Q2⟩ := c_se P K V
  have b0 := bt_0g V P.1.2.1
  refine ⟨P2.2.2.2.2.2.2.1, fun i hi => ?_⟩
  have wa := V.2.2.2.2.2.2.2.2.2.2.2.2.2.2.1 i hi
  exact ⟨P2.2.2.2.2.2.2.2.1 i hi, S.1.2.2.2.1 b0 i hi, Q2.1.2.2.2.2.1 (wm i) wa.2.1, by rw [Q2.1.2.2.1]; exact wa.1.1⟩
theorem J_m (P : pCm M E t w wm) (Y : pYm M) (V : pEv E t w wm) (I : pIr E) : pJm (d_X12_findBest_r125d 0 (vu M 125 0 0)) w wm (sBt E t w wm).2.2.1 (sGs E 146399).1 ∧ pCm (d_X12_findBest_r125d 0 (vu M 125 0 0)) E t w wm := by
  have P0 : pCm (vu M 125 0 0) E t w wm := cm_u P (Or.inl ⟨rfl, Or.inl (by decide)⟩)
  have Y0 : pYm (vu M 125 0 0) := pYm_e (P0.1.trans P.1.symm) Y
  have W := m_wi P0 Y0 V
  have b0 := mfB (l1 := 0) V.2.2.2.2.2.2.2.2.2.2.2.2.2.1 V.2.2.2.2.2.2.2.2.2.2.2.2.1 (by decide) W
  have w0 := b0.2.2.2.2.2
  exact ⟨⟨w0.2.2.2.2.1, fun i hi => ⟨(w0.2.2.2.2.2 i hi).1, b0.2.2.2.2.1 (bt_0g V I) i hi, w0.2.2.1 (wm i) (w0.2.2.2.2.2 i hi).2.2⟩⟩, w0.1, w0.2.2.2.1, w0.2.2.2.2.1, fun i hi => (w0.2.2.2.2.2 i hi).1⟩
noncomputable def sNb (E : pE) (t : jT) (w : Nat) (wm : Nat → Nat) : Int := sCnj wm (sBt E t w wm).2.2.1 (sGs E 146399).1 w
noncomputable def xJn (X : jW) (E : pE) (t : jT) (w : Nat) (wm : Nat → Nat) (a : Int) : jW := xJ a wm (sBt E t w wm).2.2.1 (sGs E 146399).1 (d_X3_settle_r87d (d_X7_asKnown_r78d 146399 X)) w
noncomputable def mJn (M : jW) (E : pE) (t : jT) (w : Nat) (wm : Nat → Nat) (a : Int) : jW := mJ a wm (sBt E t w wm).2.2.1 (sGs E 146399).1 (d_X12_findBest_r125d 0 (vu M 125 0 0)) w
theorem to_join (P : pCp X E t w wm) (K : pCk X E t w wm) (Q : pCm M E t w wm) (Y : pYm M) (V : pEv E t w wm) : pRf X M (d_X11_join_r31d a X) (d_X12_join_r125d a M) ∨ (d_X11_join_r31d a X = (-5, vu (d_X3_settle_r87d (d_X7_asKnown_r78d 146399 X)) 31 12 (-5)) ∧ d_X12_join_r125d a M = (-5, vu (d_X12_findBest_r125d 0 (vu M 125 0 0)) 125 1 (-5))) ∨ ((0 ≤ a ∧ a ≤ 146399) ∧ E.1 2 + sNb E t w wm ≤ 200 ∧ 0 ≤ sNb E t w wm ∧ d_X11_join_r31d a X = (sNb E t w wm, vu (vu (xJn X E t w wm a) 31 12 0) 32 19 (j_iadd ((xJn X E t w wm a).1 32 19) 1)) ∧ d_X12_join_r125d a M = (sNb E t w wm, vu (mJn M E t w wm a) 125 1 0) ∧ pD (xJn X E t w wm a) 32 ((mJn M E t w wm a).1 126)) := by
  have w9 := V.2.2.2.2.2.2.2.2.2.2.2.2.2.1
  by_cases c : 0 ≤ a ∧ a ≤ 146399
  · refine Or.inr ?_
    obtain ⟨S, K2, P2, Q2⟩ := c_se P K V
    have J1 := J_x P K V
    obtain ⟨J2, N2⟩ := J_m Q Y V P.1.2.1
    have e1 := x33_e (a := a) J1 w9 w 0 10 (by omega) (by omega)
    have e2 := x98_e (a := a) (l2 := sNb E t w wm) J1 w9 w 0 10 (by omega) (by omega)
    have e3 := m27_e (a := a) J2 w9 w 0 10 (by omega) (by omega)
    have e4 := m111_e (a := a) (l2 := sNb E t w wm) J2 w9 w 0 10 (by omega) (by omega)
    have b := sCnj_b (wm := wm) (f := (sBt E t w wm).2.2.1) (g := (sGs E 146399).1) w
    have B := P2.2.1.2.2.1
    have e39 : (d_X3_settle_r87d (d_X7_asKnown_r78d 146399 X)).1 39 3 = E.1 2 := B.2.1
    have b2 := B.1
    have ex : d_X11_join_r31d a X = d_X11_join_r31d_33 10 a 0 0 (d_X3_settle_r87d (d_X7_asKnown_r78d 146399 X)) := if_pos c
    have em : d_X12_join_r125d a M = d_X12_join_r125d_27 10 a 0 0 (d_X12_findBest_r125d 0 (vu M 125 0 0)) := if_pos c
    have ex1 := ex.trans e1
    have em1 := em.trans e3
    rw [e39, j_ia (by omega) (by omega) (by omega)] at ex1
    rw [cm_126 N2] at em1
    by_cases d : E.1 2 + sCnj wm (sBt E t w wm).2.2.1 (sGs E 146399).1 w ≤ 200
    · rw [if_pos d] at ex1 em1
      refine Or.inr ⟨c, d, b.1, ex1.trans e2, em1.trans (e4.trans (told_p b.1)), ?_⟩
      exact (dd_join (by rw [cm_126 N2]; exact P2.2.1) (by rw [cm_126 N2]; exact d) w (Nat.le_refl w)).1
    · rw [if_neg d] at ex1 em1
      exact Or.inl ⟨ex1, em1.trans (told_n (by decide))⟩
  · exact Or.inl ⟨-1, by decide, if_neg c, (if_neg c).trans (told_n (by decide))⟩
end
end jG121

section jG122
/-! pure: invariants of the row carried over: what a table says stays true while the table stays -/
/-- s is r from lo to hi - 1 -/
def rgn (r s : Nat → Int) (lo hi : Nat) : Prop := ∀ j : Nat, lo ≤ j → j < hi → s j = r j
section
variable {r s : Nat → Int} {q : (Nat → Int) × (Nat → Int) × (Nat → Int) × Int}
theorem tr_j (c2 : s 2 = r 2) (c0 : r 0 ≤ s 0) (g : rgn r s 18140 18740) (h : pIj (r, q)) : pIj (s, q) := by
  obtain ⟨h1, h2⟩ := h
  change 0 ≤ r 2 ∧ r 2 ≤ 200 at h1
  refine ⟨by show 0 ≤ s 2 ∧ s 2 ≤ 200; omega, fun k hk => ?_⟩
  change (k : Int) < s 2 at hk
  have y := h2 k (by show (k : Int) < r 2; omega)
  change (0 ≤ r (18140 + 3 * k) ∧ r (18140 + 3 * k) < 3 * r 0) ∧ (0 ≤ r (18141 + 3 * k) ∧ r (18141 + 3 * k) < 3 * r 0) at y
  show (0 ≤ s (18140 + 3 * k) ∧ s (18140 + 3 * k) < 3 * s 0) ∧ (0 ≤ s (18141 + 3 * k) ∧ s (18141 + 3 * k) < 3 * s 0)
  rw [g (18140 + 3 * k) (by omega) (by omega), g (18141 + 3 * k) (by omega) (by omega)]
  omega
theorem tr_f (c5 : s 5 = r 5) (c0 : r 0 ≤ s 0) (g : rgn r s 46540 47140) (h : pIf (r, q)) : pIf (s, q) := by
  obtain ⟨h1, h2⟩ := h
  change 0 ≤ r 5 ∧ r 5 ≤ 100 at h1
  refine ⟨by show 0 ≤ s 5 ∧ s 5 ≤ 100; omega, fun k hk => ?_⟩
  change (k : Int) < s 5 at hk
  have y := h2 k (by show (k : Int) < r 5; omega)
  show (0 ≤ s (46540 + 6 * k) ∧ s (46540 + 6 * k) < 3 * s 0) ∧ (0 ≤ s (46542 + 6 * k) ∧ s (46542 + 6 * k) ≤ 11) ∧ (0 ≤ s (46543 + 6 * k) ∧ s (46543 + 6 * k) ≤ 146399) ∧ (0 ≤ s (46544 + 6 * k) ∧ s (46544 + 6 * k) ≤ 146399)
  change (0 ≤ r (46540 + 6 * k) ∧ r (46540 + 6 * k) < 3 * r 0) ∧ (0 ≤ r (46542 + 6 * k) ∧ r (46542 + 6 * k) ≤ 11) ∧ (0 ≤ r (46543 + 6 * k) ∧ r (46543 + 6 * k) ≤ 146399) ∧ (0 ≤ r (46544 + 6 * k) ∧ r (46544 + 6 * k) ≤ 146399) at y
  rw [g (46540 + 6 * k) (by omega) (by omega), g (46542 + 6 * k) (by omega) (by omega), g (46543 + 6 * k) (by omega) (by omega), g (46544 + 6 * k) (by omega) (by omega)]
  omega
theorem tr_h (c8 : s 8 = r 8) (c10 : s 10 = r 10) (c0 : r 0 ≤ s 0) (c7 : r 7 ≤ s 7) (sp : ∀ j : Nat, (j : Int) < s 9 → ((j : Int) < r 9 ∧ s (47660 + 6 * j) = r (47660 + 6 * j)) ∨ r 7 ≤ s (47660 + 6 * j)) (g1 : rgn r s 47260 47660) (g2 : rgn r s 47900 48300) (h : pIh (r, q)) : pIh (s, q) := by
  obtain ⟨h1, h2, h3, h4⟩ := h
  change 0 ≤ r 8 ∧ r 8 ≤ 100 at h1
  change 0 ≤ r 10 ∧ r 10 ≤ 100 at h2
  refine ⟨by show 0 ≤ s 8 ∧ s 8 ≤ 100; omega, by show 0 ≤ s 10 ∧ s 10 ≤ 100; omega, fun k hk => ?_, fun k hk => ?_⟩
  · change (k : Int) < s 8 at hk
    have y := h3 k (by show (k : Int) < r 8; omega)
    change (0 ≤ r (47260 + 4 * k) ∧ r (47260 + 4 * k) < r 7) ∧ (0 ≤ r (47261 + 4 * k) ∧ r (47261 + 4 * k) ≤ 10000) ∧ 0 ≤ r (47262 + 4 * k) ∧ ∀ j : Nat, (j : Int) < r 9 → r (47660 + 6 * j) ≠ r (47260 + 4 * k) at y
    show (0 ≤ s (47260 + 4 * k) ∧ s (47260 + 4 * k) < s 7) ∧ (0 ≤ s (47261 + 4 * k) ∧ s (47261 + 4 * k) ≤ 10000) ∧ 0 ≤ s (47262 + 4 * k) ∧ ∀ j : Nat, (j : Int) < s 9 → s (47660 + 6 * j) ≠ s (47260 + 4 * k)
    rw [g1 (47260 + 4 * k) (by omega) (by omega), g1 (47261 + 4 * k) (by omega) (by omega), g1 (47262 + 4 * k) (by omega) (by omega)]
    refine ⟨by omega, y.2.1, y.2.2.1, fun j hj => ?_⟩
    rcases sp j hj with ⟨a, b⟩ | a
    · rw [b]; exact y.2.2.2 j a
    · omega
  · change (k : Int) < s 10 at hk
    have y := h4 k (by show (k : Int) < r 10; omega)
    change (0 ≤ r (47900 + 4 * k) ∧ r (47900 + 4 * k) < r 7) ∧ (-1 ≤ r (47901 + 4 * k) ∧ r (47901 + 4 * k) < 3 * r 0) ∧ 0 ≤ r (47902 + 4 * k) at y
    show (0 ≤ s (47900 + 4 * k) ∧ s (47900 + 4 * k) < s 7) ∧ (-1 ≤ s (47901 + 4 * k) ∧ s (47901 + 4 * k) < 3 * s 0) ∧ 0 ≤ s (47902 + 4 * k)
    rw [g2 (47900 + 4 * k) (by omega) (by omega), g2 (47901 + 4 * k) (by omega) (by omega), g2 (47902 + 4 * k) (by omega) (by omega)]
    omega
theorem tr_s (c7 : r 7 ≤ s 7 ∧ s 7 ≤ 40) (c9 : s 9 = r 9) (g : rgn r s 47660 47900) (h : pIs (r, q)) : pIs (s, q) := by
  obtain ⟨h1, h2, h3, h4⟩ := h
  change 0 ≤ r 7 ∧ r 7 ≤ 40 at h1
  change 0 ≤ r 9 ∧ r 9 ≤ r 7 at h2
  refine ⟨by show 0 ≤ s 7 ∧ s 7 ≤ 40; omega, by show 0 ≤ s 9 ∧ s 9 ≤ s 7; omega, fun k hk => ?_, fun k m hk hm => ?_⟩
  · change (k : Int) < s 9 at hk
    have y := h3 k (by show (k : Int) < r 9; omega)
    change (0 ≤ r (47661 + 6 * k) ∧ r (47661 + 6 * k) < r (47660 + 6 * k) ∧ r (47660 + 6 * k) < r 7) ∧ (1 ≤ r (47662 + 6 * k) ∧ r (47662 + 6 * k) < r (47663 + 6 * k) ∧ r (47663 + 6 * k) ≤ 100) at y
    show (0 ≤ s (47661 + 6 * k) ∧ s (47661 + 6 * k) < s (47660 + 6 * k) ∧ s (47660 + 6 * k) < s 7) ∧ (1 ≤ s (47662 + 6 * k) ∧ s (47662 + 6 * k) < s (47663 + 6 * k) ∧ s (47663 + 6 * k) ≤ 100)
    rw [g (47660 + 6 * k) (by omega) (by omega), g (47661 + 6 * k) (by omega) (by omega), g (47662 + 6 * k) (by omega) (by omega), g (47663 + 6 * k) (by omega) (by omega)]
    omega
  · change (m : Int) < s 9 at hm
    have y := h4 k m hk (by show (m : Int) < r 9; omega)
    show s (47660 + 6 * k) < s (47660 + 6 * m)
    rw [g (47660 + 6 * k) (by omega) (by omega), g (47660 + 6 * m) (by omega) (by omega)]
    exact y
/-- all that is said of TEXTS -/
def pIx (r : Nat → Int) : Prop := pIl r ∧ pIk r ∧ pI1 r ∧ pI2 r ∧ pI6 r
theorem tr_x (c4 : s 4 = r 4) (g : rgn r s 18820 46540) (h : pIx r) : pIx s := by
  obtain ⟨⟨l1, l2, l3⟩, k1, i1, i2, i6⟩ := h
  have n3 : ∀ t : Int, 0 ≤ t → t < r 4 → s ((18820 + (924 * t)) + 3).toNat = r ((18820 + (924 * t)) + 3).toNat := fun t t0 t1 => g _ (by omega) (by omega)
  have n : ∀ t : Int, 0 ≤ t → t < r 4 → s (18820 + (924 * t)).toNat = r (18820 + (924 * t)).toNat := fun t t0 t1 => g _ (by omega) (by omega)
  have m : ∀ t c : Int, 0 ≤ t → t < r 4 → 0 ≤ c → c < r ((18820 + (924 * t)) + 3).toNat → s (((18820 + (924 * t)) + 4) + (10 * c)).toNat = r (((18820 + (924 * t)) + 4) + (10 * c)).toNat ∧ s ((((18820 + (924 * t)) + 4) + (10 * c)) + 1).toNat = r ((((18820 + (924 * t)) + 4) + (10 * c)) + 1).toNat ∧ s ((((18820 + (924 * t)) + 4) + (10 * c)) + 2).toNat = r ((((18820 + (924 * t)) + 4) + (10 * c)) + 2).toNat ∧ s ((((18820 + (924 * t)) + 4) + (10 * c)) + 3).toNat = r ((((18820 + (924 * t)) + 4) + (10 * c)) + 3).toNat := by
    intro t c t0 t1 c0 c1
    have := (l3 t t0 t1).2.1
    exact ⟨g _ (by omega) (by omega), g _ (by omega) (by omega), g _ (by omega) (by omega), g _ (by omega) (by omega)⟩
  refine ⟨⟨by omega, by omega, fun t t0 t1 => ?_⟩, fun t t0 t1 c c0 c1 => ?_, fun t c t0 t1 c0 c1 e => ?_, fun t t0 t1 => ?_, fun t c t0 t1 c0 c1 e => ?_⟩
  · rw [n3 t t0 (by omega)]
    have y := l3 t t0 (by omega)
    refine ⟨y.1, y.2.1, fun c c0 c1 e => ?_⟩
    have z := m t c t0 (by omega) c0 c1
    rw [z.1] at e
    rw [z.2.2.1, z.2.2.2]
    exact y.2.2 c c0 c1 e
  · rw [n3 t t0 (by omega)] at c1
    rw [(m t c t0 (by omega) c0 c1).1]
    exact k1 t t0 (by omega) c c0 c1
  · rw [n3 t t0 (by omega)] at c1
    have z := m t c t0 (by omega) c0 c1
    rw [z.1] at e
    rw [z.2.1]
    exact i1 t c t0 (by omega) c0 c1 e
  · rw [n t t0 (by omega)]
    exact i2 t t0 (by omega)
  · rw [n3 t t0 (by omega)] at c1
    have z := m t c t0 (by omega) c0 c1
    rw [z.1] at e
    rw [z.2.2.1]
    exact i6 t c t0 (by omega) c0 c1 e
theorem tr_e (c13 : s 13 = r 13 ∧ r 13 ≤ 100) (c14 : s 14 = r 14 ∧ r 14 ≤ 40) (g : rgn r s 48960 49520) (h : pIe r) : pIe s := by
  refine ⟨fun i hi => ?_, fun i j hi hj => ?_⟩
  · rw [g (48961 + 4 * i) (by omega) (by omega)]
    exact h.1 i (by omega)
  · rw [g (49360 + 4 * i) (by omega) (by omega), g (49360 + 4 * j) (by omega) (by omega), g (49361 + 4 * i) (by omega) (by omega), g (49361 + 4 * j) (by omega) (by omega)]
    exact h.2 i j hi (by omega)
theorem tr_p (c15 : s 15 = r 15 ∧ r 15 ≤ 100) (g : rgn r s 49520 49920) (h : pIp r) : pIp s := by
  intro i hi
  rw [g (49521 + 4 * i) (by omega) (by omega)]
  exact h i (by omega)
/-- THINGS: the old ones stay, one more of sort k at most -/
theorem tr_t (c0 : r 0 ≤ s 0) (c16 : r 16 ≤ 370) (o : ∀ i : Nat, (i : Int) < s 16 → ((i : Int) < r 16 ∧ s (49920 + 2 * i) = r (49920 + 2 * i) ∧ s (49921 + 2 * i) = r (49921 + 2 * i)) ∨ s (49920 + 2 * i) ≠ 0 ∨ (0 ≤ s (49921 + 2 * i) ∧ s (49921 + 2 * i) < s 0)) (h : pIt r) : pIt s := by
  intro i hi e
  rcases o i hi with ⟨a, b, c⟩ | a | a
  · rw [c]
    rw [b] at e
    have := h i a e
    omega
  · exact absurd e a
  · exact a
theorem tr_r (c0 : s 0 = r 0) (b0 : r 0 ≤ 200) (g : rgn r s 20 18020) (h : pIr (r, q)) : pIr (s, q) := by
  intro l hl
  change (l : Int) < s 0 at hl
  have y := h l (by show (l : Int) < r 0; omega)
  change (0 ≤ r (20 + 90 * l) ∧ r (20 + 90 * l) ≤ 5) ∧ (0 ≤ r (21 + 90 * l) ∧ r (21 + 90 * l) ≤ 15) ∧ (0 ≤ r (22 + 90 * l) ∧ r (22 + 90 * l) ≤ 146399) ∧ (0 ≤ r (23 + 90 * l) ∧ r (23 + 90 * l) ≤ 146399) ∧ ∀ m : Nat, m < 6 → (0 ≤ r (26 + 90 * l + 14 * m) ∧ r (26 + 90 * l + 14 * m) ≤ 12) at y
  show (0 ≤ s (20 + 90 * l) ∧ s (20 + 90 * l) ≤ 5) ∧ (0 ≤ s (21 + 90 * l) ∧ s (21 + 90 * l) ≤ 15) ∧ (0 ≤ s (22 + 90 * l) ∧ s (22 + 90 * l) ≤ 146399) ∧ (0 ≤ s (23 + 90 * l) ∧ s (23 + 90 * l) ≤ 146399) ∧ ∀ m : Nat, m < 6 → (0 ≤ s (26 + 90 * l + 14 * m) ∧ s (26 + 90 * l + 14 * m) ≤ 12)
  rw [g (20 + 90 * l) (by omega) (by omega), g (21 + 90 * l) (by omega) (by omega), g (22 + 90 * l) (by omega) (by omega), g (23 + 90 * l) (by omega) (by omega)]
  refine ⟨y.1, y.2.1, y.2.2.1, y.2.2.2.1, fun m hm => ?_⟩
  rw [g (26 + 90 * l + 14 * m) (by omega) (by omega)]
  exact y.2.2.2.2 m hm
theorem tr_n (c0 : s 0 = r 0) (b0 : r 0 ≤ 200) (g : rgn r s 20 18020) (h : pIn (r, q)) : pIn (s, q) := by
  intro l hl
  change (l : Int) < s 0 at hl
  have y := h l (by show (l : Int) < r 0; omega)
  change -256 ≤ r (24 + 90 * l) ∧ r (24 + 90 * l) ≤ 100351 at y
  show -256 ≤ s (24 + 90 * l) ∧ s (24 + 90 * l) ≤ 100351
  rw [g (24 + 90 * l) (by omega) (by omega)]
  exact y
theorem tr_m (c0 : s 0 = r 0) (b0 : r 0 ≤ 200) (g : rgn r s 20 18020) {m : Nat} (h : sMn (r, q) m) : sMn (s, q) m := by
  obtain ⟨h1, h2⟩ := h
  change ((m / 3 : Nat) : Int) < r 0 at h1
  refine ⟨by show ((m / 3 : Nat) : Int) < s 0; omega, ?_⟩
  have e : sCo (s, q) m = sCo (r, q) m := by
    unfold sCo
    show (if sRo (s (20 + 90 * (m / 3))) ≤ ((m % 3 : Nat) : Int) then -1 else if s (20 + 90 * (m / 3)) = 0 then ((m % 3 : Nat) : Int) else if s (20 + 90 * (m / 3)) = 1 then 3 + ((m % 3 : Nat) : Int) else 3 + s (20 + 90 * (m / 3))) = (if sRo (r (20 + 90 * (m / 3))) ≤ ((m % 3 : Nat) : Int) then -1 else if r (20 + 90 * (m / 3)) = 0 then ((m % 3 : Nat) : Int) else if r (20 + 90 * (m / 3)) = 1 then 3 + ((m % 3 : Nat) : Int) else 3 + r (20 + 90 * (m / 3)))
    rw [g (20 + 90 * (m / 3)) (by omega) (by omega)]
  rw [e]
  exact h2
/-- pEv, but for what belongs to the tables that a call may write -/
theorem pEv_i {E : pE} {t : jT} {w : Nat} {wm : Nat → Nat} : pEv E t w wm ↔ pIj E ∧ pIf E ∧ pIh E ∧ pIs E ∧ pIx E.1 ∧ pIt E.1 ∧ pIe E.1 ∧ pIp E.1 ∧ pTm t ∧ w ≤ 9 ∧ (∀ a : Nat, a < w → sMn E (wm a) ∧ wm a < sNl E ∧ ∀ b : Nat, b < a → wm a ≠ wm b) ∧ (0 ≤ E.1 0 ∧ E.1 0 ≤ 200) :=
  ⟨fun ⟨a, b, c, d, e1, e2, e3, e4, e5, f, g, h, i, j, k, l⟩ => ⟨a, b, c, d, ⟨e1, e2, e3, e4, e5⟩, f, g, h, i, j, k, l⟩, fun ⟨a, b, c, d, ⟨e1, e2, e3, e4, e5⟩, f, g, h, i, j, k, l⟩ => ⟨a, b, c, d, e1, e2, e3, e4, e5, f, g, h, i, j, k, l⟩⟩
end
end jG122

section jG123
/-! pure: invariants of the row: a table gets a row more -/
section
variable {r s : Nat → Int} {q : (Nat → Int) × (Nat → Int) × (Nat → Int) × Int}
theorem gr_j {n : Nat} (hn : r 2 = (n : Int)) (h2 : r 2 < 200) (c2 : s 2 = r 2 + 1) (c0 : r 0 ≤ s 0) (o : rgn r s 18140 (18140 + 3 * n)) (x0 : 0 ≤ s (18140 + 3 * n) ∧ s (18140 + 3 * n) < 3 * s 0) (x1 : 0 ≤ s (18141 + 3 * n) ∧ s (18141 + 3 * n) < 3 * s 0) (h : pIj (r, q)) : pIj (s, q) := by
  obtain ⟨h1, h3⟩ := h
  change 0 ≤ r 2 ∧ r 2 ≤ 200 at h1
  refine ⟨by show 0 ≤ s 2 ∧ s 2 ≤ 200; omega, fun k hk => ?_⟩
  change (k : Int) < s 2 at hk
  show (0 ≤ s (18140 + 3 * k) ∧ s (18140 + 3 * k) < 3 * s 0) ∧ (0 ≤ s (18141 + 3 * k) ∧ s (18141 + 3 * k) < 3 * s 0)
  by_cases z : k = n
  · rw [z]; exact ⟨x0, x1⟩
  · have y := h3 k (by show (k : Int) < r 2; omega)
    change (0 ≤ r (18140 + 3 * k) ∧ r (18140 + 3 * k) < 3 * r 0) ∧ (0 ≤ r (18141 + 3 * k) ∧ r (18141 + 3 * k) < 3 * r 0) at y
    rw [o (18140 + 3 * k) (by omega) (by omega), o (18141 + 3 * k) (by omega) (by omega)]
    omega
theorem gr_f {n : Nat} (hn : r 5 = (n : Int)) (h5 : r 5 < 100) (c5 : s 5 = r 5 + 1) (c0 : r 0 ≤ s 0) (o : rgn r s 46540 (46540 + 6 * n)) (x0 : 0 ≤ s (46540 + 6 * n) ∧ s (46540 + 6 * n) < 3 * s 0) (x2 : 0 ≤ s (46542 + 6 * n) ∧ s (46542 + 6 * n) ≤ 11) (x3 : 0 ≤ s (46543 + 6 * n) ∧ s (46543 + 6 * n) ≤ 146399) (x4 : 0 ≤ s (46544 + 6 * n) ∧ s (46544 + 6 * n) ≤ 146399) (h : pIf (r, q)) : pIf (s, q) := by
  obtain ⟨h1, h3⟩ := h
  change 0 ≤ r 5 ∧ r 5 ≤ 100 at h1
  refine ⟨by show 0 ≤ s 5 ∧ s 5 ≤ 100; omega, fun k hk => ?_⟩
  change (k : Int) < s 5 at hk
  show (0 ≤ s (46540 + 6 * k) ∧ s (46540 + 6 * k) < 3 * s 0) ∧ (0 ≤ s (46542 + 6 * k) ∧ s (46542 + 6 * k) ≤ 11) ∧ (0 ≤ s (46543 + 6 * k) ∧ s (46543 + 6 * k) ≤ 146399) ∧ (0 ≤ s (46544 + 6 * k) ∧ s (46544 + 6 * k) ≤ 146399)
  by_cases z : k = n
  · rw [z]; exact ⟨x0, x2, x3, x4⟩
  · have y := h3 k (by show (k : Int) < r 5; omega)
    change (0 ≤ r (46540 + 6 * k) ∧ r (46540 + 6 * k) < 3 * r 0) ∧ (0 ≤ r (46542 + 6 * k) ∧ r (46542 + 6 * k) ≤ 11) ∧ (0 ≤ r (46543 + 6 * k) ∧ r (46543 + 6 * k) ≤ 146399) ∧ (0 ≤ r (46544 + 6 * k) ∧ r (46544 + 6 * k) ≤ 146399) at y
    rw [o (46540 + 6 * k) (by omega) (by omega), o (46542 + 6 * k) (by omega) (by omega), o (46543 + 6 * k) (by omega) (by omega), o (46544 + 6 * k) (by omega) (by omega)]
    omega
/-- a VALUE more -/
theorem gr_v {n : Nat} (hn : r 8 = (n : Int)) (h8 : r 8 < 100) (c8 : s 8 = r 8 + 1) (c10 : s 10 = r 10) (c0 : r 0 ≤ s 0) (c7 : s 7 = r 7) (c9 : s 9 = r 9) (b9 : r 9 ≤ 40) (o : rgn r s 47260 (47260 + 4 * n)) (g : rgn r s 47660 48300) (x0 : 0 ≤ s (47260 + 4 * n) ∧ s (47260 + 4 * n) < r 7) (x1 : 0 ≤ s (47261 + 4 * n) ∧ s (47261 + 4 * n) ≤ 10000) (x2 : 0 ≤ s (47262 + 4 * n)) (xs : ∀ j : Nat, (j : Int) < r 9 → r (47660 + 6 * j) ≠ s (47260 + 4 * n)) (h : pIh (r, q)) : pIh (s, q) := by
  obtain ⟨h1, h2, h3, h4⟩ := h
  change 0 ≤ r 8 ∧ r 8 ≤ 100 at h1
  change 0 ≤ r 10 ∧ r 10 ≤ 100 at h2
  refine ⟨by show 0 ≤ s 8 ∧ s 8 ≤ 100; omega, by show 0 ≤ s 10 ∧ s 10 ≤ 100; omega, fun k hk => ?_, fun k hk => ?_⟩
  · change (k : Int) < s 8 at hk
    show (0 ≤ s (47260 + 4 * k) ∧ s (47260 + 4 * k) < s 7) ∧ (0 ≤ s (47261 + 4 * k) ∧ s (47261 + 4 * k) ≤ 10000) ∧ 0 ≤ s (47262 + 4 * k) ∧ ∀ j : Nat, (j : Int) < s 9 → s (47660 + 6 * j) ≠ s (47260 + 4 * k)
    by_cases z : k = n
    · rw [z]
      refine ⟨by omega, x1, x2, fun j hj => ?_⟩
      rw [g (47660 + 6 * j) (by omega) (by omega)]
      exact xs j (by omega)
    · have y := h3 k (by show (k : Int) < r 8; omega)
      change (0 ≤ r (47260 + 4 * k) ∧ r (47260 + 4 * k) < r 7) ∧ (0 ≤ r (47261 + 4 * k) ∧ r (47261 + 4 * k) ≤ 10000) ∧ 0 ≤ r (47262 + 4 * k) ∧ ∀ j : Nat, (j : Int) < r 9 → r (47660 + 6 * j) ≠ r (47260 + 4 * k) at y
      rw [o (47260 + 4 * k) (by omega) (by omega), o (47261 + 4 * k) (by omega) (by omega), o (47262 + 4 * k) (by omega) (by omega)]
      refine ⟨by omega, y.2.1, y.2.2.1, fun j hj => ?_⟩
      rw [g (47660 + 6 * j) (by omega) (by omega)]
      exact y.2.2.2 j (by omega)
  · change (k : Int) < s 10 at hk
    have y := h4 k (by show (k : Int) < r 10; omega)
    change (0 ≤ r (47900 + 4 * k) ∧ r (47900 + 4 * k) < r 7) ∧ (-1 ≤ r (47901 + 4 * k) ∧ r (47901 + 4 * k) < 3 * r 0) ∧ 0 ≤ r (47902 + 4 * k) at y
    show (0 ≤ s (47900 + 4 * k) ∧ s (47900 + 4 * k) < s 7) ∧ (-1 ≤ s (47901 + 4 * k) ∧ s (47901 + 4 * k) < 3 * s 0) ∧ 0 ≤ s (47902 + 4 * k)
    rw [g (47900 + 4 * k) (by omega) (by omega), g (47901 + 4 * k) (by omega) (by omega), g (47902 + 4 * k) (by omega) (by omega)]
    omega
/-- a HOLD more -/
theorem gr_o {n : Nat} (hn : r 10 = (n : Int)) (h10 : r 10 < 100) (c10 : s 10 = r 10 + 1) (c8 : s 8 = r 8) (c0 : r 0 ≤ s 0) (c7 : s 7 = r 7) (c9 : s 9 = r 9) (b9 : r 9 ≤ 40) (g : rgn r s 47260 (47900 + 4 * n)) (x0 : 0 ≤ s (47900 + 4 * n) ∧ s (47900 + 4 * n) < r 7) (x1 : -1 ≤ s (47901 + 4 * n) ∧ s (47901 + 4 * n) < 3 * s 0) (x2 : 0 ≤ s (47902 + 4 * n)) (h : pIh (r, q)) : pIh (s, q) := by
  obtain ⟨h1, h2, h3, h4⟩ := h
  change 0 ≤ r 8 ∧ r 8 ≤ 100 at h1
  change 0 ≤ r 10 ∧ r 10 ≤ 100 at h2
  refine ⟨by show 0 ≤ s 8 ∧ s 8 ≤ 100; omega, by show 0 ≤ s 10 ∧ s 10 ≤ 100; omega, fun k hk => ?_, fun k hk => ?_⟩
  · change (k : Int) < s 8 at hk
    have y := h3 k (by show (k : Int) < r 8; omega)
    change (0 ≤ r (47260 + 4 * k) ∧ r (47260 + 4 * k) < r 7) ∧ (0 ≤ r (47261 + 4 * k) ∧ r (47261 + 4 * k) ≤ 10000) ∧ 0 ≤ r (47262 + 4 * k) ∧ ∀ j : Nat, (j : Int) < r 9 → r (47660 + 6 * j) ≠ r (47260 + 4 * k) at y
    show (0 ≤ s (47260 + 4 * k) ∧ s (47260 + 4 * k) < s 7) ∧ (0 ≤ s (47261 + 4 * k) ∧ s (47261 + 4 * k) ≤ 10000) ∧ 0 ≤ s (47262 + 4 * k) ∧ ∀ j : Nat, (j : Int) < s 9 → s (47660 + 6 * j) ≠ s (47260 + 4 * k)
    rw [g (47260 + 4 * k) (by omega) (by omega), g (47261 + 4 * k) (by omega) (by omega), g (47262 + 4 * k) (by omega) (by omega)]
    refine ⟨by omega, y.2.1, y.2.2.1, fun j hj => ?_⟩
    rw [g (47660 + 6 * j) (by omega) (by omega)]
    exact y.2.2.2 j (by omega)
  · change (k : Int) < s 10 at hk
    show (0 ≤ s (47900 + 4 * k) ∧ s (47900 + 4 * k) < s 7) ∧ (-1 ≤ s (47901 + 4 * k) ∧ s (47901 + 4 * k) < 3 * s 0) ∧ 0 ≤ s (47902 + 4 * k)
    by_cases z : k = n
    · rw [z]; exact ⟨by omega, x1, x2⟩
    · have y := h4 k (by show (k : Int) < r 10; omega)
      change (0 ≤ r (47900 + 4 * k) ∧ r (47900 + 4 * k) < r 7) ∧ (-1 ≤ r (47901 + 4 * k) ∧ r (47901 + 4 * k) < 3 * r 0) ∧ 0 ≤ r (47902 + 4 * k) at y
      rw [g (47900 + 4 * k) (by omega) (by omega), g (47901 + 4 * k) (by omega) (by omega), g (47902 + 4 * k) (by omega) (by omega)]
      omega
/-- a SPLIT more -/
theorem gr_s {n : Nat} (hn : r 9 = (n : Int)) (h7 : r 7 < 40) (c7 : s 7 = r 7 + 1) (c9 : s 9 = r 9 + 1) (o : rgn r s 47660 (47660 + 6 * n)) (x0 : s (47660 + 6 * n) = r 7) (x1 : 0 ≤ s (47661 + 6 * n) ∧ s (47661 + 6 * n) < r 7) (x2 : 1 ≤ s (47662 + 6 * n) ∧ s (47662 + 6 * n) < s (47663 + 6 * n) ∧ s (47663 + 6 * n) ≤ 100) (h : pIs (r, q)) : pIs (s, q) := by
  obtain ⟨h1, h2, h3, h4⟩ := h
  change 0 ≤ r 7 ∧ r 7 ≤ 40 at h1
  change 0 ≤ r 9 ∧ r 9 ≤ r 7 at h2
  refine ⟨by show 0 ≤ s 7 ∧ s 7 ≤ 40; omega, by show 0 ≤ s 9 ∧ s 9 ≤ s 7; omega, fun k hk => ?_, fun k m hk hm => ?_⟩
  · change (k : Int) < s 9 at hk
    show (0 ≤ s (47661 + 6 * k) ∧ s (47661 + 6 * k) < s (47660 + 6 * k) ∧ s (47660 + 6 * k) < s 7) ∧ (1 ≤ s (47662 + 6 * k) ∧ s (47662 + 6 * k) < s (47663 + 6 * k) ∧ s (47663 + 6 * k) ≤ 100)
    by_cases z : k = n
    · rw [z]; exact ⟨by omega, x2⟩
    · have y := h3 k (by show (k : Int) < r 9; omega)
      change (0 ≤ r (47661 + 6 * k) ∧ r (47661 + 6 * k) < r (47660 + 6 * k) ∧ r (47660 + 6 * k) < r 7) ∧ (1 ≤ r (47662 + 6 * k) ∧ r (47662 + 6 * k) < r (47663 + 6 * k) ∧ r (47663 + 6 * k) ≤ 100) at y
      rw [o (47660 + 6 * k) (by omega) (by omega), o (47661 + 6 * k) (by omega) (by omega), o (47662 + 6 * k) (by omega) (by omega), o (47663 + 6 * k) (by omega) (by omega)]
      omega
  · change (m : Int) < s 9 at hm
    show s (47660 + 6 * k) < s (47660 + 6 * m)
    rw [o (47660 + 6 * k) (by omega) (by omega)]
    by_cases z : m = n
    · have y := h3 k (by show (k : Int) < r 9; omega)
      change (0 ≤ r (47661 + 6 * k) ∧ r (47661 + 6 * k) < r (47660 + 6 * k) ∧ r (47660 + 6 * k) < r 7) ∧ (1 ≤ r (47662 + 6 * k) ∧ r (47662 + 6 * k) < r (47663 + 6 * k) ∧ r (47663 + 6 * k) ≤ 100) at y
      rw [z, x0]
      omega
    · rw [o (47660 + 6 * m) (by omega) (by omega)]
      exact h4 k m hk (by show (m : Int) < r 9; omega)
/-- an ENTRY more -/
theorem gr_e {n : Nat} (hn : r 13 = (n : Int)) (c13 : s 13 = r 13 + 1) (c14 : s 14 = r 14 ∧ r 14 ≤ 40) (o : rgn r s 48960 (48960 + 4 * n)) (g : rgn r s 49360 49520) (x1 : 0 ≤ s (48961 + 4 * n) ∧ s (48961 + 4 * n) ≤ 399) (h : pIe r) : pIe s := by
  refine ⟨fun i hi => ?_, fun i j hi hj => ?_⟩
  · by_cases z : i = n
    · rw [z]; exact x1
    · rw [o (48961 + 4 * i) (by omega) (by omega)]
      exact h.1 i (by omega)
  · rw [g (49360 + 4 * i) (by omega) (by omega), g (49360 + 4 * j) (by omega) (by omega), g (49361 + 4 * i) (by omega) (by omega), g (49361 + 4 * j) (by omega) (by omega)]
    exact h.2 i j hi (by omega)
/-- a book closed -/
theorem gr_c {n : Nat} (hn : r 14 = (n : Int)) (h14 : r 14 < 40) (c14 : s 14 = r 14 + 1) (c13 : s 13 = r 13 ∧ r 13 ≤ 100) (o : rgn r s 48960 (49360 + 4 * n)) (x : ∀ i : Nat, i < n → r (49360 + 4 * i) = s (49360 + 4 * n) → r (49361 + 4 * i) < s (49361 + 4 * n)) (h : pIe r) : pIe s := by
  refine ⟨fun i hi => ?_, fun i j hi hj => ?_⟩
  · rw [o (48961 + 4 * i) (by omega) (by omega)]
    exact h.1 i (by omega)
  · rw [o (49360 + 4 * i) (by omega) (by omega), o (49361 + 4 * i) (by omega) (by omega)]
    by_cases z : j = n
    · rw [z]; exact x i (by omega)
    · rw [o (49360 + 4 * j) (by omega) (by omega), o (49361 + 4 * j) (by omega) (by omega)]
      exact h.2 i j hi (by omega)
theorem gr_p {n : Nat} (hn : r 15 = (n : Int)) (c15 : s 15 = r 15 + 1) (o : rgn r s 49520 (49520 + 4 * n)) (x1 : 0 ≤ s (49521 + 4 * n)) (h : pIp r) : pIp s := by
  intro i hi
  by_cases z : i = n
  · rw [z]; exact x1
  · rw [o (49521 + 4 * i) (by omega) (by omega)]
    exact h i (by omega)
/-- THINGS: one more, not a LINE -/
theorem gr_t {n : Nat} (hn : r 16 = (n : Int)) (c0 : r 0 ≤ s 0) (c16 : s 16 = r 16 + 1) (h16 : r 16 < 370) (o : rgn r s 49920 (49920 + 2 * n)) (x0 : s (49920 + 2 * n) ≠ 0) (h : pIt r) : pIt s := tr_t c0 (by omega) (fun i hi => by
  by_cases z : i = n
  · rw [z]; exact Or.inr (Or.inl x0)
  · exact Or.inl ⟨by omega, o _ (by omega) (by omega), o _ (by omega) (by omega)⟩) h
theorem sa_t (c0 : r 0 ≤ s 0) (c16 : s 16 = r 16) (h16 : r 16 ≤ 370) (o : rgn r s 49920 50660) (h : pIt r) : pIt s := tr_t c0 h16 (fun i hi => Or.inl ⟨by omega, o _ (by omega) (by omega), o _ (by omega) (by omega)⟩) h
theorem sa_h (c8 : s 8 = r 8) (c10 : s 10 = r 10) (c0 : r 0 ≤ s 0) (c7 : r 7 ≤ s 7) (c9 : s 9 = r 9) (b9 : r 9 ≤ 40) (g : rgn r s 47260 48300) (h : pIh (r, q)) : pIh (s, q) := tr_h c8 c10 c0 c7 (fun j hj => Or.inl ⟨by omega, g _ (by omega) (by omega)⟩) (fun j j1 j2 => g j (by omega) (by omega)) (fun j j1 j2 => g j (by omega) (by omega)) h
/-- pEv from its parts, while LINES stay -/
theorem ev_c {t : jT} {w : Nat} {wm : Nat → Nat} (V : pEv (r, q) t w wm) (c0 : s 0 = r 0) (g0 : rgn r s 20 18020) (hj : pIj (s, q)) (hf : pIf (s, q)) (hh : pIh (s, q)) (hs : pIs (s, q)) (hx : pIx s) (ht : pIt s) (he : pIe s) (hp : pIp s) : pEv (s, q) t w wm := by
  obtain ⟨_, _, _, _, _, _, _, _, tm, w9, wi, b0⟩ := pEv_i.mp V
  change 0 ≤ r 0 ∧ r 0 ≤ 200 at b0
  refine pEv_i.mpr ⟨hj, hf, hh, hs, hx, ht, he, hp, tm, w9, fun a ha => ?_, by show 0 ≤ s 0 ∧ s 0 ≤ 200; omega⟩
  obtain ⟨w1, w2, w3⟩ := wi a ha
  refine ⟨tr_m c0 (by omega) g0 w1, ?_, w3⟩
  unfold sNl at w2 ⊢
  change wm a < 3 * (r 0).toNat at w2
  show wm a < 3 * (s 0).toNat
  omega
end
end jG123
