section jG77
/-! pure: LEVIES worked out on both sides -/
theorem sGv_z {n : Nat} : ∀ (k : Nat) (s : (Nat → Int) × (Nat → Int)), rsO s.2 n → (k : Int) ≤ rsC s.2 n → ∀ h : Nat, (s.2 h = -1 → (sGv n k s).1 h = s.1 h) ∧ s.1 h ≤ (sGv n k s).1 h
  | 0, s, _, _, h => ⟨fun _ => rfl, Int.le_refl _⟩
  | k + 1, s, o, hc, h => by
    obtain ⟨a, a1, a2, a3, a4, a5⟩ := sGv_o o (by omega)
    have ih := sGv_z (n := n) k (sU s.1 a (s.1 a + 1), sU s.2 a (-1)) a4 (by show (k : Int) ≤ rsC (sU s.2 a (-1)) n; rw [a5]; omega) h
    have e : sGv n (k + 1) s = sGv n k (sU s.1 a (s.1 a + 1), sU s.2 a (-1)) := by
      show sGv n k (sU s.1 (gRs s.2 n).2.toNat (s.1 (gRs s.2 n).2.toNat + 1), sU s.2 (gRs s.2 n).2.toNat (-1)) = _
      rw [a2]
      rfl
    rw [e]
    have i1 : sU s.2 a (-1) h = -1 → (sGv n k (sU s.1 a (s.1 a + 1), sU s.2 a (-1))).1 h = sU s.1 a (s.1 a + 1) h := ih.1
    have i2 : sU s.1 a (s.1 a + 1) h ≤ (sGv n k (sU s.1 a (s.1 a + 1), sU s.2 a (-1))).1 h := ih.2
    by_cases c : h = a
    · rw [sU_e c] at i2
      refine ⟨fun z => ?_, by rw [c] at i2 ⊢; omega⟩
      rw [c] at z; omega
    · rw [sU_n c] at i2
      rw [sU_n c, sU_n c] at i1
      exact ⟨i1, i2⟩
theorem ow_z {P A : Int} {w : Nat → Int} {n : Nat} (H : sPw P w n) (eA : sSx w n = A) {q : Nat} (hq : q < n) : 0 ≤ sOw P A w n q ∧ (w q = 0 → sOw P A w n q = 0) := by
  have lb := lf_b H eA
  have bA := su_b H n (Nat.le_refl n)
  have z := sGv_z (n := n) (sL0 P A - sSx (sS1 P A w) n).toNat (sS1 P A w, sR1 P A w) (sR_o (n := n) (by omega)) (by show _ ≤ rsC (sR1 P A w) n; omega) q
  have b := s1_2 H eA hq
  have z1 : sR1 P A w q = -1 → sOw P A w n q = sS1 P A w q := z.1
  have z2 : sS1 P A w q ≤ sOw P A w n q := z.2
  refine ⟨by omega, fun e => ?_⟩
  have e2 : sR1 P A w q = -1 := by
    unfold sR1
    by_cases y : A = 0
    · rw [if_pos y]
    · rw [if_neg y, if_pos e]
  have e1 : sS1 P A w q = 0 := by
    unfold sS1
    by_cases y : A = 0
    · rw [if_pos y]
    · rw [if_neg y, e, Int.mul_zero]; exact Int.zero_ediv A
  rw [z1 e2, e1]
noncomputable def sBx (E : pE) (g : Nat → Int) (d kn ki wh s : Int) : Int := cBy (sCk E.1 d kn ki wh fun w => sQu E g d kn w s) 720
noncomputable def sSv (E : pE) (g : Nat → Int) (d kn ki wh s : Int) : Int := cSu (sCk E.1 d kn ki wh fun w => sQu E g d kn w s) (sSq E.1 fun w => sQu E g d kn w s) 720
def sVl (E : pE) (d kn : Int) (q : Nat) : Int := sLf E d kn (E.1 7).toNat q
def sHo (E : pE) (g : Nat → Int) (d kn : Int) (q : Nat) : Int := sHa E g d kn (E.1 7).toNat q
/-- holders are SOULS -/
def pHq (E : pE) (g : Nat → Int) (d kn : Int) : Prop := ∀ q : Nat, (q : Int) < E.1 7 → sHo E g d kn q = -1 ∨ ∃ p : Nat, p < sNl E ∧ sHo E g d kn q = (p : Int) ∧ g p = (p : Int)
def sPz (E : pE) (g : Nat → Int) (d kn wh : Int) (q : Nat) : Prop := 0 < sVl E d kn q ∧ sHo E g d kn q ≠ -1 ∧ sBx E g d kn 2 wh (sHo E g d kn q) = -1
noncomputable def sWt (E : pE) (g : Nat → Int) (d kn wh : Int) (q : Nat) : Int := if tv (sPz E g d kn wh q) = 0 then 0 else sVl E d kn q
noncomputable def sOd (E : pE) (g : Nat → Int) (d kn wh P : Int) (q : Nat) : Int := sOw P (sSx (sWt E g d kn wh) (E.1 7).toNat) (sWt E g d kn wh) (E.1 7).toNat q
/-- what HOLDING q owes of a LEVY -/
noncomputable def sLv (E : pE) (g : Nat → Int) (d kn wh P : Int) (q : Nat) : Int := if tv (sPz E g d kn wh q) = 0 then 0 else if sBx E g d kn 3 wh (sHo E g d kn q) = -1 then sOd E g d kn wh P q else min (sOd E g d kn wh P q) (max 0 (sSv E g d kn 3 wh (sHo E g d kn q)))
section
variable {E : pE} {g : Nat → Int} {d kn wh P : Int}
theorem sW_h (I : pIq E g) (hP : 0 ≤ P ∧ P ≤ 1000000) : sPw P (sWt E g d kn wh) (E.1 7).toNat := by
  have b := I.2.2.1.1
  refine ⟨hP, by omega, fun h _ => ?_⟩
  have q : 0 ≤ sVl E d kn h ∧ sVl E d kn h ≤ 10000 := sLf_b I.2.1 I.2.2.1 _ h
  unfold sWt
  by_cases c : tv (sPz E g d kn wh h) = 0
  · rw [if_pos c]; exact ⟨by decide, by decide⟩
  · rw [if_neg c]; exact q
theorem tv_y {Q : Prop} (h : Q) : tv Q = 1 := if_pos h
theorem tv_z {Q : Prop} (h : ¬ Q) : tv Q = 0 := if_neg h
theorem sW_y {q : Nat} (h : sPz E g d kn wh q) : sWt E g d kn wh q = sVl E d kn q := if_neg (by rw [tv_y h]; decide)
theorem sW_n {q : Nat} (h : ¬ sPz E g d kn wh q) : sWt E g d kn wh q = 0 := if_pos (tv_z h)
/-- the class: who pays -/
theorem x77 {X : jW} (Q : pV X E g d kn) (I : pIq E g) (hd : 0 ≤ d ∧ d ≤ 146399) (Hs : pHq E g d kn) (Ik : pIk E.1) (Il : pIl E.1) (O : ∀ p : Nat, p < sNl E → g p = (p : Int) → qOk fun w => sQu E g d kn w (p : Int)) (hP : 0 ≤ P ∧ P ≤ 1000000) : ∀ (c h r : Nat) (W : jW), (E.1 7).toNat - h = c → c < r → (h : Int) ≤ E.1 7 → pZ X W → (∀ j : Nat, j < h → W.1 109 j = sWt E g d kn wh j) → ∃ V : jW, d_X4_partOut_r107d_77 r wh P (sSx (sWt E g d kn wh) h) (h : Int) W = d_X4_partOut_r107d_198 41 wh 0 (d_X4_share_r107d P (sSx (sWt E g d kn wh) (E.1 7).toNat) V) ∧ pZ X V ∧ ∀ j : Nat, (j : Int) < E.1 7 → V.1 109 j = sWt E g d kn wh j := by
  have b7 := I.2.2.1.1
  have H := sW_h (d := d) (kn := kn) (wh := wh) I hP
  intro c
  induction c with
  | zero =>
    intro h r W e hr hh z hp
    obtain ⟨r, rfl⟩ : ∃ q, r = q + 1 := ⟨r - 1, by omega⟩
    have e49 : W.1 49 3 = E.1 7 := (z.1 49 3 (by omega) rfl).trans Q.1.2.1.1
    refine ⟨W, ?_, z, fun j hj => hp j (by omega)⟩
    rw [show (E.1 7).toNat = h from by omega]
    exact if_pos (by omega)
  | succ c ih =>
    intro h r W e hr hh z hp
    obtain ⟨r, rfl⟩ : ∃ q, r = q + 1 := ⟨r - 1, by omega⟩
    have e49 : W.1 49 3 = E.1 7 := (z.1 49 3 (by omega) rfl).trans Q.1.2.1.1
    have hn : (h : Int).toNat = h := by omega
    have q2 := Q.1.2.1.2 h (by omega)
    have e102 : W.1 102 h = sVl E d kn h := (z.1 102 h (by omega) rfl).trans q2.1
    have e103 : W.1 103 h = sHo E g d kn h := (z.1 103 h (by omega) rfl).trans q2.2
    have sb := su_b H h (by omega)
    have wb := H.2.2 h (by omega)
    have go : ∀ (U : jW) (x : Int), pZ X U → (∀ j : Nat, j < h → U.1 109 j = sWt E g d kn wh j) → x = sWt E g d kn wh h → ∃ V : jW, d_X4_partOut_r107d_77 r wh P (j_ladd (sSx (sWt E g d kn wh) h) ((vu U 109 (h : Int).toNat x).1 109 (h : Int).toNat)) ((h : Int) + 1) (vu U 109 (h : Int).toNat x) = d_X4_partOut_r107d_198 41 wh 0 (d_X4_share_r107d P (sSx (sWt E g d kn wh) (E.1 7).toNat) V) ∧ pZ X V ∧ ∀ j : Nat, (j : Int) < E.1 7 → V.1 109 j = sWt E g d kn wh j := by
      intro U x a1 a2 a3
      rw [hn, vu_e rfl, a3, l_a (by omega) (by omega) (by omega)]
      have y := ih (h + 1) r (vu U 109 h (sWt E g d kn wh h)) (by omega) (by omega) (by omega) (pZ_u a1 (by omega)) (fun j hj => by
        by_cases c : j = h
        · rw [c]; exact vu_e rfl
        · exact (vu_n (by omega)).trans (a2 j (by omega)))
      rw [show ((h + 1 : Nat) : Int) = (h : Int) + 1 from by omega] at y
      exact y
    show ∃ V : jW, (if min 40 (W.1 49 3) ≤ (h : Int) then _ else (if W.1 102 (h : Int).toNat ≤ 0 then d_X4_partOut_r107d_77 r wh P (j_ladd (sSx (sWt E g d kn wh) h) ((vu W 109 (h : Int).toNat 0).1 109 (h : Int).toNat)) ((h : Int) + 1) (vu W 109 (h : Int).toNat 0) else (if W.1 103 (h : Int).toNat = -1 then d_X4_partOut_r107d_77 r wh P (j_ladd (sSx (sWt E g d kn wh) h) ((vu W 109 (h : Int).toNat 0).1 109 (h : Int).toNat)) ((h : Int) + 1) (vu W 109 (h : Int).toNat 0) else (if (d_X0_weigh_r98d 1 wh (W.1 103 (h : Int).toNat) W).1 = 0 then d_X4_partOut_r107d_77 r wh P (j_ladd (sSx (sWt E g d kn wh) h) ((vu (d_X0_weigh_r98d 1 wh (W.1 103 (h : Int).toNat) W).2 109 (h : Int).toNat ((d_X0_weigh_r98d 1 wh (W.1 103 (h : Int).toNat) W).2.1 102 (h : Int).toNat)).1 109 (h : Int).toNat)) ((h : Int) + 1) (vu (d_X0_weigh_r98d 1 wh (W.1 103 (h : Int).toNat) W).2 109 (h : Int).toNat ((d_X0_weigh_r98d 1 wh (W.1 103 (h : Int).toNat) W).2.1 102 (h : Int).toNat)) else d_X4_partOut_r107d_77 r wh P (j_ladd (sSx (sWt E g d kn wh) h) ((vu (d_X0_weigh_r98d 1 wh (W.1 103 (h : Int).toNat) W).2 109 (h : Int).toNat 0).1 109 (h : Int).toNat)) ((h : Int) + 1) (vu (d_X0_weigh_r98d 1 wh (W.1 103 (h : Int).toNat) W).2 109 (h : Int).toNat 0))))) = _ ∧ _
    have e102' : W.1 102 (h : Int).toNat = sVl E d kn h := by rw [hn]; exact e102
    have e103' : W.1 103 (h : Int).toNat = sHo E g d kn h := by rw [hn]; exact e103
    rw [if_neg (by omega), e102', e103']
    by_cases c1 : sVl E d kn h ≤ 0
    · rw [if_pos c1]
      exact go W 0 z hp (sW_n (fun y => by have := y.1; omega)).symm
    rw [if_neg c1]
    by_cases c2 : sHo E g d kn h = -1
    · rw [if_pos c2]
      exact go W 0 z hp (sW_n (fun y => y.2.1 c2)).symm
    rw [if_neg c2]
    rcases Hs h (by omega) with y | ⟨p, p1, p2, p3⟩
    · exact absurd y c2
    rw [p2]
    obtain ⟨V, v1, v2, v3, v4, v5⟩ := xwz Q I hd p1 p3 Ik Il (O p p1 p3) (ki := 1) (wh := wh) ⟨by decide, by decide⟩ z
    have v9 := (v3 109 (by omega) (by omega)).1
    have v102 : V.1 102 (h : Int).toNat = sVl E d kn h := by rw [hn]; exact (v2.1 102 h (by omega) rfl).trans q2.1
    have bx : V.1 98 13 = sBx E g d kn 2 wh (sHo E g d kn h) := by rw [p2]; exact v4
    rw [v1]
    show ∃ U : jW, (if (if V.1 98 13 = -1 then (0 : Int) else 1) = 0 then d_X4_partOut_r107d_77 r wh P (j_ladd (sSx (sWt E g d kn wh) h) ((vu V 109 (h : Int).toNat (V.1 102 (h : Int).toNat)).1 109 (h : Int).toNat)) ((h : Int) + 1) (vu V 109 (h : Int).toNat (V.1 102 (h : Int).toNat)) else d_X4_partOut_r107d_77 r wh P (j_ladd (sSx (sWt E g d kn wh) h) ((vu V 109 (h : Int).toNat 0).1 109 (h : Int).toNat)) ((h : Int) + 1) (vu V 109 (h : Int).toNat 0)) = _ ∧ _
    by_cases c3 : V.1 98 13 = -1
    · rw [if_pos c3, if_pos rfl]
      exact go V _ v2 (fun j hj => by rw [v9]; exact hp j hj) (by rw [v102]; exact (sW_y ⟨by omega, c2, by rw [← bx]; exact c3⟩).symm)
    · rw [if_neg c3, if_neg (by decide)]
      exact go V 0 v2 (fun j hj => by rw [v9]; exact hp j hj) (sW_n (fun y => c3 (by rw [bx]; exact y.2.2))).symm
/-- the class: what is owed at most -/
theorem x198 {X : jW} (Q : pV X E g d kn) (I : pIq E g) (hd : 0 ≤ d ∧ d ≤ 146399) (Hs : pHq E g d kn) (Ik : pIk E.1) (Il : pIl E.1) (O : ∀ p : Nat, p < sNl E → g p = (p : Int) → qOk fun w => sQu E g d kn w (p : Int)) (hP : 0 ≤ P ∧ P ≤ 1000000) : ∀ (c h r : Nat) (W : jW), (E.1 7).toNat - h = c → c < r → (h : Int) ≤ E.1 7 → pZ X W → (∀ j : Nat, j < h → W.1 108 j = sLv E g d kn wh P j) → (∀ j : Nat, h ≤ j → (j : Int) < E.1 7 → W.1 108 j = sOd E g d kn wh P j) → pZ X (d_X4_partOut_r107d_198 r wh (h : Int) W) ∧ ∀ j : Nat, (j : Int) < E.1 7 → (d_X4_partOut_r107d_198 r wh (h : Int) W).1 108 j = sLv E g d kn wh P j := by
  have b7 := I.2.2.1.1
  have H := sW_h (d := d) (kn := kn) (wh := wh) I hP
  intro c
  induction c with
  | zero =>
    intro h r W e hr hh z hp hs
    obtain ⟨r, rfl⟩ : ∃ q, r = q + 1 := ⟨r - 1, by omega⟩
    have e49 : W.1 49 3 = E.1 7 := (z.1 49 3 (by omega) rfl).trans Q.1.2.1.1
    have e1 : d_X4_partOut_r107d_198 (r + 1) wh (h : Int) W = W := if_pos (by omega)
    rw [e1]
    exact ⟨z, fun j hj => hp j (by omega)⟩
  | succ c ih =>
    intro h r W e hr hh z hp hs
    obtain ⟨r, rfl⟩ : ∃ q, r = q + 1 := ⟨r - 1, by omega⟩
    have e49 : W.1 49 3 = E.1 7 := (z.1 49 3 (by omega) rfl).trans Q.1.2.1.1
    have hn : (h : Int).toNat = h := by omega
    have q2 := Q.1.2.1.2 h (by omega)
    have e103 : W.1 103 (h : Int).toNat = sHo E g d kn h := by rw [hn]; exact (z.1 103 h (by omega) rfl).trans q2.2
    have e108 : W.1 108 (h : Int).toNat = sOd E g d kn wh P h := by rw [hn]; exact hs h (Nat.le_refl h) (by omega)
    have oz : 0 ≤ sOd E g d kn wh P h ∧ (sWt E g d kn wh h = 0 → sOd E g d kn wh P h = 0) := ow_z H rfl (by omega)
    have go : ∀ U : jW, pZ X U → (∀ j : Nat, j < h → U.1 108 j = sLv E g d kn wh P j) → (∀ j : Nat, h < j → (j : Int) < E.1 7 → U.1 108 j = sOd E g d kn wh P j) → U.1 108 h = sLv E g d kn wh P h → pZ X (d_X4_partOut_r107d_198 r wh ((h : Int) + 1) U) ∧ ∀ j : Nat, (j : Int) < E.1 7 → (d_X4_partOut_r107d_198 r wh ((h : Int) + 1) U).1 108 j = sLv E g d kn wh P j := by
      intro U a1 a2 a3 a4
      have y := ih (h + 1) r U (by omega) (by omega) (by omega) a1 (fun j hj => by
        by_cases c : j = h
        · rw [c]; exact a4
        · exact a2 j (by omega)) (fun j h1 h2 => a3 j (by omega) h2)
      rw [show ((h + 1 : Nat) : Int) = (h : Int) + 1 from by omega] at y
      exact y
    have st : d_X4_partOut_r107d_198 (r + 1) wh (h : Int) W = (if sOd E g d kn wh P h ≤ 0 then d_X4_partOut_r107d_198 r wh ((h : Int) + 1) W else (if (d_X0_weigh_r98d 2 wh (sHo E g d kn h) W).1 = 0 then d_X4_partOut_r107d_198 r wh ((h : Int) + 1) (d_X0_weigh_r98d 2 wh (sHo E g d kn h) W).2 else d_X4_partOut_r107d_198 r wh ((h : Int) + 1) (vu (d_X0_weigh_r98d 2 wh (sHo E g d kn h) W).2 108 h (min (sOd E g d kn wh P h) (max 0 ((d_X0_weigh_r98d 2 wh (sHo E g d kn h) W).2.2.1 98 14)))))) := by
      refine (if_neg (by omega)).trans ?_
      rw [e103, e108, hn]
      rfl
    rw [st]
    by_cases c1 : sOd E g d kn wh P h ≤ 0
    · rw [if_pos c1]
      refine go W z hp (fun j h1 h2 => hs j (by omega) h2) ?_
      rw [hs h (Nat.le_refl h) (by omega)]
      unfold sLv
      by_cases c2 : tv (sPz E g d kn wh h) = 0
      · rw [if_pos c2]; omega
      · rw [if_neg c2]
        by_cases c3 : sBx E g d kn 3 wh (sHo E g d kn h) = -1
        · rw [if_pos c3]
        · rw [if_neg c3]; omega
    rw [if_neg c1]
    have py : sPz E g d kn wh h := Classical.byContradiction fun n => c1 (by rw [oz.2 (sW_n n)]; decide)
    have tp := tv_y py
    rcases Hs h (by omega) with y | ⟨p, p1, p2, p3⟩
    · exact absurd y py.2.1
    obtain ⟨V, v1, v2, v3, v4, v5⟩ := xwz Q I hd p1 p3 Ik Il (O p p1 p3) (ki := 2) (wh := wh) ⟨by decide, by decide⟩ z
    have v8 := (v3 108 (by omega) (by omega)).1
    have bx : V.1 98 13 = sBx E g d kn 3 wh (sHo E g d kn h) := by rw [p2]; exact v4
    have sx : V.2.1 98 14 = sSv E g d kn 3 wh (sHo E g d kn h) := by rw [p2]; exact v5
    have v1' : d_X0_weigh_r98d 2 wh (sHo E g d kn h) W = (if V.1 98 13 = -1 then 0 else 1, V) := by rw [p2]; exact v1
    rw [v1']
    show pZ X (if (if V.1 98 13 = -1 then (0 : Int) else 1) = 0 then d_X4_partOut_r107d_198 r wh ((h : Int) + 1) V else d_X4_partOut_r107d_198 r wh ((h : Int) + 1) (vu V 108 h (min (sOd E g d kn wh P h) (max 0 (V.2.1 98 14))))) ∧ ∀ j : Nat, (j : Int) < E.1 7 → (if (if V.1 98 13 = -1 then (0 : Int) else 1) = 0 then d_X4_partOut_r107d_198 r wh ((h : Int) + 1) V else d_X4_partOut_r107d_198 r wh ((h : Int) + 1) (vu V 108 h (min (sOd E g d kn wh P h) (max 0 (V.2.1 98 14))))).1 108 j = sLv E g d kn wh P j
    by_cases c3 : V.1 98 13 = -1
    · rw [if_pos c3, if_pos rfl]
      refine go V v2 (fun j hj => by rw [v8]; exact hp j hj) (fun j h1 h2 => by rw [v8]; exact hs j (by omega) h2) ?_
      rw [v8, hs h (Nat.le_refl h) (by omega)]
      unfold sLv
      rw [tp, if_neg (by decide), if_pos (by rw [← bx]; exact c3)]
    · rw [if_neg c3, if_neg (by decide)]
      refine go _ (pZ_u v2 (by omega)) (fun j hj => (vu_n (by omega)).trans (by rw [v8]; exact hp j hj)) (fun j h1 h2 => (vu_n (by omega)).trans (by rw [v8]; exact hs j (by omega) h2)) ?_
      rw [vu_e rfl, sx]
      unfold sLv
      rw [tp, if_neg (by decide), if_neg (by rw [← bx]; exact c3)]
end
end jG77

section jG78
/-! pure: LEVIES worked out at the reference; both together -/
section
variable {E : pE} {g : Nat → Int} {d kn wh P : Int}
theorem kf_c {W V : jW} {r : Nat → Int} (K : pKf W r kn) (e1 : V.1 125 = W.1 125) (e2 : V.1 152 = W.1 152) (e3 : V.1 153 = W.1 153) : pKf V r kn := by
  unfold pKf pMf at *
  rw [e1, e2, e3]
  exact K
theorem m51 {M : jW} (Q : pMs M E g) (I : pIq E g) (hn : M.1 125 28 = kn) (hd : 0 ≤ d ∧ d ≤ 146399) (Hs : pHq E g d kn) (Il : pIl E.1) (I2 : pI2 E.1) (C : pCa E.1) (O : ∀ p : Nat, p < sNl E → g p = (p : Int) → qOk fun w => sQu E g d kn w (p : Int)) (hP : 0 ≤ P ∧ P ≤ 1000000) (Z : pHz (M.1 162) (M.1 163) 40 E g d kn (E.1 7).toNat) {l2 : Int} (h2 : M.1 126 (l2 + 2).toNat = P) : ∀ (c h r : Nat) (W : jW), (E.1 7).toNat - h = c → c < r → (h : Int) ≤ E.1 7 → pZm M W → pKf W E.1 kn → (∀ j : Nat, j < h → W.1 167 j = tv (sPz E g d kn wh j) ∧ W.2.1 165 j = 0 ∧ W.2.1 166 j = -1) → ∃ V : jW, d_X12_partLevy_r125d_51 r l2 wh d (E.1 7) (sSx (sWt E g d kn wh) h) (h : Int) W = d_X12_partLevy_r125d_196 41 l2 wh d (E.1 7) (sSx (sWt E g d kn wh) (E.1 7).toNat) (sL0 P (sSx (sWt E g d kn wh) (E.1 7).toNat)) 0 V ∧ pZm M V ∧ pKf V E.1 kn ∧ ∀ j : Nat, (j : Int) < E.1 7 → V.1 167 j = tv (sPz E g d kn wh j) ∧ V.2.1 165 j = 0 ∧ V.2.1 166 j = -1 := by
  have b7 := I.2.2.1.1
  have H := sW_h (d := d) (kn := kn) (wh := wh) I hP
  intro c
  induction c with
  | zero =>
    intro h r W e hr hh z K hp
    obtain ⟨r, rfl⟩ : ∃ q, r = q + 1 := ⟨r - 1, by omega⟩
    refine ⟨W, ?_, z, K, fun j hj => hp j (by omega)⟩
    rw [show (E.1 7).toNat = h from by omega]
    have ew : W.1 126 (l2 + 2).toNat = P := by rw [zm_126 z]; exact h2
    refine (if_pos (by omega)).trans ?_
    unfold sL0
    by_cases y : sSx (sWt E g d kn wh) h = 0
    · rw [if_pos y, if_pos y]; rfl
    · rw [if_neg y, if_neg y, ew]; rfl
  | succ c ih =>
    intro h r W e hr hh z K hp
    obtain ⟨r, rfl⟩ : ∃ q, r = q + 1 := ⟨r - 1, by omega⟩
    have hn' : (h : Int).toNat = h := by omega
    have h40 : (40 + (h : Int)).toNat = 40 + h := by omega
    have zq := Z h (by omega)
    have f62 := z.2.2.2.2 (40 + h) (by omega)
    have e162 : W.1 162 (40 + h) = sVl E d kn h := f62.1.trans zq.1
    have e163 : W.1 163 (40 + h) = sHo E g d kn h := f62.2.trans zq.2
    have W1 : pZm M (vuL (vuL W 165 h 0) 166 h (-1)) := pZm_l (pZm_l z (by decide)) (by decide)
    have K1 : pKf (vuL (vuL W 165 h 0) 166 h (-1)) E.1 kn := kf_c K rfl rfl rfl
    have go : ∀ (U : jW) (f x : Int), pZm M U → pKf U E.1 kn → (∀ j : Nat, 165 ≤ j → U.1 j = W.1 j ∧ U.2.1 j = (vuL (vuL W 165 h 0) 166 h (-1)).2.1 j) → f = tv (sPz E g d kn wh h) → x = sWt E g d kn wh h → ∃ V : jW, d_X12_partLevy_r125d_51 r l2 wh d (E.1 7) (sSx (sWt E g d kn wh) h + x) ((h : Int) + 1) (vu U 167 h f) = d_X12_partLevy_r125d_196 41 l2 wh d (E.1 7) (sSx (sWt E g d kn wh) (E.1 7).toNat) (sL0 P (sSx (sWt E g d kn wh) (E.1 7).toNat)) 0 V ∧ pZm M V ∧ pKf V E.1 kn ∧ ∀ j : Nat, (j : Int) < E.1 7 → V.1 167 j = tv (sPz E g d kn wh j) ∧ V.2.1 165 j = 0 ∧ V.2.1 166 j = -1 := by
      intro U f x a1 a2 a3 a4 a5
      have y := ih (h + 1) r (vu U 167 h f) (by omega) (by omega) (by omega) (pZm_u a1 (by decide)) (kf_c a2 (vu_c (by decide)) (vu_c (by decide)) (vu_c (by decide))) (fun j hj => by
        have u5 : (vu U 167 h f).2.1 165 j = (vuL (vuL W 165 h 0) 166 h (-1)).2.1 165 j := congrFun (a3 165 (by decide)).2 j
        have u6 : (vu U 167 h f).2.1 166 j = (vuL (vuL W 165 h 0) 166 h (-1)).2.1 166 j := congrFun (a3 166 (by decide)).2 j
        rw [u5, u6]
        by_cases c : j = h
        · rw [c]
          exact ⟨(vu_e rfl).trans a4, (vl_n (by omega)).trans vl_e, vl_e⟩
        · have q := hp j (by omega)
          refine ⟨(vu_n (by omega)).trans ((congrFun (a3 167 (by decide)).1 j).trans q.1), (vl_n (by omega)).trans ((vl_n (by omega)).trans q.2.1), (vl_n (by omega)).trans ((vl_n (by omega)).trans q.2.2)⟩)
      rw [show ((h + 1 : Nat) : Int) = (h : Int) + 1 from by omega] at y
      rw [a5]
      exact y
    have n134 : ∀ (U : jW), d_X12_partLevy_r125d_133 (fun l2 l3 l4 l5 l6 l8 W => d_X12_partLevy_r125d_51 r l2 l3 l4 l5 l6 l8 W) l2 wh d (E.1 7) (sSx (sWt E g d kn wh) h) (h : Int) (h : Int) U = d_X12_partLevy_r125d_51 r l2 wh d (E.1 7) (sSx (sWt E g d kn wh) h + 0) ((h : Int) + 1) (vu U 167 h 0) := by
      intro U
      unfold d_X12_partLevy_r125d_133 d_X12_partLevy_r125d_200134 d_X12_partLevy_r125d_5000162
      rw [hn', vu_e rfl, if_pos rfl]
    have y134 : ∀ (U : jW), d_X12_partLevy_r125d_300134 (fun l2 l3 l4 l5 l6 l8 W => d_X12_partLevy_r125d_51 r l2 l3 l4 l5 l6 l8 W) l2 wh d (E.1 7) (sSx (sWt E g d kn wh) h) (h : Int) (h : Int) U = d_X12_partLevy_r125d_51 r l2 wh d (E.1 7) (sSx (sWt E g d kn wh) h + U.1 162 (40 + h)) ((h : Int) + 1) (vu U 167 h 1) := by
      intro U
      unfold d_X12_partLevy_r125d_300134 d_X12_partLevy_r125d_162
      rw [hn', h40, vu_e rfl, if_neg (by decide)]
    have st : d_X12_partLevy_r125d_51 (r + 1) l2 wh d (E.1 7) (sSx (sWt E g d kn wh) h) (h : Int) W = (if sVl E d kn h ≤ 0 then d_X12_partLevy_r125d_51 r l2 wh d (E.1 7) (sSx (sWt E g d kn wh) h + 0) ((h : Int) + 1) (vu (vuL (vuL W 165 h 0) 166 h (-1)) 167 h 0) else (if sHo E g d kn h = -1 then d_X12_partLevy_r125d_51 r l2 wh d (E.1 7) (sSx (sWt E g d kn wh) h + 0) ((h : Int) + 1) (vu (vuL (vuL W 165 h 0) 166 h (-1)) 167 h 0) else (if (d_X12_isExempt_r125d wh (sHo E g d kn h) d (vuL (vuL W 165 h 0) 166 h (-1))).1 = 0 then d_X12_partLevy_r125d_51 r l2 wh d (E.1 7) (sSx (sWt E g d kn wh) h + (d_X12_isExempt_r125d wh (sHo E g d kn h) d (vuL (vuL W 165 h 0) 166 h (-1))).2.1 162 (40 + h)) ((h : Int) + 1) (vu (d_X12_isExempt_r125d wh (sHo E g d kn h) d (vuL (vuL W 165 h 0) 166 h (-1))).2 167 h 1) else d_X12_partLevy_r125d_51 r l2 wh d (E.1 7) (sSx (sWt E g d kn wh) h + 0) ((h : Int) + 1) (vu (d_X12_isExempt_r125d wh (sHo E g d kn h) d (vuL (vuL W 165 h 0) 166 h (-1))).2 167 h 0)))) := by
      refine (if_neg (by omega)).trans ?_
      rw [n134, n134, y134, hn', h40, e162, e163]
    rw [st]
    by_cases c1 : sVl E d kn h ≤ 0
    · rw [if_pos c1]
      have np : ¬ sPz E g d kn wh h := fun y => by have := y.1; omega
      exact go _ 0 0 W1 K1 (fun j _ => ⟨rfl, rfl⟩) (tv_z np).symm (sW_n np).symm
    rw [if_neg c1]
    by_cases c2 : sHo E g d kn h = -1
    · rw [if_pos c2]
      have np : ¬ sPz E g d kn wh h := fun y => y.2.1 c2
      exact go _ 0 0 W1 K1 (fun j _ => ⟨rfl, rfl⟩) (tv_z np).symm (sW_n np).symm
    rw [if_neg c2]
    rcases Hs h (by omega) with y | ⟨p, p1, p2, p3⟩
    · exact absurd y c2
    have Op : qOk fun w => sQu E g d kn w (sHo E g d kn h) := by rw [p2]; exact O p p1 p3
    obtain ⟨x1, x2, x3, x4⟩ := mxe (wh := wh) Q I hn hd c2 Il Op C W1 K1
    have cb := cb_x (d := d) (kn := kn) (ki := 2) (wh := wh) (q := fun w => sQu E g d kn w (sHo E g d kn h)) Il I2
    rcases x4 with ⟨y1, y2⟩ | ⟨y1, y2⟩
    · rw [if_neg (by omega)]
      have np : ¬ sPz E g d kn wh h := fun y => (cb.1 y2) y.2.2
      exact go _ 0 0 x1 x2 x3 (tv_z np).symm (sW_n np).symm
    · rw [if_pos y1]
      have py : sPz E g d kn wh h := ⟨by omega, c2, Classical.byContradiction fun n => y2 (cb.2 n)⟩
      refine go _ 1 _ x1 x2 x3 (tv_y py).symm ?_
      rw [sW_y py]
      exact (x1.2.2.2.2 (40 + h) (by omega)).1.trans zq.1
theorem m396 {M : jW} (Q : pMs M E g) (I : pIq E g) (hn : M.1 125 28 = kn) (hd : 0 ≤ d ∧ d ≤ 146399) (Hs : pHq E g d kn) (Il : pIl E.1) (C : pCa E.1) (O : ∀ p : Nat, p < sNl E → g p = (p : Int) → qOk fun w => sQu E g d kn w (p : Int)) (hP : 0 ≤ P ∧ P ≤ 1000000) (Z : pHz (M.1 162) (M.1 163) 40 E g d kn (E.1 7).toNat) : ∀ (c h r : Nat) (W : jW), (E.1 7).toNat - h = c → c < r → (h : Int) ≤ E.1 7 → pZm M W → pKf W E.1 kn → (∀ j : Nat, (j : Int) < E.1 7 → W.1 167 j = tv (sPz E g d kn wh j)) → (∀ j : Nat, j < h → W.2.1 165 j = sLv E g d kn wh P j) → (∀ j : Nat, h ≤ j → (j : Int) < E.1 7 → W.2.1 165 j = sOd E g d kn wh P j) → pZm M (d_X12_partLevy_r125d_396 r wh d (E.1 7) (h : Int) W) ∧ pKf (d_X12_partLevy_r125d_396 r wh d (E.1 7) (h : Int) W) E.1 kn ∧ ∀ j : Nat, (j : Int) < E.1 7 → (d_X12_partLevy_r125d_396 r wh d (E.1 7) (h : Int) W).2.1 165 j = sLv E g d kn wh P j := by
  have b7 := I.2.2.1.1
  have H := sW_h (d := d) (kn := kn) (wh := wh) I hP
  intro c
  induction c with
  | zero =>
    intro h r W e hr hh z K hf hp hs
    obtain ⟨r, rfl⟩ : ∃ q, r = q + 1 := ⟨r - 1, by omega⟩
    have e1 : d_X12_partLevy_r125d_396 (r + 1) wh d (E.1 7) (h : Int) W = W := if_pos (by omega)
    rw [e1]
    exact ⟨z, K, fun j hj => hp j (by omega)⟩
  | succ c ih =>
    intro h r W e hr hh z K hf hp hs
    obtain ⟨r, rfl⟩ : ∃ q, r = q + 1 := ⟨r - 1, by omega⟩
    have hn' : (h : Int).toNat = h := by omega
    have h40 : (40 + (h : Int)).toNat = 40 + h := by omega
    have zq := Z h (by omega)
    have e163 : W.1 163 (40 + h) = sHo E g d kn h := (z.2.2.2.2 (40 + h) (by omega)).2.trans zq.2
    have eO := hs h (Nat.le_refl h) (by omega)
    have oz : 0 ≤ sOd E g d kn wh P h ∧ (sWt E g d kn wh h = 0 → sOd E g d kn wh P h = 0) := ow_z H rfl (by omega)
    have go : ∀ U : jW, pZm M U → pKf U E.1 kn → (∀ j : Nat, (j : Int) < E.1 7 → U.1 167 j = tv (sPz E g d kn wh j)) → (∀ j : Nat, j < h → U.2.1 165 j = sLv E g d kn wh P j) → (∀ j : Nat, h < j → (j : Int) < E.1 7 → U.2.1 165 j = sOd E g d kn wh P j) → U.2.1 165 h = sLv E g d kn wh P h → pZm M (d_X12_partLevy_r125d_396 r wh d (E.1 7) ((h : Int) + 1) U) ∧ pKf (d_X12_partLevy_r125d_396 r wh d (E.1 7) ((h : Int) + 1) U) E.1 kn ∧ ∀ j : Nat, (j : Int) < E.1 7 → (d_X12_partLevy_r125d_396 r wh d (E.1 7) ((h : Int) + 1) U).2.1 165 j = sLv E g d kn wh P j := by
      intro U a1 a2 a3 a4 a5 a6
      have y := ih (h + 1) r U (by omega) (by omega) (by omega) a1 a2 a3 (fun j hj => by
        by_cases c : j = h
        · rw [c]; exact a6
        · exact a4 j (by omega)) (fun j h1 h2 => a5 j (by omega) h2)
      rw [show ((h + 1 : Nat) : Int) = (h : Int) + 1 from by omega] at y
      exact y
    by_cases py : sPz E g d kn wh h
    · have tp := tv_y py
      have f7 : W.1 167 h = 1 := (hf h (by omega)).trans tp
      rcases Hs h (by omega) with y | ⟨p, p1, p2, p3⟩
      · exact absurd y py.2.1
      have Op : qOk fun w => sQu E g d kn w (sHo E g d kn h) := by rw [p2]; exact O p p1 p3
      obtain ⟨m1, m2, m3, m4, m5⟩ := mfz (ki := 3) (wh := wh) Q I hn hd py.2.1 Il Op C z K
      have bx : (d_X12_findCount_r125d 3 wh (sHo E g d kn h) d W).1 125 65 = sBx E g d kn 3 wh (sHo E g d kn h) := m4
      have sx : (d_X12_findCount_r125d 3 wh (sHo E g d kn h) d W).2.1 125 64 = sSv E g d kn 3 wh (sHo E g d kn h) := m5
      have st : d_X12_partLevy_r125d_396 (r + 1) wh d (E.1 7) (h : Int) W = (if 0 ≤ (d_X12_findCount_r125d 3 wh (sHo E g d kn h) d W).2.1 125 64 then d_X12_partLevy_r125d_448 (fun l3 l4 l5 l10 W => d_X12_partLevy_r125d_396 r l3 l4 l5 l10 W) wh d (E.1 7) (h : Int) ((d_X12_findCount_r125d 3 wh (sHo E g d kn h) d W).2.1 125 64) (d_X12_findCount_r125d 3 wh (sHo E g d kn h) d W) else d_X12_partLevy_r125d_5000448 (fun l3 l4 l5 l10 W => d_X12_partLevy_r125d_396 r l3 l4 l5 l10 W) wh d (E.1 7) (h : Int) (d_X12_findCount_r125d 3 wh (sHo E g d kn h) d W)) := by
        refine (if_neg (by omega)).trans ((if_neg (by rw [hn', f7]; decide)).trans ?_)
        rw [h40, e163]
      rw [st]
      generalize d_X12_findCount_r125d 3 wh (sHo E g d kn h) d W = U at *
      have u5 : U.2.1 165 = W.2.1 165 := (m3 165 (by decide)).2
      have u7 : U.1 167 = W.1 167 := (m3 167 (by decide)).1
      have fin : ∀ x : Int, x = sLv E g d kn wh P h → pZm M (d_X12_partLevy_r125d_396 r wh d (E.1 7) ((h : Int) + 1) (vuL U 165 h x)) ∧ pKf (d_X12_partLevy_r125d_396 r wh d (E.1 7) ((h : Int) + 1) (vuL U 165 h x)) E.1 kn ∧ ∀ j : Nat, (j : Int) < E.1 7 → (d_X12_partLevy_r125d_396 r wh d (E.1 7) ((h : Int) + 1) (vuL U 165 h x)).2.1 165 j = sLv E g d kn wh P j := by
        intro x hx
        refine go _ (pZm_l m1 (by decide)) (kf_c m2 rfl rfl rfl) (fun j hj => by show U.1 167 j = _; rw [u7]; exact hf j hj) (fun j hj => (vl_n (by omega)).trans (by rw [u5]; exact hp j hj)) (fun j h1 h2 => (vl_n (by omega)).trans (by rw [u5]; exact hs j (by omega) h2)) (vl_e.trans hx)
      have lv : sLv E g d kn wh P h = if sBx E g d kn 3 wh (sHo E g d kn h) = -1 then sOd E g d kn wh P h else min (sOd E g d kn wh P h) (max 0 (sSv E g d kn 3 wh (sHo E g d kn h))) := by
        unfold sLv
        rw [tp, if_neg (by decide)]
      have eU : U.2.1 165 h = sOd E g d kn wh P h := by rw [u5]; exact eO
      have K482 : ∀ s0 : Int, d_X12_partLevy_r125d_482 (fun l3 l4 l5 l10 W => d_X12_partLevy_r125d_396 r l3 l4 l5 l10 W) wh d (E.1 7) (h : Int) (h : Int) U = d_X12_partLevy_r125d_396 r wh d (E.1 7) ((h : Int) + 1) (vuL U 165 h (U.2.1 165 h)) := by
        intro s0
        unfold d_X12_partLevy_r125d_482 d_X12_partLevy_r125d_489 d_X12_partLevy_r125d_490
        rw [hn']
      have K489 : ∀ s0 : Int, d_X12_partLevy_r125d_489 (fun l3 l4 l5 l10 W => d_X12_partLevy_r125d_396 r l3 l4 l5 l10 W) wh d (E.1 7) (h : Int) s0 (h : Int) U = d_X12_partLevy_r125d_396 r wh d (E.1 7) ((h : Int) + 1) (vuL U 165 h s0) := by
        intro s0
        unfold d_X12_partLevy_r125d_489 d_X12_partLevy_r125d_490
        rw [hn']
      have K5 : d_X12_partLevy_r125d_5000489 (fun l3 l4 l5 l10 W => d_X12_partLevy_r125d_396 r l3 l4 l5 l10 W) wh d (E.1 7) (h : Int) (h : Int) U = d_X12_partLevy_r125d_396 r wh d (E.1 7) ((h : Int) + 1) (vuL U 165 h 0) := by
        unfold d_X12_partLevy_r125d_5000489 d_X12_partLevy_r125d_490
        rw [hn']
      unfold d_X12_partLevy_r125d_448 d_X12_partLevy_r125d_5000448
      rw [K482 0, K489, K5, bx, sx, hn', eU]
      by_cases c3 : sBx E g d kn 3 wh (sHo E g d kn h) = -1
      · rw [if_pos c3] at lv
        rw [if_pos c3, if_pos c3]
        by_cases c4 : 0 ≤ sSv E g d kn 3 wh (sHo E g d kn h)
        · rw [if_pos c4]; exact fin _ lv.symm
        · rw [if_neg c4]; exact fin _ lv.symm
      · rw [if_neg c3] at lv
        rw [if_neg c3, if_neg c3]
        by_cases c4 : 0 ≤ sSv E g d kn 3 wh (sHo E g d kn h)
        · rw [if_pos c4]
          by_cases c5 : sOd E g d kn wh P h ≤ sSv E g d kn 3 wh (sHo E g d kn h)
          · rw [if_pos c5]; exact fin _ (by rw [lv]; omega)
          · rw [if_neg c5]; exact fin _ (by rw [lv]; omega)
        · rw [if_neg c4]
          by_cases c5 : sOd E g d kn wh P h ≤ 0
          · rw [if_pos c5]; exact fin _ (by rw [lv]; omega)
          · rw [if_neg c5]; exact fin _ (by rw [lv]; omega)
    · have tp := tv_z py
      have f7 : W.1 167 h = 0 := (hf h (by omega)).trans tp
      have st : d_X12_partLevy_r125d_396 (r + 1) wh d (E.1 7) (h : Int) W = d_X12_partLevy_r125d_396 r wh d (E.1 7) ((h : Int) + 1) W := (if_neg (by omega)).trans (if_pos (by rw [hn']; exact f7))
      rw [st]
      refine go W z K hf hp (fun j h1 h2 => hs j (by omega) h2) ?_
      rw [eO, oz.2 (sW_n py)]
      unfold sLv
      rw [if_pos tp]
/-- both -/
theorem xpl {X : jW} (Q : pV X E g d kn) (I : pIq E g) (hd : 0 ≤ d ∧ d ≤ 146399) (Hs : pHq E g d kn) (Ik : pIk E.1) (Il : pIl E.1) (O : ∀ p : Nat, p < sNl E → g p = (p : Int) → qOk fun w => sQu E g d kn w (p : Int)) (hP : 0 ≤ P ∧ P ≤ 1000000) : pZ X (d_X4_partOut_r107d_77 41 wh P 0 0 X) ∧ ∀ j : Nat, (j : Int) < E.1 7 → (d_X4_partOut_r107d_77 41 wh P 0 0 X).1 108 j = sLv E g d kn wh P j := by
  have b7 := I.2.2.1.1
  have H := sW_h (d := d) (kn := kn) (wh := wh) I hP
  obtain ⟨V, v1, v2, v3⟩ := x77 (wh := wh) Q I hd Hs Ik Il O hP (E.1 7).toNat 0 41 X (by omega) (by omega) (by omega) pZ_r (fun j hj => absurd hj (by omega))
  have e49 : V.1 49 3 = E.1 7 := (v2.1 49 3 (by omega) rfl).trans Q.1.2.1.1
  obtain ⟨s1, s2, s3, s4⟩ := xsh H rfl (X := V) (by omega) (fun j hj => v3 j (by omega))
  have v1' : d_X4_partOut_r107d_77 41 wh P 0 0 X = d_X4_partOut_r107d_198 41 wh 0 (d_X4_share_r107d P (sSx (sWt E g d kn wh) (E.1 7).toNat) V) := v1
  rw [v1']
  refine x198 Q I hd Hs Ik Il O hP (E.1 7).toNat 0 41 _ (by omega) (by omega) (by omega) ⟨fun c k h1 h2 => ?_, fun c k h1 h2 => ?_, fun c k h1 => ?_, ?_⟩ (fun j hj => absurd hj (by omega)) (fun j _ hj => s1 j (by omega))
  · rw [s2 c (by omega)]; exact v2.1 c k h1 h2
  · rw [s3 c (by omega)]; exact v2.2.1 c k h1 h2
  · rw [s4]; exact v2.2.2.1 c k h1
  · rw [s4]; exact v2.2.2.2
theorem mpl {M : jW} (Q : pMs M E g) (I : pIq E g) (hn : M.1 125 28 = kn) (hd : 0 ≤ d ∧ d ≤ 146399) (Hs : pHq E g d kn) (Il : pIl E.1) (I2 : pI2 E.1) (C : pCa E.1) (O : ∀ p : Nat, p < sNl E → g p = (p : Int) → qOk fun w => sQu E g d kn w (p : Int)) (hP : 0 ≤ P ∧ P ≤ 1000000) (Z : pHz (M.1 162) (M.1 163) 40 E g d kn (E.1 7).toNat) {l2 : Int} (h2 : M.1 126 (l2 + 2).toNat = P) (K : pKf M E.1 kn) : pZm M (d_X12_partLevy_r125d_51 41 l2 wh d (E.1 7) 0 0 M) ∧ pKf (d_X12_partLevy_r125d_51 41 l2 wh d (E.1 7) 0 0 M) E.1 kn ∧ ∀ j : Nat, (j : Int) < E.1 7 → (d_X12_partLevy_r125d_51 41 l2 wh d (E.1 7) 0 0 M).2.1 165 j = sLv E g d kn wh P j := by
  have b7 := I.2.2.1.1
  have H := sW_h (d := d) (kn := kn) (wh := wh) I hP
  obtain ⟨V, v1, v2, v3, v4⟩ := m51 (wh := wh) Q I hn hd Hs Il I2 C O hP Z h2 (E.1 7).toNat 0 41 M (by omega) (by omega) (by omega) pZm_r K (fun j hj => absurd hj (by omega))
  have ev : V.1 126 (l2 + 2).toNat = P := by rw [zm_126 v2]; exact h2
  have e7 : (((E.1 7).toNat : Nat) : Int) = E.1 7 := by omega
  obtain ⟨U, u1, u2, u3, u4, u5⟩ := msh H rfl (l2 := l2) (l3 := wh) (l4 := d) (M := V) ev (fun j hj => by
    rw [(v4 j (by omega)).1]
    show sWt E g d kn wh j = _
    unfold sWt
    by_cases c : tv (sPz E g d kn wh j) = 0
    · rw [if_pos c, if_pos c]
    · rw [if_neg c, if_neg c]
      exact ((v2.2.2.2.2 (40 + j) (by omega)).1.trans (Z j hj).1).symm) (fun j hj hz => by
    rw [(v4 j (by omega)).1] at hz
    have py : sPz E g d kn wh j := Classical.byContradiction fun n => hz (tv_z n)
    rw [sW_y py]
    have := py.1
    omega) (fun j hj => (v4 j (by omega)).2)
  rw [e7] at u1
  have v1' : d_X12_partLevy_r125d_51 41 l2 wh d (E.1 7) 0 0 M = d_X12_partLevy_r125d_396 41 wh d (E.1 7) 0 U := v1.trans u1
  rw [v1']
  refine m396 Q I hn hd Hs Il C O hP Z (E.1 7).toNat 0 41 U (by omega) (by omega) (by omega) ⟨fun c k h1 h2 => ?_, fun c k h1 h2 => ?_, fun c k h1 => ?_, ?_, fun i hi => ?_⟩ (kf_c v3 (by rw [u3]) (by rw [u3]) (by rw [u3])) (fun j hj => by rw [u3]; exact (v4 j hj).1) (fun j hj => absurd hj (by omega)) (fun j _ hj => u2 j (by omega))
  · rw [u3]; exact v2.1 c k h1 h2
  · rw [u4 c (by omega) (by omega)]; exact v2.2.1 c k h1 h2
  · rw [u5]; exact v2.2.2.1 c k h1
  · rw [u5]; exact v2.2.2.2.1
  · rw [u3]; exact v2.2.2.2.2 i hi
end
end jG78

section jG79
/-! pure: holders of HOLDINGS are SOULS; SEATS -/
section
variable {E : pE} {g : Nat → Int} {d kn : Int}
theorem ha_q (I : pIq E g) (G : sGi E g) : pHq E g d kn := by
  have h10 := I.2.1.2.1
  have key : ∀ h q : Nat, q < h → sHa E g d kn h q = -1 ∨ ∃ p : Nat, p < sNl E ∧ sHa E g d kn h q = (p : Int) ∧ g p = (p : Int) := by
    intro h
    induction h with
    | zero => intro q hq; exact absurd hq (Nat.not_lt_zero q)
    | succ h ih =>
      intro q hq
      by_cases e : q = h
      · have st : sHa E g d kn (h + 1) q = if (sLt E 47900 (h : Int) d kn (E.1 10).toNat).2 = -1 then (if sSo E (h : Int) = -1 then -1 else sHa E g d kn h (sPa E h)) else if (sLt E 47900 (h : Int) d kn (E.1 10).toNat).1 = -1 then -1 else g (sLt E 47900 (h : Int) d kn (E.1 10).toNat).1.toNat := if_pos e
        rw [st]
        have b := lt_r (d := d) (kn := kn) I.2.1 (q := (h : Int)) (E.1 10).toNat (by omega)
        by_cases c1 : (sLt E 47900 (h : Int) d kn (E.1 10).toNat).2 = -1
        · rw [if_pos c1]
          by_cases c2 : sSo E (h : Int) = -1
          · rw [if_pos c2]; exact Or.inl rfl
          · rw [if_neg c2]; exact ih _ (sPa_b I.2.2.1 c2).1
        · rw [if_neg c1]
          by_cases c2 : (sLt E 47900 (h : Int) d kn (E.1 10).toNat).1 = -1
          · rw [if_pos c2]; exact Or.inl rfl
          · rw [if_neg c2]
            have m : (sLt E 47900 (h : Int) d kn (E.1 10).toNat).1.toNat < sNl E := by unfold sNl; omega
            rcases G _ m with z | ⟨_, z1, z2, z3⟩
            · exact Or.inl z
            · exact Or.inr ⟨(g (sLt E 47900 (h : Int) d kn (E.1 10).toNat).1.toNat).toNat, by omega, by omega, by rw [z3]; omega⟩
      · have st : sHa E g d kn (h + 1) q = sHa E g d kn h q := if_neg e
        rw [st]
        exact ih q (by omega)
  intro q hq
  exact key (E.1 7).toNat q (by omega)
end
/-- h put among the first a of f, behind all that weigh as much -/
def sIx (k : Nat → Int) (h : Nat) : Nat → (Nat → Int) → Nat → Int
  | 0, f => sU f 0 (h : Int)
  | a + 1, f => if k h ≤ k (f a).toNat then sU f (a + 1) (h : Int) else sIx k h a (sU f (a + 1) (f a))
def sSx2 (k ho : Nat → Int) : Nat → Nat × (Nat → Int)
  | 0 => (0, fun _ => 0)
  | h + 1 => if ho h = -1 then sSx2 k ho h else ((sSx2 k ho h).1 + 1, sIx k h (sSx2 k ho h).1 (sSx2 k ho h).2)
theorem ix_b {k : Nat → Int} {h n : Nat} : ∀ (a : Nat) (f : Nat → Int), a ≤ n → (∀ j : Nat, j ≤ n → j ≠ a → 0 ≤ f j ∧ f j < (h : Int)) → ∀ j : Nat, j ≤ n → 0 ≤ sIx k h a f j ∧ sIx k h a f j < (h : Int) + 1 := by
  intro a
  induction a with
  | zero =>
    intro f _ hf j hj
    show 0 ≤ sU f 0 (h : Int) j ∧ sU f 0 (h : Int) j < (h : Int) + 1
    by_cases c : j = 0
    · rw [sU_e c]; omega
    · rw [sU_n c]; have := hf j hj c; omega
  | succ a ih =>
    intro f ha hf j hj
    show 0 ≤ (if k h ≤ k (f a).toNat then sU f (a + 1) (h : Int) else sIx k h a (sU f (a + 1) (f a))) j ∧ (if k h ≤ k (f a).toNat then sU f (a + 1) (h : Int) else sIx k h a (sU f (a + 1) (f a))) j < (h : Int) + 1
    by_cases c : k h ≤ k (f a).toNat
    · rw [if_pos c]
      by_cases e : j = a + 1
      · rw [sU_e e]; omega
      · rw [sU_n e]; have := hf j hj e; omega
    · rw [if_neg c]
      refine ih _ (by omega) (fun i hi hn => ?_) j hj
      by_cases e : i = a + 1
      · rw [sU_e e]; exact hf a (by omega) (by omega)
      · rw [sU_n e]; exact hf i hi e
theorem sx_b {k ho : Nat → Int} : ∀ h : Nat, (sSx2 k ho h).1 ≤ h ∧ ∀ j : Nat, j < (sSx2 k ho h).1 → 0 ≤ (sSx2 k ho h).2 j ∧ (sSx2 k ho h).2 j < (h : Int) := by
  intro h
  induction h with
  | zero => exact ⟨Nat.le_refl 0, fun j hj => absurd hj (Nat.not_lt_zero j)⟩
  | succ h ih =>
    have st : sSx2 k ho (h + 1) = if ho h = -1 then sSx2 k ho h else ((sSx2 k ho h).1 + 1, sIx k h (sSx2 k ho h).1 (sSx2 k ho h).2) := rfl
    rw [st]
    by_cases c : ho h = -1
    · rw [if_pos c]
      exact ⟨by omega, fun j hj => by have := ih.2 j hj; omega⟩
    · rw [if_neg c]
      refine ⟨by show (sSx2 k ho h).1 + 1 ≤ h + 1; omega, fun j hj => ?_⟩
      have y := ix_b (k := k) (h := h) (n := (sSx2 k ho h).1) (sSx2 k ho h).1 (sSx2 k ho h).2 (Nat.le_refl _) (fun i hi hn => ih.2 i (by omega)) j (by have : j < (sSx2 k ho h).1 + 1 := hj; omega)
      show 0 ≤ sIx k h (sSx2 k ho h).1 (sSx2 k ho h).2 j ∧ sIx k h (sSx2 k ho h).1 (sSx2 k ho h).2 j < ((h + 1 : Nat) : Int)
      omega
/-- the class: one sits down -/
theorem xs6 {k : Nat → Int} {h n : Nat} (hn : n < 40) : ∀ (a r : Nat) (f : Nat → Int) (W : jW), a ≤ n → a < r → W.1 107 9 = (n : Int) → (∀ j : Nat, j ≤ n → j ≠ a → W.1 112 j = f j ∧ W.2.1 113 j = k (f j).toNat) → ∀ X : jW, pZ X W → pZ X (d_X4_sitDown_r107d_6 r (h : Int) (k h) (a : Int) W) ∧ (d_X4_sitDown_r107d_6 r (h : Int) (k h) (a : Int) W).1 107 9 = (n : Int) + 1 ∧ ∀ j : Nat, j ≤ n → (d_X4_sitDown_r107d_6 r (h : Int) (k h) (a : Int) W).1 112 j = sIx k h a f j ∧ (d_X4_sitDown_r107d_6 r (h : Int) (k h) (a : Int) W).2.1 113 j = k (sIx k h a f j).toNat := by
  have fin : ∀ (a : Nat) (f : Nat → Int) (W : jW), a ≤ n → W.1 107 9 = (n : Int) → (∀ j : Nat, j ≤ n → j ≠ a → W.1 112 j = f j ∧ W.2.1 113 j = k (f j).toNat) → ∀ X : jW, pZ X W → pZ X (d_X4_sitDown_r107d_70 (h : Int) (k h) (a : Int) W) ∧ (d_X4_sitDown_r107d_70 (h : Int) (k h) (a : Int) W).1 107 9 = (n : Int) + 1 ∧ ∀ j : Nat, j ≤ n → (d_X4_sitDown_r107d_70 (h : Int) (k h) (a : Int) W).1 112 j = sU f a (h : Int) j ∧ (d_X4_sitDown_r107d_70 (h : Int) (k h) (a : Int) W).2.1 113 j = k (sU f a (h : Int) j).toNat := by
    intro a f W ha e9 hf X z
    have st : d_X4_sitDown_r107d_70 (h : Int) (k h) (a : Int) W = vu (vuL (vu W 112 a (h : Int)) 113 a (k h)) 107 9 ((n : Int) + 1) := by
      refine (if_neg (by omega)).trans ?_
      show vu (vuL (vu W 112 (a : Int).toNat (h : Int)) 113 (a : Int).toNat (k h)) 107 9 (W.1 107 9 + 1) = _
      rw [e9, show (a : Int).toNat = a from by omega]
    rw [st]
    refine ⟨pZ_u (pZ_l (pZ_u z (by omega)) (by omega)) (by omega), vu_e rfl, fun j hj => ?_⟩
    have e1 : (vu (vuL (vu W 112 a (h : Int)) 113 a (k h)) 107 9 ((n : Int) + 1)).1 112 j = (vu W 112 a (h : Int)).1 112 j := vu_n (by omega)
    have e2 : (vu (vuL (vu W 112 a (h : Int)) 113 a (k h)) 107 9 ((n : Int) + 1)).2.1 113 j = (vuL (vu W 112 a (h : Int)) 113 a (k h)).2.1 113 j := rfl
    rw [e1, e2]
    by_cases c : j = a
    · rw [sU_e c, c]
      exact ⟨vu_e rfl, vl_e.trans (by rw [show (h : Int).toNat = h from by omega])⟩
    · rw [sU_n c]
      exact ⟨(vu_n (by omega)).trans (hf j hj c).1, (vl_n (by omega)).trans (hf j hj c).2⟩
  intro a
  induction a with
  | zero =>
    intro r f W ha hr e9 hf X z
    obtain ⟨r, rfl⟩ : ∃ q, r = q + 1 := ⟨r - 1, by omega⟩
    have st : d_X4_sitDown_r107d_6 (r + 1) (h : Int) (k h) ((0 : Nat) : Int) W = d_X4_sitDown_r107d_70 (h : Int) (k h) ((0 : Nat) : Int) W := if_pos (by omega)
    rw [st]
    exact fin 0 f W ha e9 hf X z
  | succ a ih =>
    intro r f W ha hr e9 hf X z
    obtain ⟨r, rfl⟩ : ∃ q, r = q + 1 := ⟨r - 1, by omega⟩
    have ea := hf a (by omega) (by omega)
    have st : d_X4_sitDown_r107d_6 (r + 1) (h : Int) (k h) ((a + 1 : Nat) : Int) W = if k h ≤ k (f a).toNat then d_X4_sitDown_r107d_70 (h : Int) (k h) ((a + 1 : Nat) : Int) W else d_X4_sitDown_r107d_6 r (h : Int) (k h) (a : Int) (vuL (vu W 112 (a + 1) (f a)) 113 (a + 1) (k (f a).toNat)) := by
      refine (if_neg (by omega)).trans ((if_neg (by omega)).trans ?_)
      show (if k h ≤ W.2.1 113 (((a + 1 : Nat) : Int) - 1).toNat then d_X4_sitDown_r107d_70 (h : Int) (k h) ((a + 1 : Nat) : Int) W else d_X4_sitDown_r107d_6 r (h : Int) (k h) (((a + 1 : Nat) : Int) + (-1)) (vuL (vu W 112 ((a + 1 : Nat) : Int).toNat (W.1 112 (((a + 1 : Nat) : Int) - 1).toNat)) 113 ((a + 1 : Nat) : Int).toNat (W.2.1 113 (((a + 1 : Nat) : Int) - 1).toNat))) = _
      rw [show (((a + 1 : Nat) : Int) - 1).toNat = a from by omega, show ((a + 1 : Nat) : Int) + (-1) = (a : Int) from by omega, show ((a + 1 : Nat) : Int).toNat = a + 1 from by omega, ea.1, ea.2]
    rw [st]
    have sx : sIx k h (a + 1) f = if k h ≤ k (f a).toNat then sU f (a + 1) (h : Int) else sIx k h a (sU f (a + 1) (f a)) := rfl
    rw [sx]
    by_cases c : k h ≤ k (f a).toNat
    · rw [if_pos c, if_pos c]
      exact fin (a + 1) f W ha e9 hf X z
    · rw [if_neg c, if_neg c]
      refine ih r (sU f (a + 1) (f a)) (vuL (vu W 112 (a + 1) (f a)) 113 (a + 1) (k (f a).toNat)) (by omega) (by omega) ((vu_n (W := W) (a := 112) (k := a + 1) (b := 107) (j := 9) (x := f a) (by omega)).trans e9) (fun j hj hn => ?_) X (pZ_l (pZ_u z (by omega)) (by omega))
      have u1 : (vuL (vu W 112 (a + 1) (f a)) 113 (a + 1) (k (f a).toNat)).1 112 j = (vu W 112 (a + 1) (f a)).1 112 j := rfl
      rw [u1]
      by_cases e : j = a + 1
      · rw [sU_e e, e]
        exact ⟨vu_e rfl, vl_e⟩
      · rw [sU_n e]
        exact ⟨(vu_n (by omega)).trans (hf j hj e).1, (vl_n (by omega)).trans (hf j hj e).2⟩
end jG79

section jG80
/-! pure: all SEATS, on both sides -/
section
variable {E : pE} {g : Nat → Int} {d kn : Int}
/-- what a HOLDING's holder weighs for its SEAT -/
noncomputable def sKy (E : pE) (g : Nat → Int) (d kn : Int) (q : Nat) : Int := if sBx E g d kn 8 0 (sHo E g d kn q) = -1 then -2000000000000 else sSv E g d kn 8 0 (sHo E g d kn q)
noncomputable def sSe (E : pE) (g : Nat → Int) (d kn : Int) (h : Nat) : Nat × (Nat → Int) := sSx2 (sKy E g d kn) (sHo E g d kn) h
theorem xs36 {X : jW} (Q : pV X E g d kn) (I : pIq E g) (hd : 0 ≤ d ∧ d ≤ 146399) (Hs : pHq E g d kn) (Ik : pIk E.1) (Il : pIl E.1) (O : ∀ p : Nat, p < sNl E → g p = (p : Int) → qOk fun w => sQu E g d kn w (p : Int)) : ∀ (c h r : Nat) (W : jW), (E.1 7).toNat - h = c → c < r → (h : Int) ≤ E.1 7 → pZ X W → W.1 107 9 = ((sSe E g d kn h).1 : Int) → (∀ j : Nat, j < (sSe E g d kn h).1 → W.1 112 j = (sSe E g d kn h).2 j ∧ W.2.1 113 j = sKy E g d kn ((sSe E g d kn h).2 j).toNat) → pZ X (d_X4_seatAll_r107d_36 r (h : Int) W) ∧ (d_X4_seatAll_r107d_36 r (h : Int) W).1 107 9 = ((sSe E g d kn (E.1 7).toNat).1 : Int) ∧ ∀ j : Nat, j < (sSe E g d kn (E.1 7).toNat).1 → (d_X4_seatAll_r107d_36 r (h : Int) W).1 112 j = (sSe E g d kn (E.1 7).toNat).2 j := by
  have b7 := I.2.2.1.1
  intro c
  induction c with
  | zero =>
    intro h r W e hr hh z e9 hp
    obtain ⟨r, rfl⟩ : ∃ q, r = q + 1 := ⟨r - 1, by omega⟩
    have e49 : W.1 49 3 = E.1 7 := (z.1 49 3 (by omega) rfl).trans Q.1.2.1.1
    have st : d_X4_seatAll_r107d_36 (r + 1) (h : Int) W = W := if_pos (by omega)
    rw [st, show (E.1 7).toNat = h from by omega]
    exact ⟨z, e9, fun j hj => (hp j hj).1⟩
  | succ c ih =>
    intro h r W e hr hh z e9 hp
    obtain ⟨r, rfl⟩ : ∃ q, r = q + 1 := ⟨r - 1, by omega⟩
    have e49 : W.1 49 3 = E.1 7 := (z.1 49 3 (by omega) rfl).trans Q.1.2.1.1
    have hn : (h : Int).toNat = h := by omega
    have e103 : W.1 103 (h : Int).toNat = sHo E g d kn h := by rw [hn]; exact (z.1 103 h (by omega) rfl).trans (Q.1.2.1.2 h (by omega)).2
    have nb := (sx_b (k := sKy E g d kn) (ho := sHo E g d kn) h).1
    have ss : sSe E g d kn (h + 1) = if sHo E g d kn h = -1 then sSe E g d kn h else ((sSe E g d kn h).1 + 1, sIx (sKy E g d kn) h (sSe E g d kn h).1 (sSe E g d kn h).2) := rfl
    have nb2 : (sSe E g d kn h).1 ≤ h := nb
    have st : d_X4_seatAll_r107d_36 (r + 1) (h : Int) W = (if sHo E g d kn h = -1 then d_X4_seatAll_r107d_36 r ((h : Int) + 1) W else (if (d_X0_weigh_r98d 7 0 (sHo E g d kn h) W).1 = 0 then d_X4_seatAll_r107d_36 r ((h : Int) + 1) (d_X4_sitDown_r107d (h : Int) (-2000000000000) (d_X0_weigh_r98d 7 0 (sHo E g d kn h) W).2) else d_X4_seatAll_r107d_36 r ((h : Int) + 1) (d_X4_sitDown_r107d (h : Int) ((d_X0_weigh_r98d 7 0 (sHo E g d kn h) W).2.2.1 98 14) (d_X0_weigh_r98d 7 0 (sHo E g d kn h) W).2))) := by
      refine (if_neg (by omega)).trans ?_
      rw [e103]
      rfl
    rw [st]
    by_cases c2 : sHo E g d kn h = -1
    · rw [if_pos c2]
      rw [if_pos c2] at ss
      have y := ih (h + 1) r W (by omega) (by omega) (by omega) z (by rw [ss]; exact e9) (by rw [ss]; exact hp)
      rw [show ((h + 1 : Nat) : Int) = (h : Int) + 1 from by omega] at y
      exact y
    rw [if_neg c2]
    rw [if_neg c2] at ss
    rcases Hs h (by omega) with y | ⟨p, p1, p2, p3⟩
    · exact absurd y c2
    obtain ⟨V, v1, v2, v3, v4, v5⟩ := xwz Q I hd p1 p3 Ik Il (O p p1 p3) (ki := 7) (wh := 0) ⟨by decide, by decide⟩ z
    have bx : V.1 98 13 = sBx E g d kn 8 0 (sHo E g d kn h) := by rw [p2]; exact v4
    have sx : V.2.1 98 14 = sSv E g d kn 8 0 (sHo E g d kn h) := by rw [p2]; exact v5
    have v1' : d_X0_weigh_r98d 7 0 (sHo E g d kn h) W = (if V.1 98 13 = -1 then 0 else 1, V) := by rw [p2]; exact v1
    have go : ∀ x : Int, x = sKy E g d kn h → pZ X (d_X4_seatAll_r107d_36 r ((h : Int) + 1) (d_X4_sitDown_r107d (h : Int) x V)) ∧ (d_X4_seatAll_r107d_36 r ((h : Int) + 1) (d_X4_sitDown_r107d (h : Int) x V)).1 107 9 = ((sSe E g d kn (E.1 7).toNat).1 : Int) ∧ ∀ j : Nat, j < (sSe E g d kn (E.1 7).toNat).1 → (d_X4_seatAll_r107d_36 r ((h : Int) + 1) (d_X4_sitDown_r107d (h : Int) x V)).1 112 j = (sSe E g d kn (E.1 7).toNat).2 j := by
      intro x hx
      have f9 : V.1 107 9 = ((sSe E g d kn h).1 : Int) := by rw [(v3 107 (by omega) (by omega)).1]; exact e9
      have s6 := xs6 (k := sKy E g d kn) (h := h) (n := (sSe E g d kn h).1) (by omega) (sSe E g d kn h).1 41 (sSe E g d kn h).2 V (Nat.le_refl _) (by omega) f9 (fun j hj hne => by
        rw [(v3 112 (by omega) (by omega)).1, (v3 113 (by omega) (by omega)).2]
        exact hp j (by omega)) X v2
      have sd : d_X4_sitDown_r107d (h : Int) x V = d_X4_sitDown_r107d_6 41 (h : Int) (sKy E g d kn h) ((sSe E g d kn h).1 : Int) V := by
        unfold d_X4_sitDown_r107d
        rw [f9, hx]
      rw [sd]
      have y := ih (h + 1) r _ (by omega) (by omega) (by omega) s6.1 (by rw [ss, s6.2.1]; show _ = (((sSe E g d kn h).1 + 1 : Nat) : Int); omega) (by
        rw [ss]
        intro j hj
        exact s6.2.2 j (by have : j < (sSe E g d kn h).1 + 1 := hj; omega))
      rw [show ((h + 1 : Nat) : Int) = (h : Int) + 1 from by omega] at y
      exact y
    rw [v1']
    by_cases c3 : V.1 98 13 = -1
    · rw [if_pos c3, if_pos rfl]
      exact go (-2000000000000) (by unfold sKy; rw [if_pos (by rw [← bx]; exact c3)])
    · rw [if_neg c3, if_neg (show ¬ (1 : Int) = 0 from by decide)]
      exact go (V.2.1 98 14) (by unfold sKy; rw [if_neg (by rw [← bx]; exact c3)]; exact sx)
/-! the reference -/
theorem sah {ky fl sm : Nat → Int} {h a : Nat} (W : jW) (ha : a < h) (e1 : W.1 171 h = fl h) (e2 : W.1 171 a = fl a) (e3 : W.2.1 170 h = sm h) (e4 : W.2.1 170 a = sm a) (f1 : fl h = 0 ∨ fl h = 1) (f2 : fl a = 0 ∨ fl a = 1) (k1 : ky h = if fl h = 0 then -2000000000000 else sm h) (k2 : ky a = if fl a = 0 then -2000000000000 else sm a) (s1 : fl h = 1 → -2000000000000 < sm h) (s2 : fl a = 1 → -2000000000000 < sm a) : d_X12_sitsAhead_r125d (h : Int) (a : Int) W = if ky h ≤ ky a then 0 else 1 := by
  unfold d_X12_sitsAhead_r125d d_X12_sitsAhead_r125d_73 d_X12_sitsAhead_r125d_200083 d_X12_sitsAhead_r125d_300083 d_X12_sitsAhead_r125d_83
  rw [show (h : Int).toNat = h from by omega, show (a : Int).toNat = a from by omega, e1, e2, e3, e4, if_pos (show (a : Int) ≤ (h : Int) from by omega)]
  rcases f1 with f | f
  · rcases f2 with f' | f'
    · rw [f] at k1; rw [f'] at k2
      rw [if_pos rfl] at k1 k2
      rw [f, f', if_pos rfl, if_pos rfl, if_pos (by omega)]
    · have s := s2 f'
      rw [f] at k1; rw [f'] at k2
      rw [if_pos rfl] at k1; rw [if_neg (by decide)] at k2
      rw [f, f', if_neg (by decide), if_pos (by omega)]
  · have t := s1 f
    rw [f] at k1
    rw [if_neg (by decide)] at k1
    rcases f2 with f' | f'
    · rw [f'] at k2
      rw [if_pos rfl] at k2
      rw [f, f', if_neg (by decide), if_neg (by omega)]
    · rw [f'] at k2
      rw [if_neg (by decide)] at k2
      rw [f, f', if_pos rfl, if_neg (by decide), k1, k2]
      by_cases c : sm h = sm a
      · rw [if_pos c, if_pos (by omega)]
      · rw [if_neg c]
/-- the reference: one sits down -/
theorem ms117 {K : Int → Int → Int → Int → jW → Int × jW} {ky fl sm : Nat → Int} {h n : Nat} {l1 l3 : Int} (hn : n < 40) (gd : Nat → Prop) (fb : ∀ j : Nat, gd j → (fl j = 0 ∨ fl j = 1) ∧ (ky j = if fl j = 0 then -2000000000000 else sm j) ∧ (fl j = 1 → -2000000000000 < sm j)) (gd_h : gd h) : ∀ (a r : Nat) (f : Nat → Int) (W : jW), a ≤ n → a < r → (∀ j : Nat, gd j → W.1 171 j = fl j ∧ W.2.1 170 j = sm j) → (∀ j : Nat, j ≤ n → j ≠ a → W.1 172 j = f j ∧ 0 ≤ f j ∧ f j < (h : Int) ∧ gd (f j).toNat) → ∀ M : jW, pZm M W → pKf W E.1 kn → ∃ V : jW, d_X12_seat_r125d_117 K r l1 l3 (n : Int) (h : Int) (a : Int) W = K l1 l3 ((n : Int) + 1) ((h : Int) + 1) V ∧ pZm M V ∧ pKf V E.1 kn ∧ (∀ j : Nat, V.1 171 j = W.1 171 j ∧ V.2.1 170 j = W.2.1 170 j) ∧ ∀ j : Nat, j ≤ n → V.1 172 j = sIx ky h a f j := by
  have fin : ∀ (a : Nat) (f : Nat → Int) (W : jW), (∀ j : Nat, j ≤ n → j ≠ a → W.1 172 j = f j ∧ 0 ≤ f j ∧ f j < (h : Int) ∧ gd (f j).toNat) → ∀ M : jW, pZm M W → pKf W E.1 kn → ∃ V : jW, d_X12_seat_r125d_162 K l1 l3 (n : Int) (h : Int) (a : Int) W = K l1 l3 ((n : Int) + 1) ((h : Int) + 1) V ∧ pZm M V ∧ pKf V E.1 kn ∧ (∀ j : Nat, V.1 171 j = W.1 171 j ∧ V.2.1 170 j = W.2.1 170 j) ∧ ∀ j : Nat, j ≤ n → V.1 172 j = sU f a (h : Int) j := by
    intro a f W hf M z k
    refine ⟨vu W 172 (a : Int).toNat (h : Int), rfl, pZm_u z (by decide), kf_c k (vu_c (by decide)) (vu_c (by decide)) (vu_c (by decide)), fun j => ⟨vu_n (by omega), rfl⟩, fun j hj => ?_⟩
    rw [show (a : Int).toNat = a from by omega]
    by_cases c : j = a
    · rw [sU_e c]; exact vu_e c
    · rw [sU_n c]; exact (vu_n (by omega)).trans (hf j hj c).1
  intro a
  induction a with
  | zero =>
    intro r f W ha hr hs hf M z k
    obtain ⟨r, rfl⟩ : ∃ q, r = q + 1 := ⟨r - 1, by omega⟩
    have st : d_X12_seat_r125d_117 K (r + 1) l1 l3 (n : Int) (h : Int) ((0 : Nat) : Int) W = d_X12_seat_r125d_162 K l1 l3 (n : Int) (h : Int) ((0 : Nat) : Int) W := if_pos (by omega)
    rw [st]
    exact fin 0 f W hf M z k
  | succ a ih =>
    intro r f W ha hr hs hf M z k
    obtain ⟨r, rfl⟩ : ∃ q, r = q + 1 := ⟨r - 1, by omega⟩
    obtain ⟨q1, q2, q3, q4⟩ := hf a (by omega) (by omega)
    have fa : ((f a).toNat : Int) = f a := by omega
    have sa := sah (ky := ky) (fl := fl) (sm := sm) (h := h) (a := (f a).toNat) W (by omega) (hs h gd_h).1 (hs _ q4).1 (hs h gd_h).2 (hs _ q4).2 (fb h gd_h).1 (fb _ q4).1 (fb h gd_h).2.1 (fb _ q4).2.1 (fb h gd_h).2.2 (fb _ q4).2.2
    rw [fa] at sa
    have st : d_X12_seat_r125d_117 K (r + 1) l1 l3 (n : Int) (h : Int) ((a + 1 : Nat) : Int) W = if d_X12_sitsAhead_r125d (h : Int) (f a) W = 0 then d_X12_seat_r125d_162 K l1 l3 (n : Int) (h : Int) ((a + 1 : Nat) : Int) W else d_X12_seat_r125d_117 K r l1 l3 (n : Int) (h : Int) (a : Int) (vu W 172 (a + 1) (f a)) := by
      refine (if_neg (by omega)).trans ?_
      rw [show (((a + 1 : Nat) : Int) - 1).toNat = a from by omega, show ((a + 1 : Nat) : Int) + (-1) = (a : Int) from by omega, show ((a + 1 : Nat) : Int).toNat = a + 1 from by omega, q1]
    rw [st, sa]
    have sx : sIx ky h (a + 1) f = if ky h ≤ ky (f a).toNat then sU f (a + 1) (h : Int) else sIx ky h a (sU f (a + 1) (f a)) := rfl
    rw [sx]
    by_cases c : ky h ≤ ky (f a).toNat
    · rw [if_pos c, if_pos c, if_pos rfl]
      exact fin (a + 1) f W hf M z k
    · rw [if_neg c, if_neg c, if_neg (by decide)]
      obtain ⟨V, v1, v2, v3, v4, v5⟩ := ih r (sU f (a + 1) (f a)) (vu W 172 (a + 1) (f a)) (by omega) (by omega) (fun j gj => ⟨(vu_n (by omega)).trans (hs j gj).1, (hs j gj).2⟩) (fun j hj hne => by
        by_cases e : j = a + 1
        · rw [sU_e e]; exact ⟨vu_e e, q2, q3, q4⟩
        · rw [sU_n e]
          have w := hf j hj e
          exact ⟨(vu_n (by omega)).trans w.1, w.2⟩) M (pZm_u z (by decide)) (kf_c k (vu_c (by decide)) (vu_c (by decide)) (vu_c (by decide)))
      exact ⟨V, v1, v2, v3, fun j => ⟨(v4 j).1.trans (vu_n (by omega)), (v4 j).2⟩, v5⟩
theorem ix_p {k : Nat → Int} {h n : Nat} {P : Int → Prop} (ph : P (h : Int)) : ∀ (a : Nat) (f : Nat → Int), a ≤ n → (∀ j : Nat, j ≤ n → j ≠ a → P (f j)) → ∀ j : Nat, j ≤ n → P (sIx k h a f j) := by
  intro a
  induction a with
  | zero =>
    intro f _ hf j hj
    show P (sU f 0 (h : Int) j)
    by_cases c : j = 0
    · rw [sU_e c]; exact ph
    · rw [sU_n c]; exact hf j hj c
  | succ a ih =>
    intro f ha hf j hj
    show P ((if k h ≤ k (f a).toNat then sU f (a + 1) (h : Int) else sIx k h a (sU f (a + 1) (f a))) j)
    by_cases c : k h ≤ k (f a).toNat
    · rw [if_pos c]
      by_cases e : j = a + 1
      · rw [sU_e e]; exact ph
      · rw [sU_n e]; exact hf j hj e
    · rw [if_neg c]
      refine ih _ (by omega) (fun i hi hn => ?_) j hj
      by_cases e : i = a + 1
      · rw [sU_e e]; exact hf a (by omega) (by omega)
      · rw [sU_n e]; exact hf i hi e
theorem sx_g {k ho : Nat → Int} : ∀ (h j : Nat), j < (sSx2 k ho h).1 → ho ((sSx2 k ho h).2 j).toNat ≠ -1 := by
  intro h
  induction h with
  | zero => intro j hj; exact absurd hj (Nat.not_lt_zero j)
  | succ h ih =>
    have st : sSx2 k ho (h + 1) = if ho h = -1 then sSx2 k ho h else ((sSx2 k ho h).1 + 1, sIx k h (sSx2 k ho h).1 (sSx2 k ho h).2) := rfl
    rw [st]
    by_cases c : ho h = -1
    · rw [if_pos c]; exact ih
    · rw [if_neg c]
      intro j hj
      exact ix_p (k := k) (h := h) (n := (sSx2 k ho h).1) (P := fun x => ho x.toNat ≠ -1) (by show ho (h : Int).toNat ≠ -1; rw [show (h : Int).toNat = h from by omega]; exact c) (sSx2 k ho h).1 (sSx2 k ho h).2 (Nat.le_refl _) (fun i hi hn => ih i (by omega)) j (by have : j < (sSx2 k ho h).1 + 1 := hj; omega)
noncomputable def sFl (E : pE) (g : Nat → Int) (d kn : Int) (q : Nat) : Int := if sBx E g d kn 8 0 (sHo E g d kn q) = -1 then 0 else 1
noncomputable def sSw (E : pE) (g : Nat → Int) (d kn : Int) (q : Nat) : Int := sSv E g d kn 8 0 (sHo E g d kn q)
theorem ky_f (B : ∀ q : Nat, (q : Int) < E.1 7 → sHo E g d kn q ≠ -1 → sBx E g d kn 8 0 (sHo E g d kn q) ≠ -1 → -2000000000000 < sSv E g d kn 8 0 (sHo E g d kn q)) {j : Nat} (hj : (j : Int) < E.1 7) (hh : sHo E g d kn j ≠ -1) : (sFl E g d kn j = 0 ∨ sFl E g d kn j = 1) ∧ (sKy E g d kn j = if sFl E g d kn j = 0 then -2000000000000 else sSw E g d kn j) ∧ (sFl E g d kn j = 1 → -2000000000000 < sSw E g d kn j) := by
  unfold sFl sKy sSw
  by_cases c : sBx E g d kn 8 0 (sHo E g d kn j) = -1
  · rw [if_pos c, if_pos c, if_pos rfl]
    exact ⟨Or.inl rfl, rfl, fun z => absurd z (by decide)⟩
  · rw [if_neg c, if_neg c, if_neg (by decide)]
    exact ⟨Or.inr rfl, rfl, fun _ => B j hj hh c⟩
/-- what the call answers -/
def sAn (S : Nat × (Nat → Int)) (i : Int) : Int := if i = -1 then (S.1 : Int) else if 0 ≤ i ∧ i ≤ (S.1 : Int) - 1 then S.2 i.toNat else -1
theorem ms38 {M : jW} {i : Int} (Q : pMs M E g) (I : pIq E g) (hn : M.1 125 28 = kn) (hd : 0 ≤ d ∧ d ≤ 146399) (Hs : pHq E g d kn) (Il : pIl E.1) (C : pCa E.1) (O : ∀ p : Nat, p < sNl E → g p = (p : Int) → qOk fun w => sQu E g d kn w (p : Int)) (Z : pHz (M.1 162) (M.1 163) 40 E g d kn (E.1 7).toNat) (B : ∀ q : Nat, (q : Int) < E.1 7 → sHo E g d kn q ≠ -1 → sBx E g d kn 8 0 (sHo E g d kn q) ≠ -1 → -2000000000000 < sSv E g d kn 8 0 (sHo E g d kn q)) : ∀ (c h r : Nat) (W : jW), (E.1 7).toNat - h = c → c < r → (h : Int) ≤ E.1 7 → pZm M W → pKf W E.1 kn → (∀ j : Nat, j < h → sHo E g d kn j ≠ -1 → W.1 171 j = sFl E g d kn j ∧ W.2.1 170 j = sSw E g d kn j) → (∀ j : Nat, j < (sSe E g d kn h).1 → W.1 172 j = (sSe E g d kn h).2 j) → ∃ V : jW, d_X12_seat_r125d_38 r d i ((sSe E g d kn h).1 : Int) (h : Int) W = (sAn (sSe E g d kn (E.1 7).toNat) i, V) ∧ pZm M V ∧ pKf V E.1 kn := by
  have b7 := I.2.2.1.1
  have e126 : M.1 126 = E.1 := congrArg Prod.fst Q.1
  intro c
  induction c with
  | zero =>
    intro h r W e hr hh z K hs hp
    obtain ⟨r, rfl⟩ : ∃ q, r = q + 1 := ⟨r - 1, by omega⟩
    have ew : W.1 126 7 = E.1 7 := by rw [zm_126 z, e126]
    refine ⟨W, ?_, z, K⟩
    rw [show (E.1 7).toNat = h from by omega]
    refine (if_pos (by omega)).trans ?_
    unfold sAn d_X12_seat_r125d_214 d_X12_seat_r125d_100214
    by_cases c1 : i = -1
    · rw [if_pos c1, if_pos c1]
    · rw [if_neg c1, if_neg c1]
      by_cases c2 : 0 ≤ i ∧ i ≤ ((sSe E g d kn h).1 : Int) - 1
      · rw [if_pos c2, if_pos c2, hp i.toNat (by omega)]
      · rw [if_neg c2, if_neg c2]
  | succ c ih =>
    intro h r W e hr hh z K hs hp
    obtain ⟨r, rfl⟩ : ∃ q, r = q + 1 := ⟨r - 1, by omega⟩
    have ew : W.1 126 7 = E.1 7 := by rw [zm_126 z, e126]
    have h40 : (40 + (h : Int)).toNat = 40 + h := by omega
    have hN : (h : Int).toNat = h := by omega
    have e163 : W.1 163 (40 + (h : Int)).toNat = sHo E g d kn h := by rw [h40]; exact (z.2.2.2.2 (40 + h) (by omega)).2.trans (Z h (by omega)).2
    have sxb := sx_b (k := sKy E g d kn) (ho := sHo E g d kn) h
    have nb2 : (sSe E g d kn h).1 ≤ h := sxb.1
    have fb2 : ∀ j : Nat, j < (sSe E g d kn h).1 → 0 ≤ (sSe E g d kn h).2 j ∧ (sSe E g d kn h).2 j < (h : Int) := sxb.2
    have fg2 : ∀ j : Nat, j < (sSe E g d kn h).1 → sHo E g d kn ((sSe E g d kn h).2 j).toNat ≠ -1 := sx_g h
    have ss : sSe E g d kn (h + 1) = if sHo E g d kn h = -1 then sSe E g d kn h else ((sSe E g d kn h).1 + 1, sIx (sKy E g d kn) h (sSe E g d kn h).1 (sSe E g d kn h).2) := rfl
    have st : d_X12_seat_r125d_38 (r + 1) d i ((sSe E g d kn h).1 : Int) (h : Int) W = (if sHo E g d kn h = -1 then d_X12_seat_r125d_38 r d i ((sSe E g d kn h).1 : Int) ((h : Int) + 1) W else (if (d_X12_findCount_r125d 8 0 (sHo E g d kn h) d W).1 125 65 = -1 then d_X12_seat_r125d_200101 (fun l1 l3 l4 l5 W => d_X12_seat_r125d_38 r l1 l3 l4 l5 W) d i ((sSe E g d kn h).1 : Int) (h : Int) (h : Int) (d_X12_findCount_r125d 8 0 (sHo E g d kn h) d W) else d_X12_seat_r125d_300101 (fun l1 l3 l4 l5 W => d_X12_seat_r125d_38 r l1 l3 l4 l5 W) d i ((sSe E g d kn h).1 : Int) (h : Int) (h : Int) (d_X12_findCount_r125d 8 0 (sHo E g d kn h) d W))) := by
      refine (if_neg (by omega)).trans ?_
      rw [e163]
      rfl
    rw [st]
    by_cases c2 : sHo E g d kn h = -1
    · rw [if_pos c2]
      rw [if_pos c2] at ss
      have y := ih (h + 1) r W (by omega) (by omega) (by omega) z K (fun j hj hne => by
        by_cases cj : j = h
        · rw [cj] at hne; exact absurd c2 hne
        · exact hs j (by omega) hne) (by rw [ss]; exact hp)
      rw [ss, show ((h + 1 : Nat) : Int) = (h : Int) + 1 from by omega] at y
      exact y
    rw [if_neg c2]
    rw [if_neg c2] at ss
    rcases Hs h (by omega) with y | ⟨p, p1, p2, p3⟩
    · exact absurd y c2
    obtain ⟨m1, m2, m3, m4, m5⟩ := mfz Q I hn hd (s := sHo E g d kn h) c2 Il (by rw [p2]; exact O p p1 p3) C (ki := 8) (wh := 0) z K
    generalize d_X12_findCount_r125d 8 0 (sHo E g d kn h) d W = V at m1 m2 m3 m4 m5 ⊢
    have go : ∀ x : Int, x = sFl E g d kn h → ∃ U : jW, d_X12_seat_r125d_117 (fun l1 l3 l4 l5 W => d_X12_seat_r125d_38 r l1 l3 l4 l5 W) 40 d i ((sSe E g d kn h).1 : Int) (h : Int) ((sSe E g d kn h).1 : Int) (vuL (vu V 171 h x) 170 h (V.2.1 125 64)) = (sAn (sSe E g d kn (E.1 7).toNat) i, U) ∧ pZm M U ∧ pKf U E.1 kn := by
      intro x hx
      have w171 : ∀ j : Nat, j ≤ h → sHo E g d kn j ≠ -1 → (vuL (vu V 171 h x) 170 h (V.2.1 125 64)).1 171 j = sFl E g d kn j ∧ (vuL (vu V 171 h x) 170 h (V.2.1 125 64)).2.1 170 j = sSw E g d kn j := fun j hj hne => by
        have u1 : (vuL (vu V 171 h x) 170 h (V.2.1 125 64)).1 171 j = (vu V 171 h x).1 171 j := rfl
        rw [u1]
        by_cases cj : j = h
        · rw [cj]
          exact ⟨(vu_e rfl).trans hx, vl_e.trans m5⟩
        · have w := hs j (by omega) hne
          refine ⟨(vu_n (by omega)).trans ?_, (vl_n (by omega)).trans ?_⟩
          · rw [(m3 171 (by decide)).1]; exact w.1
          · show V.2.1 170 j = _
            rw [(m3 170 (by decide)).2]; exact w.2
      obtain ⟨U, u1, u2, u3, u4, u5⟩ := ms117 (E := E) (kn := kn) (K := fun l1 l3 l4 l5 W => d_X12_seat_r125d_38 r l1 l3 l4 l5 W) (ky := sKy E g d kn) (fl := sFl E g d kn) (sm := sSw E g d kn) (h := h) (n := (sSe E g d kn h).1) (l1 := d) (l3 := i) (by omega) (gd := fun j => j ≤ h ∧ sHo E g d kn j ≠ -1) (fun j hj => ky_f B (by omega) hj.2) ⟨Nat.le_refl h, c2⟩ (sSe E g d kn h).1 40 (sSe E g d kn h).2 (vuL (vu V 171 h x) 170 h (V.2.1 125 64)) (Nat.le_refl _) (by omega) (fun j hj => w171 j hj.1 hj.2) (fun j hj hne => by
        have f1 := fb2 j (by omega)
        refine ⟨?_, f1.1, f1.2, by omega, fg2 j (by omega)⟩
        show (vu V 171 h x).1 172 j = _
        refine (vu_n (by omega)).trans ?_
        rw [(m3 172 (by decide)).1]
        exact hp j (by omega)) M (pZm_l (pZm_u m1 (by decide)) (by decide)) (kf_c (W := vu V 171 h x) (kf_c m2 (vu_c (by decide)) (vu_c (by decide)) (vu_c (by decide))) rfl rfl rfl)
      rw [u1]
      have y := ih (h + 1) r U (by omega) (by omega) (by omega) u2 u3 (fun j hj hne => by
        rw [(u4 j).1, (u4 j).2]
        exact w171 j (by omega) hne) (by
        rw [ss]
        intro j hj
        exact u5 j (by have : j < (sSe E g d kn h).1 + 1 := hj; omega))
      rw [ss, show ((h + 1 : Nat) : Int) = (h : Int) + 1 from by omega, show (((sSe E g d kn h).1 + 1, sIx (sKy E g d kn) h (sSe E g d kn h).1 (sSe E g d kn h).2).1 : Int) = ((sSe E g d kn h).1 : Int) + 1 from Int.natCast_succ _] at y
      exact y
    have sw : V.2.1 125 64 = sSw E g d kn h := m5
    have bx : V.1 125 65 = sBx E g d kn 8 0 (sHo E g d kn h) := m4
    unfold d_X12_seat_r125d_200101 d_X12_seat_r125d_300101
    rw [hN]
    by_cases c3 : V.1 125 65 = -1
    · rw [if_pos c3]
      exact go 0 (by unfold sFl; rw [if_pos (by rw [← bx]; exact c3)])
    · rw [if_neg c3]
      exact go 1 (by unfold sFl; rw [if_neg (by rw [← bx]; exact c3)])
end
end jG80

section jG81
/-! pure: what the class keeps of DAYS; CLAUSES of TURNS -/
theorem pc_o {l : List (Nat × Nat)} (a : (l.all fun q => Nat.ble 85 q.1 && Nat.ble q.1 122) = true) {c k : Nat} (h : c < 85 ∨ 122 < c) : pc l c k = false := by
  cases e : pc l c k with
  | false => rfl
  | true =>
    exfalso
    unfold pc at e
    rw [List.any_eq_true] at e
    obtain ⟨q, q1, q2⟩ := e
    rw [Bool.and_eq_true] at q2
    have z := Nat.eq_of_beq_eq_true q2.1
    rw [List.all_eq_true] at a
    have b := a q q1
    rw [Bool.and_eq_true] at b
    have b1 := Nat.le_of_ble_eq_true b.1
    have b2 := Nat.le_of_ble_eq_true b.2
    omega
/-- all is as it was but what is worked out -/
def pQy (X Y : jW) : Prop := (∀ c : Nat, c < 85 ∨ 122 < c → Y.1 c = X.1 c) ∧ (∀ c k : Nat, c < 85 ∨ 122 < c → Y.2.2.1 c k = X.2.2.1 c k) ∧ Y.2.2.2 = X.2.2.2
theorem pQy_r {X : jW} : pQy X X := ⟨fun _ _ => rfl, fun _ _ _ => rfl, rfl⟩
theorem pQy_t {X Y Z : jW} (h : pQy X Y) (i : pQy Y Z) : pQy X Z := ⟨fun c q => (i.1 c q).trans (h.1 c q), fun c k q => (i.2.1 c k q).trans (h.2.1 c k q), i.2.2.trans h.2.2⟩
theorem pQy_F {l : List (Nat × Nat)} {X Y : jW} (F : pF l X Y) (a : (l.all fun q => Nat.ble 85 q.1 && Nat.ble q.1 122) = true) : pQy X Y := ⟨fun c q => funext fun k => F.1 c k (pc_o a q), fun c k q => F.2.2.1 c k (pc_o a q), F.2.2.2⟩
theorem pQy_u {X Y : jW} {a k : Nat} {x : Int} (h : pQy X Y) (q : 85 ≤ a ∧ a ≤ 122) : pQy X (vu Y a k x) := ⟨fun c z => (vu_c (by omega)).trans (h.1 c z), h.2⟩
theorem pXs_Qy {X Y : jW} {E : pE} {g : Nat → Int} (y : pQy X Y) (h : pXs X E g) : pXs Y E g := by
  obtain ⟨s1, s2, s3, s4, s5, s6, s7, s8⟩ := h
  exact ⟨s1, s2, by rw [y.1 33 (by omega)]; exact s3, by rw [y.1 78 (by omega)]; exact s4, fun m hm => by rw [y.1 82 (by omega)]; exact s5 m hm, fun m hm => by rw [y.1 83 (by omega)]; exact s6 m hm, fun m hm => by unfold pSl; rw [y.1 79 (by omega), y.1 80 (by omega), y.1 81 (by omega)]; exact s7 m hm, s8⟩
theorem pTc_Qy {X Y : jW} {r : Nat → Int} (y : pQy X Y) (h : pTc X r) : pTc Y r := by
  obtain ⟨c1, c2⟩ := h
  refine ⟨by rw [y.1 32 (by omega)]; exact c1, fun t a b => ?_⟩
  obtain ⟨T, hd, q1, ⟨r1, r2, r3, r4, r5, r6, r7, r8⟩, ⟨cd, u1, u2, u3⟩⟩ := c2 t a b
  refine ⟨T, hd, by rw [y.2.1 66 _ (by omega)]; exact q1, ⟨r1, r2, by rw [y.1 T (by omega)]; exact r3, by rw [y.1 T (by omega)]; exact r4, by rw [y.1 T (by omega)]; exact r5, by rw [y.1 T (by omega)]; exact r6, by rw [y.2.1 T _ (by omega)]; exact r7, fun c ca cb => by rw [y.1 hd (by omega)]; exact r8 c ca cb⟩, ⟨cd, u1, by rw [y.2.1 T _ (by omega)]; exact u2, fun c ca cb cc => by rw [y.1 hd (by omega), y.1 cd (by omega), y.2.2]; exact u3 c ca cb cc⟩⟩
theorem pT_Qy {X Y : jW} {t : pTup} {r : Nat → Int} (y : pQy X Y) (ht : t.1 ≤ 20) (h : pT X 32 t r) : pT Y 32 t r := by
  unfold pT at *
  rw [y.1 (32 + 1 + 2 * t.1) (by omega), y.1 (32 + 2 + 2 * t.1) (by omega)]
  exact h
/-- what holds of the class whatever DAY it turned to last; its SOULS as known on kn -/
def pVk (X : jW) (E : pE) (kn : Int) : Prop := pXs X E (sGs E kn).1 ∧ pT X 32 pt_5 E.1 ∧ pTc X E.1 ∧ pHo X 32 E.1 ∧ pT X 32 pt_7 E.1 ∧ pT X 32 pt_9 E.1 ∧ pKl X E.1 ∧ pKh X E
theorem pVk_Qy {X Y : jW} {E : pE} {kn : Int} (y : pQy X Y) (l : pKl Y E.1) (h : pKh Y E) (P : pVk X E kn) : pVk Y E kn := by
  obtain ⟨p1, p2, p3, p4, p5, p6, _, _⟩ := P
  exact ⟨pXs_Qy y p1, pT_Qy y (by decide) p2, pTc_Qy y p3, pHo_e (by rw [y.1 _ (by omega)]) (by rw [y.1 _ (by omega)]) (fun _ _ => rfl) p4, pT_Qy y (by decide) p5, pT_Qy y (by decide) p6, l, h⟩
theorem pKl_c {X Y : jW} {r : Nat → Int} (e1 : Y.1 99 = X.1 99) (e2 : Y.1 101 = X.1 101) (e3 : Y.1 32 = X.1 32) (h : pKl X r) : pKl Y r := by
  unfold pKl pXl at *
  rw [e1, e2, e3]
  exact h
theorem pKh_c {X Y : jW} {E : pE} (e1 : Y.1 102 = X.1 102) (e2 : Y.1 103 = X.1 103) (e3 : Y.1 105 = X.1 105) (e4 : Y.1 49 = X.1 49) (e5 : Y.1 32 = X.1 32) (h : pKh X E) : pKh Y E := by
  unfold pKh pXh at *
  rw [e1, e2, e3, e4, e5]
  exact h
section
variable {E : pE} {d kn : Int}
/-- the class turns to its LAWS of a DAY -/
theorem xtl {X : jW} (P : pVk X E kn) (Il : pIl E.1) (Ik : pIk E.1) : pXl (d_X0_readLaws_r98d d kn X) E.1 d kn ∧ pVk (d_X0_readLaws_r98d d kn X) E kn ∧ (d_X0_readLaws_r98d d kn X).1 98 10 = d ∧ (d_X0_readLaws_r98d d kn X).1 98 11 = kn ∧ pQy X (d_X0_readLaws_r98d d kn X) ∧ (∀ c : Nat, 102 ≤ c → (d_X0_readLaws_r98d d kn X).1 c = X.1 c) ∧ (d_X0_readLaws_r98d d kn X).2 = X.2 := by
  obtain ⟨a1, a2, a3, a4, a5, a6, a7⟩ := xrl (d := d) (kn := kn) (pTc_h P.2.2.1) Il Ik P.2.2.2.2.2.2.1
  have y := pQy_F (fr_d_X0_readLaws_r98d d kn X) rfl
  exact ⟨a1, pVk_Qy y a2 (pKh_c (a5 102 (by decide) (by decide) (by decide) (by decide)) (a5 103 (by decide) (by decide) (by decide) (by decide)) (a5 105 (by decide) (by decide) (by decide) (by decide)) (y.1 49 (by omega)) (y.1 32 (by omega)) P.2.2.2.2.2.2.2) P, a3, a4, y, fun c hc => a5 c (by omega) (by omega) (by omega) (by omega), a7⟩
/-- and to its HOLDINGS, once it has turned to its LAWS -/
theorem xth {X : jW} (P : pVk X E kn) (H : pIh E) (L : pXl X E.1 d kn) : pV (d_X0_readHouses_r98d d kn X) E (sGs E kn).1 d kn ∧ pVk (d_X0_readHouses_r98d d kn X) E kn ∧ pQy X (d_X0_readHouses_r98d d kn X) ∧ ∀ c : Nat, 106 ≤ c → (d_X0_readHouses_r98d d kn X).1 c = X.1 c ∧ (d_X0_readHouses_r98d d kn X).2.1 c = X.2.1 c := by
  obtain ⟨p1, p2, p3, p4, p5, p6, p7, p8⟩ := P
  obtain ⟨b1, b2, b3, b4, b5, b6⟩ := xrh (d := d) (kn := kn) H p4 p5 p6 p1.2.2.1 p1.2.2.2.2.1 p8
  have F := fr_d_X0_readHouses_r98d d kn X
  have y := pQy_F F rfl
  have fr : ∀ c k : Nat, 106 ≤ c → pc fw_X0_readHouses_r98d c k = false := fun c k hc => by
    cases e : pc fw_X0_readHouses_r98d c k with
    | false => rfl
    | true =>
      exfalso
      unfold pc at e
      rw [List.any_eq_true] at e
      obtain ⟨q, q1, q2⟩ := e
      rw [Bool.and_eq_true] at q2
      have z := Nat.eq_of_beq_eq_true q2.1
      have a : (fw_X0_readHouses_r98d.all fun q => Nat.ble q.1 105) = true := rfl
      rw [List.all_eq_true] at a
      have b := Nat.le_of_ble_eq_true (a q q1)
      omega
  have e99 : (d_X0_readHouses_r98d d kn X).1 99 = X.1 99 := pF_c F rfl
  refine ⟨⟨⟨pXs_Qy y p1, b1, b2, b3, pT_Qy y (by decide) p2⟩, pTc_Qy y p3, ?_⟩, pVk_Qy y (pKl_c e99 (pF_c F rfl) (y.1 32 (by omega)) p7) (fun _ => by rw [b4, b5]; exact b1) ⟨p1, p2, p3, p4, p5, p6, p7, p8⟩, y, fun c hc => ⟨funext fun k => F.1 c k (fr c k hc), funext fun k => F.2.1 c k (fr c k hc)⟩⟩
  unfold pXl at *
  rw [e99]
  exact L
end
/-- CLAUSE k is one of TURNS of an OFFICE, and in force -/
def sTu (r : Nat → Int) (d kn o : Int) (k : Int) : Prop := (0 ≤ ((k % 360) / 12) ∧ ((k % 360) / 12) ≤ (r 4 - 1)) ∧ (0 ≤ (k % 12) ∧ (k % 12) ≤ (r ((18820 + (924 * ((k % 360) / 12))) + 3).toNat - 1)) ∧ r (18820 + (924 * ((k % 360) / 12))).toNat = (k / 360) ∧ r (((18820 + (924 * ((k % 360) / 12))) + 4) + (10 * (k % 12))).toNat = 6 ∧ r ((((18820 + (924 * ((k % 360) / 12))) + 4) + (10 * (k % 12))) + 1).toNat = o ∧ sLo r d kn ((k % 360) / 12) ∧ sLs r d kn ((12 * ((k % 360) / 12)) + (k % 12)).toNat = 0
theorem cL_t {P : Int → Prop} {k : Nat} : ∀ i : Nat, (∀ j : Nat, k ≤ j → j < k + i → ¬ P j) → cL P (k + i) = cL P k := by
  intro i
  induction i with
  | zero => intro _; rfl
  | succ i ih =>
    intro n
    exact (cL_n (n (k + i) (by omega) (by omega))).trans (ih (fun j a b => n j a (by omega)))
theorem cL_u {P : Int → Prop} {k l : Nat} (h : k ≤ l) (n : ∀ j : Nat, k ≤ j → j < l → ¬ P j) : cL P l = cL P k := by
  have y := cL_t (P := P) (k := k) (l - k) (fun j a b => n j a (by omega))
  rw [show k + (l - k) = l from by omega] at y
  exact y
section
variable {X : jW} {r : Nat → Int} {d kn o : Int}
theorem xl53 {t : Int} {T hd so : Nat} (K2 : Int → Int → jW → Int) (K16 : Int → Int → Int → jW → Int) (c32 : X.1 32 18 = r 4) (Il : pIl r) (Ik : pIk r) (L : pXl X r d kn) (ht : 0 ≤ t ∧ t < r 4) (Qe : pTe X r t T hd) (hso : so ≤ 1) (es : r (18820 + (924 * t)).toNat = (so : Int)) : ∀ (f : Nat) (c : Int), -1 ≤ c → c < r ((18820 + (924 * t)) + 3).toNat → c + 1 < f → cL (sTu r d kn o) 720 = cL (sTu r d kn o) (360 * so + 12 * t.toNat + (c + 1).toNat) → (d_X0_lastTurn_r98d_53 K2 K16 f o (so : Int) t T c X = K16 o (so : Int) (t + (-1)) X ∧ cL (sTu r d kn o) 720 = cL (sTu r d kn o) (360 * so + 12 * t.toNat)) ∨ (cL (sTu r d kn o) 720 ≠ -1 ∧ d_X0_lastTurn_r98d_53 K2 K16 f o (so : Int) t T c X = cL (sTu r d kn o) 720 % 360) := by
  have J := Il.2.2 t ht.1 ht.2
  have b30 := Il.2.1
  intro f
  induction f with
  | zero => intro c h1 h2 h3; omega
  | succ f ih =>
    intro c h1 h2 h3 h
    by_cases z : c < 0
    · refine Or.inl ⟨if_pos z, ?_⟩
      rw [show (c + 1).toNat = 0 from by omega] at h
      exact h
    · have H := Qe.2.2.2.2.2.2.2 c (by omega) h2
      have k0 := (he_e Qe (show 0 ≤ c from by omega) h2 (show (0 : Int) ≤ 0 ∧ (0 : Int) < 6 from by decide)).trans H.1
      have k1 := (he_e Qe (show 0 ≤ c from by omega) h2 (show (0 : Int) ≤ 1 ∧ (1 : Int) < 6 from by decide)).trans H.2.1
      have kk := Ik t ht.1 ht.2 c (by omega) h2
      have b99 : j_iand (j_ishr (X.1 99 t.toNat) c) 1 = 1 ↔ sLo r d kn t ∧ sLs r d kn ((12 * t) + c).toNat = 0 := by
        have f := @bt_g (X.1 99 t.toNat) c.toNat (by omega)
        have l := L t.toNat c.toNat (by omega) (by omega)
        rw [show ((t.toNat : Nat) : Int) = t from by omega, show 12 * t.toNat + c.toNat = ((12 * t) + c).toNat from by omega] at l
        rw [show ((c.toNat : Nat) : Int) = c from by omega] at f l
        exact f.trans (l.trans ⟨fun y => ⟨y.1, y.2.2⟩, fun y => ⟨y.1, h2, y.2⟩⟩)
      have kn1 : (c + 1).toNat = c.toNat + 1 := by omega
      rw [kn1, ← Nat.add_assoc] at h
      have kt : ((360 * so + 12 * t.toNat + c.toNat : Nat) : Int) % 360 / 12 = t := by omega
      have kc : ((360 * so + 12 * t.toNat + c.toNat : Nat) : Int) % 12 = c := by omega
      have ks : ((360 * so + 12 * t.toNat + c.toNat : Nat) : Int) / 360 = (so : Int) := by omega
      have ki360 : ((360 * so + 12 * t.toNat + c.toNat : Nat) : Int) % 360 = t * 12 + c := by omega
      have pk : sTu r d kn o ((360 * so + 12 * t.toNat + c.toNat : Nat) : Int) ↔ r (((18820 + (924 * t)) + 4) + (10 * c)).toNat = 6 ∧ r ((((18820 + (924 * t)) + 4) + (10 * c)) + 1).toNat = o ∧ sLo r d kn t ∧ sLs r d kn ((12 * t) + c).toNat = 0 := by
        unfold sTu
        rw [kt, kc, ks]
        exact ⟨fun y => y.2.2.2, fun y => ⟨⟨by omega, by omega⟩, ⟨by omega, by omega⟩, es, y⟩⟩
      have cm : (c + (-1) + 1).toNat = c.toNat := by omega
      have go : cL (sTu r d kn o) 720 = cL (sTu r d kn o) (360 * so + 12 * t.toNat + c.toNat) → (d_X0_lastTurn_r98d_53 K2 K16 f o (so : Int) t T (c + (-1)) X = K16 o (so : Int) (t + (-1)) X ∧ cL (sTu r d kn o) 720 = cL (sTu r d kn o) (360 * so + 12 * t.toNat)) ∨ (cL (sTu r d kn o) 720 ≠ -1 ∧ d_X0_lastTurn_r98d_53 K2 K16 f o (so : Int) t T (c + (-1)) X = cL (sTu r d kn o) 720 % 360) := fun y => ih (c + (-1)) (by omega) (by omega) (by omega) (by rw [cm]; exact y)
      have st : d_X0_lastTurn_r98d_53 K2 K16 (f + 1) o (so : Int) t T c X = (if d_head T c 0 X = 5 then (if d_head T c 1 X = o then (if r 4 ≤ t then d_X0_lastTurn_r98d_53 K2 K16 f o (so : Int) t T (c + (-1)) X else if j_iand (j_ishr (X.1 99 t.toNat) c) 1 = 1 then t * 12 + c else d_X0_lastTurn_r98d_53 K2 K16 f o (so : Int) t T (c + (-1)) X) else d_X0_lastTurn_r98d_53 K2 K16 f o (so : Int) t T (c + (-1)) X) else d_X0_lastTurn_r98d_53 K2 K16 f o (so : Int) t T (c + (-1)) X) := by
        refine (if_neg z).trans ?_
        rw [c32]
        rfl
      rw [st, k0, k1]
      generalize 360 * so + 12 * t.toNat + c.toNat = k at *
      by_cases n0 : r (((18820 + (924 * t)) + 4) + (10 * c)).toNat = 6
      · rw [n0, if_neg (show ¬ (6 : Int) = 0 from by decide), if_neg (show ¬ (6 : Int) = 0 from by decide), if_pos (show (6 : Int) - 1 = 5 from by decide)]
        by_cases n1 : r ((((18820 + (924 * t)) + 4) + (10 * c)) + 1).toNat = o
        · rw [if_pos n1, if_neg (show ¬ r 4 ≤ t from by omega)]
          by_cases n2 : j_iand (j_ishr (X.1 99 t.toNat) c) 1 = 1
          · rw [if_pos n2]
            have e := h.trans (cL_y (pk.mpr ⟨n0, n1, b99.mp n2⟩))
            exact Or.inr ⟨by omega, by rw [e, ki360]⟩
          · rw [if_neg n2]
            exact go (h.trans (cL_n (fun y => n2 (b99.mpr (pk.mp y).2.2))))
        · rw [if_neg n1]
          exact go (h.trans (cL_n (fun y => n1 (pk.mp y).2.1)))
      · rw [if_neg (show ¬ (if r (((18820 + (924 * t)) + 4) + (10 * c)).toNat = 0 then 8 else r (((18820 + (924 * t)) + 4) + (10 * c)).toNat - 1) = 5 from by
          by_cases q : r (((18820 + (924 * t)) + 4) + (10 * c)).toNat = 0
          · rw [if_pos q]; decide
          · rw [if_neg q]; omega)]
        exact go (h.trans (cL_n (fun y => n0 (pk.mp y).1)))
theorem xl16 {so : Nat} (K2 : Int → Int → jW → Int) (P : pTh X r) (Il : pIl r) (Ik : pIk r) (L : pXl X r d kn) (hso : so ≤ 1) : ∀ (f : Nat) (t : Int), -1 ≤ t → t < r 4 → t + 1 < f → cL (sTu r d kn o) 720 = cL (sTu r d kn o) (360 * so + 12 * (t + 1).toNat) → (d_X0_lastTurn_r98d_16 K2 f o (so : Int) t X = K2 o ((so : Int) + (-1)) X ∧ cL (sTu r d kn o) 720 = cL (sTu r d kn o) (360 * so)) ∨ (cL (sTu r d kn o) 720 ≠ -1 ∧ d_X0_lastTurn_r98d_16 K2 f o (so : Int) t X = cL (sTu r d kn o) 720 % 360) := by
  have b30 := Il.2.1
  intro f
  induction f with
  | zero => intro t h1 h2 h3; omega
  | succ f ih =>
    intro t h1 h2 h3 h
    by_cases z : t < 0
    · refine Or.inl ⟨if_pos z, ?_⟩
      rw [show (t + 1).toNat = 0 from by omega] at h
      exact h
    · obtain ⟨T, hd', eT, Qe⟩ := P.2 t (by omega) h2
      have J := Il.2.2 t (by omega) h2
      have tm : (t + (-1) + 1).toNat = t.toNat := by omega
      have go := fun (y : cL (sTu r d kn o) 720 = cL (sTu r d kn o) (360 * so + 12 * t.toNat)) => ih (t + (-1)) (by omega) (by omega) (by omega) (by rw [tm]; exact y)
      have st : d_X0_lastTurn_r98d_16 K2 (f + 1) o (so : Int) t X = (if r (18820 + (924 * t)).toNat = (so : Int) then d_X0_lastTurn_r98d_53 K2 (fun l1 l2 l3 W => d_X0_lastTurn_r98d_16 K2 f l1 l2 l3 W) 13 o (so : Int) t T (r ((18820 + (924 * t)) + 3).toNat - 1) X else d_X0_lastTurn_r98d_16 K2 f o (so : Int) (t + (-1)) X) := by
        refine (if_neg z).trans ?_
        rw [P.1, if_neg (show ¬ r 4 ≤ t from by omega), eT, if_neg (show ¬ (some T).isNone = true from fun y => Bool.noConfusion y), show (some T).getD 0 = T from rfl, Qe.2.2.1, Qe.2.2.2.2.2.1, Int.add_zero]
        rfl
      rw [st]
      by_cases e : r (18820 + (924 * t)).toNat = (so : Int)
      · rw [if_pos e]
        have hx9 : cL (sTu r d kn o) 720 = cL (sTu r d kn o) (360 * so + 12 * t.toNat + (r ((18820 + (924 * t)) + 3).toNat - 1 + 1).toNat) := by
          refine h.trans (cL_u (by omega) (fun j j1 j2 y => ?_))
          have y2 := y.2.1.2
          rw [show (j : Int) % 360 / 12 = t from by omega] at y2
          omega
        rcases xl53 K2 (fun l1 l2 l3 W => d_X0_lastTurn_r98d_16 K2 f l1 l2 l3 W) P.1 Il Ik L ⟨by omega, h2⟩ Qe hso e 13 (r ((18820 + (924 * t)) + 3).toNat - 1) (by omega) (by omega) (by omega) hx9 with ⟨a, b⟩ | ⟨a, b⟩
        · rcases go b with ⟨a', b'⟩ | ⟨a', b'⟩
          · exact Or.inl ⟨a.trans a', b'⟩
          · exact Or.inr ⟨a', a.trans b'⟩
        · exact Or.inr ⟨a, b⟩
      · rw [if_neg e]
        refine go (h.trans (cL_u (by omega) (fun j j1 j2 y => ?_)))
        have y2 := y.2.2.1
        rw [show (j : Int) % 360 / 12 = t from by omega, show (j : Int) / 360 = (so : Int) from by omega] at y2
        exact e y2
/-- the class: which CLAUSE of TURNS there is -/
theorem xlt (P : pTh X r) (Il : pIl r) (Ik : pIk r) (L : pXl X r d kn) : d_X0_lastTurn_r98d o X = cBy (sTu r d kn o) 720 := by
  have b30 := Il.2.1
  have b0 := Il.1
  have run : ∀ (so : Nat) (K2 : Int → Int → jW → Int), so ≤ 1 → cL (sTu r d kn o) 720 = cL (sTu r d kn o) (360 * so + 360) → (d_X0_lastTurn_r98d_16 K2 31 o (so : Int) (X.1 32 18 - 1) X = K2 o ((so : Int) + (-1)) X ∧ cL (sTu r d kn o) 720 = cL (sTu r d kn o) (360 * so)) ∨ (cL (sTu r d kn o) 720 ≠ -1 ∧ d_X0_lastTurn_r98d_16 K2 31 o (so : Int) (X.1 32 18 - 1) X = cL (sTu r d kn o) 720 % 360) := fun so K2 hso h => by
    rw [P.1]
    refine xl16 K2 P Il Ik L hso 31 (r 4 - 1) (by omega) (by omega) (by omega) (h.trans (cL_u (by omega) (fun j j1 j2 y => ?_)))
    have y2 := y.1.2
    omega
  unfold cBy
  have s : d_X0_lastTurn_r98d o X = d_X0_lastTurn_r98d_16 (fun l1 l2 W => d_X0_lastTurn_r98d_2 2 l1 l2 W) 31 o ((1 : Nat) : Int) (X.1 32 18 - 1) X := rfl
  rw [s]
  rcases run 1 (fun l1 l2 W => d_X0_lastTurn_r98d_2 2 l1 l2 W) (by decide) rfl with ⟨a, b⟩ | ⟨a, b⟩
  · rw [a]
    show d_X0_lastTurn_r98d_16 (fun l1 l2 W => d_X0_lastTurn_r98d_2 1 l1 l2 W) 31 o ((0 : Nat) : Int) (X.1 32 18 - 1) X = _
    rcases run 0 (fun l1 l2 W => d_X0_lastTurn_r98d_2 1 l1 l2 W) (by decide) b with ⟨a', b'⟩ | ⟨a', b'⟩
    · rw [a', if_pos (show cL (sTu r d kn o) 720 = -1 from b')]
      rfl
    · rw [b', if_neg a']
  · rw [b, if_neg a]
end
end jG81

section jG82
/-! pure: CLAUSES of TURNS at the reference; rounds -/
theorem zm_F {M W V : jW} (z : pZm M W) (F : pF fw_X12_findCount_r125d W V) (h : ∀ i : Nat, 40 ≤ i → V.1 162 i = W.1 162 i ∧ V.1 163 i = W.1 163 i) : pZm M V ∧ ∀ c : Nat, 165 ≤ c → V.1 c = W.1 c ∧ V.2.1 c = W.2.1 c := ⟨⟨fun c k a b => (F.1 c k b).trans (z.1 c k a b), fun c k a b => (F.2.1 c k b).trans (z.2.1 c k a b), fun c k b => (F.2.2.1 c k b).trans (z.2.2.1 c k b), F.2.2.2.trans z.2.2.2.1, fun i hi => ⟨(h i hi).1.trans (z.2.2.2.2 i hi).1, (h i hi).2.trans (z.2.2.2.2 i hi).2⟩⟩, fun c a => ⟨funext fun k => F.1 c k (fwm_r a), funext fun k => F.2.1 c k (fwm_r a)⟩⟩
theorem cBy_n {P : Int → Prop} {k : Nat} (h : ¬ P k) : cBy P (k + 1) = cBy P k := by
  unfold cBy
  rw [cL_n h]
theorem cBy_y {P : Int → Prop} {k : Nat} (h : P k) : cBy P (k + 1) = (k : Int) % 360 := by
  unfold cBy
  rw [cL_y h, if_neg (by omega)]
section
variable {E : pE} {d kn o : Int}
theorem mtc5 {M : jW} (e126 : M.1 126 = E.1) (e28 : M.1 125 28 = kn) (b7 : E.1 7 ≤ 40) (Il : pIl E.1) (hd : d ≠ -1) : ∀ (f k : Nat) (W : jW), k ≤ 720 → 720 - k < f → pZm M W → pKf W E.1 kn → ∃ V : jW, d_X12_turnClause_r125d_5 f o d (cBy (sTu E.1 d kn o) k) (k : Int) W = (cBy (sTu E.1 d kn o) 720, V) ∧ pZm M V ∧ pKf V E.1 kn ∧ ∀ c : Nat, 165 ≤ c → V.1 c = W.1 c ∧ V.2.1 c = W.2.1 c := by
  intro f
  induction f with
  | zero => intro k W h1 h2; omega
  | succ f ih =>
    intro k W h1 h2 z K
    by_cases c0 : 720 ≤ (k : Int)
    · have ek : k = 720 := by omega
      refine ⟨W, ?_, z, K, fun c _ => ⟨rfl, rfl⟩⟩
      rw [← ek]
      exact if_pos c0
    · have w126 : W.1 126 = E.1 := (zm_126 z).trans e126
      have w28 : W.1 125 28 = kn := (z.1 125 28 (by decide) rfl).trans e28
      have mf := mff (M := W) (d := d) (by rw [w126]; exact Il) hd (by rw [w126, w28]; exact K)
      rw [w126, w28] at mf
      have F : pF fw_X12_findCount_r125d W (d_X12_findForce_r125d d W) := pF_m rfl (fr_d_X12_findForce_r125d _ _)
      have G := (gr_d_X12_findForce_r125d d W).2 (by rw [w126]; exact b7)
      have zz := zm_F z F G
      have nx : ∀ (W1 : jW) (x : Int), pZm M W1 → pKf W1 E.1 kn → (∀ c : Nat, 165 ≤ c → W1.1 c = W.1 c ∧ W1.2.1 c = W.2.1 c) → x = cBy (sTu E.1 d kn o) (k + 1) → ∃ V : jW, d_X12_turnClause_r125d_5 f o d x ((k : Int) + 1) W1 = (cBy (sTu E.1 d kn o) 720, V) ∧ pZm M V ∧ pKf V E.1 kn ∧ ∀ c : Nat, 165 ≤ c → V.1 c = W.1 c ∧ V.2.1 c = W.2.1 c := fun W1 x a b c e => by
        obtain ⟨V, v1, v2, v3, v4⟩ := ih (k + 1) W1 (by omega) (by omega) a b
        rw [show ((k + 1 : Nat) : Int) = (k : Int) + 1 from by omega] at v1
        rw [e]
        exact ⟨V, v1, v2, v3, fun j hj => ⟨(v4 j hj).1.trans (c j hj).1, (v4 j hj).2.trans (c j hj).2⟩⟩
      have no : ¬ sTu E.1 d kn o (k : Int) → ∃ V : jW, d_X12_turnClause_r125d_5 f o d (cBy (sTu E.1 d kn o) k) ((k : Int) + 1) W = (cBy (sTu E.1 d kn o) 720, V) ∧ pZm M V ∧ pKf V E.1 kn ∧ ∀ c : Nat, 165 ≤ c → V.1 c = W.1 c ∧ V.2.1 c = W.2.1 c := fun n => nx W _ z K (fun _ _ => ⟨rfl, rfl⟩) (cBy_n n).symm
      have st : d_X12_turnClause_r125d_5 (f + 1) o d (cBy (sTu E.1 d kn o) k) (k : Int) W = (if 0 ≤ (((k : Int) % 360) / 12) ∧ (((k : Int) % 360) / 12) ≤ (E.1 4 - 1) then (if 0 ≤ ((k : Int) % 12) ∧ ((k : Int) % 12) ≤ (E.1 ((18820 + (924 * (((k : Int) % 360) / 12))) + 3).toNat - 1) then (if E.1 (18820 + (924 * (((k : Int) % 360) / 12))).toNat = ((k : Int) / 360) then (if E.1 (((18820 + (924 * (((k : Int) % 360) / 12))) + 4) + (10 * ((k : Int) % 12))).toNat = 6 then (if E.1 ((((18820 + (924 * (((k : Int) % 360) / 12))) + 4) + (10 * ((k : Int) % 12))) + 1).toNat = o then (if (d_X12_findForce_r125d d W).1 153 (((k : Int) % 360) / 12).toNat = 0 then d_X12_turnClause_r125d_5 f o d (cBy (sTu E.1 d kn o) k) ((k : Int) + 1) (d_X12_findForce_r125d d W) else (if (d_X12_findForce_r125d d W).1 152 ((12 * (((k : Int) % 360) / 12)) + ((k : Int) % 12)).toNat = 0 then d_X12_turnClause_r125d_5 f o d ((12 * (((k : Int) % 360) / 12)) + ((k : Int) % 12)) ((k : Int) + 1) (d_X12_findForce_r125d d W) else d_X12_turnClause_r125d_5 f o d (cBy (sTu E.1 d kn o) k) ((k : Int) + 1) (d_X12_findForce_r125d d W))) else d_X12_turnClause_r125d_5 f o d (cBy (sTu E.1 d kn o) k) ((k : Int) + 1) W) else d_X12_turnClause_r125d_5 f o d (cBy (sTu E.1 d kn o) k) ((k : Int) + 1) W) else d_X12_turnClause_r125d_5 f o d (cBy (sTu E.1 d kn o) k) ((k : Int) + 1) W) else d_X12_turnClause_r125d_5 f o d (cBy (sTu E.1 d kn o) k) ((k : Int) + 1) W) else d_X12_turnClause_r125d_5 f o d (cBy (sTu E.1 d kn o) k) ((k : Int) + 1) W) := by
        refine (if_neg c0).trans ?_
        rw [w126]
        rfl
      rw [st]
      by_cases c1 : 0 ≤ (((k : Int) % 360) / 12) ∧ (((k : Int) % 360) / 12) ≤ (E.1 4 - 1)
      · rw [if_pos c1]
        by_cases c2 : 0 ≤ ((k : Int) % 12) ∧ ((k : Int) % 12) ≤ (E.1 ((18820 + (924 * (((k : Int) % 360) / 12))) + 3).toNat - 1)
        · rw [if_pos c2]
          by_cases c3 : E.1 (18820 + (924 * (((k : Int) % 360) / 12))).toNat = ((k : Int) / 360)
          · rw [if_pos c3]
            by_cases c4 : E.1 (((18820 + (924 * (((k : Int) % 360) / 12))) + 4) + (10 * ((k : Int) % 12))).toNat = 6
            · rw [if_pos c4]
              by_cases c5 : E.1 ((((18820 + (924 * (((k : Int) % 360) / 12))) + 4) + (10 * ((k : Int) % 12))) + 1).toNat = o
              · rw [if_pos c5]
                have f1 := mf.1.2 (((k : Int) % 360) / 12).toNat (by omega)
                have f2 := mf.1.1 ((12 * (((k : Int) % 360) / 12)) + ((k : Int) % 12)).toNat (by omega)
                rw [show (((((k : Int) % 360) / 12).toNat : Nat) : Int) = ((k : Int) % 360) / 12 from by omega] at f1
                rw [f1, f2]
                by_cases c6 : sLo E.1 d kn (((k : Int) % 360) / 12)
                · rw [tv_t c6, if_neg (by decide)]
                  by_cases c7 : sLs E.1 d kn ((12 * (((k : Int) % 360) / 12)) + ((k : Int) % 12)).toNat = 0
                  · rw [if_pos c7]
                    exact nx _ _ zz.1 mf.2.1 zz.2 (by rw [cBy_y (P := sTu E.1 d kn o) (k := k) ⟨c1, c2, c3, c4, c5, c6, c7⟩]; omega)
                  · rw [if_neg c7]
                    exact nx _ _ zz.1 mf.2.1 zz.2 (cBy_n (fun y => c7 y.2.2.2.2.2.2)).symm
                · rw [tv_f c6, if_pos rfl]
                  exact nx _ _ zz.1 mf.2.1 zz.2 (cBy_n (fun y => c6 y.2.2.2.2.2.1)).symm
              · rw [if_neg c5]; exact no (fun y => c5 y.2.2.2.2.1)
            · rw [if_neg c4]; exact no (fun y => c4 y.2.2.2.1)
          · rw [if_neg c3]; exact no (fun y => c3 y.2.2.1)
        · rw [if_neg c2]; exact no (fun y => c2 y.2.1)
      · rw [if_neg c1]; exact no (fun y => c1 y.1)
/-- the reference: which CLAUSE of TURNS there is -/
theorem mtc {M W : jW} (e126 : M.1 126 = E.1) (e28 : M.1 125 28 = kn) (b7 : E.1 7 ≤ 40) (Il : pIl E.1) (hd : d ≠ -1) (z : pZm M W) (K : pKf W E.1 kn) : ∃ V : jW, d_X12_turnClause_r125d o d W = (cBy (sTu E.1 d kn o) 720, V) ∧ pZm M V ∧ pKf V E.1 kn ∧ ∀ c : Nat, 165 ≤ c → V.1 c = W.1 c ∧ V.2.1 c = W.2.1 c := mtc5 e126 e28 b7 Il hd 721 0 W (by decide) (by decide) z K
end
/-- the first from n on, of c, that keeps P -/
noncomputable def sFi (P : Nat → Prop) : Nat → Nat → Nat
  | 0, n => n
  | c + 1, n => if tv (P n) = 0 then sFi P c (n + 1) else n
theorem fi_y {P : Nat → Prop} {c n : Nat} (h : P n) : sFi P (c + 1) n = n := by
  show (if tv (P n) = 0 then sFi P c (n + 1) else n) = n
  rw [tv_t h, if_neg (by decide)]
theorem fi_n {P : Nat → Prop} {c n : Nat} (h : ¬ P n) : sFi P (c + 1) n = sFi P c (n + 1) := by
  show (if tv (P n) = 0 then sFi P c (n + 1) else n) = _
  rw [tv_f h, if_pos rfl]
/-- in none of the s YEARS before y did h serve -/
def sRst (b : Nat → Int) (y : Nat) (s : Int) (h : Int) : Prop := ∀ j : Nat, j < y → (y : Int) - s ≤ (j : Int) → b j ≠ h
/-- the reference: who served lately -/
theorem msl18 {W : jW} {y : Nat} {h : Int} : ∀ (c j r : Nat) (x : Int), y - j = c → c < r → (d_X12_servedLately_r125d_18 r h (y : Int) x (j : Int) W = 0 ↔ x = 0 ∧ ∀ i : Nat, j ≤ i → i < y → W.1 168 i ≠ h) := by
  intro c
  induction c with
  | zero =>
    intro j r x e hr
    obtain ⟨r, rfl⟩ : ∃ q, r = q + 1 := ⟨r - 1, by omega⟩
    have st : d_X12_servedLately_r125d_18 (r + 1) h (y : Int) x (j : Int) W = x := if_pos (by omega)
    rw [st]
    exact ⟨fun q => ⟨q, fun i a b => by omega⟩, fun q => q.1⟩
  | succ c ih =>
    intro j r x e hr
    obtain ⟨r, rfl⟩ : ∃ q, r = q + 1 := ⟨r - 1, by omega⟩
    have st : d_X12_servedLately_r125d_18 (r + 1) h (y : Int) x (j : Int) W = if x = 0 then (if W.1 168 j = h then d_X12_servedLately_r125d_18 r h (y : Int) 1 ((j + 1 : Nat) : Int) W else d_X12_servedLately_r125d_18 r h (y : Int) 0 ((j + 1 : Nat) : Int) W) else d_X12_servedLately_r125d_18 r h (y : Int) 1 ((j + 1 : Nat) : Int) W := by
      refine (if_neg (by omega)).trans ?_
      rw [show (j : Int).toNat = j from by omega]
      rfl
    have i0 := ih (j + 1) r 0 (by omega) (by omega)
    have i1 := ih (j + 1) r 1 (by omega) (by omega)
    rw [st]
    by_cases cx : x = 0
    · rw [if_pos cx]
      by_cases cj : W.1 168 j = h
      · rw [if_pos cj]
        exact ⟨fun q => absurd (i1.mp q).1 (by decide), fun q => absurd cj (q.2 j (Nat.le_refl j) (by omega))⟩
      · rw [if_neg cj]
        refine ⟨fun q => ⟨cx, fun i a b => ?_⟩, fun q => i0.mpr ⟨rfl, fun i a b => q.2 i (by omega) b⟩⟩
        by_cases z : i = j
        · rw [z]; exact cj
        · exact (i0.mp q).2 i (by omega) b
    · rw [if_neg cx]
      exact ⟨fun q => absurd (i1.mp q).1 (by decide), fun q => absurd q.1 cx⟩
theorem msl {W : jW} {b : Nat → Int} {y : Nat} {h s : Int} (hy : y ≤ 399) (e : ∀ j : Nat, j < y → W.1 168 j = b j) : (d_X12_servedLately_r125d h (y : Int) s W = 0) ↔ sRst b y s h := by
  have key : ∀ j0 : Nat, (d_X12_servedLately_r125d_18 400 h (y : Int) 0 (j0 : Int) W = 0 ↔ ∀ i : Nat, j0 ≤ i → i < y → b i ≠ h) := fun j0 => by
    have q := msl18 (W := W) (h := h) (y - j0) j0 400 0 rfl (by omega)
    exact q.trans ⟨fun z i a c => by rw [← e i c]; exact z.2 i a c, fun z => ⟨rfl, fun i a c => by rw [e i c]; exact z i a c⟩⟩
  unfold d_X12_servedLately_r125d d_X12_servedLately_r125d_16 d_X12_servedLately_r125d_200016 sRst
  by_cases c : 0 ≤ (y : Int) - s
  · rw [if_pos c]
    have k := key ((y : Int) - s).toNat
    rw [show ((((y : Int) - s).toNat : Nat) : Int) = (y : Int) - s from by omega] at k
    exact k.trans ⟨fun z i a c => z i (by omega) a, fun z i a c => z i c (by omega)⟩
  · rw [if_neg c]
    have k := key 0
    rw [show ((0 : Nat) : Int) = 0 from rfl] at k
    exact k.trans ⟨fun z i a c => z i (by omega) a, fun z i a c => z i c (by omega)⟩
end jG82

section jG83
/-! pure: one round of TURNS, on both sides -/
section
variable {E : pE} {g : Nat → Int} {d kn : Int}
theorem xhz {X W : jW} {t c : Int} {p : Nat} (Q : pV X E g d kn) (I : pIq E g) (hd : 0 ≤ d ∧ d ≤ 146399) (hp : p < sNl E) (ep : g p = (p : Int)) (Ik : pIk E.1) (Il : pIl E.1) (O : qOk fun w => sQu E g d kn w (p : Int)) (ht : 0 ≤ t ∧ t < E.1 4) (hc : 0 ≤ c ∧ c < E.1 ((18820 + (924 * t)) + 3).toNat) (h : pZ X W) : (d_X0_holdsFor_r98d t c (p : Int) W).1 = tv (sHd E.1 d kn t c fun w => sQu E g d kn w (p : Int)) ∧ pZ X (d_X0_holdsFor_r98d t c (p : Int) W).2 ∧ ∀ a : Nat, 107 ≤ a → a ≤ 122 → (d_X0_holdsFor_r98d t c (p : Int) W).2.1 a = W.1 a ∧ (d_X0_holdsFor_r98d t c (p : Int) W).2.2.1 a = W.2.1 a := by
  have B := bs_v (W := W) Q
  obtain ⟨a1, _, a3⟩ := xho B.1 I hd hp ep B.2.1 Ik Il B.2.2 O ht hc (bs_f h)
  obtain ⟨a, b⟩ := f_bs a3
  exact ⟨a1, a, b⟩
theorem mhz {M W : jW} {t c s : Int} (Q : pMs M E g) (I : pIq E g) (hn : M.1 125 28 = kn) (hd : 0 ≤ d ∧ d ≤ 146399) (hs : s ≠ -1) (Il : pIl E.1) (O : qOk fun w => sQu E g d kn w s) (C : pCa E.1) (ht : 0 ≤ t ∧ t < E.1 4) (hc : 0 ≤ c ∧ c < E.1 ((18820 + (924 * t)) + 3).toNat) (h : pZm M W) (K : pKf W E.1 kn) : (d_X12_holdsFor_r125d t c s d W).1 = tv (sHd E.1 d kn t c fun w => sQu E g d kn w s) ∧ pZm M (d_X12_holdsFor_r125d t c s d W).2 ∧ pKf (d_X12_holdsFor_r125d t c s d W).2 E.1 kn ∧ ∀ a : Nat, 165 ≤ a → (d_X12_holdsFor_r125d t c s d W).2.1 a = W.1 a ∧ (d_X12_holdsFor_r125d t c s d W).2.2.1 a = W.2.1 a := by
  have b7 : W.1 126 7 ≤ 40 := by
    have e2 : M.1 126 = E.1 := congrArg Prod.fst Q.1
    rw [zm_126 h, e2]
    exact I.2.2.1.1.2
  obtain ⟨hh, cd, L, C'⟩ := C t ht.1 ht.2
  obtain ⟨m1, m2⟩ := mho (bmQ (W := W) Q) I (by rw [bm_c (by decide)]; exact hn) hd hs Il O ht hc (C' c hc.1 hc.2) (bm_f h) K
  obtain ⟨a, b⟩ := f_bm m1.2.2 (gr_d_X12_holdsFor_r125d t c s d W) b7 h
  exact ⟨m1.1, a, m2, b⟩
theorem zQy {X W : jW} (z : pZ X W) : pQy X W := ⟨fun c q => funext fun k => z.1 c k (by omega) (pc_o rfl q), fun c k q => z.2.2.1 c k (pc_o rfl q), z.2.2.2⟩
theorem zMs {M W : jW} (z : pZm M W) (Q : pMs M E g) : pMs W E g := pMs_F (bm_f z) (bmQ Q)
/-- HOLDING h may serve in YEAR y, on DAY d, under CLAUSE k; b: who served before -/
def sEl (E : pE) (g : Nat → Int) (d kn : Int) (b : Nat → Int) (y : Nat) (k : Int) (h : Nat) : Prop := sRst b y (E.1 ((((18820 + (924 * (k / 12))) + 4) + (10 * (k % 12))) + 2).toNat) (h : Int) ∧ sHo E g d kn h ≠ -1 ∧ ¬ sHb E g (sHo E g d kn h) 5 d ∧ sHd E.1 d kn (k / 12) (k % 12) fun w => sQu E g d kn w (sHo E g d kn h)
/-- the HOLDING n places on -/
def sPl (L N : Int) (n : Nat) : Nat := ((L + 1 + (n : Int)) % N).toNat
theorem pl_b {L N : Int} (hN : 0 < N) (n : Nat) : ((sPl L N n : Nat) : Int) = (L + 1 + (n : Int)) % N ∧ ((sPl L N n : Nat) : Int) < N := by
  have a := Int.emod_nonneg (L + 1 + (n : Int)) (show N ≠ 0 from by omega)
  have b := Int.emod_lt_of_pos (L + 1 + (n : Int)) hN
  unfold sPl
  omega
/-- how far the round goes -/
noncomputable def sGo (E : pE) (g : Nat → Int) (d kn : Int) (b : Nat → Int) (y : Nat) (k L : Int) (c n : Nat) : Nat := sFi (fun n => sEl E g d kn b y k (sPl L (E.1 7) n)) c n
theorem fi_b {P : Nat → Prop} : ∀ (c n : Nat), n ≤ sFi P c n ∧ sFi P c n ≤ n + c ∧ (sFi P c n < n + c → P (sFi P c n)) := by
  intro c
  induction c with
  | zero => intro n; exact ⟨Nat.le_refl n, Nat.le_refl n, fun h => absurd h (Nat.lt_irrefl _)⟩
  | succ c ih =>
    intro n
    by_cases h : P n
    · rw [fi_y h]
      exact ⟨Nat.le_refl n, by omega, fun _ => h⟩
    · rw [fi_n h]
      have i := ih (n + 1)
      exact ⟨by omega, by omega, fun q => i.2.2 (by omega)⟩
/-- when each served last -/
def pLsv (sl b : Nat → Int) (y : Nat) (N : Int) : Prop := ∀ h : Nat, (h : Int) < N → (sl h = -1 ∧ ∀ j : Nat, j < y → b j ≠ (h : Int)) ∨ ∃ j : Nat, j < y ∧ sl h = (j : Int) ∧ b j = (h : Int) ∧ ∀ i : Nat, j < i → i < y → b i ≠ (h : Int)
theorem ls_r {sl b : Nat → Int} {y : Nat} {N s : Int} (P : pLsv sl b y N) {h : Nat} (hh : (h : Int) < N) : sRst b y s (h : Int) ↔ (sl h = -1 ∨ ¬ (y : Int) - s ≤ sl h) := by
  rcases P h hh with ⟨a1, a2⟩ | ⟨j, a1, a2, a3, a4⟩
  · exact ⟨fun _ => Or.inl a1, fun _ i hi _ => a2 i hi⟩
  · refine ⟨fun q => Or.inr (fun w => q j a1 (by omega) a3), fun q i hi w => ?_⟩
    have n : ¬ (y : Int) - s ≤ sl h := by
      rcases q with q | q
      · omega
      · exact q
    exact a4 i (by omega) hi
theorem x45 {X : jW} {b sl : Nat → Int} {y : Nat} {k L s : Int} (Q : pV X E g d kn) (I : pIq E g) (hd : 0 ≤ d ∧ d ≤ 146399) (ed : d = (y : Int) * 366) (hy : y ≤ 399) (Hs : pHq E g d kn) (Ik : pIk E.1) (Il : pIl E.1) (O : ∀ p : Nat, p < sNl E → g p = (p : Int) → qOk fun w => sQu E g d kn w (p : Int)) (ht : 0 ≤ k / 12 ∧ k / 12 < E.1 4) (hc : 0 ≤ k % 12 ∧ k % 12 < E.1 ((18820 + (924 * (k / 12))) + 3).toNat) (hL : -1 ≤ L) (es : s = E.1 ((((18820 + (924 * (k / 12))) + 4) + (10 * (k % 12))) + 2).toNat) (hs : 0 ≤ s ∧ s ≤ 1000000) (Ls : pLsv sl b y (E.1 7)) : ∀ (c n r : Nat) (W : jW), (n : Int) + (c : Int) = E.1 7 → c < r → pZ X W → W.1 107 16 = L → (∀ h : Nat, (h : Int) < E.1 7 → W.1 117 h = sl h) → ∃ V : jW, pZ X V ∧ (∀ a : Nat, 107 ≤ a → a ≤ 122 → V.1 a = W.1 a ∧ V.2.1 a = W.2.1 a) ∧ d_X4_goRound_r107d_45 r (y : Int) (k / 12) (k % 12) (E.1 7) s (n : Int) W = if sGo E g d kn b y k L c n = n + c then V else vu (vu (vu (vu V 115 y (sPl L (E.1 7) (sGo E g d kn b y k L c n) : Int)) 116 y (sGo E g d kn b y k L c n : Int)) 117 (sPl L (E.1 7) (sGo E g d kn b y k L c n)) (y : Int)) 107 16 (sPl L (E.1 7) (sGo E g d kn b y k L c n) : Int) := by
  have b7 := I.2.2.1.1
  intro c
  induction c with
  | zero =>
    intro n r W e hr z e16 e117
    obtain ⟨r, rfl⟩ : ∃ q, r = q + 1 := ⟨r - 1, by omega⟩
    refine ⟨W, z, fun _ _ _ => ⟨rfl, rfl⟩, ?_⟩
    rw [if_pos (show sGo E g d kn b y k L 0 n = n + 0 from rfl)]
    exact if_pos (by omega)
  | succ c ih =>
    intro n r W e hr z e16 e117
    obtain ⟨r, rfl⟩ : ∃ q, r = q + 1 := ⟨r - 1, by omega⟩
    have pb := pl_b (L := L) (N := E.1 7) (by omega) n
    have e103 : W.1 103 (sPl L (E.1 7) n) = sHo E g d kn (sPl L (E.1 7) n) := (z.1 103 _ (by omega) rfl).trans (Q.1.2.1.2 _ pb.2).2
    have e1 := e117 (sPl L (E.1 7) n) pb.2
    have rt := ls_r (s := s) Ls pb.2
    have js : j_isub (y : Int) s = (y : Int) - s := j_is (by omega) (by omega) (by omega)
    have no : ∀ W1 : jW, ¬ sEl E g d kn b y k (sPl L (E.1 7) n) → pZ X W1 → (∀ a : Nat, 107 ≤ a → a ≤ 122 → W1.1 a = W.1 a ∧ W1.2.1 a = W.2.1 a) → ∃ V : jW, pZ X V ∧ (∀ a : Nat, 107 ≤ a → a ≤ 122 → V.1 a = W.1 a ∧ V.2.1 a = W.2.1 a) ∧ d_X4_goRound_r107d_45 r (y : Int) (k / 12) (k % 12) (E.1 7) s ((n : Int) + 1) W1 = if sGo E g d kn b y k L (c + 1) n = n + (c + 1) then V else vu (vu (vu (vu V 115 y (sPl L (E.1 7) (sGo E g d kn b y k L (c + 1) n) : Int)) 116 y (sGo E g d kn b y k L (c + 1) n : Int)) 117 (sPl L (E.1 7) (sGo E g d kn b y k L (c + 1) n)) (y : Int)) 107 16 (sPl L (E.1 7) (sGo E g d kn b y k L (c + 1) n) : Int) := fun W1 ne z1 w1 => by
      have sg : sGo E g d kn b y k L (c + 1) n = sGo E g d kn b y k L c (n + 1) := fi_n ne
      obtain ⟨V, v1, v2, v3⟩ := ih (n + 1) r W1 (by omega) (by omega) z1 (by rw [(w1 107 (by omega) (by omega)).1]; exact e16) (fun h hh => by rw [(w1 117 (by omega) (by omega)).1]; exact e117 h hh)
      rw [show ((n + 1 : Nat) : Int) = (n : Int) + 1 from by omega] at v3
      rw [sg, show n + (c + 1) = n + 1 + c from by omega]
      exact ⟨V, v1, fun a a1 a2 => ⟨(v2 a a1 a2).1.trans (w1 a a1 a2).1, (v2 a a1 a2).2.trans (w1 a a1 a2).2⟩, v3⟩
    have hx : ((L + 1 + (n : Int)) % E.1 7) = ((sPl L (E.1 7) n : Nat) : Int) := pb.1.symm
    generalize hp0 : sPl L (E.1 7) n = h0 at *
    have st : d_X4_goRound_r107d_45 (r + 1) (y : Int) (k / 12) (k % 12) (E.1 7) s (n : Int) W = (if sl h0 = -1 ∨ ¬ (y : Int) - s ≤ sl h0 then (if sHo E g d kn h0 = -1 then d_X4_goRound_r107d_45 r (y : Int) (k / 12) (k % 12) (E.1 7) s ((n : Int) + 1) W else (if d_X7_hasBy_r78d (sHo E g d kn h0) 5 ((y : Int) * 366) W = 0 then (if (d_X0_holdsFor_r98d (k / 12) (k % 12) (sHo E g d kn h0) W).1 = 0 then d_X4_goRound_r107d_45 r (y : Int) (k / 12) (k % 12) (E.1 7) s ((n : Int) + 1) (d_X0_holdsFor_r98d (k / 12) (k % 12) (sHo E g d kn h0) W).2 else vu (vu (vu (vu (d_X0_holdsFor_r98d (k / 12) (k % 12) (sHo E g d kn h0) W).2 115 y (h0 : Int)) 116 y (n : Int)) 117 h0 (y : Int)) 107 16 (h0 : Int)) else d_X4_goRound_r107d_45 r (y : Int) (k / 12) (k % 12) (E.1 7) s ((n : Int) + 1) W)) else d_X4_goRound_r107d_45 r (y : Int) (k / 12) (k % 12) (E.1 7) s ((n : Int) + 1) W) := by
      refine (if_neg (by omega)).trans ?_
      rw [e16, hx, show ((h0 : Nat) : Int).toNat = h0 from by omega, e1, e103, js]
      unfold d_X4_goRound_r107d_103 d_X4_goRound_r107d_300108 d_X4_goRound_r107d_200108 d_X4_goRound_r107d_184
      rw [show ((h0 : Nat) : Int).toNat = h0 from by omega, show ((y : Nat) : Int).toNat = y from by omega]
      by_cases c1 : sl h0 = -1
      · rw [if_pos c1, if_pos (Or.inl c1)]
      · rw [if_neg c1]
        by_cases c2 : (y : Int) - s ≤ sl h0
        · rw [if_pos c2, if_neg (fun q => by omega)]
        · rw [if_neg c2, if_pos (Or.inr c2)]
    rw [st]
    have hel : sEl E g d kn b y k h0 ↔ (sl h0 = -1 ∨ ¬ (y : Int) - s ≤ sl h0) ∧ sHo E g d kn h0 ≠ -1 ∧ ¬ sHb E g (sHo E g d kn h0) 5 d ∧ sHd E.1 d kn (k / 12) (k % 12) fun w => sQu E g d kn w (sHo E g d kn h0) := by
      unfold sEl
      rw [← es, rt]
    by_cases c1 : sl h0 = -1 ∨ ¬ (y : Int) - s ≤ sl h0
    · rw [if_pos c1]
      by_cases c2 : sHo E g d kn h0 = -1
      · rw [if_pos c2]
        exact no W (fun q => (hel.mp q).2.1 c2) z (fun _ _ _ => ⟨rfl, rfl⟩)
      · rw [if_neg c2]
        rcases Hs h0 pb.2 with q | ⟨p, p1, p2, p3⟩
        · exact absurd q c2
        have hb := xhb (pXs_Qy (zQy z) Q.1.1) p1 p3 (w := 5) (d := d)
        rw [← p2] at hb
        have hz := xhz (t := k / 12) (c := k % 12) Q I hd p1 p3 Ik Il (O p p1 p3) ht hc z
        rw [← p2] at hz
        rw [← ed, hb]
        by_cases c3 : sHb E g (sHo E g d kn h0) 5 d
        · rw [tv_t c3, if_neg (by decide)]
          exact no W (fun q => (hel.mp q).2.2.1 c3) z (fun _ _ _ => ⟨rfl, rfl⟩)
        · rw [tv_f c3, if_pos rfl, hz.1]
          by_cases c4 : sHd E.1 d kn (k / 12) (k % 12) fun w => sQu E g d kn w (sHo E g d kn h0)
          · rw [tv_t c4, if_neg (by decide)]
            have sg : sGo E g d kn b y k L (c + 1) n = n := fi_y (show sEl E g d kn b y k (sPl L (E.1 7) n) from by rw [hp0]; exact hel.mpr ⟨c1, c2, c3, c4⟩)
            refine ⟨_, hz.2.1, hz.2.2, ?_⟩
            rw [sg, if_neg (by omega), hp0]
          · rw [tv_f c4, if_pos rfl]
            exact no _ (fun q => c4 (hel.mp q).2.2.2) hz.2.1 hz.2.2
    · rw [if_neg c1]
      exact no W (fun q => c1 (hel.mp q).1) z (fun _ _ _ => ⟨rfl, rfl⟩)
end
end jG83

section jG84
/-! pure: one round of TURNS at the reference -/
section
variable {E : pE} {g : Nat → Int} {d kn : Int}
theorem m222 {K14 : Int → Int → Int → Int → Int → jW → jW} {o yl N l4 : Int} {y : Nat} {W : jW} : d_X12_findTurns_r125d_222 K14 o yl N l4 (y : Int) W = K14 o yl N (if W.1 168 y = -1 then l4 else (W.1 168 y + 1) % N) ((y : Int) + 1) W := by
  unfold d_X12_findTurns_r125d_222 d_X12_findTurns_r125d_249 d_X12_findTurns_r125d_251
  rw [show (y : Int).toNat = y from by omega]
  by_cases c : W.1 168 y = -1
  · rw [if_pos c, if_pos c]
  · rw [if_neg c, if_neg c]
theorem m72 {M : jW} {b : Nat → Int} {y : Nat} {k L o yl : Int} {K14 : Int → Int → Int → Int → Int → jW → jW} (Q : pMs M E g) (I : pIq E g) (hn : M.1 125 28 = kn) (hd : 0 ≤ d ∧ d ≤ 146399) (hy : y ≤ 399) (Hs : pHq E g d kn) (Il : pIl E.1) (C : pCa E.1) (O : ∀ p : Nat, p < sNl E → g p = (p : Int) → qOk fun w => sQu E g d kn w (p : Int)) (ht : 0 ≤ k / 12 ∧ k / 12 < E.1 4) (hc : 0 ≤ k % 12 ∧ k % 12 < E.1 ((18820 + (924 * (k / 12))) + 3).toNat) (Z : pHz (M.1 162) (M.1 163) 40 E g d kn (E.1 7).toNat) : ∀ (c n r : Nat) (W : jW), (n : Int) + (c : Int) = E.1 7 → c < r → pZm M W → pKf W E.1 kn → (∀ j : Nat, j < y → W.1 168 j = b j) → W.1 168 y = -1 → W.1 169 y = (n : Int) → ∃ V : jW, d_X12_findTurns_r125d_72 K14 r o yl (E.1 7) ((L + 1) % E.1 7) (y : Int) d k (n : Int) W = K14 o yl (E.1 7) (if sGo E g d kn b y k L c n = n + c then (L + 1) % E.1 7 else ((sPl L (E.1 7) (sGo E g d kn b y k L c n) : Int) + 1) % E.1 7) ((y : Int) + 1) V ∧ pZm M V ∧ pKf V E.1 kn ∧ (∀ j : Nat, j ≠ y → V.1 168 j = W.1 168 j ∧ V.1 169 j = W.1 169 j) ∧ V.1 168 y = (if sGo E g d kn b y k L c n = n + c then -1 else (sPl L (E.1 7) (sGo E g d kn b y k L c n) : Int)) ∧ V.1 169 y = (sGo E g d kn b y k L c n : Int) := by
  have b7 := I.2.2.1.1
  have e126 : M.1 126 = E.1 := congrArg Prod.fst Q.1
  have yn : (y : Int).toNat = y := by omega
  intro c
  induction c with
  | zero =>
    intro n r W e hr z K hb h8 h9
    obtain ⟨r, rfl⟩ : ∃ q, r = q + 1 := ⟨r - 1, by omega⟩
    have sg : sGo E g d kn b y k L 0 n = n := rfl
    refine ⟨W, ?_, z, K, fun _ _ => ⟨rfl, rfl⟩, ?_, ?_⟩
    · refine (if_pos (by omega)).trans (m222.trans ?_)
      rw [if_pos h8, sg, if_pos (Nat.add_zero n).symm]
    · rw [sg, if_pos (Nat.add_zero n).symm]; exact h8
    · rw [sg]; exact h9
  | succ c ih =>
    intro n r W e hr z K hb h8 h9
    obtain ⟨r, rfl⟩ : ∃ q, r = q + 1 := ⟨r - 1, by omega⟩
    have pb := pl_b (L := L) (N := E.1 7) (by omega) n
    have hx : ((L + 1) % E.1 7 + (n : Int)) % E.1 7 = ((sPl L (E.1 7) n : Nat) : Int) := by rw [pb.1]; exact Int.emod_add_emod _ _ _
    have w126 : W.1 126 = E.1 := (zm_126 z).trans e126
    have no : ∀ W1 : jW, ¬ sEl E g d kn b y k (sPl L (E.1 7) n) → pZm M W1 → pKf W1 E.1 kn → (∀ a : Nat, 165 ≤ a → W1.1 a = W.1 a ∧ W1.2.1 a = W.2.1 a) → ∃ V : jW, d_X12_findTurns_r125d_72 K14 r o yl (E.1 7) ((L + 1) % E.1 7) (y : Int) d k ((n : Int) + 1) (vu W1 169 y (j_iadd (W1.1 169 y) 1)) = K14 o yl (E.1 7) (if sGo E g d kn b y k L (c + 1) n = n + (c + 1) then (L + 1) % E.1 7 else ((sPl L (E.1 7) (sGo E g d kn b y k L (c + 1) n) : Int) + 1) % E.1 7) ((y : Int) + 1) V ∧ pZm M V ∧ pKf V E.1 kn ∧ (∀ j : Nat, j ≠ y → V.1 168 j = W.1 168 j ∧ V.1 169 j = W.1 169 j) ∧ V.1 168 y = (if sGo E g d kn b y k L (c + 1) n = n + (c + 1) then -1 else (sPl L (E.1 7) (sGo E g d kn b y k L (c + 1) n) : Int)) ∧ V.1 169 y = (sGo E g d kn b y k L (c + 1) n : Int) := fun W1 ne z1 K1 w1 => by
      have sg : sGo E g d kn b y k L (c + 1) n = sGo E g d kn b y k L c (n + 1) := fi_n ne
      have q8 := (w1 168 (by decide)).1
      have q9 := (w1 169 (by decide)).1
      have ja : j_iadd (W1.1 169 y) 1 = (n : Int) + 1 := by rw [q9, h9]; exact j_ia (by omega) (by omega) (by omega)
      rw [ja]
      obtain ⟨V, v1, v2, v3, v4, v5, v6⟩ := ih (n + 1) r (vu W1 169 y ((n : Int) + 1)) (by omega) (by omega) (pZm_u z1 (by decide)) (kf_c K1 (vu_c (by decide)) (vu_c (by decide)) (vu_c (by decide))) (fun j hj => by rw [vu_n (by omega), q8]; exact hb j hj) (by rw [vu_n (by omega), q8]; exact h8) (by rw [vu_e rfl]; omega)
      rw [show ((n + 1 : Nat) : Int) = (n : Int) + 1 from by omega, ← sg, show n + 1 + c = n + (c + 1) from by omega] at v1
      rw [← sg, show n + 1 + c = n + (c + 1) from by omega] at v5
      rw [← sg] at v6
      refine ⟨V, v1, v2, v3, fun j hj => ?_, v5, v6⟩
      have q := v4 j hj
      rw [vu_n (by omega), vu_n (by omega), q8, q9] at q
      exact q
    generalize hp0 : sPl L (E.1 7) n = h0 at *
    have h40 : (40 + ((h0 : Nat) : Int)).toNat = 40 + h0 := by omega
    have e163 : W.1 163 (40 + h0) = sHo E g d kn h0 := (z.2.2.2.2 (40 + h0) (by omega)).2.trans (Z h0 (by omega)).2
    have st : d_X12_findTurns_r125d_72 K14 (r + 1) o yl (E.1 7) ((L + 1) % E.1 7) (y : Int) d k (n : Int) W = (if sHo E g d kn h0 = -1 then d_X12_findTurns_r125d_72 K14 r o yl (E.1 7) ((L + 1) % E.1 7) (y : Int) d k ((n : Int) + 1) (vu W 169 y (j_iadd (W.1 169 y) 1)) else (if d_X12_mentionOf_r125d (sHo E g d kn h0) 5 d W = -1 then (if d_X12_servedLately_r125d (h0 : Int) (y : Int) (E.1 ((((18820 + (924 * (k / 12))) + 4) + (10 * (k % 12))) + 2).toNat) W = 0 then (if (d_X12_holdsFor_r125d (k / 12) (k % 12) (sHo E g d kn h0) d W).1 = 0 then d_X12_findTurns_r125d_72 K14 r o yl (E.1 7) ((L + 1) % E.1 7) (y : Int) d k ((n : Int) + 1) (vu (d_X12_holdsFor_r125d (k / 12) (k % 12) (sHo E g d kn h0) d W).2 169 y (j_iadd ((d_X12_holdsFor_r125d (k / 12) (k % 12) (sHo E g d kn h0) d W).2.1 169 y) 1)) else d_X12_findTurns_r125d_72 K14 r o yl (E.1 7) ((L + 1) % E.1 7) (y : Int) d k ((n : Int) + 1) (vu (d_X12_holdsFor_r125d (k / 12) (k % 12) (sHo E g d kn h0) d W).2 168 y (h0 : Int))) else d_X12_findTurns_r125d_72 K14 r o yl (E.1 7) ((L + 1) % E.1 7) (y : Int) d k ((n : Int) + 1) (vu W 169 y (j_iadd (W.1 169 y) 1))) else d_X12_findTurns_r125d_72 K14 r o yl (E.1 7) ((L + 1) % E.1 7) (y : Int) d k ((n : Int) + 1) (vu W 169 y (j_iadd (W.1 169 y) 1)))) := by
      refine (if_neg (by omega)).trans ((if_pos (by rw [yn]; exact h8)).trans ?_)
      unfold d_X12_findTurns_r125d_185 d_X12_findTurns_r125d_200186 d_X12_findTurns_r125d_300186 d_X12_findTurns_r125d_216
      rw [hx, h40, e163, w126, yn]
    rw [st]
    have sl := msl (W := W) (b := b) (y := y) (h := (h0 : Int)) (s := E.1 ((((18820 + (924 * (k / 12))) + 4) + (10 * (k % 12))) + 2).toNat) hy hb
    by_cases c2 : sHo E g d kn h0 = -1
    · rw [if_pos c2]
      exact no W (fun q => q.2.1 c2) z K (fun _ _ => ⟨rfl, rfl⟩)
    rw [if_neg c2]
    rcases Hs h0 pb.2 with q | ⟨p, p1, p2, p3⟩
    · exact absurd q c2
    have mo := mmo (zMs z Q) c2 (w := 5) (d := d) (by decide)
    have hz := mhz (t := k / 12) (c := k % 12) Q I hn hd c2 Il (by rw [p2]; exact O p p1 p3) C ht hc z K
    rw [mo]
    by_cases c3 : sMo E g (sHo E g d kn h0) 5 d = -1
    · rw [if_pos c3]
      have n3 := sMo_h.mp c3
      by_cases c1 : d_X12_servedLately_r125d (h0 : Int) (y : Int) (E.1 ((((18820 + (924 * (k / 12))) + 4) + (10 * (k % 12))) + 2).toNat) W = 0
      · rw [if_pos c1, hz.1]
        by_cases c4 : sHd E.1 d kn (k / 12) (k % 12) fun w => sQu E g d kn w (sHo E g d kn h0)
        · rw [tv_t c4, if_neg (by decide)]
          have sg : sGo E g d kn b y k L (c + 1) n = n := fi_y (show sEl E g d kn b y k (sPl L (E.1 7) n) from by rw [hp0]; exact ⟨sl.mp c1, c2, n3, c4⟩)
          rw [sg, if_neg (by omega), if_neg (by omega), hp0]
          generalize d_X12_holdsFor_r125d (k / 12) (k % 12) (sHo E g d kn h0) d W = U at *
          obtain ⟨r, rfl⟩ : ∃ q, r = q + 1 := ⟨r - 1, by omega⟩
          have u8 := (hz.2.2.2 168 (by decide)).1
          have u9 := (hz.2.2.2 169 (by decide)).1
          have f8 : (vu U.2 168 y (h0 : Int)).1 168 y = (h0 : Int) := vu_e rfl
          refine ⟨vu U.2 168 y (h0 : Int), ?_, pZm_u hz.2.1 (by decide), kf_c hz.2.2.1 (vu_c (by decide)) (vu_c (by decide)) (vu_c (by decide)), fun j hj => ⟨by rw [vu_n (by omega), u8], by rw [vu_n (by omega), u9]⟩, f8, by rw [vu_n (by omega), u9]; exact h9⟩
          have e2 : d_X12_findTurns_r125d_72 K14 (r + 1) o yl (E.1 7) ((L + 1) % E.1 7) (y : Int) d k ((n : Int) + 1) (vu U.2 168 y (h0 : Int)) = d_X12_findTurns_r125d_222 K14 o yl (E.1 7) ((L + 1) % E.1 7) (y : Int) (vu U.2 168 y (h0 : Int)) := by
            by_cases q : E.1 7 ≤ (n : Int) + 1
            · exact if_pos q
            · exact (if_neg q).trans (if_neg (by rw [yn, f8]; omega))
          rw [e2, m222, f8, if_neg (by omega)]
        · rw [tv_f c4, if_pos rfl]
          exact no _ (fun q => c4 q.2.2.2) hz.2.1 hz.2.2.1 hz.2.2.2
      · rw [if_neg c1]
        exact no W (fun q => c1 (sl.mpr q.1)) z K (fun _ _ => ⟨rfl, rfl⟩)
    · rw [if_neg c3]
      exact no W (fun q => c3 (sMo_h.mpr q.2.2.1)) z K (fun _ _ => ⟨rfl, rfl⟩)
end
end jG84

section jG85
/-! pure: YEARS of TURNS, at the class -/
theorem cL_q {P : Int → Prop} : ∀ n : Nat, cL P n = -1 ∨ P (cL P n) := by
  intro n
  induction n with
  | zero => exact Or.inl rfl
  | succ n ih =>
    by_cases c : P (n : Int)
    · rw [cL_y c]; exact Or.inr c
    · rw [cL_n c]; exact ih
theorem tu_k {r : Nat → Int} {d kn o k : Int} (e : cBy (sTu r d kn o) 720 = k) (h : k ≠ -1) : (0 ≤ k / 12 ∧ k / 12 < r 4) ∧ (0 ≤ k % 12 ∧ k % 12 < r ((18820 + (924 * (k / 12))) + 3).toNat) ∧ r (((18820 + (924 * (k / 12))) + 4) + (10 * (k % 12))).toNat = 6 ∧ 0 ≤ k ∧ k < 360 := by
  unfold cBy at e
  have b := @cL_b (sTu r d kn o) 720
  by_cases c : cL (sTu r d kn o) 720 = -1
  · rw [if_pos c] at e; exact absurd e.symm h
  · rw [if_neg c] at e
    rcases @cL_q (sTu r d kn o) 720 with y | y
    · exact absurd y c
    · generalize cL (sTu r d kn o) 720 = K at *
      obtain ⟨y1, y2, y3, y4, _⟩ := y
      rw [e] at y1 y2 y4
      rw [show K % 12 = k % 12 from by omega] at y2 y4
      exact ⟨⟨y1.1, by omega⟩, ⟨y2.1, by omega⟩, y4, by omega, by omega⟩
noncomputable def sYt (E : pE) (g : Nat → Int) (kn o : Int) (y : Nat) (S : (Nat → Int) × (Nat → Int) × Int) : (Nat → Int) × (Nat → Int) × Int := if cBy (sTu E.1 ((y : Int) * 366) kn o) 720 = -1 then (sU S.1 y (-1), sU S.2.1 y 0, S.2.2) else if sGo E g ((y : Int) * 366) kn S.1 y (cBy (sTu E.1 ((y : Int) * 366) kn o) 720) S.2.2 (E.1 7).toNat 0 = (E.1 7).toNat then (sU S.1 y (-1), sU S.2.1 y (E.1 7), S.2.2) else (sU S.1 y (sPl S.2.2 (E.1 7) (sGo E g ((y : Int) * 366) kn S.1 y (cBy (sTu E.1 ((y : Int) * 366) kn o) 720) S.2.2 (E.1 7).toNat 0) : Int), sU S.2.1 y (sGo E g ((y : Int) * 366) kn S.1 y (cBy (sTu E.1 ((y : Int) * 366) kn o) 720) S.2.2 (E.1 7).toNat 0 : Int), (sPl S.2.2 (E.1 7) (sGo E g ((y : Int) * 366) kn S.1 y (cBy (sTu E.1 ((y : Int) * 366) kn o) 720) S.2.2 (E.1 7).toNat 0) : Int))
/-- who served in each YEAR, how many were passed, who served last -/
noncomputable def sYs (E : pE) (g : Nat → Int) (kn o : Int) : Nat → (Nat → Int) × (Nat → Int) × Int
  | 0 => (fun _ => -1, fun _ => 0, -1)
  | y + 1 => sYt E g kn o y (sYs E g kn o y)
theorem ls_n {sl b : Nat → Int} {y : Nat} {N : Int} (P : pLsv sl b y N) : pLsv sl (sU b y (-1)) (y + 1) N := by
  intro h hh
  rcases P h hh with ⟨a1, a2⟩ | ⟨j, a1, a2, a3, a4⟩
  · refine Or.inl ⟨a1, fun j hj => ?_⟩
    by_cases c : j = y
    · rw [sU_e c]; omega
    · rw [sU_n c]; exact a2 j (by omega)
  · refine Or.inr ⟨j, by omega, a2, by rw [sU_n (by omega)]; exact a3, fun i i1 i2 => ?_⟩
    by_cases c : i = y
    · rw [sU_e c]; omega
    · rw [sU_n c]; exact a4 i i1 (by omega)
theorem ls_y {sl b : Nat → Int} {y h0 : Nat} {N : Int} (P : pLsv sl b y N) : pLsv (sU sl h0 (y : Int)) (sU b y (h0 : Int)) (y + 1) N := by
  intro h hh
  by_cases e : h = h0
  · refine Or.inr ⟨y, by omega, by rw [sU_e e], by rw [sU_e rfl, e], fun i i1 i2 => by omega⟩
  · rw [sU_n e]
    rcases P h hh with ⟨a1, a2⟩ | ⟨j, a1, a2, a3, a4⟩
    · refine Or.inl ⟨a1, fun j hj => ?_⟩
      by_cases c : j = y
      · rw [sU_e c]; omega
      · rw [sU_n c]; exact a2 j (by omega)
    · refine Or.inr ⟨j, by omega, a2, by rw [sU_n (by omega)]; exact a3, fun i i1 i2 => ?_⟩
      by_cases c : i = y
      · rw [sU_e c]; omega
      · rw [sU_n c]; exact a4 i i1 (by omega)
/-- the class, once the YEARS before y are run -/
def pYrx (W : jW) (E : pE) (kn o : Int) (y : Nat) : Prop := pVk W E kn ∧ W.1 107 15 = (y : Int) ∧ W.1 107 16 = (sYs E (sGs E kn).1 kn o y).2.2 ∧ (∀ j : Nat, j < y → W.1 115 j = (sYs E (sGs E kn).1 kn o y).1 j ∧ W.1 116 j = (sYs E (sGs E kn).1 kn o y).2.1 j) ∧ pLsv (W.1 117) (sYs E (sGs E kn).1 kn o y).1 y (E.1 7)
theorem pVk_u {W : jW} {E : pE} {kn x : Int} {a k : Nat} (P : pVk W E kn) (h : 107 ≤ a ∧ a ≤ 122) : pVk (vu W a k x) E kn := pVk_Qy (pQy_u pQy_r (by omega)) (pKl_c (vu_c (by omega)) (vu_c (by omega)) (vu_c (by omega)) P.2.2.2.2.2.2.1) (pKh_c (vu_c (by omega)) (vu_c (by omega)) (vu_c (by omega)) (vu_c (by omega)) (vu_c (by omega)) P.2.2.2.2.2.2.2) P
theorem pVk_Z {X W : jW} {E : pE} {kn : Int} (P : pVk X E kn) (z : pZ X W) : pVk W E kn := pVk_Qy (zQy z) (pKl_c (pZ_c z (by omega) rfl) (pZ_c z (by omega) rfl) (pZ_c z (by omega) rfl) P.2.2.2.2.2.2.1) (pKh_c (pZ_c z (by omega) rfl) (pZ_c z (by omega) rfl) (pZ_c z (by omega) rfl) (pZ_c z (by omega) rfl) (pZ_c z (by omega) rfl) P.2.2.2.2.2.2.2) P
/-- numbers of CLAUSES of TURNS -/
def pI6 (r : Nat → Int) : Prop := ∀ t c : Int, 0 ≤ t → t < r 4 → 0 ≤ c → c < r ((18820 + (924 * t)) + 3).toNat → r (((18820 + (924 * t)) + 4) + (10 * c)).toNat = 6 → 0 ≤ r ((((18820 + (924 * t)) + 4) + (10 * c)) + 2).toNat ∧ r ((((18820 + (924 * t)) + 4) + (10 * c)) + 2).toNat ≤ 1000000
section
variable {E : pE} {kn o : Int}
theorem ys_b : ∀ y : Nat, -1 ≤ (sYs E (sGs E kn).1 kn o y).2.2 := by
  intro y
  induction y with
  | zero => exact Int.le_refl _
  | succ y ih =>
    show -1 ≤ (sYt E (sGs E kn).1 kn o y (sYs E (sGs E kn).1 kn o y)).2.2
    unfold sYt
    by_cases c1 : cBy (sTu E.1 ((y : Int) * 366) kn o) 720 = -1
    · rw [if_pos c1]; exact ih
    · rw [if_neg c1]
      by_cases c2 : sGo E (sGs E kn).1 ((y : Int) * 366) kn (sYs E (sGs E kn).1 kn o y).1 y (cBy (sTu E.1 ((y : Int) * 366) kn o) 720) (sYs E (sGs E kn).1 kn o y).2.2 (E.1 7).toNat 0 = (E.1 7).toNat
      · rw [if_pos c2]; exact ih
      · rw [if_neg c2]
        show -1 ≤ ((sPl _ _ _ : Nat) : Int)
        omega
theorem xyr {W : jW} {y r : Nat} {yl : Int} (P : pYrx W E kn o y) (I : pIq E (sGs E kn).1) (hy : y ≤ 399) (hl : (y : Int) ≤ yl) (Hs : pHq E (sGs E kn).1 ((y : Int) * 366) kn) (Ik : pIk E.1) (Il : pIl E.1) (I6 : pI6 E.1) (O : ∀ p : Nat, p < sNl E → (sGs E kn).1 p = (p : Int) → qOk fun w => sQu E (sGs E kn).1 ((y : Int) * 366) kn w (p : Int)) : ∃ V : jW, d_X4_runTurns_r107d_53 (r + 1) o yl kn W = d_X4_runTurns_r107d_53 r o yl kn V ∧ pYrx V E kn o (y + 1) := by
  obtain ⟨p1, p2, p3, p4, p5⟩ := P
  have b7 := I.2.2.1.1
  have yn : (y : Int).toNat = y := by omega
  have hd : 0 ≤ (y : Int) * 366 ∧ (y : Int) * 366 ≤ 146399 := by omega
  have hL := @ys_b E kn o y
  have P0 : pVk (vu (vu W 115 y (-1)) 116 y 0) E kn := pVk_u (pVk_u p1 (by omega)) (by omega)
  obtain ⟨l1, l2, l3, l4, l5, l6, l7⟩ := xtl (d := (y : Int) * 366) P0 Il Ik
  have lt := xlt (o := o) (pTc_h l2.2.2.1) Il Ik l1
  have ys : sYs E (sGs E kn).1 kn o (y + 1) = sYt E (sGs E kn).1 kn o y (sYs E (sGs E kn).1 kn o y) := rfl
  have st : d_X4_runTurns_r107d_53 (r + 1) o yl kn W = (if d_X0_lastTurn_r98d o (d_X0_readLaws_r98d ((y : Int) * 366) kn (vu (vu W 115 y (-1)) 116 y 0)) = -1 then d_X4_runTurns_r107d_157 (fun l1 l2 l3 W => d_X4_runTurns_r107d_53 r l1 l2 l3 W) o yl kn (d_X0_readLaws_r98d ((y : Int) * 366) kn (vu (vu W 115 y (-1)) 116 y 0)) else d_X4_runTurns_r107d_157 (fun l1 l2 l3 W => d_X4_runTurns_r107d_53 r l1 l2 l3 W) o yl kn (d_X4_goRound_r107d (y : Int) (d_X0_lastTurn_r98d o (d_X0_readLaws_r98d ((y : Int) * 366) kn (vu (vu W 115 y (-1)) 116 y 0)) / 12) (d_X0_lastTurn_r98d o (d_X0_readLaws_r98d ((y : Int) * 366) kn (vu (vu W 115 y (-1)) 116 y 0)) % 12) (d_X0_readHouses_r98d ((y : Int) * 366) kn (d_X0_readLaws_r98d ((y : Int) * 366) kn (vu (vu W 115 y (-1)) 116 y 0))))) := by
    show (if yl < W.1 107 15 then _ else _) = _
    rw [p2, if_neg (by omega), yn]
  rw [st, lt]
  generalize hW1 : d_X0_readLaws_r98d ((y : Int) * 366) kn (vu (vu W 115 y (-1)) 116 y 0) = W1 at *
  have w1_107 : W1.1 107 = W.1 107 := (l6 107 (by omega)).trans ((vu_c (by decide)).trans (vu_c (by decide)))
  have w1_117 : W1.1 117 = W.1 117 := (l6 117 (by omega)).trans ((vu_c (by decide)).trans (vu_c (by decide)))
  have w1_115 : W1.1 115 = (vu W 115 y (-1)).1 115 := (l6 115 (by omega)).trans (vu_c (by decide))
  have w1_116 : W1.1 116 = (vu (vu W 115 y (-1)) 116 y 0).1 116 := l6 116 (by omega)
  have o115 : ∀ j : Nat, j < y → W1.1 115 j = W.1 115 j := fun j hj => by rw [w1_115]; exact vu_n (by omega)
  have o116 : ∀ j : Nat, j < y → W1.1 116 j = W.1 116 j := fun j hj => by rw [w1_116]; exact (vu_n (by omega)).trans (vu_n (by omega))
  have fin : ∀ (R : jW) (S : (Nat → Int) × (Nat → Int) × Int), pVk R E kn → R.1 107 15 = (y : Int) → R.1 107 16 = S.2.2 → (∀ j : Nat, j < y + 1 → R.1 115 j = S.1 j ∧ R.1 116 j = S.2.1 j) → pLsv (R.1 117) S.1 (y + 1) (E.1 7) → sYs E (sGs E kn).1 kn o (y + 1) = S → ∃ V : jW, d_X4_runTurns_r107d_157 (fun l1 l2 l3 W => d_X4_runTurns_r107d_53 r l1 l2 l3 W) o yl kn R = d_X4_runTurns_r107d_53 r o yl kn V ∧ pYrx V E kn o (y + 1) := fun R S r1 r2 r3 r4 r5 es => by
    refine ⟨vu R 107 15 (R.1 107 15 + 1), rfl, pVk_u r1 (by omega), by rw [vu_e rfl, r2]; omega, by rw [es, vu_n (by omega)]; exact r3, fun j hj => ?_, ?_⟩
    · rw [es, vu_n (by omega), vu_n (by omega)]; exact r4 j hj
    · rw [es, vu_c (by decide)]; exact r5
  generalize hS : sYs E (sGs E kn).1 kn o y = S at *
  by_cases c1 : cBy (sTu E.1 ((y : Int) * 366) kn o) 720 = -1
  · rw [if_pos c1]
    refine fin W1 (sU S.1 y (-1), sU S.2.1 y 0, S.2.2) l2 (by rw [w1_107]; exact p2) (by rw [w1_107]; exact p3) (fun j hj => ?_) (by rw [w1_117]; exact ls_n p5) (by rw [ys]; unfold sYt; rw [if_pos c1])
    by_cases c : j = y
    · show W1.1 115 j = sU S.1 y (-1) j ∧ W1.1 116 j = sU S.2.1 y 0 j
      rw [sU_e c, sU_e c, w1_115, w1_116]
      exact ⟨vu_e c, vu_e c⟩
    · show W1.1 115 j = sU S.1 y (-1) j ∧ W1.1 116 j = sU S.2.1 y 0 j
      rw [sU_n c, sU_n c, o115 j (by omega), o116 j (by omega)]
      exact p4 j (by omega)
  · rw [if_neg c1]
    obtain ⟨h1, h2, h3, h4⟩ := xth (d := (y : Int) * 366) l2 I.2.1 l1
    generalize hW2 : d_X0_readHouses_r98d ((y : Int) * 366) kn W1 = W2 at *
    obtain ⟨k, hk⟩ : ∃ k, k = cBy (sTu E.1 ((y : Int) * 366) kn o) 720 := ⟨_, rfl⟩
    have tk := tu_k hk.symm (by rw [hk]; exact c1)
    rw [← hk]
    obtain ⟨T, hh, eT, Qe, _⟩ := h2.2.2.1.2 (k / 12) tk.1.1 tk.1.2
    have H2 := (Qe.2.2.2.2.2.2.2 (k % 12) tk.2.1.1 tk.2.1.2).2.2
    rw [tk.2.2.1, if_neg (by decide)] at H2
    have hs := (he_e Qe tk.2.1.1 tk.2.1.2 (show (0 : Int) ≤ 2 ∧ (2 : Int) < 6 from by decide)).trans H2
    have e49 : W2.1 49 3 = E.1 7 := h1.1.2.1.1
    have gr : d_X4_goRound_r107d (y : Int) (k / 12) (k % 12) W2 = d_X4_goRound_r107d_45 41 (y : Int) (k / 12) (k % 12) (E.1 7) (E.1 ((((18820 + (924 * (k / 12))) + 4) + (10 * (k % 12))) + 2).toNat) ((0 : Nat) : Int) (vu W2 116 y (E.1 7)) := by
      unfold d_X4_goRound_r107d d_X4_goRound_r107d_32
      rw [h2.2.2.1.1, if_neg (show ¬ E.1 4 ≤ k / 12 from by omega), eT, if_neg (show ¬ (some T).isNone = true from fun y => Bool.noConfusion y), show (some T).getD 0 = T from rfl, hs, e49, show min 40 (E.1 7) = E.1 7 from by omega, yn]
      rfl
    obtain ⟨V, v1, v2, v3⟩ := x45 (b := S.1) (sl := W2.1 117) (y := y) (k := k) (L := S.2.2) h1 I hd rfl hy Hs Ik Il O tk.1 tk.2.1 hL rfl (I6 _ _ tk.1.1 tk.1.2 tk.2.1.1 tk.2.1.2 tk.2.2.1) (by rw [(h4 117 (by omega)).1, w1_117]; exact p5) (E.1 7).toNat 0 41 (vu W2 116 y (E.1 7)) (by omega) (by omega) (pZ_u pZ_r (by omega)) (by rw [vu_n (by omega), (h4 107 (by omega)).1, w1_107]; exact p3) (fun h _ => vu_n (by omega))
    rw [gr, v3]
    have pv : pVk V E kn := pVk_Z h2 v1
    have q107 : V.1 107 = W.1 107 := (v2 107 (by omega) (by omega)).1.trans ((vu_c (by decide)).trans ((h4 107 (by omega)).1.trans w1_107))
    have q117 : V.1 117 = W.1 117 := (v2 117 (by omega) (by omega)).1.trans ((vu_c (by decide)).trans ((h4 117 (by omega)).1.trans w1_117))
    have q115 : V.1 115 = W1.1 115 := (v2 115 (by omega) (by omega)).1.trans ((vu_c (by decide)).trans (h4 115 (by omega)).1)
    have q116 : V.1 116 = (vu W2 116 y (E.1 7)).1 116 := (v2 116 (by omega) (by omega)).1
    have q116o : ∀ j : Nat, j < y → V.1 116 j = W.1 116 j := fun j hj => by rw [q116, vu_n (by omega), (h4 116 (by omega)).1]; exact o116 j hj
    rw [Nat.zero_add]
    by_cases c2 : sGo E (sGs E kn).1 ((y : Int) * 366) kn S.1 y k S.2.2 (E.1 7).toNat 0 = (E.1 7).toNat
    · rw [if_pos c2]
      refine fin V (sU S.1 y (-1), sU S.2.1 y (E.1 7), S.2.2) pv (by rw [q107]; exact p2) (by rw [q107]; exact p3) (fun j hj => ?_) (by rw [q117]; exact ls_n p5) (by rw [ys]; unfold sYt; rw [if_neg c1, ← hk, if_pos c2])
      show V.1 115 j = sU S.1 y (-1) j ∧ V.1 116 j = sU S.2.1 y (E.1 7) j
      by_cases c : j = y
      · rw [sU_e c, sU_e c, q115, q116, w1_115]
        exact ⟨vu_e c, vu_e c⟩
      · rw [sU_n c, sU_n c, q115, o115 j (by omega), q116o j (by omega)]
        exact p4 j (by omega)
    · rw [if_neg c2]
      generalize hG : sGo E (sGs E kn).1 ((y : Int) * 366) kn S.1 y k S.2.2 (E.1 7).toNat 0 = G at *
      generalize hh0 : sPl S.2.2 (E.1 7) G = h0 at *
      refine fin _ (sU S.1 y (h0 : Int), sU S.2.1 y (G : Int), (h0 : Int)) (pVk_u (pVk_u (pVk_u (pVk_u pv (by omega)) (by omega)) (by omega)) (by omega)) ?_ (vu_e rfl) (fun j hj => ?_) ?_ (by rw [ys]; unfold sYt; rw [if_neg c1, ← hk, hG, if_neg c2, hh0])
      · rw [vu_n (by omega), vu_n (by omega), vu_n (by omega), vu_n (by omega), q107]
        exact p2
      · have f1 : (vu (vu (vu (vu V 115 y (h0 : Int)) 116 y (G : Int)) 117 h0 (y : Int)) 107 16 (h0 : Int)).1 115 j = (vu V 115 y (h0 : Int)).1 115 j := (vu_n (by omega)).trans ((vu_n (by omega)).trans (vu_n (by omega)))
        have f2 : (vu (vu (vu (vu V 115 y (h0 : Int)) 116 y (G : Int)) 117 h0 (y : Int)) 107 16 (h0 : Int)).1 116 j = (vu (vu V 115 y (h0 : Int)) 116 y (G : Int)).1 116 j := (vu_n (by omega)).trans (vu_n (by omega))
        show (vu (vu (vu (vu V 115 y (h0 : Int)) 116 y (G : Int)) 117 h0 (y : Int)) 107 16 (h0 : Int)).1 115 j = sU S.1 y (h0 : Int) j ∧ (vu (vu (vu (vu V 115 y (h0 : Int)) 116 y (G : Int)) 117 h0 (y : Int)) 107 16 (h0 : Int)).1 116 j = sU S.2.1 y (G : Int) j
        rw [f1, f2]
        by_cases c : j = y
        · rw [sU_e c, sU_e c]
          exact ⟨vu_e c, vu_e c⟩
        · rw [sU_n c, sU_n c, vu_n (by omega), vu_n (by omega), vu_n (by omega), q115, o115 j (by omega), q116o j (by omega)]
          exact p4 j (by omega)
      · have e7 : (vu (vu (vu (vu V 115 y (h0 : Int)) 116 y (G : Int)) 117 h0 (y : Int)) 107 16 (h0 : Int)).1 117 = sU (W.1 117) h0 (y : Int) := by
          funext h
          rw [vu_n (by omega)]
          by_cases c : h = h0
          · rw [sU_e c]; exact vu_e c
          · rw [sU_n c, vu_n (by omega), vu_n (by omega), vu_n (by omega), q117]
        rw [e7]
        exact ls_y p5
end
end jG85

section jG86
/-! pure: YEARS of TURNS at the reference; all YEARS on both sides -/
/-- the reference, once the YEARS before y are run -/
def pYrm (W : jW) (E : pE) (kn o : Int) (y : Nat) : Prop := pMs W E (sGs E kn).1 ∧ W.1 125 28 = kn ∧ pKf W E.1 kn ∧ ∀ j : Nat, j < y → W.1 168 j = (sYs E (sGs E kn).1 kn o y).1 j ∧ W.1 169 j = (sYs E (sGs E kn).1 kn o y).2.1 j
section
variable {E : pE} {kn o : Int}
theorem myr {W : jW} {y r : Nat} {yl : Int} (P : pYrm W E kn o y) (I : pIq E (sGs E kn).1) (hy : y ≤ 399) (hl : (y : Int) ≤ yl) (Hs : pHq E (sGs E kn).1 ((y : Int) * 366) kn) (Il : pIl E.1) (C : pCa E.1) (O : ∀ p : Nat, p < sNl E → (sGs E kn).1 p = (p : Int) → qOk fun w => sQu E (sGs E kn).1 ((y : Int) * 366) kn w (p : Int)) : ∃ V : jW, d_X12_findTurns_r125d_14 (r + 1) o yl (E.1 7) (((sYs E (sGs E kn).1 kn o y).2.2 + 1) % E.1 7) (y : Int) W = d_X12_findTurns_r125d_14 r o yl (E.1 7) (((sYs E (sGs E kn).1 kn o (y + 1)).2.2 + 1) % E.1 7) ((y : Int) + 1) V ∧ pYrm V E kn o (y + 1) := by
  obtain ⟨p1, p2, p3, p4⟩ := P
  have b7 := I.2.2.1.1
  have yn : (y : Int).toNat = y := by omega
  have hd : 0 ≤ (y : Int) * 366 ∧ (y : Int) * 366 ≤ 146399 := by omega
  have e126 : W.1 126 = E.1 := congrArg Prod.fst p1.1
  obtain ⟨V1, t1, t2, t3, t4⟩ := mtc (M := W) (W := W) (E := E) (d := (y : Int) * 366) (kn := kn) (o := o) e126 p2 b7.2 Il (by omega) pZm_r p3
  have ys : sYs E (sGs E kn).1 kn o (y + 1) = sYt E (sGs E kn).1 kn o y (sYs E (sGs E kn).1 kn o y) := rfl
  have st : d_X12_findTurns_r125d_14 (r + 1) o yl (E.1 7) (((sYs E (sGs E kn).1 kn o y).2.2 + 1) % E.1 7) (y : Int) W = (if cBy (sTu E.1 ((y : Int) * 366) kn o) 720 = -1 then d_X12_findTurns_r125d_14 r o yl (E.1 7) (((sYs E (sGs E kn).1 kn o y).2.2 + 1) % E.1 7) ((y : Int) + 1) (vu (vu V1 168 y (-1)) 169 y 0) else d_X12_findTurns_r125d_72 (fun l1 l2 l3 l4 l5 W => d_X12_findTurns_r125d_14 r l1 l2 l3 l4 l5 W) 41 o yl (E.1 7) (((sYs E (sGs E kn).1 kn o y).2.2 + 1) % E.1 7) (y : Int) ((y : Int) * 366) (cBy (sTu E.1 ((y : Int) * 366) kn o) 720) ((0 : Nat) : Int) (d_X12_findHouses_r125_c1d ((y : Int) * 366) (vu (vu V1 168 y (-1)) 169 y 0))) := by
    refine (if_neg (by omega)).trans ?_
    rw [t1, yn]
    rfl
  rw [st]
  generalize hS : sYs E (sGs E kn).1 kn o y = S at *
  have z1 : pZm W (vu (vu V1 168 y (-1)) 169 y 0) := pZm_u (pZm_u t2 (by decide)) (by decide)
  have m1 : pMs (vu (vu V1 168 y (-1)) 169 y 0) E (sGs E kn).1 := zMs z1 p1
  have n1 : (vu (vu V1 168 y (-1)) 169 y 0).1 125 28 = kn := (z1.1 125 28 (by decide) rfl).trans p2
  have k1 : pKf (vu (vu V1 168 y (-1)) 169 y 0) E.1 kn := kf_c t3 ((vu_c (by decide)).trans (vu_c (by decide))) ((vu_c (by decide)).trans (vu_c (by decide))) ((vu_c (by decide)).trans (vu_c (by decide)))
  have o8 : ∀ j : Nat, j ≠ y → (vu (vu V1 168 y (-1)) 169 y 0).1 168 j = W.1 168 j := fun j hj => (vu_n (by omega)).trans ((vu_n (by omega)).trans (congrFun (t4 168 (by decide)).1 j))
  have o9 : ∀ j : Nat, j ≠ y → (vu (vu V1 168 y (-1)) 169 y 0).1 169 j = W.1 169 j := fun j hj => (vu_n (by omega)).trans ((vu_n (by omega)).trans (congrFun (t4 169 (by decide)).1 j))
  have y8 : (vu (vu V1 168 y (-1)) 169 y 0).1 168 y = -1 := (vu_n (by omega)).trans (vu_e rfl)
  have y9 : (vu (vu V1 168 y (-1)) 169 y 0).1 169 y = 0 := vu_e rfl
  generalize vu (vu V1 168 y (-1)) 169 y 0 = W1 at *
  by_cases c1 : cBy (sTu E.1 ((y : Int) * 366) kn o) 720 = -1
  · rw [if_pos c1]
    have es : sYs E (sGs E kn).1 kn o (y + 1) = (sU S.1 y (-1), sU S.2.1 y 0, S.2.2) := by rw [ys]; unfold sYt; rw [if_pos c1]
    refine ⟨W1, by rw [es], m1, n1, k1, fun j hj => ?_⟩
    rw [es]
    show W1.1 168 j = sU S.1 y (-1) j ∧ W1.1 169 j = sU S.2.1 y 0 j
    by_cases c : j = y
    · rw [sU_e c, sU_e c, c]; exact ⟨y8, y9⟩
    · rw [sU_n c, sU_n c, o8 j c, o9 j c]; exact p4 j (by omega)
  · rw [if_neg c1]
    obtain ⟨k, hk⟩ : ∃ k, k = cBy (sTu E.1 ((y : Int) * 366) kn o) 720 := ⟨_, rfl⟩
    have tk := tu_k hk.symm (by rw [hk]; exact c1)
    rw [← hk]
    have F := fr_d_X12_findHouses_r125_c1d ((y : Int) * 366) W1
    have hz := mhs1 (d := (y : Int) * 366) (kn := kn) (g := (sGs E kn).1) (E := E) (W := W1) I.2.2.1 I.2.1 ⟨congrArg Prod.fst m1.1, n1, m1.2.2.2.2.2.2⟩
    generalize d_X12_findHouses_r125_c1d ((y : Int) * 366) W1 = H at *
    have mH : pMs H E (sGs E kn).1 := by
      obtain ⟨a1, a2, a3, a4, a5, a6, a7⟩ := m1
      refine ⟨?_, a2, a3, a4, a5, a6, by rw [pF_c F rfl]; exact a7⟩
      rw [← a1]
      unfold eOf
      rw [pF_c F (c := 126) rfl, pF_c F (c := 132) rfl, pF_c F (c := 133) rfl, pF_c F (c := 134) rfl, F.1 125 27 rfl]
    have nH : H.1 125 28 = kn := (F.1 125 28 rfl).trans n1
    have kH : pKf H E.1 kn := kf_c k1 (pF_c F rfl) (pF_c F rfl) (pF_c F rfl)
    have H8 : H.1 168 = W1.1 168 := pF_c F rfl
    have H9 : H.1 169 = W1.1 169 := pF_c F rfl
    obtain ⟨V, v1, v2, v3, v4, v5, v6⟩ := m72 (M := H) (b := S.1) (y := y) (k := k) (L := S.2.2) (o := o) (yl := yl) (K14 := fun l1 l2 l3 l4 l5 W => d_X12_findTurns_r125d_14 r l1 l2 l3 l4 l5 W) mH I nH hd hy Hs Il C O tk.1 tk.2.1 hz (E.1 7).toNat 0 41 H (by omega) (by omega) pZm_r kH (fun j hj => by rw [H8, o8 j (by omega)]; exact (p4 j hj).1) (by rw [H8]; exact y8) (by rw [H9]; exact y9)
    rw [v1]
    rw [Nat.zero_add] at v5 ⊢
    have j8 : ∀ j : Nat, j < y → V.1 168 j = S.1 j := fun j hj => by rw [(v4 j (by omega)).1, H8, o8 j (by omega)]; exact (p4 j hj).1
    have j9 : ∀ j : Nat, j < y → V.1 169 j = S.2.1 j := fun j hj => by rw [(v4 j (by omega)).2, H9, o9 j (by omega)]; exact (p4 j hj).2
    by_cases c2 : sGo E (sGs E kn).1 ((y : Int) * 366) kn S.1 y k S.2.2 (E.1 7).toNat 0 = (E.1 7).toNat
    · have es : sYs E (sGs E kn).1 kn o (y + 1) = (sU S.1 y (-1), sU S.2.1 y (E.1 7), S.2.2) := by rw [ys]; unfold sYt; rw [if_neg c1, ← hk, if_pos c2]
      rw [if_pos c2] at v5 ⊢
      rw [c2] at v6
      refine ⟨V, by rw [es], zMs v2 mH, (v2.1 125 28 (by decide) rfl).trans nH, v3, fun j hj => ?_⟩
      rw [es]
      show V.1 168 j = sU S.1 y (-1) j ∧ V.1 169 j = sU S.2.1 y (E.1 7) j
      by_cases c : j = y
      · rw [sU_e c, sU_e c, c]; exact ⟨v5, by rw [v6]; omega⟩
      · rw [sU_n c, sU_n c]; exact ⟨j8 j (by omega), j9 j (by omega)⟩
    · have es : sYs E (sGs E kn).1 kn o (y + 1) = (sU S.1 y (sPl S.2.2 (E.1 7) (sGo E (sGs E kn).1 ((y : Int) * 366) kn S.1 y k S.2.2 (E.1 7).toNat 0) : Int), sU S.2.1 y (sGo E (sGs E kn).1 ((y : Int) * 366) kn S.1 y k S.2.2 (E.1 7).toNat 0 : Int), (sPl S.2.2 (E.1 7) (sGo E (sGs E kn).1 ((y : Int) * 366) kn S.1 y k S.2.2 (E.1 7).toNat 0) : Int)) := by rw [ys]; unfold sYt; rw [if_neg c1, ← hk, if_neg c2]
      rw [if_neg c2] at v5 ⊢
      generalize sGo E (sGs E kn).1 ((y : Int) * 366) kn S.1 y k S.2.2 (E.1 7).toNat 0 = G at *
      generalize sPl S.2.2 (E.1 7) G = h0 at *
      refine ⟨V, by rw [es], zMs v2 mH, (v2.1 125 28 (by decide) rfl).trans nH, v3, fun j hj => ?_⟩
      rw [es]
      show V.1 168 j = sU S.1 y (h0 : Int) j ∧ V.1 169 j = sU S.2.1 y (G : Int) j
      by_cases c : j = y
      · rw [sU_e c, sU_e c, c]; exact ⟨v5, v6⟩
      · rw [sU_n c, sU_n c]; exact ⟨j8 j (by omega), j9 j (by omega)⟩
theorem yt_o {g : Nat → Int} {y j : Nat} {S : (Nat → Int) × (Nat → Int) × Int} (h : j ≠ y) : (sYt E g kn o y S).1 j = S.1 j ∧ (sYt E g kn o y S).2.1 j = S.2.1 j := by
  unfold sYt
  by_cases c1 : cBy (sTu E.1 ((y : Int) * 366) kn o) 720 = -1
  · rw [if_pos c1]; exact ⟨sU_n h, sU_n h⟩
  · rw [if_neg c1]
    by_cases c2 : sGo E g ((y : Int) * 366) kn S.1 y (cBy (sTu E.1 ((y : Int) * 366) kn o) 720) S.2.2 (E.1 7).toNat 0 = (E.1 7).toNat
    · rw [if_pos c2]; exact ⟨sU_n h, sU_n h⟩
    · rw [if_neg c2]; exact ⟨sU_n h, sU_n h⟩
theorem ys_o {g : Nat → Int} {j : Nat} : ∀ y : Nat, j < y → (sYs E g kn o y).1 j = (sYs E g kn o (j + 1)).1 j ∧ (sYs E g kn o y).2.1 j = (sYs E g kn o (j + 1)).2.1 j := by
  intro y
  induction y with
  | zero => intro h; exact absurd h (Nat.not_lt_zero j)
  | succ y ih =>
    intro h
    by_cases c : j = y
    · rw [c]; exact ⟨rfl, rfl⟩
    · have a := yt_o (E := E) (kn := kn) (o := o) (g := g) (S := sYs E g kn o y) c
      have b := ih (by omega)
      exact ⟨a.1.trans b.1, a.2.trans b.2⟩
/-- who served in YEAR j; how many were passed -/
noncomputable def sSb (E : pE) (kn o : Int) (j : Nat) : Int := (sYs E (sGs E kn).1 kn o (j + 1)).1 j
noncomputable def sPd (E : pE) (kn o : Int) (j : Nat) : Int := (sYs E (sGs E kn).1 kn o (j + 1)).2.1 j
/-- all YEARS, at the class -/
theorem xrn {yl : Nat} (I : pIq E (sGs E kn).1) (G : sGi E (sGs E kn).1) (hy : yl ≤ 399) (Ik : pIk E.1) (Il : pIl E.1) (I6 : pI6 E.1) (O : ∀ y : Nat, y ≤ 399 → ∀ p : Nat, p < sNl E → (sGs E kn).1 p = (p : Int) → qOk fun w => sQu E (sGs E kn).1 ((y : Int) * 366) kn w (p : Int)) : ∀ (c y f : Nat) (W : jW), yl + 1 - y = c → c < f → pYrx W E kn o y → y ≤ 400 → ∃ y1 : Nat, yl < y1 ∧ pYrx (d_X4_runTurns_r107d_53 f o (yl : Int) kn W) E kn o y1 ∧ y1 ≤ 400 ∧ (y ≤ yl + 1 → y1 = yl + 1) := by
  intro c
  induction c with
  | zero =>
    intro y f W e hf P h4
    obtain ⟨f, rfl⟩ : ∃ q, f = q + 1 := ⟨f - 1, by omega⟩
    have st : d_X4_runTurns_r107d_53 (f + 1) o (yl : Int) kn W = W := if_pos (by rw [P.2.1]; omega)
    rw [st]
    exact ⟨y, by omega, P, h4, fun h => by omega⟩
  | succ c ih =>
    intro y f W e hf P h4
    obtain ⟨f, rfl⟩ : ∃ q, f = q + 1 := ⟨f - 1, by omega⟩
    obtain ⟨V, v1, v2⟩ := xyr (r := f) (yl := (yl : Int)) P I (by omega) (by omega) (ha_q I G) Ik Il I6 (O y (by omega))
    rw [v1]
    obtain ⟨y1, a1, a2, a3, a4⟩ := ih (y + 1) f V (by omega) (by omega) v2 (by omega)
    exact ⟨y1, a1, a2, a3, fun _ => a4 (by omega)⟩
/-- all YEARS, at the reference -/
theorem mrn2 {yl : Nat} (I : pIq E (sGs E kn).1) (G : sGi E (sGs E kn).1) (hy : yl ≤ 399) (Il : pIl E.1) (C : pCa E.1) (O : ∀ y : Nat, y ≤ 399 → ∀ p : Nat, p < sNl E → (sGs E kn).1 p = (p : Int) → qOk fun w => sQu E (sGs E kn).1 ((y : Int) * 366) kn w (p : Int)) : ∀ (c y f : Nat) (W : jW), yl + 1 - y = c → c < f → y ≤ yl + 1 → pYrm W E kn o y → pYrm (d_X12_findTurns_r125d_14 f o (yl : Int) (E.1 7) (((sYs E (sGs E kn).1 kn o y).2.2 + 1) % E.1 7) (y : Int) W) E kn o (yl + 1) := by
  intro c
  induction c with
  | zero =>
    intro y f W e hf hh P
    obtain ⟨f, rfl⟩ : ∃ q, f = q + 1 := ⟨f - 1, by omega⟩
    have st : d_X12_findTurns_r125d_14 (f + 1) o (yl : Int) (E.1 7) (((sYs E (sGs E kn).1 kn o y).2.2 + 1) % E.1 7) (y : Int) W = W := if_pos (by omega)
    rw [st, show yl + 1 = y from by omega]
    exact P
  | succ c ih =>
    intro y f W e hf hh P
    obtain ⟨f, rfl⟩ : ∃ q, f = q + 1 := ⟨f - 1, by omega⟩
    obtain ⟨V, v1, v2⟩ := myr (r := f) (yl := (yl : Int)) P I (by omega) (by omega) (ha_q I G) Il C (O y (by omega))
    rw [v1]
    have q := ih (y + 1) f V (by omega) (by omega) (by omega) v2
    rw [show ((y + 1 : Nat) : Int) = (y : Int) + 1 from by omega] at q
    exact q
end
end jG86

section jG87
/-! pure: how unevenly HOLDINGS served -/
def sCn (b : Nat → Int) (h : Int) : Nat → Int
  | 0 => 0
  | n + 1 => sCn b h n + if b n = h then 1 else 0
def sMx (f : Nat → Int) : Nat → Int
  | 0 => 0
  | n + 1 => max (sMx f n) (f n)
def sMi (f : Nat → Int) (v : Int) : Nat → Int
  | 0 => v
  | n + 1 => min (sMi f v n) (f n)
theorem cn_b {b : Nat → Int} {h : Int} : ∀ n : Nat, 0 ≤ sCn b h n ∧ sCn b h n ≤ (n : Int) := by
  intro n
  induction n with
  | zero => exact ⟨Int.le_refl _, Int.le_refl _⟩
  | succ n ih =>
    show 0 ≤ sCn b h n + (if b n = h then 1 else 0) ∧ sCn b h n + (if b n = h then 1 else 0) ≤ ((n + 1 : Nat) : Int)
    by_cases c : b n = h
    · rw [if_pos c]; omega
    · rw [if_neg c]; omega
theorem cn_c {b b' : Nat → Int} {h : Int} : ∀ n : Nat, (∀ j : Nat, j < n → b j = b' j) → sCn b h n = sCn b' h n := by
  intro n
  induction n with
  | zero => intro _; rfl
  | succ n ih =>
    intro e
    show sCn b h n + (if b n = h then 1 else 0) = sCn b' h n + (if b' n = h then 1 else 0)
    rw [ih (fun j hj => e j (by omega)), e n (by omega)]
theorem mx_b {f : Nat → Int} : ∀ n : Nat, (∀ j : Nat, j < n → 0 ≤ f j ∧ f j ≤ 400) → 0 ≤ sMx f n ∧ sMx f n ≤ 400 := by
  intro n
  induction n with
  | zero => intro _; exact ⟨Int.le_refl _, by show (0 : Int) ≤ 400; decide⟩
  | succ n ih =>
    intro h
    have a := ih (fun j hj => h j (by omega))
    have b := h n (by omega)
    show 0 ≤ max (sMx f n) (f n) ∧ max (sMx f n) (f n) ≤ 400
    omega
theorem mi_b {f : Nat → Int} {v : Int} (hv : 0 ≤ v ∧ v ≤ 1000) : ∀ n : Nat, (∀ j : Nat, j < n → 0 ≤ f j ∧ f j ≤ 400) → 0 ≤ sMi f v n ∧ sMi f v n ≤ 1000 := by
  intro n
  induction n with
  | zero => intro _; exact hv
  | succ n ih =>
    intro h
    have a := ih (fun j hj => h j (by omega))
    have b := h n (by omega)
    show 0 ≤ min (sMi f v n) (f n) ∧ min (sMi f v n) (f n) ≤ 1000
    omega
theorem mi_v {f : Nat → Int} : ∀ n : Nat, (∀ j : Nat, j < n + 1 → 0 ≤ f j ∧ f j ≤ 400) → sMi f 400 (n + 1) = sMi f 1000 (n + 1) := by
  intro n
  induction n with
  | zero =>
    intro h
    have b := h 0 (by omega)
    show min 400 (f 0) = min 1000 (f 0)
    omega
  | succ n ih =>
    intro h
    show min (sMi f 400 (n + 1)) (f (n + 1)) = min (sMi f 1000 (n + 1)) (f (n + 1))
    rw [ih (fun j hj => h j (by omega))]
/-- how uneven it was in the first n YEARS -/
def sUn (b : Nat → Int) (N : Int) (n : Nat) : Int := if N = 0 then 0 else sMx (fun h => sCn b (h : Int) n) N.toNat - sMi (fun h => sCn b (h : Int) n) 400 N.toNat
theorem xu88 {W : jW} {f : Nat → Int} {N v : Int} (hv : 0 ≤ v ∧ v ≤ 1000) (hN : 0 ≤ N ∧ N ≤ 40) (e : W.1 49 3 = N) (hf : ∀ h : Nat, (h : Int) < N → W.1 118 h = f h ∧ 0 ≤ f h ∧ f h ≤ 400) : ∀ (c h r : Nat), (h : Int) + (c : Int) = N → c < r → d_X4_unevenness_r107d_88 r (sMx f h) (sMi f v h) (h : Int) W = (sMx f N.toNat - sMi f v N.toNat, W) := by
  intro c
  induction c with
  | zero =>
    intro h r eh hr
    obtain ⟨r, rfl⟩ : ∃ q, r = q + 1 := ⟨r - 1, by omega⟩
    have a := mx_b (f := f) h (fun j hj => (hf j (by omega)).2)
    have b := mi_b (f := f) hv h (fun j hj => (hf j (by omega)).2)
    refine (if_pos (by omega)).trans ?_
    rw [j_is (by omega) (by omega) (by omega), show N.toNat = h from by omega]
  | succ c ih =>
    intro h r eh hr
    obtain ⟨r, rfl⟩ : ∃ q, r = q + 1 := ⟨r - 1, by omega⟩
    refine (if_neg (by omega)).trans ?_
    rw [show (h : Int).toNat = h from by omega, (hf h (by omega)).1]
    exact ih (h + 1) r (by omega) (by omega)
theorem xu23 {b : Nat → Int} {yl : Nat} {N : Int} (hy : yl ≤ 399) (hN : 0 ≤ N ∧ N ≤ 40) (hb : ∀ j : Nat, j ≤ yl → -1 ≤ b j ∧ b j < N) : ∀ (c y r : Nat) (W : jW), y + c = yl + 1 → c < r → W.1 49 3 = N → (∀ j : Nat, j ≤ yl → W.1 115 j = b j) → (∀ h : Nat, h < 40 → W.1 118 h = sCn b (h : Int) y) → (d_X4_unevenness_r107d_23 r (yl : Int) (y : Int) W).1 = sUn b N (yl + 1) := by
  intro c
  induction c with
  | zero =>
    intro y r W e hr e49 e115 e118
    obtain ⟨r, rfl⟩ : ∃ q, r = q + 1 := ⟨r - 1, by omega⟩
    have st : d_X4_unevenness_r107d_23 (r + 1) (yl : Int) (y : Int) W = d_X4_unevenness_r107d_68 W := if_pos (by omega)
    rw [st, ← e, Nat.add_zero]
    unfold d_X4_unevenness_r107d_68 d_X4_unevenness_r107d_84 d_X4_unevenness_r107d_200084 sUn
    rw [e49]
    by_cases c : N = 0
    · rw [if_pos (by omega), if_pos c]
      refine (congrArg Prod.fst (if_pos (by omega) : d_X4_unevenness_r107d_88 41 0 0 0 W = (j_isub 0 0, W))).trans ?_
      rfl
    · rw [if_neg (by omega), if_neg c]
      have q := xu88 (W := W) (f := fun h => sCn b (h : Int) y) (v := 400) (by decide) hN e49 (fun h hh => ⟨e118 h (by omega), by have := cn_b (b := b) (h := (h : Int)) y; omega⟩) N.toNat 0 41 (by omega) (by omega)
      exact congrArg Prod.fst q
  | succ c ih =>
    intro y r W e hr e49 e115 e118
    obtain ⟨r, rfl⟩ : ∃ q, r = q + 1 := ⟨r - 1, by omega⟩
    have eb := e115 y (by omega)
    have bb := hb y (by omega)
    have st : d_X4_unevenness_r107d_23 (r + 1) (yl : Int) (y : Int) W = (if b y < 0 then d_X4_unevenness_r107d_23 r (yl : Int) ((y + 1 : Nat) : Int) W else d_X4_unevenness_r107d_23 r (yl : Int) ((y + 1 : Nat) : Int) (vu W 118 (b y).toNat (j_iadd (W.1 118 (b y).toNat) 1))) := by
      refine (if_neg (by omega)).trans ?_
      rw [show (y : Int).toNat = y from by omega, eb]
      rfl
    rw [st]
    have sc : ∀ h : Int, sCn b h (y + 1) = sCn b h y + if b y = h then 1 else 0 := fun _ => rfl
    by_cases c1 : b y < 0
    · rw [if_pos c1]
      refine ih (y + 1) r W (by omega) (by omega) e49 e115 (fun h hh => ?_)
      rw [sc, if_neg (by omega), Int.add_zero]
      exact e118 h hh
    · rw [if_neg c1]
      have k := e118 (b y).toNat (by omega)
      have kb := cn_b (b := b) (h := (((b y).toNat : Nat) : Int)) y
      rw [k, j_ia (by omega) (by omega) (by omega)]
      refine ih (y + 1) r _ (by omega) (by omega) (by rw [vu_n (by omega)]; exact e49) (fun j hj => by rw [vu_n (by omega)]; exact e115 j hj) (fun h hh => ?_)
      rw [sc]
      by_cases c2 : h = (b y).toNat
      · rw [vu_e c2, if_pos (by omega), c2]
      · rw [vu_n (by omega), if_neg (by omega), Int.add_zero]
        exact e118 h hh
/-- the class -/
theorem xun {b : Nat → Int} {yl : Nat} {N : Int} {W : jW} (hy : yl ≤ 399) (hN : 0 ≤ N ∧ N ≤ 40) (hb : ∀ j : Nat, j ≤ yl → -1 ≤ b j ∧ b j < N) (e49 : W.1 49 3 = N) (e115 : ∀ j : Nat, j ≤ yl → W.1 115 j = b j) : (d_X4_unevenness_r107d (yl : Int) W).1 = sUn b N (yl + 1) := by
  have key : ∀ (c h r : Nat) (W : jW), h + c = 40 → c < r → W.1 49 3 = N → (∀ j : Nat, j ≤ yl → W.1 115 j = b j) → (∀ i : Nat, i < h → W.1 118 i = 0) → (d_X4_unevenness_r107d_2 r (yl : Int) (h : Int) W).1 = sUn b N (yl + 1) := by
    intro c
    induction c with
    | zero =>
      intro h r W e hr e49 e115 e118
      obtain ⟨r, rfl⟩ : ∃ q, r = q + 1 := ⟨r - 1, by omega⟩
      have st : d_X4_unevenness_r107d_2 (r + 1) (yl : Int) (h : Int) W = d_X4_unevenness_r107d_23 401 (yl : Int) 0 W := if_pos (by omega)
      rw [st]
      exact xu23 hy hN hb (yl + 1) 0 401 W (by omega) (by omega) e49 e115 (fun i hi => e118 i (by omega))
    | succ c ih =>
      intro h r W e hr e49 e115 e118
      obtain ⟨r, rfl⟩ : ∃ q, r = q + 1 := ⟨r - 1, by omega⟩
      have st : d_X4_unevenness_r107d_2 (r + 1) (yl : Int) (h : Int) W = d_X4_unevenness_r107d_2 r (yl : Int) ((h + 1 : Nat) : Int) (vu W 118 h 0) := by
        refine (if_neg (by omega)).trans ?_
        rw [show (h : Int).toNat = h from by omega]
        rfl
      rw [st]
      refine ih (h + 1) r _ (by omega) (by omega) (by rw [vu_n (by omega)]; exact e49) (fun j hj => by rw [vu_n (by omega)]; exact e115 j hj) (fun i hi => ?_)
      by_cases c : i = h
      · exact vu_e c
      · rw [vu_n (by omega)]; exact e118 i (by omega)
  exact key 40 0 41 W (by omega) (by omega) e49 e115 (fun i hi => absurd hi (Nat.not_lt_zero i))
/-- the reference: one HOLDING -/
theorem mu113 {K : Int → Int → Int → Int → jW → Int × jW} {b : Nat → Int} {yl : Nat} {l5 l6 : Int} {h : Nat} {W : jW} (hy : yl ≤ 399) (e168 : ∀ j : Nat, j ≤ yl → W.1 168 j = b j) : ∀ (c y r : Nat), y + c = yl + 1 → c < r → d_X12_turn_r125d_113 K r (yl : Int) l5 l6 (h : Int) (sCn b (h : Int) y) (y : Int) W = K (yl : Int) (max l5 (sCn b (h : Int) (yl + 1))) (min l6 (sCn b (h : Int) (yl + 1))) ((h : Int) + 1) W := by
  intro c
  induction c with
  | zero =>
    intro y r e hr
    obtain ⟨r, rfl⟩ : ∃ q, r = q + 1 := ⟨r - 1, by omega⟩
    rw [← e, Nat.add_zero]
    generalize sCn b (h : Int) y = s
    refine (if_pos (by omega)).trans ?_
    by_cases c1 : l5 ≤ s
    · rw [if_pos c1, show max l5 s = s from by omega]
      by_cases c2 : s ≤ l6
      · rw [if_pos c2, show min l6 s = s from by omega]
      · rw [if_neg c2, show min l6 s = l6 from by omega]
    · rw [if_neg c1, show max l5 s = l5 from by omega]
      by_cases c2 : s ≤ l6
      · rw [if_pos c2, show min l6 s = s from by omega]
      · rw [if_neg c2, show min l6 s = l6 from by omega]
  | succ c ih =>
    intro y r e hr
    obtain ⟨r, rfl⟩ : ∃ q, r = q + 1 := ⟨r - 1, by omega⟩
    have kb := cn_b (b := b) (h := (h : Int)) y
    have sc : sCn b (h : Int) (y + 1) = sCn b (h : Int) y + if b y = (h : Int) then 1 else 0 := rfl
    have st : d_X12_turn_r125d_113 K (r + 1) (yl : Int) l5 l6 (h : Int) (sCn b (h : Int) y) (y : Int) W = if b y = (h : Int) then d_X12_turn_r125d_113 K r (yl : Int) l5 l6 (h : Int) (j_iadd (sCn b (h : Int) y) 1) ((y + 1 : Nat) : Int) W else d_X12_turn_r125d_113 K r (yl : Int) l5 l6 (h : Int) (sCn b (h : Int) y + 0) ((y + 1 : Nat) : Int) W := by
      refine (if_neg (by omega)).trans ?_
      rw [show (y : Int).toNat = y from by omega, e168 y (by omega)]
      rfl
    have q := ih (y + 1) r (by omega) (by omega)
    rw [st]
    by_cases c1 : b y = (h : Int)
    · rw [if_pos c1] at sc
      rw [if_pos c1, j_ia (by omega) (by omega) (by omega), ← sc]
      exact q
    · rw [if_neg c1] at sc
      rw [if_neg c1, ← sc]
      exact q
/-- the reference -/
theorem mun {b : Nat → Int} {yl : Nat} {N : Int} {W : jW} (hy : yl ≤ 399) (hN : 0 ≤ N ∧ N ≤ 40) (e126 : W.1 126 7 = N) (e168 : ∀ j : Nat, j ≤ yl → W.1 168 j = b j) : d_X12_turn_r125d_95 41 (yl : Int) 0 1000 0 W = (sUn b N (yl + 1), W) := by
  have hf : ∀ h : Nat, 0 ≤ (fun h : Nat => sCn b (h : Int) (yl + 1)) h ∧ (fun h : Nat => sCn b (h : Int) (yl + 1)) h ≤ 400 := fun h => by
    have := cn_b (b := b) (h := (h : Int)) (yl + 1)
    show 0 ≤ sCn b (h : Int) (yl + 1) ∧ sCn b (h : Int) (yl + 1) ≤ 400
    omega
  have key : ∀ (c h r : Nat), (h : Int) + (c : Int) = N → c < r → d_X12_turn_r125d_95 r (yl : Int) (sMx (fun h => sCn b (h : Int) (yl + 1)) h) (sMi (fun h => sCn b (h : Int) (yl + 1)) 1000 h) (h : Int) W = (sUn b N (yl + 1), W) := by
    intro c
    induction c with
    | zero =>
      intro h r e hr
      obtain ⟨r, rfl⟩ : ∃ q, r = q + 1 := ⟨r - 1, by omega⟩
      refine (if_pos (by omega)).trans ?_
      unfold d_X12_turn_r125d_200190 d_X12_turn_r125d_190 sUn
      rw [e126]
      by_cases c : N = 0
      · rw [if_pos c, if_pos c]
      · rw [if_neg c, if_neg c]
        obtain ⟨n, hn⟩ : ∃ n, h = n + 1 := ⟨h - 1, by omega⟩
        have a := mx_b (f := fun h => sCn b (h : Int) (yl + 1)) h (fun j _ => hf j)
        have b' := mi_b (f := fun h => sCn b (h : Int) (yl + 1)) (v := 1000) (by decide) h (fun j _ => hf j)
        rw [j_is (by omega) (by omega) (by omega), show N.toNat = h from by omega, hn, mi_v n (fun j _ => hf j)]
    | succ c ih =>
      intro h r e hr
      obtain ⟨r, rfl⟩ : ∃ q, r = q + 1 := ⟨r - 1, by omega⟩
      refine (if_neg (by omega)).trans ((mu113 (K := fun l2 l5 l6 l7 W => d_X12_turn_r125d_95 r l2 l5 l6 l7 W) (h := h) hy e168 (yl + 1) 0 401 (by omega) (by omega)).trans ?_)
      have q := ih (h + 1) r (by omega) (by omega)
      rw [show ((h + 1 : Nat) : Int) = (h : Int) + 1 from by omega] at q
      exact q
  exact key N.toNat 0 41 (by omega) (by omega)
section
variable {E : pE} {kn o : Int}
theorem sb_r (h7 : 0 ≤ E.1 7 ∧ E.1 7 ≤ 40) (j : Nat) : -1 ≤ sSb E kn o j ∧ (sSb E kn o j < E.1 7) := by
  show -1 ≤ (sYt E (sGs E kn).1 kn o j (sYs E (sGs E kn).1 kn o j)).1 j ∧ (sYt E (sGs E kn).1 kn o j (sYs E (sGs E kn).1 kn o j)).1 j < E.1 7
  unfold sYt
  generalize sYs E (sGs E kn).1 kn o j = S
  by_cases c1 : cBy (sTu E.1 ((j : Int) * 366) kn o) 720 = -1
  · rw [if_pos c1]
    show -1 ≤ sU S.1 j (-1) j ∧ sU S.1 j (-1) j < E.1 7
    rw [sU_e rfl]; omega
  · rw [if_neg c1]
    by_cases c2 : sGo E (sGs E kn).1 ((j : Int) * 366) kn S.1 j (cBy (sTu E.1 ((j : Int) * 366) kn o) 720) S.2.2 (E.1 7).toNat 0 = (E.1 7).toNat
    · rw [if_pos c2]
      show -1 ≤ sU S.1 j (-1) j ∧ sU S.1 j (-1) j < E.1 7
      rw [sU_e rfl]; omega
    · rw [if_neg c2]
      have fb := fi_b (P := fun n => sEl E (sGs E kn).1 ((j : Int) * 366) kn S.1 j (cBy (sTu E.1 ((j : Int) * 366) kn o) 720) (sPl S.2.2 (E.1 7) n)) (E.1 7).toNat 0
      have fb2 : sGo E (sGs E kn).1 ((j : Int) * 366) kn S.1 j (cBy (sTu E.1 ((j : Int) * 366) kn o) 720) S.2.2 (E.1 7).toNat 0 ≤ 0 + (E.1 7).toNat := fb.2.1
      generalize sGo E (sGs E kn).1 ((j : Int) * 366) kn S.1 j (cBy (sTu E.1 ((j : Int) * 366) kn o) 720) S.2.2 (E.1 7).toNat 0 = G at *
      have pb := pl_b (L := S.2.2) (N := E.1 7) (by omega) G
      show -1 ≤ sU S.1 j (sPl S.2.2 (E.1 7) G : Int) j ∧ sU S.1 j (sPl S.2.2 (E.1 7) G : Int) j < E.1 7
      rw [sU_e rfl]
      omega
end
end jG87
