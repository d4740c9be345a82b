section jG96
/-! pure: where a SOUL BELONGS, the reference (wip/gen/belongm.py) -/
def pAs (W : jW) (E : pE) (g : Nat → Int) (kn : Int) : Prop := pMs W E g ∧ W.1 125 28 = kn ∧ pKf W E.1 kn
/-- places that a stack of asking uses -/
def aSt (a k : Nat) : Prop := (156 ≤ a ∧ a ≤ 161) ∨ (a = 125 ∧ (k = 74 ∨ k = 75 ∨ k = 76))
theorem pAs_u {W : jW} {E : pE} {g : Nat → Int} {kn x : Int} {a k : Nat} (A : pAs W E g kn) (h : aSt a k) : pAs (vu W a k x) E g kn := by
  unfold aSt at h
  obtain ⟨⟨h1, h2⟩, h3, h4⟩ := A
  have n : ∀ c : Nat, c ≠ 125 → (c < 156 ∨ 161 < c) → (vu W a k x).1 c = W.1 c := fun c c1 c2 => vu_c (by omega)
  have m : ∀ i : Nat, i < 74 → (vu W a k x).1 125 i = W.1 125 i := fun i hi => vu_n (by omega)
  refine ⟨⟨?_, ?_⟩, ?_, ?_⟩
  · unfold eOf at *
    rw [n 126 (by decide) (by decide), n 132 (by decide) (by decide), n 133 (by decide) (by decide), n 134 (by decide) (by decide), m 27 (by decide)]
    exact h1
  · rw [n 139 (by decide) (by decide)]; exact h2
  · rw [m 28 (by decide)]; exact h3
  · unfold pKf pMf at *
    rw [m 57 (by decide), n 152 (by decide) (by decide), n 153 (by decide) (by decide)]
    exact h4
def pFr (W : jW) (E : pE) (g : Nat → Int) (kn : Int) (D : Nat) (s d : Int) (k : Nat) : Prop := W.1 125 74 = (D : Int) ∧ W.1 156 D = s ∧ W.1 157 D = d ∧ W.1 158 D = (k : Int) ∧ W.1 161 D = (sBl E g d kn s k).2.2.2
/-- what going on to the next GROUND leaves -/
def pNxB (D : Nat) (W V : jW) : Prop := (∀ a i : Nat, 156 ≤ a → a ≤ 161 → ¬ (a = 158 ∧ i = D) → ¬ (a = 161 ∧ i = D) → V.1 a i = W.1 a i) ∧ (0 < D → V.1 125 75 = W.1 125 75 ∧ V.1 125 76 = W.1 125 76)
theorem pNxB_t {D : Nat} {W V U : jW} (h : pNxB D W V) (i : pNxB D V U) : pNxB D W U := ⟨fun a j a1 a2 a3 a4 => (i.1 a j a1 a2 a3 a4).trans (h.1 a j a1 a2 a3 a4), fun z => ⟨(i.2 z).1.trans (h.2 z).1, (i.2 z).2.trans (h.2 z).2⟩⟩
theorem pNxB_u {D : Nat} {W : jW} {x : Int} : pNxB D W (vu W 158 D x) := ⟨fun a i _ _ a3 _ => vu_n a3, fun _ => ⟨vu_n (by omega), vu_n (by omega)⟩⟩
section
variable {E : pE} {g : Nat → Int} {kn : Int}
theorem mhA {W : jW} {t c s d : Int} (A : pAs W E g kn) (I : pIq E g) (hd : 0 ≤ d ∧ d ≤ 146399) (hs : s ≠ -1) (Il : pIl E.1) (O : qOk fun w => sQu E g d kn w s) (C : pCa E.1) (ht : 0 ≤ t ∧ t < E.1 4) (hc : 0 ≤ c ∧ c < E.1 ((18820 + (924 * t)) + 3).toNat) : (d_X12_holdsFor_r125d t c s d W).1 = tv (sHd E.1 d kn t c fun w => sQu E g d kn w s) ∧ pAs (d_X12_holdsFor_r125d t c s d W).2 E g kn ∧ (∀ a : Nat, 156 ≤ a → a ≤ 161 → (d_X12_holdsFor_r125d t c s d W).2.1 a = W.1 a) ∧ (d_X12_holdsFor_r125d t c s d W).2.1 125 74 = W.1 125 74 ∧ (d_X12_holdsFor_r125d t c s d W).2.1 125 75 = W.1 125 75 ∧ (d_X12_holdsFor_r125d t c s d W).2.1 125 76 = W.1 125 76 := by
  obtain ⟨m1, m2, m3, m4⟩ := mhz A.1 I A.2.1 hd hs Il O C ht hc pZm_r A.2.2
  have F := fr_d_X12_holdsFor_r125d t c s d W
  refine ⟨m1, ⟨zMs m2 A.1, (m2.1 125 28 (by decide) rfl).trans A.2.1, m3⟩, fun a a1 a2 => ?_, F.1 125 74 rfl, F.1 125 75 rfl, F.1 125 76 rfl⟩
  rcases (show a = 156 ∨ a = 157 ∨ a = 158 ∨ a = 159 ∨ a = 160 ∨ a = 161 from by omega) with rfl | rfl | rfl | rfl | rfl | rfl
  · exact pF_c F rfl
  · exact pF_c F rfl
  · exact pF_c F rfl
  · exact pF_c F rfl
  · exact pF_c F rfl
  · exact pF_c F rfl
theorem mng {s d : Int} {D : Nat} (I : pIq E g) (hd : 0 ≤ d ∧ d ≤ 146399) (hs : s ≠ -1) (Il : pIl E.1) (O : qOk fun w => sQu E g d kn w s) (C : pCa E.1) : ∀ (c k f : Nat) (W : jW), k + c = 720 → c < f → pAs W E g kn → pFr W E g kn D s d k → (∃ V : jW, d_X12_nextGround_r125d_5 f (D : Int) W = (-1, V) ∧ sBl E g d kn s 720 = sBl E g d kn s k ∧ pAs V E g kn ∧ V.1 125 74 = (D : Int) ∧ pNxB D W V ∧ V.1 125 75 = W.1 125 75 ∧ V.1 125 76 = W.1 125 76) ∨ (∃ (V : jW) (l : Nat), k ≤ l ∧ l < 720 ∧ sBl E g d kn s l = sBl E g d kn s k ∧ sBh E g d kn s (l : Int) ∧ j_iand (j_ishr (sBl E g d kn s l).2.2.2 (sBg E.1 (l : Int))) 1 = 0 ∧ d_X12_nextGround_r125d_5 f (D : Int) W = (sBg E.1 (l : Int), V) ∧ pAs V E g kn ∧ pFr V E g kn D s d (l + 1) ∧ pNxB D W V ∧ (D = 0 → V.1 125 75 = (l : Int) % 360 ∧ V.1 125 76 = j_ior (W.1 125 76) (j_ishl 1 (sBg E.1 (l : Int))))) := by
  intro c
  induction c with
  | zero =>
    intro k f W e hf A Fr
    obtain ⟨f, rfl⟩ : ∃ q, f = q + 1 := ⟨f - 1, by omega⟩
    refine Or.inl ⟨W, ?_, by rw [show k = 720 from by omega], A, Fr.1, ⟨fun _ _ _ _ _ _ => rfl, fun _ => ⟨rfl, rfl⟩⟩, rfl, rfl⟩
    refine if_pos ?_
    rw [show ((D : Int)).toNat = D from by omega, Fr.2.2.2.1]
    omega
  | succ c ih =>
    intro k f W e hf A Fr
    obtain ⟨f, rfl⟩ : ∃ q, f = q + 1 := ⟨f - 1, by omega⟩
    obtain ⟨f1, f2, f3, f4, f5⟩ := Fr
    have e126 : W.1 126 = E.1 := congrArg Prod.fst A.1.1
    have st : ∀ b : Int, W.1 161 D = b → d_X12_nextGround_r125d_5 (f + 1) (D : Int) W = (if 720 ≤ (k : Int) then ((-1), W) else (if 0 ≤ (((k : Int) % 360) / 12) ∧ (((k : Int) % 360) / 12) ≤ ((E.1 4) - 1) then (if 0 ≤ ((k : Int) % 12) ∧ ((k : Int) % 12) ≤ ((E.1 ((18820 + (924 * (((k : Int) % 360) / 12))) + 3).toNat) - 1) then (if (E.1 (18820 + (924 * (((k : Int) % 360) / 12))).toNat) = ((k : Int) / 360) then (if (E.1 (((18820 + (924 * (((k : Int) % 360) / 12))) + 4) + (10 * ((k : Int) % 12))).toNat) = 1 then (if (d_X12_holdsFor_r125d (((k : Int) % 360) / 12) ((k : Int) % 12) s d (vu W 158 D ((k : Int) + 1))).1 = 0 then (d_X12_nextGround_r125d_5 f (D : Int) (d_X12_holdsFor_r125d (((k : Int) % 360) / 12) ((k : Int) % 12) s d (vu W 158 D ((k : Int) + 1))).2) else (if (j_iand (j_ishr b (E.1 ((((18820 + (924 * (((k : Int) % 360) / 12))) + 4) + (10 * ((k : Int) % 12))) + 1).toNat)) 1) = 0 then (if (D : Int) = 0 then (d_X12_nextGround_r125d_185 (E.1 ((((18820 + (924 * (((k : Int) % 360) / 12))) + 4) + (10 * ((k : Int) % 12))) + 1).toNat) (vu (vu (vu (d_X12_holdsFor_r125d (((k : Int) % 360) / 12) ((k : Int) % 12) s d (vu W 158 D ((k : Int) + 1))).2 161 D (j_ior b (j_ishl 1 (E.1 ((((18820 + (924 * (((k : Int) % 360) / 12))) + 4) + (10 * ((k : Int) % 12))) + 1).toNat)))) 125 75 ((12 * (((k : Int) % 360) / 12)) + ((k : Int) % 12))) 125 76 (j_ior (W.1 125 76) (j_ishl 1 (E.1 ((((18820 + (924 * (((k : Int) % 360) / 12))) + 4) + (10 * ((k : Int) % 12))) + 1).toNat))))) else (d_X12_nextGround_r125d_185 (E.1 ((((18820 + (924 * (((k : Int) % 360) / 12))) + 4) + (10 * ((k : Int) % 12))) + 1).toNat) (vu (d_X12_holdsFor_r125d (((k : Int) % 360) / 12) ((k : Int) % 12) s d (vu W 158 D ((k : Int) + 1))).2 161 D (j_ior b (j_ishl 1 (E.1 ((((18820 + (924 * (((k : Int) % 360) / 12))) + 4) + (10 * ((k : Int) % 12))) + 1).toNat)))))) else (d_X12_nextGround_r125d_5 f (D : Int) (d_X12_holdsFor_r125d (((k : Int) % 360) / 12) ((k : Int) % 12) s d (vu W 158 D ((k : Int) + 1))).2))) else (d_X12_nextGround_r125d_5 f (D : Int) (vu W 158 D ((k : Int) + 1)))) else (d_X12_nextGround_r125d_5 f (D : Int) (vu W 158 D ((k : Int) + 1)))) else (d_X12_nextGround_r125d_5 f (D : Int) (vu W 158 D ((k : Int) + 1)))) else (d_X12_nextGround_r125d_5 f (D : Int) (vu W 158 D ((k : Int) + 1))))) := fun b hb => by
      rw [← hb, ← f2, ← f3, ← f4, ← e126]
      rfl
    have nx : ∀ W1 : jW, ¬ (sBh E g d kn s (k : Int) ∧ j_iand (j_ishr (sBl E g d kn s k).2.2.2 (sBg E.1 (k : Int))) 1 = 0) → pAs W1 E g kn → W1.1 125 74 = (D : Int) → pNxB D W W1 → W1.1 158 D = ((k + 1 : Nat) : Int) → W1.1 161 D = (sBl E g d kn s k).2.2.2 → W1.1 125 75 = W.1 125 75 → W1.1 125 76 = W.1 125 76 → (∃ V : jW, d_X12_nextGround_r125d_5 f (D : Int) W1 = (-1, V) ∧ sBl E g d kn s 720 = sBl E g d kn s k ∧ pAs V E g kn ∧ V.1 125 74 = (D : Int) ∧ pNxB D W V ∧ V.1 125 75 = W.1 125 75 ∧ V.1 125 76 = W.1 125 76) ∨ (∃ (V : jW) (l : Nat), k ≤ l ∧ l < 720 ∧ sBl E g d kn s l = sBl E g d kn s k ∧ sBh E g d kn s (l : Int) ∧ j_iand (j_ishr (sBl E g d kn s l).2.2.2 (sBg E.1 (l : Int))) 1 = 0 ∧ d_X12_nextGround_r125d_5 f (D : Int) W1 = (sBg E.1 (l : Int), V) ∧ pAs V E g kn ∧ pFr V E g kn D s d (l + 1) ∧ pNxB D W V ∧ (D = 0 → V.1 125 75 = (l : Int) % 360 ∧ V.1 125 76 = j_ior (W.1 125 76) (j_ishl 1 (sBg E.1 (l : Int))))) := fun W1 ne A1 w74 wx w158 w161 w75 w76 => by
      have e1 : sBl E g d kn s (k + 1) = sBl E g d kn s k := bl_n ne
      rcases ih (k + 1) f W1 (by omega) (by omega) A1 ⟨w74, (wx.1 156 D (by decide) (by decide) (by omega) (by omega)).trans f2, (wx.1 157 D (by decide) (by decide) (by omega) (by omega)).trans f3, w158, by rw [e1]; exact w161⟩ with ⟨V, v1, v2, v3, v4, v5, v6, v7⟩ | ⟨V, l, v1, v2, v3, v4, v5, v6, v7, v8, v9, v10⟩
      · exact Or.inl ⟨V, v1, v2.trans e1, v3, v4, pNxB_t wx v5, v6.trans w75, v7.trans w76⟩
      · exact Or.inr ⟨V, l, by omega, v2, v3.trans e1, v4, v5, v6, v7, v8, pNxB_t wx v9, fun z => by rw [← w76]; exact v10 z⟩
    have up : pAs (vu W 158 D ((k : Int) + 1)) E g kn := pAs_u A (Or.inl (by decide))
    have no : ¬ (sBh E g d kn s (k : Int) ∧ j_iand (j_ishr (sBl E g d kn s k).2.2.2 (sBg E.1 (k : Int))) 1 = 0) → _ := fun ne => nx (vu W 158 D ((k : Int) + 1)) ne up ((vu_n (by omega)).trans f1) pNxB_u ((vu_e rfl).trans (by omega)) ((vu_n (by omega)).trans f5) (vu_n (by omega)) (vu_n (by omega))
    rw [st _ f5, if_neg (show ¬ 720 ≤ (k : Int) from by omega)]
    by_cases c1 : 0 ≤ (((k : Int) % 360) / 12) ∧ (((k : Int) % 360) / 12) ≤ ((E.1 4) - 1)
    · rw [if_pos c1]
      by_cases c2 : 0 ≤ ((k : Int) % 12) ∧ ((k : Int) % 12) ≤ ((E.1 ((18820 + (924 * (((k : Int) % 360) / 12))) + 3).toNat) - 1)
      · rw [if_pos c2]
        by_cases c3 : E.1 (18820 + (924 * (((k : Int) % 360) / 12))).toNat = (k : Int) / 360
        · rw [if_pos c3]
          by_cases c4 : E.1 (((18820 + (924 * (((k : Int) % 360) / 12))) + 4) + (10 * ((k : Int) % 12))).toNat = 1
          · rw [if_pos c4]
            obtain ⟨h1, h2, h3, h4, h5, h6⟩ := mhA (t := (((k : Int) % 360) / 12)) (c := ((k : Int) % 12)) up I hd hs Il O C ⟨c1.1, by omega⟩ ⟨c2.1, by omega⟩
            rw [h1]
            have wx : pNxB D W (d_X12_holdsFor_r125d (((k : Int) % 360) / 12) ((k : Int) % 12) s d (vu W 158 D ((k : Int) + 1))).2 := ⟨fun a i a1 a2 a3 _ => by rw [h3 a a1 a2]; exact vu_n a3, fun _ => ⟨h5.trans (vu_n (by omega)), h6.trans (vu_n (by omega))⟩⟩
            have w74 : (d_X12_holdsFor_r125d (((k : Int) % 360) / 12) ((k : Int) % 12) s d (vu W 158 D ((k : Int) + 1))).2.1 125 74 = (D : Int) := h4.trans ((vu_n (by omega)).trans f1)
            have w158 : (d_X12_holdsFor_r125d (((k : Int) % 360) / 12) ((k : Int) % 12) s d (vu W 158 D ((k : Int) + 1))).2.1 158 D = ((k + 1 : Nat) : Int) := by rw [h3 158 (by decide) (by decide)]; exact (vu_e rfl).trans (by omega)
            have w161 : (d_X12_holdsFor_r125d (((k : Int) % 360) / 12) ((k : Int) % 12) s d (vu W 158 D ((k : Int) + 1))).2.1 161 D = (sBl E g d kn s k).2.2.2 := by rw [h3 161 (by decide) (by decide)]; exact (vu_n (by omega)).trans f5
            have w156 : (d_X12_holdsFor_r125d (((k : Int) % 360) / 12) ((k : Int) % 12) s d (vu W 158 D ((k : Int) + 1))).2.1 156 D = s := by rw [h3 156 (by decide) (by decide)]; exact (vu_n (by omega)).trans f2
            have w157 : (d_X12_holdsFor_r125d (((k : Int) % 360) / 12) ((k : Int) % 12) s d (vu W 158 D ((k : Int) + 1))).2.1 157 D = d := by rw [h3 157 (by decide) (by decide)]; exact (vu_n (by omega)).trans f3
            have w75 : (d_X12_holdsFor_r125d (((k : Int) % 360) / 12) ((k : Int) % 12) s d (vu W 158 D ((k : Int) + 1))).2.1 125 75 = W.1 125 75 := h5.trans (vu_n (by omega))
            have w76 : (d_X12_holdsFor_r125d (((k : Int) % 360) / 12) ((k : Int) % 12) s d (vu W 158 D ((k : Int) + 1))).2.1 125 76 = W.1 125 76 := h6.trans (vu_n (by omega))
            generalize (d_X12_holdsFor_r125d (((k : Int) % 360) / 12) ((k : Int) % 12) s d (vu W 158 D ((k : Int) + 1))).2 = H at *
            by_cases c5 : sHd E.1 d kn (((k : Int) % 360) / 12) ((k : Int) % 12) fun w => sQu E g d kn w s
            · have hb : sBh E g d kn s (k : Int) := ⟨c1, c2, c3, c4, c5⟩
              rw [tv_t c5, if_neg (show ¬ (1 : Int) = 0 from by decide)]
              have gk : sBg E.1 (k : Int) = E.1 ((((18820 + (924 * (((k : Int) % 360) / 12))) + 4) + (10 * ((k : Int) % 12))) + 1).toNat := rfl
              rw [← gk]
              by_cases c6 : j_iand (j_ishr (sBl E g d kn s k).2.2.2 (sBg E.1 (k : Int))) 1 = 0
              · rw [if_pos c6]
                have e1 : (sBl E g d kn s (k + 1)).2.2.2 = j_ior (sBl E g d kn s k).2.2.2 (j_ishl 1 (sBg E.1 (k : Int))) := by rw [bl_y hb c6]
                have k3 : (12 * (((k : Int) % 360) / 12)) + ((k : Int) % 12) = (k : Int) % 360 := by omega
                by_cases c7 : (D : Int) = 0
                · have D0 : D = 0 := by omega
                  rw [if_pos c7, k3]
                  refine Or.inr ⟨_, k, by omega, by omega, rfl, hb, c6, rfl, pAs_u (pAs_u (pAs_u h2 (Or.inl (by decide))) (Or.inr (by decide))) (Or.inr (by decide)), ⟨?_, ?_, ?_, ?_, ?_⟩, ⟨fun a i a1 a2 a3 a4 => ?_, fun z => ?_⟩, fun _ => ⟨?_, ?_⟩⟩
                  · exact ((vu_n (by decide)).trans ((vu_n (by decide)).trans (vu_n (by omega)))).trans w74
                  · exact ((vu_n (by omega)).trans ((vu_n (by omega)).trans (vu_n (by omega)))).trans w156
                  · exact ((vu_n (by omega)).trans ((vu_n (by omega)).trans (vu_n (by omega)))).trans w157
                  · exact ((vu_n (by omega)).trans ((vu_n (by omega)).trans (vu_n (by omega)))).trans w158
                  · exact ((vu_n (by omega)).trans ((vu_n (by omega)).trans (vu_e rfl))).trans e1.symm
                  · exact ((vu_n (by omega)).trans ((vu_n (by omega)).trans (vu_n (by omega)))).trans (wx.1 a i a1 a2 a3 a4)
                  · omega
                  · exact (vu_n (by decide)).trans (vu_e rfl)
                  · exact vu_e rfl
                · rw [if_neg c7]
                  refine Or.inr ⟨_, k, by omega, by omega, rfl, hb, c6, rfl, pAs_u h2 (Or.inl (by decide)), ⟨?_, ?_, ?_, ?_, ?_⟩, ⟨fun a i a1 a2 a3 a4 => ?_, fun z => ?_⟩, fun z => ?_⟩
                  · exact (vu_n (by omega)).trans w74
                  · exact (vu_n (by omega)).trans w156
                  · exact (vu_n (by omega)).trans w157
                  · exact (vu_n (by omega)).trans w158
                  · exact (vu_e rfl).trans e1.symm
                  · exact (vu_n (by omega)).trans (wx.1 a i a1 a2 a3 a4)
                  · exact ⟨(vu_n (by omega)).trans w75, (vu_n (by omega)).trans w76⟩
                  · omega
              · rw [if_neg c6]; exact nx H (fun y => c6 y.2) h2 w74 wx w158 w161 w75 w76
            · rw [tv_f c5, if_pos rfl]; exact nx H (fun y => c5 y.1.2.2.2.2) h2 w74 wx w158 w161 w75 w76
          · rw [if_neg c4]; exact no (fun y => c4 y.1.2.2.2.1)
        · rw [if_neg c3]; exact no (fun y => c3 y.1.2.2.1)
      · rw [if_neg c2]; exact no (fun y => c2 y.1.2.1)
    · rw [if_neg c1]; exact no (fun y => c1 y.1.1)
end
end jG96

section jG97
/-! pure: where a SOUL BELONGS, the reference's stack -/
def rch (N : Nat) (a b : Int × Int × jW) : Prop := ∃ n : Nat, 0 < n ∧ n ≤ N ∧ ∀ f : Nat, d_X12_belongs_r125d_26 (f + n) a.1 a.2.1 a.2.2 = d_X12_belongs_r125d_26 f b.1 b.2.1 b.2.2
theorem rch_t {N M : Nat} {a b c : Int × Int × jW} (h : rch N a b) (i : rch M b c) : rch (N + M) a c := by
  obtain ⟨n, n1, n2, n3⟩ := h
  obtain ⟨m, m1, m2, m3⟩ := i
  refine ⟨m + n, by omega, by omega, fun f => ?_⟩
  rw [← Nat.add_assoc, n3, m3]
theorem rch_1 {a b : Int × Int × jW} (h : ∀ f : Nat, d_X12_belongs_r125d_26 (f + 1) a.1 a.2.1 a.2.2 = d_X12_belongs_r125d_26 f b.1 b.2.1 b.2.2) : rch 1 a b := ⟨1, by decide, by decide, h⟩
theorem rch_q {N : Nat} {a b c : Int × Int × jW} (h : ∀ f : Nat, d_X12_belongs_r125d_26 (f + 1) a.1 a.2.1 a.2.2 = d_X12_belongs_r125d_26 (f + 1) b.1 b.2.1 b.2.2) (i : rch N b c) : rch N a c := by
  obtain ⟨m, m1, m2, m3⟩ := i
  refine ⟨m, m1, m2, fun f => ?_⟩
  obtain ⟨q, rfl⟩ : ∃ q, m = q + 1 := ⟨m - 1, by omega⟩
  have e := h (f + q)
  have y := m3 f
  rw [← Nat.add_assoc] at y ⊢
  exact e.trans y
theorem rch_w {N M : Nat} {a b : Int × Int × jW} (h : rch N a b) (l : N ≤ M) : rch M a b := by
  obtain ⟨n, n1, n2, n3⟩ := h
  exact ⟨n, n1, by omega, n3⟩
def phU (W : jW) (D : Nat) (t s d : Int) : jW := vu (vu (vu (vu (vu (vu (vu W 159 D t) 125 74 ((D : Int) + 1)) 156 (D + 1) s) 157 (D + 1) d) 158 (D + 1) 0) 159 (D + 1) 0) 161 (D + 1) 0
section
variable {W V : jW} {D : Nat} {x gr : Int}
theorem bs_no (h : W.1 125 74 = (D : Int)) (n : d_X12_nextGround_r125d W = (-1, V)) (f : Nat) : d_X12_belongs_r125d_26 (f + 1) (-1) 0 W = d_X12_belongs_r125d_26 f (-1) 1 (vu V 125 74 (V.1 125 74 - 1)) := by
  refine (if_neg (by omega)).trans ((if_pos rfl).trans ((if_pos rfl).trans ?_))
  rw [n]
  exact if_pos rfl
theorem bs_up (h : W.1 125 74 = (D : Int)) (hx : x ≠ -1) (f : Nat) : d_X12_belongs_r125d_26 (f + 1) x 0 W = d_X12_belongs_r125d_26 f x 1 (vu W 125 74 (W.1 125 74 - 1)) := (if_neg (by omega)).trans ((if_pos rfl).trans (if_neg hx))
theorem bs_lt (h : W.1 125 74 = (D : Int)) (n : d_X12_nextGround_r125d W = (gr, V)) (h1 : 0 ≤ gr) (h2 : gr < 4) (f : Nat) : d_X12_belongs_r125d_26 (f + 1) (-1) 0 W = d_X12_belongs_r125d_26 f (d_X12_parishBy_r125d gr (V.1 156 D) (V.1 157 D) V) 0 V := by
  refine (if_neg (by omega)).trans ((if_pos rfl).trans ((if_pos rfl).trans ?_))
  rw [n]
  refine (if_neg (show ¬ gr = -1 from by omega)).trans ((if_neg (show ¬ 4 ≤ gr from by omega)).trans ?_)
  rw [h, show ((D : Int)).toNat = D from by omega]
  rfl
theorem bs_ge (h : W.1 125 74 = (D : Int)) (n : d_X12_nextGround_r125d W = (gr, V)) (h2 : 4 ≤ gr) (f : Nat) : d_X12_belongs_r125d_26 (f + 1) (-1) 0 W = d_X12_belongs_r125d_26 f (-1) 0 (d_X12_askOn_r125d gr V) := by
  refine (if_neg (by omega)).trans ((if_pos rfl).trans ((if_pos rfl).trans ?_))
  rw [n]
  exact (if_neg (show ¬ gr = -1 from by omega)).trans (if_pos h2)
theorem bs_b1 (h : W.1 125 74 = (D : Int)) (c : x ≠ -1 ∨ W.1 159 D ≠ 2 ∨ W.1 160 D = -1) (f : Nat) : d_X12_belongs_r125d_26 (f + 1) x 1 W = d_X12_belongs_r125d_26 (f + 1) x 0 (vu W 159 D 0) := by
  have hv : (vu W 159 D 0).1 125 74 = (D : Int) := (vu_n (by omega)).trans h
  have r : d_X12_belongs_r125d_26 (f + 1) x 0 (vu W 159 D 0) = d_X12_belongs_r125d_113 (fun l3 l4 W => d_X12_belongs_r125d_26 f l3 l4 W) x 0 (D : Int) (vu W 159 D 0) := by
    refine (if_neg (by omega)).trans ((if_pos rfl).trans ?_)
    rw [hv]
  rw [r]
  refine (if_neg (by omega)).trans ((if_neg (by decide)).trans ?_)
  rw [h, show ((D : Int)).toNat = D from by omega]
  have z : d_X12_belongs_r125d_105 (fun l3 l4 W => d_X12_belongs_r125d_26 f l3 l4 W) x (D : Int) W = d_X12_belongs_r125d_113 (fun l3 l4 W => d_X12_belongs_r125d_26 f l3 l4 W) x 0 (D : Int) (vu W 159 D 0) := by
    unfold d_X12_belongs_r125d_105
    rw [show ((D : Int)).toNat = D from by omega]
  by_cases c1 : x = -1
  · rw [if_pos c1]
    by_cases c2 : W.1 159 D = 2
    · rw [if_pos c2]
      have c3 : W.1 160 D = -1 := by
        rcases c with c | c | c
        · exact absurd c1 c
        · exact absurd c2 c
        · exact c
      rw [if_pos c3]; exact z
    · rw [if_neg c2]; exact z
  · rw [if_neg c1]; exact z
theorem bs_b2 (h : W.1 125 74 = (D : Int)) (h1 : W.1 159 D = 2) (h2 : W.1 160 D ≠ -1) (f : Nat) : d_X12_belongs_r125d_26 (f + 1) (-1) 1 W = d_X12_belongs_r125d_26 f (-1) 0 (phU W D 3 (W.1 160 D) (W.1 157 (D + 1))) := by
  refine (if_neg (by omega)).trans ((if_neg (by decide)).trans ((if_pos rfl).trans ?_))
  rw [h, show ((D : Int)).toNat = D from by omega, show ((D : Int) + 1).toNat = D + 1 from by omega]
  exact (if_pos h1).trans (if_neg h2)
end
section
variable {E : pE} {g : Nat → Int} {kn : Int}
theorem br_n : ∀ (r : Nat) (d : Int), sBr E g kn r (-1) d = -1 := by
  intro r d
  cases r with
  | zero => rfl
  | succ r =>
    show sBv E g kn (sBr E g kn r) (-1) d = -1
    exact if_pos rfl
def bN : Nat → Nat
  | 0 => 0
  | r + 1 => 6 * (2 * bN r + 6) + 2
def pLo (D : Nat) (W V : jW) : Prop := (∀ a i : Nat, 156 ≤ a → a ≤ 161 → i < D → V.1 a i = W.1 a i) ∧ (0 < D → V.1 125 75 = W.1 125 75 ∧ V.1 125 76 = W.1 125 76)
/-- what asking at depth D does -/
def pCh (E : pE) (g : Nat → Int) (kn : Int) (r D : Nat) : Prop := ∀ (s d : Int) (W : jW), s ≠ -1 → sOs E g s → 0 ≤ d ∧ d ≤ 146399 → pAs W E g kn → pFr W E g kn D s d 0 → ∃ V : jW, rch (bN r) (-1, 0, W) (sBr E g kn r s d, 1, V) ∧ pAs V E g kn ∧ V.1 125 74 = (D : Int) - 1 ∧ pLo D W V ∧ V.1 157 D = d
theorem ch_run {r D k : Nat} {s d s1 d1 t : Int} {V : jW} (Hc : pCh E g kn r (D + 1)) (A : pAs V E g kn) (Fr : pFr V E g kn D s d k) (h1 : s1 ≠ -1) (h2 : sOs E g s1) (h3 : 0 ≤ d1 ∧ d1 ≤ 146399) : ∃ U : jW, rch (bN r) (-1, 0, phU V D t s1 d1) (sBr E g kn r s1 d1, 1, U) ∧ pAs U E g kn ∧ pFr U E g kn D s d k ∧ U.1 159 D = t ∧ U.1 160 D = V.1 160 D ∧ U.1 157 (D + 1) = d1 ∧ (∀ a i : Nat, 156 ≤ a → a ≤ 161 → i < D → U.1 a i = V.1 a i) ∧ U.1 125 75 = V.1 125 75 ∧ U.1 125 76 = V.1 125 76 := by
  have A2 : pAs (phU V D t s1 d1) E g kn := pAs_u (pAs_u (pAs_u (pAs_u (pAs_u (pAs_u (pAs_u A (Or.inl (by decide))) (Or.inr (by decide))) (Or.inl (by decide))) (Or.inl (by decide))) (Or.inl (by decide))) (Or.inl (by decide))) (Or.inl (by decide))
  have o1 : ∀ a i : Nat, 156 ≤ a → a ≤ 161 → i < D → (phU V D t s1 d1).1 a i = V.1 a i := fun a i a1 a2 a3 => (vu_n (by omega)).trans ((vu_n (by omega)).trans ((vu_n (by omega)).trans ((vu_n (by omega)).trans ((vu_n (by omega)).trans ((vu_n (by omega)).trans (vu_n (by omega)))))))
  have o2 : ∀ a : Nat, 156 ≤ a → a ≤ 161 → a ≠ 159 → (phU V D t s1 d1).1 a D = V.1 a D := fun a a1 a2 a3 => (vu_n (by omega)).trans ((vu_n (by omega)).trans ((vu_n (by omega)).trans ((vu_n (by omega)).trans ((vu_n (by omega)).trans ((vu_n (by omega)).trans (vu_n (by omega)))))))
  have o3 : (phU V D t s1 d1).1 159 D = t := (vu_n (by omega)).trans ((vu_n (by omega)).trans ((vu_n (by omega)).trans ((vu_n (by omega)).trans ((vu_n (by omega)).trans ((vu_n (by omega)).trans (vu_e rfl))))))
  have o4 : ∀ i : Nat, i = 75 ∨ i = 76 → (phU V D t s1 d1).1 125 i = V.1 125 i := fun i hi => (vu_n (by omega)).trans ((vu_n (by omega)).trans ((vu_n (by omega)).trans ((vu_n (by omega)).trans ((vu_n (by omega)).trans ((vu_n (by omega)).trans (vu_n (by omega)))))))
  have F2 : pFr (phU V D t s1 d1) E g kn (D + 1) s1 d1 0 := by
    refine ⟨?_, ?_, ?_, ?_, ?_⟩
    · exact ((vu_n (by omega)).trans ((vu_n (by omega)).trans ((vu_n (by omega)).trans ((vu_n (by omega)).trans ((vu_n (by omega)).trans (vu_e rfl)))))).trans (by omega)
    · exact (vu_n (by omega)).trans ((vu_n (by omega)).trans ((vu_n (by omega)).trans ((vu_n (by omega)).trans (vu_e rfl))))
    · exact (vu_n (by omega)).trans ((vu_n (by omega)).trans ((vu_n (by omega)).trans (vu_e rfl)))
    · exact (vu_n (by omega)).trans ((vu_n (by omega)).trans (vu_e rfl))
    · exact vu_e rfl
  obtain ⟨U, u1, u2, u3, u4, u5⟩ := Hc s1 d1 _ h1 h2 h3 A2 F2
  have q : ∀ a : Nat, 156 ≤ a → a ≤ 161 → a ≠ 159 → U.1 a D = V.1 a D := fun a a1 a2 a3 => (u4.1 a D a1 a2 (by omega)).trans (o2 a a1 a2 a3)
  obtain ⟨f1, f2, f3, f4, f5⟩ := Fr
  refine ⟨U, u1, u2, ⟨by omega, (q 156 (by decide) (by decide) (by decide)).trans f2, (q 157 (by decide) (by decide) (by decide)).trans f3, (q 158 (by decide) (by decide) (by decide)).trans f4, (q 161 (by decide) (by decide) (by decide)).trans f5⟩, (u4.1 159 D (by decide) (by decide) (by omega)).trans o3, q 160 (by decide) (by decide) (by decide), u5, fun a i a1 a2 a3 => (u4.1 a i a1 a2 (by omega)).trans (o1 a i a1 a2 a3), (u4.2 (by omega)).1.trans (o4 75 (Or.inl rfl)), (u4.2 (by omega)).2.trans (o4 76 (Or.inr rfl))⟩
theorem m_na {W : jW} {m : Nat} (P : pMs W E g) (hm : m < sNl E) {q : Int} (hq : q = (m : Int)) : d_X12_named_r125d q W = sNa E g m := by
  have e126 : W.1 126 = E.1 := congrArg Prod.fst P.1
  have e139 := P.2.2.2.2.2.2 m hm
  subst hq
  have i0 : (((20 + (90 * ((m : Int) / 3))) + 6) + (28 * ((m : Int) % 3)) + 0).toNat = sNm m 0 := by unfold sNm; omega
  have i1 : (((20 + (90 * ((m : Int) / 3))) + 6) + (28 * ((m : Int) % 3)) + 14).toNat = sNm m 1 := by unfold sNm; omega
  unfold d_X12_named_r125d
  rw [e126, i0, i1, show ((m : Int)).toNat = m from by omega]
  unfold d_X12_named_r125d_18 d_X12_named_r125d_100018 sNa
  rw [e139]
  by_cases a : E.1 (sNm m 0) ≤ 0
  · rw [if_pos a]
    by_cases b : E.1 (sNm m 1) ≤ 0
    · rw [if_pos b, if_pos (tv_f (fun y => y.elim (fun y => by unfold sIn at y; omega) (fun y => by unfold sIn at y; omega)))]
    · rw [if_neg b, if_neg (by rw [tv_t (Or.inr (show sIn E m 1 from by unfold sIn; omega))]; decide)]
  · rw [if_neg a, if_neg (by rw [tv_t (Or.inl (show sIn E m 0 from by unfold sIn; omega))]; decide)]
/-- asking on by a GROUND: nothing, or one more deep -/
theorem ao_4 {W : jW} {D m : Nat} {s d : Int} (P : pMs W E g) (hs : s ≠ -1) (h74 : W.1 125 74 = (D : Int)) (h156 : W.1 156 D = s) (h157 : W.1 157 D = d) : d_X12_askOn_r125d 4 W = if (D : Int) = 6 then W else if sMo E g s 4 d = -1 then W else if sNa E g ((sMo E g s 4 d).toNat - 1) = -1 then W else phU W D 1 (sNa E g ((sMo E g s 4 d).toNat - 1)) d := by
  unfold d_X12_askOn_r125d
  rw [h74, show ((D : Int)).toNat = D from by omega, h156, h157, mmo (w := 4) (d := d) P hs (by decide)]
  by_cases c1 : (D : Int) = 6
  · rw [if_pos c1, if_pos c1]
  · rw [if_neg c1, if_neg c1, if_pos rfl]
    by_cases c2 : sMo E g s 4 d = -1
    · rw [if_pos c2, if_pos c2]; rfl
    · obtain ⟨m, m1, m2, m3⟩ := mo_4 P.2.1 c2
      rw [if_neg c2, if_neg c2, m1, m_na (m := m - 1) P (by omega) (by omega), show ((m : Int)).toNat = m from by omega]
      unfold d_X12_askOn_r125d_53
      by_cases c3 : sNa E g (m - 1) = -1
      · rw [if_pos c3, if_pos c3]; rfl
      · rw [if_neg c3, if_neg c3, h74, show ((D : Int)).toNat = D from by omega, show ((D : Int) + 1).toNat = D + 1 from by omega, h157]
        rfl
theorem ao_5 {W : jW} {D : Nat} {s : Int} (P : pMs W E g) (hs : s ≠ -1) (h74 : W.1 125 74 = (D : Int)) (h156 : W.1 156 D = s) : d_X12_askOn_r125d 5 W = if (D : Int) = 6 then W else if sMo E g s 0 146399 = -1 then W else if sNa E g ((sMo E g s 0 146399).toNat + 1) = -1 then (if sNa E g ((sMo E g s 0 146399).toNat + 2) = -1 then vu W 160 D (sNa E g ((sMo E g s 0 146399).toNat + 2)) else phU (vu W 160 D (sNa E g ((sMo E g s 0 146399).toNat + 2))) D 3 (sNa E g ((sMo E g s 0 146399).toNat + 2)) (sDy E (sMo E g s 0 146399).toNat)) else phU (vu W 160 D (sNa E g ((sMo E g s 0 146399).toNat + 2))) D 2 (sNa E g ((sMo E g s 0 146399).toNat + 1)) (sDy E (sMo E g s 0 146399).toNat) := by
  unfold d_X12_askOn_r125d d_X12_askOn_r125d_187
  rw [h74, show ((D : Int)).toNat = D from by omega, h156, mmo (w := 0) (d := 146399) P hs (by decide)]
  by_cases c1 : (D : Int) = 6
  · rw [if_pos c1, if_pos c1]
  · rw [if_neg c1, if_neg c1, if_neg (show ¬ (5 : Int) = 4 from by decide)]
    by_cases c2 : sMo E g s 0 146399 = -1
    · rw [if_pos c2, if_pos c2]
    · obtain ⟨m, m1, m2, m3, m4, m5⟩ := mo_0 P.2.1 c2
      have dd : ∀ U : jW, U.1 126 = W.1 126 → d_X12_dayAt_r125d (m : Int) U = sDy E m := fun U hU => by
        have e126 : W.1 126 = E.1 := congrArg Prod.fst P.1
        unfold d_X12_dayAt_r125d sDy
        rw [hU, e126]
        exact congrArg E.1 (show ((20 + (90 * ((m : Int) / 3))) + 2).toNat = 22 + 90 * (m / 3) from by omega)
      rw [if_neg c2, if_neg c2, m1, m_na (m := m + 1) P (by omega) (by omega), m_na (m := m + 2) P (by omega) (by omega), show ((m : Int)).toNat = m from by omega]
      rw [dd (vu (vu W 160 D (sNa E g (m + 2))) 159 D 3) ((vu_c (by decide)).trans (vu_c (by decide))), dd (vu (vu W 160 D (sNa E g (m + 2))) 159 D 2) ((vu_c (by decide)).trans (vu_c (by decide))), show ((D : Int) + 1).toNat = D + 1 from by omega]
      rfl
end
end jG97

section jG98
/-! pure: where a SOUL BELONGS, the reference: a GROUND asked, all GROUNDS asked -/
section
variable {E : pE} {g : Nat → Int} {kn : Int}
/-- a GROUND is asked: where it goes on -/
def pGoB (E : pE) (g : Nat → Int) (kn : Int) (r D l : Nat) (s d gr : Int) (W V U : jW) : Prop := (∀ (N : Nat) (c : Int × Int × jW), rch N (sVal E g kn (sBr E g kn r) s d gr, 0, U) c → rch (N + (2 * bN r + 4)) (-1, 0, W) c) ∧ pAs U E g kn ∧ pFr U E g kn D s d l ∧ (∀ a i : Nat, 156 ≤ a → a ≤ 161 → i < D → U.1 a i = V.1 a i) ∧ U.1 125 75 = V.1 125 75 ∧ U.1 125 76 = V.1 125 76
theorem go_1 {r D l : Nat} {s d gr : Int} {W V U : jW} (st : ∀ f : Nat, d_X12_belongs_r125d_26 (f + 1) (-1) 0 W = d_X12_belongs_r125d_26 f (-1) 0 U) (hx : sVal E g kn (sBr E g kn r) s d gr = -1) (A : pAs U E g kn) (Fr : pFr U E g kn D s d l) (o : ∀ a i : Nat, 156 ≤ a → a ≤ 161 → i < D → U.1 a i = V.1 a i) (o1 : U.1 125 75 = V.1 125 75) (o2 : U.1 125 76 = V.1 125 76) : pGoB E g kn r D l s d gr W V U := by
  refine ⟨fun N c h => ?_, A, Fr, o, o1, o2⟩
  rw [hx] at h
  exact rch_w (rch_t (rch_1 (a := (-1, 0, W)) (b := (-1, 0, U)) st) h) (by omega)
/-- one more deep, and back -/
theorem go_2 {r D l : Nat} {s d gr s1 d1 t : Int} {W V V1 : jW} (Hc : pCh E g kn r (D + 1)) (st : ∀ f : Nat, d_X12_belongs_r125d_26 (f + 1) (-1) 0 W = d_X12_belongs_r125d_26 f (-1) 0 (phU V1 D t s1 d1)) (A : pAs V1 E g kn) (Fr : pFr V1 E g kn D s d l) (o : ∀ a i : Nat, 156 ≤ a → a ≤ 161 → i < D → V1.1 a i = V.1 a i) (o1 : V1.1 125 75 = V.1 125 75) (o2 : V1.1 125 76 = V.1 125 76) (h1 : s1 ≠ -1) (h2 : sOs E g s1) (h3 : 0 ≤ d1 ∧ d1 ≤ 146399) (ht : sBr E g kn r s1 d1 ≠ -1 ∨ t ≠ 2 ∨ V1.1 160 D = -1) (hx : sVal E g kn (sBr E g kn r) s d gr = sBr E g kn r s1 d1) : ∃ U : jW, pGoB E g kn r D l s d gr W V U := by
  obtain ⟨U, u1, u2, u3, u4, u5, u6, u7, u8, u9⟩ := ch_run (t := t) Hc A Fr h1 h2 h3
  refine ⟨vu U 159 D 0, fun N c h => ?_, pAs_u u2 (Or.inl (by decide)), ⟨(vu_n (by omega)).trans u3.1, (vu_n (by omega)).trans u3.2.1, (vu_n (by omega)).trans u3.2.2.1, (vu_n (by omega)).trans u3.2.2.2.1, (vu_n (by omega)).trans u3.2.2.2.2⟩, fun a i a1 a2 a3 => (vu_n (by omega)).trans ((u7 a i a1 a2 a3).trans (o a i a1 a2 a3)), (vu_n (by omega)).trans (u8.trans o1), (vu_n (by omega)).trans (u9.trans o2)⟩
  rw [hx] at h
  have b := rch_q (a := (sBr E g kn r s1 d1, 1, U)) (fun f => bs_b1 u3.1 (by rw [u4, u5]; exact ht) f) h
  exact rch_w (rch_t (rch_1 (a := (-1, 0, W)) (b := (-1, 0, phU V1 D t s1 d1)) st) (rch_t u1 b)) (by omega)
/-- first the father, then the mother -/
theorem go_3 {r D l : Nat} {s d gr s1 s2 d1 : Int} {W V V1 : jW} (Hc : pCh E g kn r (D + 1)) (st : ∀ f : Nat, d_X12_belongs_r125d_26 (f + 1) (-1) 0 W = d_X12_belongs_r125d_26 f (-1) 0 (phU V1 D 2 s1 d1)) (A : pAs V1 E g kn) (Fr : pFr V1 E g kn D s d l) (o : ∀ a i : Nat, 156 ≤ a → a ≤ 161 → i < D → V1.1 a i = V.1 a i) (o1 : V1.1 125 75 = V.1 125 75) (o2 : V1.1 125 76 = V.1 125 76) (h1 : s1 ≠ -1) (h2 : sOs E g s1) (h3 : 0 ≤ d1 ∧ d1 ≤ 146399) (e1 : sBr E g kn r s1 d1 = -1) (e2 : V1.1 160 D = s2) (g1 : s2 ≠ -1) (g2 : sOs E g s2) (hx : sVal E g kn (sBr E g kn r) s d gr = sBr E g kn r s2 d1) : ∃ U : jW, pGoB E g kn r D l s d gr W V U := by
  obtain ⟨U, u1, u2, u3, u4, u5, u6, u7, u8, u9⟩ := ch_run (t := 2) Hc A Fr h1 h2 h3
  rw [e1] at u1
  have s2' : ∀ f : Nat, d_X12_belongs_r125d_26 (f + 1) (-1) 1 U = d_X12_belongs_r125d_26 f (-1) 0 (phU U D 3 s2 d1) := fun f => by
    have y := bs_b2 u3.1 u4 (by rw [u5, e2]; exact g1) f
    rw [u5, e2, u6] at y
    exact y
  obtain ⟨Z, z1, z2, z3, z4, z5, z6, z7, z8, z9⟩ := ch_run (t := 3) Hc u2 u3 g1 g2 h3
  refine ⟨vu Z 159 D 0, fun N c h => ?_, pAs_u z2 (Or.inl (by decide)), ⟨(vu_n (by omega)).trans z3.1, (vu_n (by omega)).trans z3.2.1, (vu_n (by omega)).trans z3.2.2.1, (vu_n (by omega)).trans z3.2.2.2.1, (vu_n (by omega)).trans z3.2.2.2.2⟩, fun a i a1 a2 a3 => (vu_n (by omega)).trans ((z7 a i a1 a2 a3).trans ((u7 a i a1 a2 a3).trans (o a i a1 a2 a3))), (vu_n (by omega)).trans (z8.trans (u8.trans o1)), (vu_n (by omega)).trans (z9.trans (u9.trans o2))⟩
  rw [hx] at h
  have b := rch_q (a := (sBr E g kn r s2 d1, 1, Z)) (fun f => bs_b1 z3.1 (Or.inr (Or.inl (by rw [z4]; decide))) f) h
  exact rch_w (rch_t (rch_1 (a := (-1, 0, W)) (b := (-1, 0, phU V1 D 2 s1 d1)) st) (rch_t u1 (rch_t (rch_1 (a := (-1, 1, U)) (b := (-1, 0, phU U D 3 s2 d1)) s2') (rch_t z1 b)))) (by omega)
theorem mca {r D l : Nat} {s d gr : Int} {W V : jW} (I : pIq E g) (hD : D + r = 6) (Hc : D < 6 → pCh E g kn r (D + 1)) (hs : s ≠ -1) (hd : 0 ≤ d ∧ d ≤ 146399) (h74 : W.1 125 74 = (D : Int)) (n : d_X12_nextGround_r125d W = (gr, V)) (A : pAs V E g kn) (Fr : pFr V E g kn D s d l) (hg : 0 ≤ gr ∧ gr ≤ 5) : ∃ U : jW, pGoB E g kn r D l s d gr W V U := by
  have Ir := A.1.2.1
  have G := A.1.2.2.2.2.1
  have r0 : D = 6 → ∀ a b : Int, sBr E g kn r a b = -1 := fun h a b => by
    obtain rfl : r = 0 := by omega
    rfl
  by_cases c4 : gr < 4
  · have e : d_X12_parishBy_r125d gr (V.1 156 D) (V.1 157 D) V = sVal E g kn (sBr E g kn r) s d gr := by
      rw [Fr.2.1, Fr.2.2.1, mpy A.1 I.1 A.2.1 hs]
      unfold sVal
      rw [if_neg (show ¬ gr = 4 from by omega), if_neg (show ¬ gr = 5 from by omega)]
    refine ⟨V, fun N c h => ?_, A, Fr, fun _ _ _ _ _ => rfl, rfl, rfl⟩
    rw [← e] at h
    exact rch_w (rch_t (rch_1 (a := (-1, 0, W)) (b := (d_X12_parishBy_r125d gr (V.1 156 D) (V.1 157 D) V, 0, V)) (fun f => bs_lt h74 n hg.1 c4 f)) h) (by omega)
  · have ge := fun f => bs_ge (D := D) h74 n (show 4 ≤ gr from by omega) f
    by_cases g4 : gr = 4
    · subst g4
      rw [ao_4 (m := 0) A.1 hs Fr.1 Fr.2.1 Fr.2.2.1] at ge
      have ex : sVal E g kn (sBr E g kn r) s d 4 = if sMo E g s 4 d = -1 then -1 else sBr E g kn r (sNa E g ((sMo E g s 4 d).toNat - 1)) d := if_pos rfl
      by_cases c1 : (D : Int) = 6
      · rw [if_pos c1] at ge
        refine ⟨V, go_1 ge ?_ A Fr (fun _ _ _ _ _ => rfl) rfl rfl⟩
        rw [ex, r0 (by omega)]
        split <;> rfl
      · rw [if_neg c1] at ge
        by_cases c2 : sMo E g s 4 d = -1
        · rw [if_pos c2] at ge
          exact ⟨V, go_1 ge (by rw [ex, if_pos c2]) A Fr (fun _ _ _ _ _ => rfl) rfl rfl⟩
        · rw [if_neg c2] at ge ex
          by_cases c3 : sNa E g ((sMo E g s 4 d).toNat - 1) = -1
          · rw [if_pos c3] at ge
            exact ⟨V, go_1 ge (by rw [ex, c3, br_n]) A Fr (fun _ _ _ _ _ => rfl) rfl rfl⟩
          · rw [if_neg c3] at ge
            obtain ⟨m, m1, m2, m3⟩ := mo_4 Ir c2
            exact go_2 (Hc (by omega)) ge A Fr (fun _ _ _ _ _ => rfl) rfl rfl c3 (na_s G (by rw [m1]; omega)) hd (Or.inr (Or.inl (by decide))) ex
    · have g5 : gr = 5 := by omega
      subst g5
      rw [ao_5 A.1 hs Fr.1 Fr.2.1] at ge
      have ex : sVal E g kn (sBr E g kn r) s d 5 = if sMo E g s 0 146399 = -1 then -1 else if sBr E g kn r (sNa E g ((sMo E g s 0 146399).toNat + 1)) (sDy E (sMo E g s 0 146399).toNat) = -1 then sBr E g kn r (sNa E g ((sMo E g s 0 146399).toNat + 2)) (sDy E (sMo E g s 0 146399).toNat) else sBr E g kn r (sNa E g ((sMo E g s 0 146399).toNat + 1)) (sDy E (sMo E g s 0 146399).toNat) := (if_neg (by decide)).trans (if_pos rfl)
      by_cases c1 : (D : Int) = 6
      · rw [if_pos c1] at ge
        refine ⟨V, go_1 ge ?_ A Fr (fun _ _ _ _ _ => rfl) rfl rfl⟩
        rw [ex, r0 (by omega), r0 (by omega), if_pos rfl]
        split <;> rfl
      · rw [if_neg c1] at ge
        by_cases c2 : sMo E g s 0 146399 = -1
        · rw [if_pos c2] at ge
          exact ⟨V, go_1 ge (by rw [ex, if_pos c2]) A Fr (fun _ _ _ _ _ => rfl) rfl rfl⟩
        · rw [if_neg c2] at ge ex
          obtain ⟨m, m1, m2, m3, m4, m5⟩ := mo_0 Ir c2
          rw [m1, show ((m : Int)).toNat = m from by omega] at ge ex
          have A1 : pAs (vu V 160 D (sNa E g (m + 2))) E g kn := pAs_u A (Or.inl (by decide))
          have F1 : pFr (vu V 160 D (sNa E g (m + 2))) E g kn D s d l := ⟨(vu_n (by omega)).trans Fr.1, (vu_n (by omega)).trans Fr.2.1, (vu_n (by omega)).trans Fr.2.2.1, (vu_n (by omega)).trans Fr.2.2.2.1, (vu_n (by omega)).trans Fr.2.2.2.2⟩
          have o1 : ∀ a i : Nat, 156 ≤ a → a ≤ 161 → i < D → (vu V 160 D (sNa E g (m + 2))).1 a i = V.1 a i := fun a i _ _ _ => vu_n (by omega)
          have o2 : (vu V 160 D (sNa E g (m + 2))).1 125 75 = V.1 125 75 := vu_n (by omega)
          have o3 : (vu V 160 D (sNa E g (m + 2))).1 125 76 = V.1 125 76 := vu_n (by omega)
          have e160 : (vu V 160 D (sNa E g (m + 2))).1 160 D = sNa E g (m + 2) := vu_e rfl
          have s2 : sOs E g (sNa E g (m + 2)) := na_s G (by omega)
          by_cases c3 : sNa E g (m + 1) = -1
          · rw [if_pos c3] at ge
            rw [c3, br_n, if_pos rfl] at ex
            by_cases c5 : sNa E g (m + 2) = -1
            · rw [if_pos c5] at ge
              exact ⟨_, go_1 ge (by rw [ex, c5, br_n]) A1 F1 o1 o2 o3⟩
            · rw [if_neg c5] at ge
              exact go_2 (Hc (by omega)) ge A1 F1 o1 o2 o3 c5 s2 ⟨m4, m5⟩ (Or.inr (Or.inl (by decide))) ex
          · rw [if_neg c3] at ge
            have s1 : sOs E g (sNa E g (m + 1)) := na_s G (by omega)
            by_cases c6 : sBr E g kn r (sNa E g (m + 1)) (sDy E m) = -1
            · rw [if_pos c6] at ex
              by_cases c5 : sNa E g (m + 2) = -1
              · rw [c5, br_n] at ex
                exact go_2 (Hc (by omega)) ge A1 F1 o1 o2 o3 c3 s1 ⟨m4, m5⟩ (Or.inr (Or.inr (e160.trans c5))) (ex.trans c6.symm)
              · exact go_3 (Hc (by omega)) ge A1 F1 o1 o2 o3 c3 s1 ⟨m4, m5⟩ c6 e160 c5 s2 ex
            · rw [if_neg c6] at ex
              exact go_2 (Hc (by omega)) ge A1 F1 o1 o2 o3 c3 s1 ⟨m4, m5⟩ (Or.inl c6) ex
theorem mfr {r D : Nat} {s d : Int} (I : pIq E g) (Il : pIl E.1) (I1 : pI1 E.1) (C : pCa E.1) (O : qOk fun w => sQu E g d kn w s) (hD : D + r = 6) (Hc : D < 6 → pCh E g kn r (D + 1)) (hs : s ≠ -1) (hd : 0 ≤ d ∧ d ≤ 146399) : ∀ (c k : Nat) (W : jW), (sBl E g d kn s 720).1 - (sBl E g d kn s k).1 = c → k ≤ 720 → pAs W E g kn → pFr W E g kn D s d k → (D = 0 → W.1 125 76 = (sBl E g d kn s k).2.2.2) → ∃ V : jW, rch (c * (2 * bN r + 6) + 2) (-1, 0, W) ((sFs (sVal E g kn (sBr E g kn r) s d) (sBl E g d kn s 720).2.1 (sBl E g d kn s 720).2.2.1 c (sBl E g d kn s k).1).1, 1, V) ∧ pAs V E g kn ∧ V.1 125 74 = (D : Int) - 1 ∧ pLo D W V ∧ V.1 157 D = d ∧ (D = 0 → ((sFs (sVal E g kn (sBr E g kn r) s d) (sBl E g d kn s 720).2.1 (sBl E g d kn s 720).2.2.1 c (sBl E g d kn s k).1).1 = -1 → V.1 125 76 = (sBl E g d kn s 720).2.2.2) ∧ ((sFs (sVal E g kn (sBr E g kn r) s d) (sBl E g d kn s 720).2.1 (sBl E g d kn s 720).2.2.1 c (sBl E g d kn s k).1).1 ≠ -1 → V.1 125 75 = (sFs (sVal E g kn (sBr E g kn r) s d) (sBl E g d kn s 720).2.1 (sBl E g d kn s 720).2.2.1 c (sBl E g d kn s k).1).2)) := by
  intro c
  induction c with
  | zero =>
    intro k W hc hk A Fr h76
    have ng : d_X12_nextGround_r125d W = d_X12_nextGround_r125d_5 721 (D : Int) W := by unfold d_X12_nextGround_r125d; rw [Fr.1]
    rcases mng I hd hs Il O C (720 - k) k 721 W (by omega) (by omega) A Fr with ⟨V, v1, v2, v3, v4, v5, v6, v7⟩ | ⟨V, l, v1, v2, v3, v4, v5, v6, v7, v8, v9, v10⟩
    · refine ⟨vu V 125 74 (V.1 125 74 - 1), rch_w (rch_1 (a := (-1, 0, W)) (b := (-1, 1, vu V 125 74 (V.1 125 74 - 1))) (fun f => bs_no Fr.1 (ng.trans v1) f)) (by omega), pAs_u v3 (Or.inr (by decide)), (vu_e rfl).trans (by rw [v4]), ⟨fun a i a1 a2 a3 => (vu_n (by omega)).trans (v5.1 a i a1 a2 (by omega) (by omega)), fun z => ⟨(vu_n (by decide)).trans v6, (vu_n (by decide)).trans v7⟩⟩, (vu_n (by omega)).trans ((v5.1 157 D (by decide) (by decide) (by omega) (by omega)).trans Fr.2.2.1), fun z => ⟨fun _ => ?_, fun y => absurd rfl y⟩⟩
      rw [v2, ← h76 z]
      exact (vu_n (by decide)).trans v7
    · exfalso
      have q := (bl_m (E := E) (g := g) (d := d) (kn := kn) (s := s) (k := l + 1) (720 - (l + 1))).1
      rw [show l + 1 + (720 - (l + 1)) = 720 from by omega, bl_y v4 v5, v3] at q
      have q2 : (sBl E g d kn s k).1 + 1 ≤ (sBl E g d kn s 720).1 := q
      omega
  | succ c ih =>
    intro k W hc hk A Fr h76
    have ng : d_X12_nextGround_r125d W = d_X12_nextGround_r125d_5 721 (D : Int) W := by unfold d_X12_nextGround_r125d; rw [Fr.1]
    rcases mng I hd hs Il O C (720 - k) k 721 W (by omega) (by omega) A Fr with ⟨V, v1, v2, v3, v4, v5, v6, v7⟩ | ⟨V, l, v1, v2, v3, v4, v5, v6, v7, v8, v9, v10⟩
    · exfalso
      rw [v2] at hc
      omega
    · have q := bl_m (E := E) (g := g) (d := d) (kn := kn) (s := s) (k := l + 1) (720 - (l + 1))
      have ey := bl_y v4 v5
      rw [show l + 1 + (720 - (l + 1)) = 720 from by omega] at q
      have n1 : (sBl E g d kn s (l + 1)).1 = (sBl E g d kn s k).1 + 1 := by rw [ey, v3]
      have g1 : (sBl E g d kn s 720).2.1 (sBl E g d kn s k).1 = sBg E.1 (l : Int) := by
        rw [(q.2 _ (by omega)).1, ey, v3]
        exact if_pos rfl
      have g2 : (sBl E g d kn s 720).2.2.1 (sBl E g d kn s k).1 = (l : Int) % 360 := by
        rw [(q.2 _ (by omega)).2, ey, v3]
        exact if_pos rfl
      have b2 : (sBl E g d kn s (l + 1)).2.2.2 = j_ior (sBl E g d kn s k).2.2.2 (j_ishl 1 (sBg E.1 (l : Int))) := by rw [ey, v3]
      obtain ⟨U, u1, u2, u3, u4, u5, u6⟩ := mca (l := l + 1) I hD Hc hs hd Fr.1 (ng.trans v6) v7 v8 (bh_g I1 v4)
      have lo : ∀ a i : Nat, 156 ≤ a → a ≤ 161 → i < D → U.1 a i = W.1 a i := fun a i a1 a2 a3 => (u4 a i a1 a2 a3).trans (v9.1 a i a1 a2 (by omega) (by omega))
      have lb : 0 < D → U.1 125 75 = W.1 125 75 ∧ U.1 125 76 = W.1 125 76 := fun z => ⟨u5.trans (v9.2 z).1, u6.trans (v9.2 z).2⟩
      by_cases x : sVal E g kn (sBr E g kn r) s d (sBg E.1 (l : Int)) = -1
      · have sf : sFs (sVal E g kn (sBr E g kn r) s d) (sBl E g d kn s 720).2.1 (sBl E g d kn s 720).2.2.1 (c + 1) (sBl E g d kn s k).1 = sFs (sVal E g kn (sBr E g kn r) s d) (sBl E g d kn s 720).2.1 (sBl E g d kn s 720).2.2.1 c ((sBl E g d kn s k).1 + 1) := if_pos (by rw [g1]; exact x)
        obtain ⟨Z, z1, z2, z3, z4, z5, z6⟩ := ih (l + 1) U (by omega) (by omega) u2 u3 (fun z => by rw [b2, ← h76 z, u6]; exact (v10 z).2)
        rw [n1] at z1 z6
        rw [sf]
        refine ⟨Z, rch_w (u1 _ _ (by rw [x]; exact z1)) ?_, z2, z3, ⟨fun a i a1 a2 a3 => (z4.1 a i a1 a2 a3).trans (lo a i a1 a2 a3), fun z => ⟨(z4.2 z).1.trans (lb z).1, (z4.2 z).2.trans (lb z).2⟩⟩, z5, z6⟩
        rw [show (c + 1) * (2 * bN r + 6) = c * (2 * bN r + 6) + (2 * bN r + 6) from Nat.succ_mul _ _]
        generalize c * (2 * bN r + 6) = z
        omega
      · have sf : sFs (sVal E g kn (sBr E g kn r) s d) (sBl E g d kn s 720).2.1 (sBl E g d kn s 720).2.2.1 (c + 1) (sBl E g d kn s k).1 = (sVal E g kn (sBr E g kn r) s d (sBg E.1 (l : Int)), (l : Int) % 360) := by
          rw [← g2, ← g1]
          exact if_neg (by rw [g1]; exact x)
        rw [sf]
        refine ⟨vu U 125 74 (U.1 125 74 - 1), rch_w (u1 _ _ (rch_1 (a := (sVal E g kn (sBr E g kn r) s d (sBg E.1 (l : Int)), 0, U)) (b := (sVal E g kn (sBr E g kn r) s d (sBg E.1 (l : Int)), 1, vu U 125 74 (U.1 125 74 - 1))) (fun f => bs_up u3.1 x f))) ?_, pAs_u u2 (Or.inr (by decide)), (vu_e rfl).trans (by rw [u3.1]), ⟨fun a i a1 a2 a3 => (vu_n (by omega)).trans (lo a i a1 a2 a3), fun z => ⟨(vu_n (by decide)).trans (lb z).1, (vu_n (by decide)).trans (lb z).2⟩⟩, (vu_n (by omega)).trans u3.2.2.1, fun z => ⟨fun y => absurd y x, fun _ => (vu_n (by decide)).trans (u5.trans (v10 z).1)⟩⟩
        rw [show (c + 1) * (2 * bN r + 6) = c * (2 * bN r + 6) + (2 * bN r + 6) from Nat.succ_mul _ _]
        generalize c * (2 * bN r + 6) = z
        omega
theorem mch_b {r D : Nat} (I : pIq E g) (Il : pIl E.1) (I1 : pI1 E.1) (C : pCa E.1) (O : ∀ d : Int, 0 ≤ d ∧ d ≤ 146399 → ∀ p : Nat, p < sNl E → g p = (p : Int) → qOk fun w => sQu E g d kn w (p : Int)) (hD : D + r = 6) (Hc : D < 6 → pCh E g kn r (D + 1)) (D0 : 0 < D) : pCh E g kn (r + 1) D := by
  intro s d W hs ho hd A Fr
  have Os : qOk fun w => sQu E g d kn w s := by
    rcases ho with h | ⟨p, p1, p2, p3⟩
    · exact absurd h hs
    · rw [p2]; exact O d hd p p1 p3
  obtain ⟨V, v1, v2, v3, v4, v5, _⟩ := mfr I Il I1 C Os hD Hc hs hd ((sBl E g d kn s 720).1 - (sBl E g d kn s 0).1) 0 W rfl (by decide) A Fr (fun z => by omega)
  have n6 := bl_6 (E := E) (g := g) (d := d) (kn := kn) (s := s) I1 720
  have n0 : (sBl E g d kn s 0).1 = 0 := rfl
  rw [n0, Nat.sub_zero] at v1
  refine ⟨V, rch_w (N := (sBl E g d kn s 720).1 * (2 * bN r + 6) + 2) ?_ ?_, v2, v3, v4, v5⟩
  · have e : sBr E g kn (r + 1) s d = (sFs (sVal E g kn (sBr E g kn r) s d) (sBl E g d kn s 720).2.1 (sBl E g d kn s 720).2.2.1 (sBl E g d kn s 720).1 0).1 := if_neg hs
    rw [e]
    exact v1
  · have y := Nat.mul_le_mul_right (2 * bN r + 6) n6
    show (sBl E g d kn s 720).1 * (2 * bN r + 6) + 2 ≤ 6 * (2 * bN r + 6) + 2
    generalize (sBl E g d kn s 720).1 * (2 * bN r + 6) = z at *
    omega
theorem mch_all (I : pIq E g) (Il : pIl E.1) (I1 : pI1 E.1) (C : pCa E.1) (O : ∀ d : Int, 0 ≤ d ∧ d ≤ 146399 → ∀ p : Nat, p < sNl E → g p = (p : Int) → qOk fun w => sQu E g d kn w (p : Int)) : ∀ r D : Nat, D + r = 6 → 0 < D → pCh E g kn (r + 1) D := by
  intro r
  induction r with
  | zero => intro D hD D0; exact mch_b I Il I1 C O hD (fun h => by omega) D0
  | succ r ih => intro D hD D0; exact mch_b I Il I1 C O hD (fun h => ih (D + 1) (by omega) (by omega)) D0
/-- the reference: where a SOUL BELONGS -/
theorem mbe {W : jW} {s d : Int} (I : pIq E g) (Il : pIl E.1) (I1 : pI1 E.1) (C : pCa E.1) (O : ∀ d : Int, 0 ≤ d ∧ d ≤ 146399 → ∀ p : Nat, p < sNl E → g p = (p : Int) → qOk fun w => sQu E g d kn w (p : Int)) (hs : s ≠ -1) (ho : sOs E g s) (hd : 0 ≤ d ∧ d ≤ 146399) (A : pAs W E g kn) (F : Nat) (hF : bN 7 + 1 ≤ F) : ∃ V : jW, d_X12_belongs_r125d_26 F (-1) 0 (vu (vu (vu (vu (vu (vu (vu (vu (vu W 125 74 (-1)) 125 76 0) 125 75 (-1)) 125 74 0) 156 0 s) 157 0 d) 158 0 0) 159 0 0) 161 0 0) = (sBr E g kn 7 s d, V) ∧ pAs V E g kn ∧ (sBr E g kn 7 s d = -1 → V.1 125 76 = (sBl E g d kn s 720).2.2.2) ∧ (sBr E g kn 7 s d ≠ -1 → V.1 125 75 = (sFb E g kn (sBr E g kn 6) s d).2) := by
  have Os : qOk fun w => sQu E g d kn w s := by
    rcases ho with h | ⟨p, p1, p2, p3⟩
    · exact absurd h hs
    · rw [p2]; exact O d hd p p1 p3
  have A2 : pAs (vu (vu (vu (vu (vu (vu (vu (vu (vu W 125 74 (-1)) 125 76 0) 125 75 (-1)) 125 74 0) 156 0 s) 157 0 d) 158 0 0) 159 0 0) 161 0 0) E g kn := pAs_u (pAs_u (pAs_u (pAs_u (pAs_u (pAs_u (pAs_u (pAs_u (pAs_u A (Or.inr (by decide))) (Or.inr (by decide))) (Or.inr (by decide))) (Or.inr (by decide))) (Or.inl (by decide))) (Or.inl (by decide))) (Or.inl (by decide))) (Or.inl (by decide))) (Or.inl (by decide))
  have f1 : (vu (vu (vu (vu (vu (vu (vu (vu (vu W 125 74 (-1)) 125 76 0) 125 75 (-1)) 125 74 0) 156 0 s) 157 0 d) 158 0 0) 159 0 0) 161 0 0).1 125 74 = ((0 : Nat) : Int) := (vu_n (by decide)).trans ((vu_n (by decide)).trans ((vu_n (by decide)).trans ((vu_n (by decide)).trans ((vu_n (by decide)).trans (vu_e rfl)))))
  have f2 : (vu (vu (vu (vu (vu (vu (vu (vu (vu W 125 74 (-1)) 125 76 0) 125 75 (-1)) 125 74 0) 156 0 s) 157 0 d) 158 0 0) 159 0 0) 161 0 0).1 156 0 = s := (vu_n (by decide)).trans ((vu_n (by decide)).trans ((vu_n (by decide)).trans ((vu_n (by decide)).trans (vu_e rfl))))
  have f3 : (vu (vu (vu (vu (vu (vu (vu (vu (vu W 125 74 (-1)) 125 76 0) 125 75 (-1)) 125 74 0) 156 0 s) 157 0 d) 158 0 0) 159 0 0) 161 0 0).1 157 0 = d := (vu_n (by decide)).trans ((vu_n (by decide)).trans ((vu_n (by decide)).trans (vu_e rfl)))
  have f4 : (vu (vu (vu (vu (vu (vu (vu (vu (vu W 125 74 (-1)) 125 76 0) 125 75 (-1)) 125 74 0) 156 0 s) 157 0 d) 158 0 0) 159 0 0) 161 0 0).1 158 0 = ((0 : Nat) : Int) := (vu_n (by decide)).trans ((vu_n (by decide)).trans (vu_e rfl))
  have f5 : (vu (vu (vu (vu (vu (vu (vu (vu (vu W 125 74 (-1)) 125 76 0) 125 75 (-1)) 125 74 0) 156 0 s) 157 0 d) 158 0 0) 159 0 0) 161 0 0).1 161 0 = 0 := vu_e rfl
  have f6 : (vu (vu (vu (vu (vu (vu (vu (vu (vu W 125 74 (-1)) 125 76 0) 125 75 (-1)) 125 74 0) 156 0 s) 157 0 d) 158 0 0) 159 0 0) 161 0 0).1 125 76 = 0 := (vu_n (by decide)).trans ((vu_n (by decide)).trans ((vu_n (by decide)).trans ((vu_n (by decide)).trans ((vu_n (by decide)).trans ((vu_n (by decide)).trans ((vu_n (by decide)).trans (vu_e rfl)))))))
  generalize vu (vu (vu (vu (vu (vu (vu (vu (vu W 125 74 (-1)) 125 76 0) 125 75 (-1)) 125 74 0) 156 0 s) 157 0 d) 158 0 0) 159 0 0) 161 0 0 = W0 at *
  obtain ⟨V, ⟨n, n1, n2, n3⟩, v2, v3, v4, v5, v6⟩ := mfr (r := 6) (D := 0) I Il I1 C Os rfl (fun _ => mch_all I Il I1 C O 5 1 rfl (by decide)) hs hd (sBl E g d kn s 720).1 0 W0 rfl (by decide) A2 ⟨f1, f2, f3, f4, f5⟩ (fun _ => f6)
  have v6 := v6 rfl
  have n6 := bl_6 (E := E) (g := g) (d := d) (kn := kn) (s := s) I1 720
  have b7 : bN 7 = 6 * (2 * bN 6 + 6) + 2 := rfl
  have y := Nat.mul_le_mul_right (2 * bN 6 + 6) n6
  have e : sBr E g kn 7 s d = (sFs (sVal E g kn (sBr E g kn 6) s d) (sBl E g d kn s 720).2.1 (sBl E g d kn s 720).2.2.1 (sBl E g d kn s 720).1 0).1 := if_neg hs
  have n0 : (sBl E g d kn s 0).1 = 0 := rfl
  rw [n0] at n3 v6
  refine ⟨V, ?_, v2, fun h => v6.1 (e.symm.trans h), fun h => v6.2 (fun q => h (e.trans q))⟩
  obtain ⟨f, rfl⟩ : ∃ f, F = f + 1 + n := ⟨F - 1 - n, by omega⟩
  rw [e]
  exact (n3 (f + 1)).trans (if_pos (by show V.1 125 74 < 0; rw [v3]; decide))
end
end jG98

section jG99
/-! pure: all JOININGS of what is wished, in their order -/
def wr (x : Int) : Int := (Int32.ofInt x).toInt
theorem wr_a {x y : Int} : j_iadd (wr x) (wr y) = wr (x + y) := by
  unfold j_iadd wr
  rw [Int32.ofInt_toInt, Int32.ofInt_toInt, Int32.ofInt_add]
theorem wr_0 : wr 0 = 0 := by decide
theorem wr_1 : wr 1 = 1 := by decide
theorem wr_s {x : Int} : j_iadd (wr x) 1 = wr (x + 1) := by
  have y := wr_a (x := x) (y := 1)
  rw [wr_1] at y
  exact y
def tgF {α : Type} (st : Nat → α → α) : Nat → Nat → α → α
  | 0, _, a => a
  | n + 1, g, a => tgF st n (g + 1) (st g a)
def tfF {α : Type} (lf : (Nat → Int) → Nat → α → α) : Nat → Nat → (Nat → Int) → Nat → α → α
  | 0, _, gr, m, a => lf gr m a
  | c + 1, i, gr, m, a => tgF (fun g a => tfF lf c (i + 1) (sU gr i (g : Int)) (if g = m then m + 1 else m) a) (m + 1) 0 a
theorem tg_c {α : Type} {s t : Nat → α → α} : ∀ (n g : Nat) (a : α), (∀ j b, g ≤ j → j < g + n → s j b = t j b) → tgF s n g a = tgF t n g a := by
  intro n
  induction n with
  | zero => intro g a _; rfl
  | succ n ih =>
    intro g a h
    show tgF s n (g + 1) (s g a) = tgF t n (g + 1) (t g a)
    rw [h g a (by omega) (by omega)]
    exact ih (g + 1) _ (fun j b h1 h2 => h j b (by omega) (by omega))
theorem tg_i {α : Type} {s : Nat → α → α} : ∀ (n g : Nat) (a : α), (∀ j b, g ≤ j → j < g + n → s j b = b) → tgF s n g a = a := by
  intro n
  induction n with
  | zero => intro g a _; rfl
  | succ n ih =>
    intro g a h
    show tgF s n (g + 1) (s g a) = a
    rw [h g a (by omega) (by omega)]
    exact ih (g + 1) _ (fun j b h1 h2 => h j b (by omega) (by omega))
theorem tg_p {α β : Type} {p : α → β} {s : Nat → α → α} {t : Nat → β → β} (h : ∀ j a, p (s j a) = t j (p a)) : ∀ (n g : Nat) (a : α), p (tgF s n g a) = tgF t n g (p a) := by
  intro n
  induction n with
  | zero => intro g a; rfl
  | succ n ih =>
    intro g a
    show p (tgF s n (g + 1) (s g a)) = tgF t n (g + 1) (t g (p a))
    rw [ih, h]
theorem tf_p {α β : Type} {p : α → β} {lf : (Nat → Int) → Nat → α → α} {lg : (Nat → Int) → Nat → β → β} (h : ∀ gr m a, p (lf gr m a) = lg gr m (p a)) : ∀ (c i : Nat) (gr : Nat → Int) (m : Nat) (a : α), p (tfF lf c i gr m a) = tfF lg c i gr m (p a) := by
  intro c
  induction c with
  | zero => intro i gr m a; exact h gr m a
  | succ c ih =>
    intro i gr m a
    exact tg_p (s := fun g a => tfF lf c (i + 1) (sU gr i (g : Int)) (if g = m then m + 1 else m) a) (t := fun g a => tfF lg c (i + 1) (sU gr i (g : Int)) (if g = m then m + 1 else m) a) (fun j a => ih _ _ _ a) _ _ _
theorem tg_v {α : Type} {P : α → Prop} {s : Nat → α → α} (h : ∀ j a, P a → P (s j a)) : ∀ (n g : Nat) (a : α), P a → P (tgF s n g a) := by
  intro n
  induction n with
  | zero => intro g a q; exact q
  | succ n ih => intro g a q; exact ih _ _ (h g a q)
theorem tf_v {α : Type} {P : α → Prop} {lf : (Nat → Int) → Nat → α → α} (h : ∀ gr m a, P a → P (lf gr m a)) : ∀ (c i : Nat) (gr : Nat → Int) (m : Nat) (a : α), P a → P (tfF lf c i gr m a) := by
  intro c
  induction c with
  | zero => intro i gr m a q; exact h gr m a q
  | succ c ih =>
    intro i gr m a q
    exact tg_v (s := fun g a => tfF lf c (i + 1) (sU gr i (g : Int)) (if g = m then m + 1 else m) a) (fun j a q => ih _ _ _ a q) _ _ _ q
/-- a JOINING may be: none that CAN'T be one, all that are one already -/
def gdP (can mus : Nat → Nat → Prop) (gr : Nat → Int) (i : Nat) : Prop := ∀ a b : Nat, b < a → a < i → (gr a = gr b → can a b) ∧ (gr a ≠ gr b → ¬ mus a b)
def wrw (wo : Nat → Int) (gr : Nat → Int) (x : Int) : Nat → Int
  | 0 => 0
  | b + 1 => wrw wo gr x b + (if x = gr b then wo b else 0)
def wsm (wo : Nat → Nat → Int) (gr : Nat → Int) : Nat → Int
  | 0 => 0
  | a + 1 => wsm wo gr a + wrw (wo a) gr (gr a) a
theorem gd_c {can mus : Nat → Nat → Prop} {gr hr : Nat → Int} {i : Nat} (e : ∀ j : Nat, j < i → gr j = hr j) (h : gdP can mus gr i) : gdP can mus hr i := fun a b h1 h2 => by
  have q := h a b h1 h2
  rw [e a h2, e b (by omega)] at q
  exact q
theorem wrw_c {wo : Nat → Int} {gr hr : Nat → Int} {x : Int} : ∀ n : Nat, (∀ j : Nat, j < n → gr j = hr j) → wrw wo gr x n = wrw wo hr x n := by
  intro n
  induction n with
  | zero => intro _; rfl
  | succ n ih =>
    intro e
    show wrw wo gr x n + (if x = gr n then wo n else 0) = wrw wo hr x n + (if x = hr n then wo n else 0)
    rw [ih (fun j hj => e j (by omega)), e n (by omega)]
theorem wsm_c {wo : Nat → Nat → Int} {gr hr : Nat → Int} : ∀ n : Nat, (∀ j : Nat, j < n → gr j = hr j) → wsm wo gr n = wsm wo hr n := by
  intro n
  induction n with
  | zero => intro _; rfl
  | succ n ih =>
    intro e
    show wsm wo gr n + wrw (wo n) gr (gr n) n = wsm wo hr n + wrw (wo n) hr (hr n) n
    rw [ih (fun j hj => e j (by omega)), e n (by omega), wrw_c n (fun j hj => e j (by omega))]
theorem wrw_b {wo : Nat → Int} {gr : Nat → Int} {x : Int} : ∀ n : Nat, (∀ j : Nat, j < n → 0 ≤ wo j ∧ wo j ≤ 400) → 0 ≤ wrw wo gr x n ∧ wrw wo gr x n ≤ 400 * (n : Int) := by
  intro n
  induction n with
  | zero => intro _; exact ⟨Int.le_refl 0, by show (0 : Int) ≤ _; omega⟩
  | succ n ih =>
    intro e
    have y := ih (fun j hj => e j (by omega))
    have z := e n (by omega)
    show 0 ≤ wrw wo gr x n + (if x = gr n then wo n else 0) ∧ wrw wo gr x n + (if x = gr n then wo n else 0) ≤ _
    by_cases q : x = gr n
    · rw [if_pos q]; omega
    · rw [if_neg q]; omega
theorem wsm_b {wo : Nat → Nat → Int} {gr : Nat → Int} : ∀ n : Nat, n ≤ 9 → (∀ a b : Nat, b < a → a < n → 0 ≤ wo a b ∧ wo a b ≤ 400) → 0 ≤ wsm wo gr n ∧ wsm wo gr n ≤ 200 * ((n : Int) * ((n : Int) - 1)) := by
  intro n
  induction n with
  | zero => intro _ _; exact ⟨Int.le_refl 0, Int.le_refl 0⟩
  | succ n ih =>
    intro h9 e
    have y := ih (by omega) (fun a b h1 h2 => e a b h1 (by omega))
    have z := wrw_b (wo := wo n) (gr := gr) (x := gr n) n (fun j hj => e n j hj (by omega))
    show 0 ≤ wsm wo gr n + wrw (wo n) gr (gr n) n ∧ wsm wo gr n + wrw (wo n) gr (gr n) n ≤ _
    have m : ((n + 1 : Nat) : Int) * (((n + 1 : Nat) : Int) - 1) = (n : Int) * ((n : Int) - 1) + 2 * (n : Int) := by
      rcases (show n = 0 ∨ n = 1 ∨ n = 2 ∨ n = 3 ∨ n = 4 ∨ n = 5 ∨ n = 6 ∨ n = 7 ∨ n = 8 from by omega) with rfl | rfl | rfl | rfl | rfl | rfl | rfl | rfl | rfl <;> decide
    rw [m]
    omega
/-- best WORTH, its groups, how many of a WORTH, of that WORTH or more -/
abbrev pjB := Int × Int × (Nat → Int) × (Int → Int) × (Int → Int)
def upB (ws : Int) (m : Nat) (gr : Nat → Int) (a : pjB) : pjB := if a.1 < ws ∨ (ws = a.1 ∧ (m : Int) < a.2.1) then (ws, (m : Int), gr, (fun v => if v = ws then a.2.2.2.1 v + 1 else a.2.2.2.1 v), fun l => if l ≤ ws then a.2.2.2.2 l + 1 else a.2.2.2.2 l) else (a.1, a.2.1, a.2.2.1, (fun v => if v = ws then a.2.2.2.1 v + 1 else a.2.2.2.1 v), fun l => if l ≤ ws then a.2.2.2.2 l + 1 else a.2.2.2.2 l)
noncomputable def lfB (can mus : Nat → Nat → Prop) (wo : Nat → Nat → Int) (w : Nat) (gr : Nat → Int) (m : Nat) (a : pjB) : pjB := if tv (gdP can mus gr w) = 0 then a else upB (wsm wo gr w) m gr a
theorem tf_n {can mus : Nat → Nat → Prop} {wo : Nat → Nat → Int} {w : Nat} : ∀ (c i : Nat) (gr : Nat → Int) (m : Nat) (a : pjB), i + c = w → ¬ gdP can mus gr i → tfF (lfB can mus wo w) c i gr m a = a := by
  intro c
  induction c with
  | zero =>
    intro i gr m a e h
    rw [show i = w from by omega] at h
    exact if_pos (tv_f h)
  | succ c ih =>
    intro i gr m a e h
    refine tg_i _ _ _ (fun j b _ _ => ih (i + 1) _ _ b (by omega) (fun q => h ?_))
    refine fun a b h1 h2 => ?_
    have y := q a b h1 (by omega)
    rw [show sU gr i (j : Int) a = gr a from if_neg (by omega), show sU gr i (j : Int) b = gr b from if_neg (by omega)] at y
    exact y
/-- sums of how many -/
def sTa (t : Int → Int) (l : Int) : Nat → Int
  | 0 => 0
  | n + 1 => sTa t l n + t (l + (n : Int))
def pGe (a : pjB) : Prop := (∀ (l : Int) (n : Nat), a.2.2.2.2 l = sTa a.2.2.2.1 l n + a.2.2.2.2 (l + (n : Int))) ∧ (∀ l : Int, a.1 < l → a.2.2.2.2 l = 0) ∧ (∀ l : Int, l ≤ 0 → a.2.2.2.2 l = a.2.2.2.2 0)
theorem sTa_u {t : Int → Int} {ws l : Int} : ∀ n : Nat, sTa (fun v => if v = ws then t v + 1 else t v) l n = sTa t l n + (if l ≤ ws ∧ ws < l + (n : Int) then 1 else 0) := by
  intro n
  induction n with
  | zero => rw [if_neg (by omega)]; rfl
  | succ n ih =>
    show sTa (fun v => if v = ws then t v + 1 else t v) l n + (if l + (n : Int) = ws then t (l + (n : Int)) + 1 else t (l + (n : Int))) = sTa t l n + t (l + (n : Int)) + _
    rw [ih]
    by_cases q : l + (n : Int) = ws
    · rw [if_pos q, if_neg (by omega), if_pos (by omega)]; omega
    · rw [if_neg q]
      by_cases z : l ≤ ws ∧ ws < l + (n : Int)
      · rw [if_pos z, if_pos (by omega)]; omega
      · rw [if_neg z, if_neg (by omega)]; omega
theorem pGe_u {ws : Int} {m : Nat} {gr : Nat → Int} {a : pjB} (hw : 0 ≤ ws) (P : pGe a) : pGe (upB ws m gr a) := by
  obtain ⟨p1, p2, p3⟩ := P
  have key : ∀ (b1 b2 : Int) (b3 : Nat → Int), a.1 ≤ b1 → ws ≤ b1 → pGe (b1, b2, b3, (fun v => if v = ws then a.2.2.2.1 v + 1 else a.2.2.2.1 v), fun l => if l ≤ ws then a.2.2.2.2 l + 1 else a.2.2.2.2 l) := fun b1 b2 b3 h1 h2 => by
    refine ⟨fun l n => ?_, fun l hl => ?_, fun l hl => ?_⟩
    · show (if l ≤ ws then a.2.2.2.2 l + 1 else a.2.2.2.2 l) = sTa (fun v => if v = ws then a.2.2.2.1 v + 1 else a.2.2.2.1 v) l n + (if l + (n : Int) ≤ ws then a.2.2.2.2 (l + (n : Int)) + 1 else a.2.2.2.2 (l + (n : Int)))
      rw [sTa_u, p1 l n]
      by_cases q : l ≤ ws
      · rw [if_pos q]
        by_cases z : l + (n : Int) ≤ ws
        · rw [if_pos z, if_neg (by omega)]; omega
        · rw [if_neg z, if_pos (by omega)]; omega
      · rw [if_neg q, if_neg (show ¬ l + (n : Int) ≤ ws from by omega), if_neg (by omega)]; omega
    · have hl' : b1 < l := hl
      show (if l ≤ ws then a.2.2.2.2 l + 1 else a.2.2.2.2 l) = 0
      rw [if_neg (by omega)]
      exact p2 l (by omega)
    · show (if l ≤ ws then a.2.2.2.2 l + 1 else a.2.2.2.2 l) = (if 0 ≤ ws then a.2.2.2.2 0 + 1 else a.2.2.2.2 0)
      rw [if_pos (by omega), if_pos hw, p3 l hl]
  unfold upB
  by_cases c : a.1 < ws ∨ (ws = a.1 ∧ (m : Int) < a.2.1)
  · rw [if_pos c]; exact key _ _ _ (by omega) (by omega)
  · rw [if_neg c]; exact key _ _ _ (by omega) (by omega)
/-- how many groups a row of groups has -/
def mxG (gr : Nat → Int) : Nat → Nat
  | 0 => 0
  | i + 1 => max (mxG gr i) ((gr i).toNat + 1)
theorem mx_c {gr hr : Nat → Int} : ∀ n : Nat, (∀ j : Nat, j < n → gr j = hr j) → mxG gr n = mxG hr n := by
  intro n
  induction n with
  | zero => intro _; rfl
  | succ n ih =>
    intro e
    show max (mxG gr n) ((gr n).toNat + 1) = max (mxG hr n) ((hr n).toNat + 1)
    rw [ih (fun j hj => e j (by omega)), e n (by omega)]
theorem mx_u {gr : Nat → Int} {i g : Nat} (h : g ≤ mxG gr i) : mxG (sU gr i (g : Int)) (i + 1) = if g = mxG gr i then mxG gr i + 1 else mxG gr i := by
  show max (mxG (sU gr i (g : Int)) i) ((sU gr i (g : Int) i).toNat + 1) = _
  rw [mx_c (gr := sU gr i (g : Int)) (hr := gr) i (fun j hj => if_neg (by omega)), show sU gr i (g : Int) i = (g : Int) from if_pos rfl]
  by_cases q : g = mxG gr i
  · rw [if_pos q]; omega
  · rw [if_neg q]; omega
theorem mxG_b {gr : Nat → Int} : ∀ (n j : Nat), j < n → (gr j).toNat < mxG gr n := by
  intro n
  induction n with
  | zero => intro j hj; omega
  | succ n ih =>
    intro j hj
    show (gr j).toNat < max (mxG gr n) ((gr n).toNat + 1)
    by_cases q : j = n
    · rw [q]; omega
    · have := ih j (by omega); omega
end jG99

section jG100
/-! pure: all JOININGS, the reference's rows of groups one behind the other -/
section
variable {α : Type} {R : α → jW → Prop} {w : Nat}
theorem n71 (hR : ∀ (a : α) (W : jW) (j : Nat) (x : Int), R a W → R a (vu W 145 j x)) : ∀ (c j r : Nat) (W : jW), j + c = w → c < r → W.1 125 36 = (w : Int) → ∃ V : jW, d_X12_nextGroups_r125d_71 r (j : Int) W = (1, V) ∧ V.1 125 36 = (w : Int) ∧ (∀ k : Nat, ¬ (j ≤ k ∧ k < w) → V.1 145 k = W.1 145 k) ∧ (∀ k : Nat, j ≤ k → k < w → V.1 145 k = 0) ∧ ∀ a : α, R a W → R a V := by
  intro c
  induction c with
  | zero =>
    intro j r W e hr h
    obtain ⟨r, rfl⟩ : ∃ q, r = q + 1 := ⟨r - 1, by omega⟩
    exact ⟨W, if_pos (by omega), h, fun _ _ => rfl, fun k k1 k2 => by omega, fun _ q => q⟩
  | succ c ih =>
    intro j r W e hr h
    obtain ⟨r, rfl⟩ : ∃ q, r = q + 1 := ⟨r - 1, by omega⟩
    obtain ⟨V, v1, v2, v3, v4, v5⟩ := ih (j + 1) r (vu W 145 j 0) (by omega) (by omega) ((vu_n (by omega)).trans h)
    have st : d_X12_nextGroups_r125d_71 (r + 1) (j : Int) W = d_X12_nextGroups_r125d_71 r ((j + 1 : Nat) : Int) (vu W 145 j 0) := by
      refine (if_neg (by omega)).trans ?_
      rw [show ((j : Int)).toNat = j from by omega]
      rfl
    refine ⟨V, st.trans v1, v2, fun k hk => (v3 k (by omega)).trans (vu_n (by omega)), fun k k1 k2 => ?_, fun a q => v5 a (hR a W j 0 q)⟩
    by_cases z : k = j
    · exact (v3 k (by omega)).trans (vu_e z)
    · exact v4 k (by omega) k2
theorem n15 {K7 : Int → jW → Int × jW} {W : jW} {gr : Nat → Int} {i : Nat} (hg : ∀ j : Nat, j < i → 0 ≤ gr j ∧ W.1 145 j = gr j) : ∀ (c j r : Nat), j + c = i → c < r → d_X12_nextGroups_r125d_15 K7 r (i : Int) ((mxG gr j - 1 : Nat) : Int) (j : Int) W = if ((mxG gr i - 1 : Nat) : Int) < W.1 145 i then K7 ((i : Int) + -1) W else d_X12_nextGroups_r125d_71 8 ((i : Int) + 1) (vu W 145 i (W.1 145 i + 1)) := by
  intro c
  induction c with
  | zero =>
    intro j r e hr
    obtain ⟨r, rfl⟩ : ∃ q, r = q + 1 := ⟨r - 1, by omega⟩
    obtain rfl : j = i := by omega
    refine (if_pos (Int.le_refl _)).trans ?_
    rw [show ((j : Int)).toNat = j from by omega]
  | succ c ih =>
    intro j r e hr
    obtain ⟨r, rfl⟩ : ∃ q, r = q + 1 := ⟨r - 1, by omega⟩
    have q := hg j (by omega)
    have y := ih (j + 1) r (by omega) (by omega)
    have mx : mxG gr (j + 1) = max (mxG gr j) ((gr j).toNat + 1) := rfl
    rw [show ((j + 1 : Nat) : Int) = (j : Int) + 1 from by omega] at y
    refine (if_neg (by omega)).trans ?_
    rw [show ((j : Int)).toNat = j from by omega, q.2]
    by_cases z : gr j ≤ ((mxG gr j - 1 : Nat) : Int)
    · rw [if_pos z]
      rw [show mxG gr (j + 1) - 1 = mxG gr j - 1 from by omega] at y
      exact y
    · rw [if_neg z]
      rw [show ((mxG gr (j + 1) - 1 : Nat) : Int) = gr j from by omega] at y
      exact y
theorem en_i {LP : Nat → Int → jW → jW} {lf : (Nat → Int) → Nat → α → α} (hR : ∀ (a : α) (W : jW) (j : Nat) (x : Int), R a W → R a (vu W 145 j x)) {c i m : Nat} {gr : Nat → Int} (e : i + (c + 1) = w) (h9 : w ≤ 9) (hm : mxG gr i = m) (mi : m ≤ i) (hg : ∀ j : Nat, j < i → 0 ≤ gr j) (ih : ∀ (g : Nat) (a : α) (W : jW), g ≤ m → (∀ j : Nat, j < i + 1 → W.1 145 j = sU gr i (g : Int) j) → (∀ j : Nat, i + 1 ≤ j → j < w → W.1 145 j = 0) → W.1 125 36 = (w : Int) → R a W → ∃ (n : Nat) (V : jW), 0 < n ∧ n ≤ 9 ^ c ∧ R (tfF lf c (i + 1) (sU gr i (g : Int)) (if g = m then m + 1 else m) a) V ∧ (∀ j : Nat, j < i + 1 → V.1 145 j = sU gr i (g : Int) j) ∧ V.1 125 36 = (w : Int) ∧ ∀ f : Nat, LP (f + n) 1 W = LP f (d_X12_nextGroups_r125d_7 (10 - c) (((i + 1 : Nat) : Int) - 1) V).1 (d_X12_nextGroups_r125d_7 (10 - c) (((i + 1 : Nat) : Int) - 1) V).2) : ∀ (k g : Nat) (a : α) (W : jW), g + k = m + 1 → 1 ≤ k → (∀ j : Nat, j < i → W.1 145 j = gr j) → W.1 145 i = (g : Int) → (∀ j : Nat, i + 1 ≤ j → j < w → W.1 145 j = 0) → W.1 125 36 = (w : Int) → R a W → ∃ (n : Nat) (V : jW), 0 < n ∧ n ≤ k * 9 ^ c ∧ R (tgF (fun g a => tfF lf c (i + 1) (sU gr i (g : Int)) (if g = m then m + 1 else m) a) k g a) V ∧ (∀ j : Nat, j < i → V.1 145 j = gr j) ∧ V.1 125 36 = (w : Int) ∧ ∀ f : Nat, LP (f + n) 1 W = LP f (d_X12_nextGroups_r125d_7 (10 - (c + 1)) ((i : Int) - 1) V).1 (d_X12_nextGroups_r125d_7 (10 - (c + 1)) ((i : Int) - 1) V).2 := by
  have r9 : 10 - c = (10 - (c + 1)) + 1 := by omega
  intro k
  induction k with
  | zero => intro g a W _ h; omega
  | succ k ik =>
    intro g a W ek _ h1 h2 h3 h4 h5
    obtain ⟨n, V, n1, n2, n3, n4, n5, n6⟩ := ih g a W (by omega) (fun j hj => by
      show W.1 145 j = if j = i then (g : Int) else gr j
      by_cases z : j = i
      · rw [if_pos z, z]; exact h2
      · rw [if_neg z]; exact h1 j (by omega)) h3 h4 h5
    have vi : V.1 145 i = (g : Int) := (n4 i (by omega)).trans (if_pos rfl)
    have vj : ∀ j : Nat, j < i → V.1 145 j = gr j := fun j hj => (n4 j (by omega)).trans (if_neg (by omega))
    have ii : (((i + 1 : Nat) : Int) - 1) = (i : Int) := by omega
    rw [ii, r9] at n6
    by_cases i0 : i = 0
    · subst i0
      have m0 : m = 0 := by omega
      have k0 : k = 0 := by omega
      subst k0
      refine ⟨n, V, n1, by omega, n3, fun j hj => by omega, n5, fun f => ?_⟩
      rw [n6 f]
      have a1 : d_X12_nextGroups_r125d_7 (10 - (c + 1) + 1) ((0 : Nat) : Int) V = (0, V) := if_pos (by decide)
      have a2 : d_X12_nextGroups_r125d_7 (10 - (c + 1)) (((0 : Nat) : Int) - 1) V = (0, V) := by
        rw [show 10 - (c + 1) = (10 - (c + 1) - 1) + 1 from by omega]
        exact if_pos (by decide)
      rw [a1, a2]
    · have s7 : d_X12_nextGroups_r125d_7 (10 - (c + 1) + 1) (i : Int) V = if ((mxG gr i - 1 : Nat) : Int) < V.1 145 i then d_X12_nextGroups_r125d_7 (10 - (c + 1)) ((i : Int) + -1) V else d_X12_nextGroups_r125d_71 8 ((i : Int) + 1) (vu V 145 i (V.1 145 i + 1)) :=
        (if_neg (by omega)).trans (n15 (K7 := fun l1 W => d_X12_nextGroups_r125d_7 (10 - (c + 1)) l1 W) (fun j hj => ⟨hg j hj, vj j hj⟩) i 0 9 (by omega) (by omega))
      rw [s7, vi, hm] at n6
      by_cases gm : g = m
      · have k0 : k = 0 := by omega
        subst k0
        have m1 : 0 < m := by
          have := mxG_b (gr := gr) i 0 (by omega)
          omega
        rw [if_pos (show ((m - 1 : Nat) : Int) < (g : Int) from by omega)] at n6
        exact ⟨n, V, n1, by omega, n3, vj, n5, n6⟩
      · rw [if_neg (show ¬ ((m - 1 : Nat) : Int) < (g : Int) from by omega)] at n6
        obtain ⟨U, u1, u2, u3, u4, u5⟩ := n71 (w := w) hR (w - (i + 1)) (i + 1) 8 (vu V 145 i ((g : Int) + 1)) (by omega) (by omega) ((vu_n (by omega)).trans n5)
        rw [show ((i + 1 : Nat) : Int) = (i : Int) + 1 from by omega] at u1
        rw [u1] at n6
        obtain ⟨n', V', q1, q2, q3, q4, q5, q6⟩ := ik (g + 1) _ U (by omega) (by omega) (fun j hj => (u3 j (by omega)).trans ((vu_n (by omega)).trans (vj j hj))) ((u3 i (by omega)).trans ((vu_e rfl).trans (by omega))) u4 u2 (u5 _ (hR _ _ _ _ n3))
        refine ⟨n' + n, V', by omega, ?_, q3, q4, q5, fun f => ?_⟩
        · rw [Nat.succ_mul]; omega
        · rw [← Nat.add_assoc, n6]; exact q6 f
theorem en {LP : Nat → Int → jW → jW} {vis : jW → jW} {lf : (Nat → Int) → Nat → α → α} (hR : ∀ (a : α) (W : jW) (j : Nat) (x : Int), R a W → R a (vu W 145 j x)) (h9 : w ≤ 9) (hs : ∀ (f : Nat) (a : α) (W : jW), W.1 125 36 = (w : Int) → R a W → (∀ j : Nat, j < w → 0 ≤ W.1 145 j) → LP (f + 1) 1 W = LP f (d_X12_nextGroups_r125d (vis W)).1 (d_X12_nextGroups_r125d (vis W)).2) (hv : ∀ (a : α) (W : jW) (gr : Nat → Int), W.1 125 36 = (w : Int) → R a W → (∀ j : Nat, j < w → 0 ≤ gr j ∧ W.1 145 j = gr j) → R (lf gr (mxG gr w) a) (vis W) ∧ (vis W).1 145 = W.1 145 ∧ (vis W).1 125 36 = (w : Int)) : ∀ (c i m : Nat) (gr : Nat → Int) (a : α) (W : jW), i + c = w → mxG gr i = m → m ≤ i → (∀ j : Nat, j < i → 0 ≤ gr j) → (∀ j : Nat, j < i → W.1 145 j = gr j) → (∀ j : Nat, i ≤ j → j < w → W.1 145 j = 0) → W.1 125 36 = (w : Int) → R a W → ∃ (n : Nat) (V : jW), 0 < n ∧ n ≤ 9 ^ c ∧ R (tfF lf c i gr m a) V ∧ (∀ j : Nat, j < i → V.1 145 j = gr j) ∧ V.1 125 36 = (w : Int) ∧ ∀ f : Nat, LP (f + n) 1 W = LP f (d_X12_nextGroups_r125d_7 (10 - c) ((i : Int) - 1) V).1 (d_X12_nextGroups_r125d_7 (10 - c) ((i : Int) - 1) V).2 := by
  intro c
  induction c with
  | zero =>
    intro i m gr a W e hm mi hg h1 h2 h3 h4
    obtain rfl : i = w := by omega
    subst hm
    obtain ⟨v1, v2, v3⟩ := hv a W gr h3 h4 (fun j hj => ⟨hg j hj, h1 j hj⟩)
    refine ⟨1, vis W, by decide, by decide, v1, fun j hj => by rw [v2]; exact h1 j hj, v3, fun f => ?_⟩
    rw [hs f a W h3 h4 (fun j hj => by rw [h1 j hj]; exact hg j hj)]
    unfold d_X12_nextGroups_r125d
    rw [v3]
  | succ c ih =>
    intro i m gr a W e hm mi hg h1 h2 h3 h4
    obtain ⟨n, V, n1, n2, n3, n4, n5, n6⟩ := en_i hR e h9 hm mi hg (fun g a W g1 w1 w2 w3 w4 => ih (i + 1) (if g = m then m + 1 else m) (sU gr i (g : Int)) a W (by omega) (by rw [← hm]; exact mx_u (by omega)) (by split <;> omega) (fun j hj => by
      show 0 ≤ if j = i then (g : Int) else gr j
      by_cases z : j = i
      · rw [if_pos z]; omega
      · rw [if_neg z]; exact hg j (by omega)) w1 w2 w3 w4) (m + 1) 0 a W (by omega) (by omega) h1 (h2 i (by omega) (by omega)) (fun j j1 j2 => h2 j (by omega) j2) h3 h4
    refine ⟨n, V, n1, ?_, n3, n4, n5, n6⟩
    have y : (m + 1) * 9 ^ c ≤ 9 * 9 ^ c := Nat.mul_le_mul_right _ (by omega)
    rw [Nat.pow_succ, Nat.mul_comm (9 ^ c) 9]
    omega
/-- all of them -/
theorem en_a {LP : Nat → Int → jW → jW} {vis : jW → jW} {lf : (Nat → Int) → Nat → α → α} (hR : ∀ (a : α) (W : jW) (j : Nat) (x : Int), R a W → R a (vu W 145 j x)) (h9 : w ≤ 9) (hs : ∀ (f : Nat) (a : α) (W : jW), W.1 125 36 = (w : Int) → R a W → (∀ j : Nat, j < w → 0 ≤ W.1 145 j) → LP (f + 1) 1 W = LP f (d_X12_nextGroups_r125d (vis W)).1 (d_X12_nextGroups_r125d (vis W)).2) (hv : ∀ (a : α) (W : jW) (gr : Nat → Int), W.1 125 36 = (w : Int) → R a W → (∀ j : Nat, j < w → 0 ≤ gr j ∧ W.1 145 j = gr j) → R (lf gr (mxG gr w) a) (vis W) ∧ (vis W).1 145 = W.1 145 ∧ (vis W).1 125 36 = (w : Int)) {a : α} {W : jW} (h2 : ∀ j : Nat, j < w → W.1 145 j = 0) (h3 : W.1 125 36 = (w : Int)) (h4 : R a W) {F : Nat} (hF : 9 ^ 9 + 1 ≤ F) : ∃ (f : Nat) (V : jW), 0 < f ∧ R (tfF lf w 0 (fun _ => 0) 0 a) V ∧ V.1 125 36 = (w : Int) ∧ LP F 1 W = LP f 0 V := by
  obtain ⟨n, V, n1, n2, n3, n4, n5, n6⟩ := en hR h9 hs hv w 0 0 (fun _ => 0) a W (by omega) rfl (by omega) (fun j hj => by omega) (fun j hj => by omega) (fun j _ hj => h2 j hj) h3 h4
  have p9 : 9 ^ w ≤ 9 ^ 9 := Nat.pow_le_pow_right (by decide) h9
  refine ⟨F - n, V, by omega, n3, n5, ?_⟩
  have y := n6 (F - n)
  rw [show F - n + n = F from by omega] at y
  rw [y]
  have a2 : d_X12_nextGroups_r125d_7 (10 - w) (((0 : Nat) : Int) - 1) V = (0, V) := by
    rw [show 10 - w = (10 - w - 1) + 1 from by omega]
    exact if_pos (by decide)
  rw [a2]
end
end jG100

section jG101
/-! pure: all JOININGS, the reference: the WORTH of one, the best of all, rivals -/
def pMw (W : jW) (w : Nat) (can mus : Nat → Nat → Prop) (wo : Nat → Nat → Int) : Prop := W.1 125 36 = (w : Int) ∧ ∀ a b : Nat, b < a → a < w → (W.1 142 (9 * a + b) = 0 ↔ ¬ can a b) ∧ (W.1 143 (9 * a + b) = 0 ↔ ¬ mus a b) ∧ W.1 144 (9 * a + b) = wo a b ∧ (0 ≤ wo a b ∧ wo a b ≤ 400)
def gd2 (can mus : Nat → Nat → Prop) (gr : Nat → Int) (a b : Nat) : Prop := gdP can mus gr a ∧ ∀ j : Nat, j < b → (gr a = gr j → can a j) ∧ (gr a ≠ gr j → ¬ mus a j)
section
variable {can mus : Nat → Nat → Prop} {wo : Nat → Nat → Int} {w : Nat} {gr : Nat → Int}
theorem gd2_s {a b : Nat} : gd2 can mus gr a (b + 1) ↔ gd2 can mus gr a b ∧ ((gr a = gr b → can a b) ∧ (gr a ≠ gr b → ¬ mus a b)) := by
  refine ⟨fun h => ⟨⟨h.1, fun j hj => h.2 j (by omega)⟩, h.2 b (by omega)⟩, fun h => ⟨h.1.1, fun j hj => ?_⟩⟩
  by_cases z : j = b
  · rw [z]; exact h.2
  · exact h.1.2 j (by omega)
theorem gd2_e {a : Nat} : gd2 can mus gr a a ↔ gdP can mus gr (a + 1) := by
  refine ⟨fun h x y h1 h2 => ?_, fun h => ⟨fun x y h1 h2 => h x y h1 (by omega), fun j hj => h a j hj (by omega)⟩⟩
  by_cases z : x = a
  · subst z; exact h.2 y h1
  · exact h.1 x y h1 (by omega)
theorem tv_e {P Q : Prop} (h : P ↔ Q) : tv P = tv Q := by rw [propext h]
theorem g17 {W : jW} {K6 : Int → Int → Int → jW → Int} (P : pMw W w can mus wo) (h9 : w ≤ 9) (hg : ∀ j : Nat, j < w → W.1 145 j = gr j) {a : Nat} (ha : a < w) : ∀ (c b r : Nat), b + c = a → c < r → d_X12_groupsWorth_r125d_17 K6 r (wsm wo gr a + wrw (wo a) gr (gr a) b) (tv (gd2 can mus gr a b)) (a : Int) (b : Int) W = K6 (wsm wo gr (a + 1)) (tv (gdP can mus gr (a + 1))) ((a : Int) + 1) W := by
  intro c
  induction c with
  | zero =>
    intro b r e hr
    obtain ⟨r, rfl⟩ : ∃ q, r = q + 1 := ⟨r - 1, by omega⟩
    obtain rfl : b = a := by omega
    rw [tv_e gd2_e]
    exact if_pos (Int.le_refl _)
  | succ c ih =>
    intro b r e hr
    obtain ⟨r, rfl⟩ : ∃ q, r = q + 1 := ⟨r - 1, by omega⟩
    obtain ⟨q1, q2, q3, q4⟩ := P.2 a b (by omega) ha
    have y := ih (b + 1) r (by omega) (by omega)
    rw [show ((b + 1 : Nat) : Int) = (b : Int) + 1 from by omega, tv_e gd2_s] at y
    have b1 := wsm_b (wo := wo) (gr := gr) a (by omega) (fun x z h1 h2 => (P.2 x z h1 (by omega)).2.2.2)
    have b2 := wrw_b (wo := wo a) (gr := gr) (x := gr a) b (fun j hj => (P.2 a j (by omega) ha).2.2.2)
    have bb : (a : Int) * ((a : Int) - 1) ≤ 72 := by
      rcases (show a = 0 ∨ a = 1 ∨ a = 2 ∨ a = 3 ∨ a = 4 ∨ a = 5 ∨ a = 6 ∨ a = 7 ∨ a = 8 from by omega) with rfl | rfl | rfl | rfl | rfl | rfl | rfl | rfl | rfl <;> decide
    have wn : wrw (wo a) gr (gr a) (b + 1) = wrw (wo a) gr (gr a) b + (if gr a = gr b then wo a b else 0) := rfl
    have ix : ((9 * (a : Int)) + (b : Int)).toNat = 9 * a + b := by omega
    refine (if_neg (by omega)).trans ?_
    rw [show ((a : Int)).toNat = a from by omega, show ((b : Int)).toNat = b from by omega, hg a ha, hg b (by omega)]
    by_cases z : gr a = gr b
    · rw [if_pos z]
      unfold d_X12_groupsWorth_r125d_300044 d_X12_groupsWorth_r125d_92 d_X12_groupsWorth_r125d_88 d_X12_groupsWorth_r125d_200093 d_X12_groupsWorth_r125d_300093 d_X12_groupsWorth_r125d_116
      rw [ix, q3, if_neg (show ¬ (1 : Int) = 0 from by decide), if_neg (show ¬ (1 : Int) = 0 from by decide), j_ia (by omega) (by omega) (by omega)]
      rw [wn, if_pos z, ← Int.add_assoc] at y
      by_cases f : gd2 can mus gr a b
      · rw [tv_t f, if_neg (show ¬ (1 : Int) = 0 from by decide)]
        by_cases k : can a b
        · rw [if_neg (fun h => (q1.mp h) k)]
          rw [tv_t ⟨f, fun _ => k, fun h => absurd z h⟩] at y
          exact y
        · rw [if_pos (q1.mpr k)]
          rw [tv_f (fun h => k (h.2.1 z))] at y
          exact y
      · rw [tv_f f, if_pos rfl]
        rw [tv_f (fun h => f h.1)] at y
        exact y
    · rw [if_neg z]
      unfold d_X12_groupsWorth_r125d_200044 d_X12_groupsWorth_r125d_92 d_X12_groupsWorth_r125d_88 d_X12_groupsWorth_r125d_200093 d_X12_groupsWorth_r125d_300093 d_X12_groupsWorth_r125d_200116
      rw [ix, if_pos rfl, if_pos rfl, Int.add_zero]
      rw [wn, if_neg z, Int.add_zero] at y
      by_cases f : gd2 can mus gr a b
      · rw [tv_t f, if_neg (show ¬ (1 : Int) = 0 from by decide)]
        by_cases k : mus a b
        · rw [if_neg (fun h => (q2.mp h) k)]
          rw [tv_f (fun h => (h.2.2 z) k)] at y
          exact y
        · rw [if_pos (q2.mpr k)]
          rw [tv_t ⟨f, fun h => absurd h z, fun _ => k⟩] at y
          exact y
      · rw [tv_f f, if_pos rfl]
        rw [tv_f (fun h => f h.1)] at y
        exact y
theorem g6 {W : jW} (P : pMw W w can mus wo) (h9 : w ≤ 9) (hg : ∀ j : Nat, j < w → W.1 145 j = gr j) : ∀ (c a r : Nat), a + c = w → c < r → d_X12_groupsWorth_r125d_6 r (wsm wo gr a) (tv (gdP can mus gr a)) (a : Int) W = if tv (gdP can mus gr w) = 0 then -1 else wsm wo gr w := by
  intro c
  induction c with
  | zero =>
    intro a r e hr
    obtain ⟨r, rfl⟩ : ∃ q, r = q + 1 := ⟨r - 1, by omega⟩
    obtain rfl : a = w := by omega
    exact if_pos (by rw [P.1]; omega)
  | succ c ih =>
    intro a r e hr
    obtain ⟨r, rfl⟩ : ∃ q, r = q + 1 := ⟨r - 1, by omega⟩
    have y := ih (a + 1) r (by omega) (by omega)
    rw [show ((a + 1 : Nat) : Int) = (a : Int) + 1 from by omega] at y
    have z := g17 (K6 := fun l1 l2 l3 W => d_X12_groupsWorth_r125d_6 r l1 l2 l3 W) P h9 hg (a := a) (by omega) a 0 9 (by omega) (by omega)
    rw [show wrw (wo a) gr (gr a) 0 = 0 from rfl, Int.add_zero, tv_e (show gd2 can mus gr a 0 ↔ gdP can mus gr a from ⟨fun h => h.1, fun h => ⟨h, fun j hj => absurd hj (Nat.not_lt_zero j)⟩⟩)] at z
    exact (if_neg (by rw [P.1]; omega)).trans (z.trans y)
theorem mgw {W : jW} (P : pMw W w can mus wo) (h9 : w ≤ 9) (hg : ∀ j : Nat, j < w → W.1 145 j = gr j) : d_X12_groupsWorth_r125d W = if tv (gdP can mus gr w) = 0 then -1 else wsm wo gr w := by
  have y := g6 P h9 hg w 0 10 (by omega) (by omega)
  rw [tv_t (show gdP can mus gr 0 from fun a b _ h => absurd h (Nat.not_lt_zero a))] at y
  exact y
/-! the best -/
def cpF : Nat → Nat → jW → jW
  | 0, _, W => W
  | c + 1, j, W => cpF c (j + 1) (vu W 146 j (W.1 145 j))
def vi1 (w : Nat) (W : jW) : jW := if W.1 125 43 < d_X12_groupsWorth_r125d W ∨ (¬ d_X12_groupsWorth_r125d W < 0 ∧ d_X12_groupsWorth_r125d W = W.1 125 43 ∧ ¬ W.1 125 44 ≤ (mxG (W.1 145) w : Int)) then cpF w 0 (vu (vu W 125 43 (d_X12_groupsWorth_r125d W)) 125 44 (mxG (W.1 145) w : Int)) else W
theorem cp_r {K : Int → Int → jW → jW} {l1 : Int} : ∀ (c j r : Nat) (W : jW), j + c = w → c < r → W.1 125 36 = (w : Int) → d_X12_findBest_r125d_123 K r l1 (j : Int) W = d_X12_findBest_r125d_152 K l1 (cpF c j W) := by
  intro c
  induction c with
  | zero =>
    intro j r W e hr h
    obtain ⟨r, rfl⟩ : ∃ q, r = q + 1 := ⟨r - 1, by omega⟩
    exact if_pos (by omega)
  | succ c ih =>
    intro j r W e hr h
    obtain ⟨r, rfl⟩ : ∃ q, r = q + 1 := ⟨r - 1, by omega⟩
    have y := ih (j + 1) r (vu W 146 j (W.1 145 j)) (by omega) (by omega) ((vu_n (by omega)).trans h)
    rw [show ((j + 1 : Nat) : Int) = (j : Int) + 1 from by omega] at y
    refine (if_neg (by omega)).trans ?_
    rw [show ((j : Int)).toNat = j from by omega]
    exact y
theorem cp_v {Inv : jW → Prop} (hI : ∀ (W : jW) (k : Nat) (x : Int), Inv W → Inv (vu W 146 k x)) : ∀ (c j : Nat) (W : jW), Inv W → Inv (cpF c j W) ∧ (∀ a : Nat, a ≠ 146 → (cpF c j W).1 a = W.1 a) ∧ (∀ k : Nat, k < j → (cpF c j W).1 146 k = W.1 146 k) ∧ ∀ k : Nat, j ≤ k → k < j + c → (cpF c j W).1 146 k = W.1 145 k := by
  intro c
  induction c with
  | zero => intro j W h; exact ⟨h, fun _ _ => rfl, fun _ _ => rfl, fun k k1 k2 => by omega⟩
  | succ c ih =>
    intro j W h
    obtain ⟨y1, y2, y3, y4⟩ := ih (j + 1) (vu W 146 j (W.1 145 j)) (hI W j _ h)
    refine ⟨y1, fun a ha => (y2 a ha).trans (vu_c ha), fun k hk => (y3 k (by omega)).trans (vu_n (by omega)), fun k k1 k2 => ?_⟩
    by_cases z : k = j
    · rw [z]
      exact (y3 j (by omega)).trans (vu_e rfl)
    · exact (y4 k (by omega) (by omega)).trans (vu_n (by omega))
theorem fb_35 {K : Int → Int → jW → jW} {l1 l3 : Int} {W : jW} (h36 : W.1 125 36 = (w : Int)) (hg : ∀ j : Nat, j < w → 0 ≤ W.1 145 j) : ∀ (c j r : Nat), j + c = w → c < r → d_X12_findBest_r125d_35 K r l1 l3 (mxG (W.1 145) j : Int) (j : Int) W = (if W.1 125 43 < l3 then d_X12_findBest_r125d_109 K l1 l3 (mxG (W.1 145) w : Int) W else (if l3 < 0 then d_X12_findBest_r125d_152 K l1 W else (if l3 = W.1 125 43 then (if W.1 125 44 ≤ (mxG (W.1 145) w : Int) then d_X12_findBest_r125d_152 K l1 W else d_X12_findBest_r125d_109 K l1 l3 (mxG (W.1 145) w : Int) W) else d_X12_findBest_r125d_152 K l1 W))) := by
  intro c
  induction c with
  | zero =>
    intro j r e hr
    obtain ⟨r, rfl⟩ : ∃ q, r = q + 1 := ⟨r - 1, by omega⟩
    obtain rfl : j = w := by omega
    exact if_pos (by omega)
  | succ c ih =>
    intro j r e hr
    obtain ⟨r, rfl⟩ : ∃ q, r = q + 1 := ⟨r - 1, by omega⟩
    have y := ih (j + 1) r (by omega) (by omega)
    have q := hg j (by omega)
    have mx : mxG (W.1 145) (j + 1) = max (mxG (W.1 145) j) ((W.1 145 j).toNat + 1) := rfl
    rw [show ((j + 1 : Nat) : Int) = (j : Int) + 1 from by omega] at y
    refine (if_neg (by omega)).trans ?_
    rw [show ((j : Int)).toNat = j from by omega]
    by_cases z : W.1 145 j + 1 ≤ (mxG (W.1 145) j : Int)
    · rw [if_pos z]
      rw [show mxG (W.1 145) (j + 1) = mxG (W.1 145) j from by omega] at y
      exact y
    · rw [if_neg z]
      rw [show (mxG (W.1 145) (j + 1) : Int) = W.1 145 j + 1 from by omega] at y
      exact y
theorem fb_20 {l1 : Int} {W : jW} (h9 : w ≤ 9) (h36 : W.1 125 36 = (w : Int)) (hg : ∀ j : Nat, j < w → 0 ≤ W.1 145 j) (f : Nat) : d_X12_findBest_r125d_20 (f + 1) l1 1 W = d_X12_findBest_r125d_20 f l1 (d_X12_nextGroups_r125d (vi1 w W)).1 (d_X12_nextGroups_r125d (vi1 w W)).2 := by
  have y := fb_35 (K := fun l1 l2 W => d_X12_findBest_r125d_20 f l1 l2 W) (l1 := l1) (l3 := d_X12_groupsWorth_r125d W) h36 hg w 0 10 (by omega) (by omega)
  have cp : d_X12_findBest_r125d_109 (fun l1 l2 W => d_X12_findBest_r125d_20 f l1 l2 W) l1 (d_X12_groupsWorth_r125d W) (mxG (W.1 145) w : Int) W = d_X12_findBest_r125d_20 f l1 (d_X12_nextGroups_r125d (cpF w 0 (vu (vu W 125 43 (d_X12_groupsWorth_r125d W)) 125 44 (mxG (W.1 145) w : Int)))).1 (d_X12_nextGroups_r125d (cpF w 0 (vu (vu W 125 43 (d_X12_groupsWorth_r125d W)) 125 44 (mxG (W.1 145) w : Int)))).2 := cp_r (w := w) w 0 10 _ (by omega) (by omega) ((vu_n (by decide)).trans ((vu_n (by decide)).trans h36))
  refine (if_neg (by decide)).trans (y.trans ?_)
  unfold vi1
  by_cases c1 : W.1 125 43 < d_X12_groupsWorth_r125d W
  · rw [if_pos c1, if_pos (Or.inl c1)]; exact cp
  · rw [if_neg c1]
    by_cases c2 : d_X12_groupsWorth_r125d W < 0
    · rw [if_pos c2, if_neg (fun h => h.elim c1 (fun h => h.1 c2))]; rfl
    · rw [if_neg c2]
      by_cases c3 : d_X12_groupsWorth_r125d W = W.1 125 43
      · rw [if_pos c3]
        by_cases c4 : W.1 125 44 ≤ (mxG (W.1 145) w : Int)
        · rw [if_pos c4, if_neg (fun h => h.elim c1 (fun h => h.2.2 c4))]; rfl
        · rw [if_neg c4, if_pos (Or.inr ⟨c2, c3, c4⟩)]; exact cp
      · rw [if_neg c3, if_neg (fun h => h.elim c1 (fun h => c3 h.2.1))]; rfl
/-- places of the best that may change -/
def bSt (a k : Nat) : Prop := a = 145 ∨ a = 146 ∨ (a = 125 ∧ (k = 43 ∨ k = 44 ∨ k = 46))
theorem pMw_u {W : jW} {a k : Nat} {x : Int} (h : bSt a k) (P : pMw W w can mus wo) : pMw (vu W a k x) w can mus wo := by
  unfold bSt at h
  refine ⟨(vu_n (by omega)).trans P.1, fun i j h1 h2 => ?_⟩
  rw [show (vu W a k x).1 142 = W.1 142 from vu_c (by omega), show (vu W a k x).1 143 = W.1 143 from vu_c (by omega), show (vu W a k x).1 144 = W.1 144 from vu_c (by omega)]
  exact P.2 i j h1 h2
def pR1 (Inv : jW → Prop) (w : Nat) (can mus : Nat → Nat → Prop) (wo : Nat → Nat → Int) (a : pjB) (W : jW) : Prop := pMw W w can mus wo ∧ Inv W ∧ W.1 125 43 = a.1 ∧ W.1 125 44 = a.2.1 ∧ -1 ≤ a.1 ∧ (0 ≤ a.1 → ∀ j : Nat, j < w → W.1 146 j = a.2.2.1 j)
theorem hv1 {Inv : jW → Prop} (hI : ∀ (W : jW) (a k : Nat) (x : Int), bSt a k → Inv W → Inv (vu W a k x)) (h9 : w ≤ 9) {a : pjB} {W : jW} (gr : Nat → Int) (R : pR1 Inv w can mus wo a W) (hg : ∀ j : Nat, j < w → 0 ≤ gr j ∧ W.1 145 j = gr j) : pR1 Inv w can mus wo (lfB can mus wo w gr (mxG gr w) a) (vi1 w W) ∧ (vi1 w W).1 145 = W.1 145 ∧ (vi1 w W).1 125 36 = (w : Int) := by
  obtain ⟨r1, r2, r3, r4, r5, r6⟩ := R
  have gw := mgw r1 h9 (fun j hj => (hg j hj).2)
  have mx : mxG (W.1 145) w = mxG gr w := mx_c w (fun j hj => (hg j hj).2)
  have ws := wsm_b (wo := wo) (gr := gr) w h9 (fun x z h1 h2 => (r1.2 x z h1 h2).2.2.2)
  unfold vi1 lfB
  rw [gw, mx, r3, r4]
  by_cases gd : gdP can mus gr w
  · rw [tv_t gd, if_neg (show ¬ (1 : Int) = 0 from by decide), if_neg (show ¬ (1 : Int) = 0 from by decide)]
    unfold upB
    by_cases c : a.1 < wsm wo gr w ∨ (wsm wo gr w = a.1 ∧ (mxG gr w : Int) < a.2.1)
    · rw [if_pos c, if_pos (by rcases c with c | c; exact Or.inl c; exact Or.inr ⟨by omega, c.1, by omega⟩)]
      obtain ⟨y1, y2, y3, y4⟩ := cp_v (Inv := Inv) (fun W k x h => hI W 146 k x (Or.inr (Or.inl rfl)) h) w 0 (vu (vu W 125 43 (wsm wo gr w)) 125 44 (mxG gr w : Int)) (hI _ _ _ _ (Or.inr (Or.inr ⟨rfl, Or.inr (Or.inl rfl)⟩)) (hI _ _ _ _ (Or.inr (Or.inr ⟨rfl, Or.inl rfl⟩)) r2))
      have ym : pMw (cpF w 0 (vu (vu W 125 43 (wsm wo gr w)) 125 44 (mxG gr w : Int))) w can mus wo := (cp_v (Inv := fun W => pMw W w can mus wo) (fun W k x h => pMw_u (Or.inr (Or.inl rfl)) h) w 0 _ (pMw_u (Or.inr (Or.inr ⟨rfl, Or.inr (Or.inl rfl)⟩)) (pMw_u (Or.inr (Or.inr ⟨rfl, Or.inl rfl⟩)) r1))).1
      refine ⟨⟨ym, y1, ?_, ?_, by show -1 ≤ wsm wo gr w; omega, fun _ j hj => ?_⟩, (y2 145 (by decide)).trans ((vu_c (by decide)).trans (vu_c (by decide))), ym.1⟩
      · rw [y2 125 (by decide)]; exact (vu_n (by decide)).trans (vu_e rfl)
      · rw [y2 125 (by decide)]; exact vu_e rfl
      · exact (y4 j (by omega) (by omega)).trans (((vu_n (by omega)).trans (vu_n (by omega))).trans (hg j hj).2)
    · rw [if_neg c, if_neg (fun h => c (by rcases h with h | h; exact Or.inl h; exact Or.inr ⟨h.2.1, by omega⟩))]
      exact ⟨⟨r1, r2, r3, r4, r5, r6⟩, rfl, r1.1⟩
  · rw [tv_f gd, if_pos rfl, if_pos rfl, if_neg (fun h => by omega)]
    exact ⟨⟨r1, r2, r3, r4, r5, r6⟩, rfl, r1.1⟩
/-! rivals -/
def vi2 (l1 : Int) (W : jW) : jW := vu W 125 46 (if d_X12_groupsWorth_r125d W < 0 then W.1 125 46 + 0 else if d_X12_groupsWorth_r125d W < j_isub (W.1 125 43) l1 then W.1 125 46 + 0 else j_iadd (W.1 125 46) 1)
theorem fb_171 {l1 : Int} {W : jW} (f : Nat) : d_X12_findBest_r125d_171 (f + 1) l1 1 W = d_X12_findBest_r125d_171 f l1 (d_X12_nextGroups_r125d (vi2 l1 W)).1 (d_X12_nextGroups_r125d (vi2 l1 W)).2 := by
  refine (if_neg (by decide)).trans ?_
  unfold vi2
  by_cases c1 : d_X12_groupsWorth_r125d W < 0
  · rw [if_pos c1, if_pos c1]; rfl
  · rw [if_neg c1, if_neg c1]
    by_cases c2 : d_X12_groupsWorth_r125d W < j_isub (W.1 125 43) l1
    · rw [if_pos c2, if_pos c2]; rfl
    · rw [if_neg c2, if_neg c2]; rfl
noncomputable def lfR (can mus : Nat → Nat → Prop) (wo : Nat → Nat → Int) (w : Nat) (lo : Int) (gr : Nat → Int) (_ : Nat) (n : Int) : Int := if tv (gdP can mus gr w) = 0 then n else if lo ≤ wsm wo gr w then n + 1 else n
def pR2 (Inv : jW → Prop) (w : Nat) (can mus : Nat → Nat → Prop) (wo : Nat → Nat → Int) (B : Int) (n : Int) (W : jW) : Prop := pMw W w can mus wo ∧ Inv W ∧ W.1 125 43 = B ∧ W.1 125 46 = wr n
theorem hv2 {Inv : jW → Prop} (hI : ∀ (W : jW) (a k : Nat) (x : Int), (a = 145 ∨ (a = 125 ∧ k = 46)) → Inv W → Inv (vu W a k x)) (h9 : w ≤ 9) {B l1 n : Int} (hB : -1 ≤ B ∧ B ≤ 14400) (hl : 0 ≤ l1 ∧ l1 ≤ 1000) {W : jW} (gr : Nat → Int) (R : pR2 Inv w can mus wo B n W) (hg : ∀ j : Nat, j < w → 0 ≤ gr j ∧ W.1 145 j = gr j) : pR2 Inv w can mus wo B (lfR can mus wo w (B - l1) gr (mxG gr w) n) (vi2 l1 W) ∧ (vi2 l1 W).1 145 = W.1 145 ∧ (vi2 l1 W).1 125 36 = (w : Int) := by
  obtain ⟨r1, r2, r3, r4⟩ := R
  have gw := mgw r1 h9 (fun j hj => (hg j hj).2)
  have ws := wsm_b (wo := wo) (gr := gr) w h9 (fun x z h1 h2 => (r1.2 x z h1 h2).2.2.2)
  unfold vi2
  refine ⟨⟨pMw_u (Or.inr (Or.inr ⟨rfl, Or.inr (Or.inr rfl)⟩)) r1, hI _ _ _ _ (Or.inr ⟨rfl, rfl⟩) r2, (vu_n (by decide)).trans r3, (vu_e rfl).trans ?_⟩, vu_c (by decide), (vu_n (by decide)).trans r1.1⟩
  unfold lfR
  rw [gw, r3, r4, j_is (by omega) (by omega) (by omega), wr_s, Int.add_zero]
  by_cases gd : gdP can mus gr w
  · rw [tv_t gd, if_neg (show ¬ (1 : Int) = 0 from by decide), if_neg (show ¬ (1 : Int) = 0 from by decide), if_neg (show ¬ wsm wo gr w < 0 from by omega)]
    by_cases c : B - l1 ≤ wsm wo gr w
    · rw [if_pos c, if_neg (by omega)]
    · rw [if_neg c, if_pos (by omega)]
  · rw [tv_f gd, if_pos rfl, if_pos rfl, if_pos (by decide)]
theorem fg_e {Inv : jW → Prop} (hI : ∀ (W : jW) (k : Nat) (x : Int), Inv W → Inv (vu W 145 k x)) : ∀ (c j r : Nat) (W : jW), j + c = 9 → c < r → Inv W → (∀ k : Nat, k < j → W.1 145 k = 0) → Inv (d_X12_firstGroups_r125d_2 r (j : Int) W) ∧ ∀ k : Nat, k < 9 → (d_X12_firstGroups_r125d_2 r (j : Int) W).1 145 k = 0 := by
  intro c
  induction c with
  | zero =>
    intro j r W e hr h q
    obtain ⟨r, rfl⟩ : ∃ q, r = q + 1 := ⟨r - 1, by omega⟩
    have st : d_X12_firstGroups_r125d_2 (r + 1) (j : Int) W = W := if_pos (by omega)
    rw [st]
    exact ⟨h, fun k hk => q k (by omega)⟩
  | succ c ih =>
    intro j r W e hr h q
    obtain ⟨r, rfl⟩ : ∃ q, r = q + 1 := ⟨r - 1, by omega⟩
    have y := ih (j + 1) r (vu W 145 j 0) (by omega) (by omega) (hI W j 0 h) (fun k hk => by
      by_cases z : k = j
      · exact vu_e z
      · exact (vu_n (by omega)).trans (q k (by omega)))
    have st : d_X12_firstGroups_r125d_2 (r + 1) (j : Int) W = d_X12_firstGroups_r125d_2 r ((j + 1 : Nat) : Int) (vu W 145 j 0) := by
      refine (if_neg (by omega)).trans ?_
      rw [show ((j : Int)).toNat = j from by omega]
      rfl
    rw [st]
    exact y
/-- the best of all, as numbers -/
noncomputable def sBe (can mus : Nat → Nat → Prop) (wo : Nat → Nat → Int) (w : Nat) : pjB := tfF (lfB can mus wo w) w 0 (fun _ => 0) 0 (-1, 0, (fun _ => 0), (fun _ => 0), fun _ => 0)
theorem be_b (h9 : w ≤ 9) (hw : ∀ a b : Nat, b < a → a < w → 0 ≤ wo a b ∧ wo a b ≤ 400) : (-1 ≤ (sBe can mus wo w).1 ∧ (sBe can mus wo w).1 ≤ 14400) ∧ pGe (sBe can mus wo w) := by
  refine tf_v (P := fun a : pjB => (-1 ≤ a.1 ∧ a.1 ≤ 14400) ∧ pGe a) (fun gr m a h => ?_) w 0 _ 0 _ ⟨by decide, fun l n => ?_, fun _ _ => rfl, fun _ _ => rfl⟩
  · have ws := wsm_b (wo := wo) (gr := gr) w h9 hw
    have bb : (w : Int) * ((w : Int) - 1) ≤ 72 := by
      rcases (show w = 0 ∨ w = 1 ∨ w = 2 ∨ w = 3 ∨ w = 4 ∨ w = 5 ∨ w = 6 ∨ w = 7 ∨ w = 8 ∨ w = 9 from by omega) with rfl | rfl | rfl | rfl | rfl | rfl | rfl | rfl | rfl | rfl <;> decide
    unfold lfB
    by_cases c : tv (gdP can mus gr w) = 0
    · rw [if_pos c]; exact h
    · rw [if_neg c]
      refine ⟨?_, pGe_u ws.1 h.2⟩
      unfold upB
      by_cases z : a.1 < wsm wo gr w ∨ (wsm wo gr w = a.1 ∧ (m : Int) < a.2.1)
      · rw [if_pos z]; exact ⟨by show -1 ≤ wsm wo gr w; omega, by show wsm wo gr w ≤ 14400; omega⟩
      · rw [if_neg z]; exact h.1
  · show (0 : Int) = sTa (fun _ => 0) l n + 0
    have z : ∀ n : Nat, sTa (fun _ => 0) l n = 0 := by
      intro n
      induction n with
      | zero => rfl
      | succ n ih => show sTa (fun _ => 0) l n + 0 = 0; rw [ih]; rfl
    rw [z]; rfl
theorem pR1_u {Inv : jW → Prop} (hI : ∀ (W : jW) (a k : Nat) (x : Int), bSt a k → Inv W → Inv (vu W a k x)) {a : pjB} {W : jW} {c k : Nat} {x : Int} (h : c = 145 ∨ (c = 125 ∧ k = 46)) (R : pR1 Inv w can mus wo a W) : pR1 Inv w can mus wo a (vu W c k x) := by
  obtain ⟨r1, r2, r3, r4, r5, r6⟩ := R
  have b : bSt c k := by unfold bSt; omega
  exact ⟨pMw_u b r1, hI _ _ _ _ b r2, (vu_n (by omega)).trans r3, (vu_n (by omega)).trans r4, r5, fun z j hj => (vu_n (by omega)).trans (r6 z j hj)⟩
/-- the reference's search -/
theorem mfb {Inv : jW → Prop} (hI : ∀ (W : jW) (a k : Nat) (x : Int), bSt a k → Inv W → Inv (vu W a k x)) (h9 : w ≤ 9) {W : jW} {l1 : Int} (hl : 0 ≤ l1 ∧ l1 ≤ 1000) (P : pMw W w can mus wo) (hW : Inv W) {F : Nat} (hF : 9 ^ 9 + 1 ≤ F) : ∃ V : jW, d_X12_findBest_r125d_20 F l1 1 (d_X12_firstGroups_r125d (vu (vu W 125 43 (-1)) 125 44 0)) = V ∧ pR1 Inv w can mus wo (sBe can mus wo w) V ∧ V.1 125 46 = wr ((sBe can mus wo w).2.2.2.2 ((sBe can mus wo w).1 - l1)) := by
  have bb := be_b (can := can) (mus := mus) (wo := wo) h9 (fun a b h1 h2 => (P.2 a b h1 h2).2.2.2)
  have R0 : pR1 Inv w can mus wo (-1, 0, (fun _ => 0), (fun _ => 0), fun _ => 0) (vu (vu W 125 43 (-1)) 125 44 0) := ⟨pMw_u (Or.inr (Or.inr ⟨rfl, Or.inr (Or.inl rfl)⟩)) (pMw_u (Or.inr (Or.inr ⟨rfl, Or.inl rfl⟩)) P), hI _ _ _ _ (Or.inr (Or.inr ⟨rfl, Or.inr (Or.inl rfl)⟩)) (hI _ _ _ _ (Or.inr (Or.inr ⟨rfl, Or.inl rfl⟩)) hW), (vu_n (by decide)).trans (vu_e rfl), vu_e rfl, by decide, fun z => absurd z (by decide)⟩
  obtain ⟨s1, s2⟩ := fg_e (Inv := pR1 Inv w can mus wo (-1, 0, (fun _ => 0), (fun _ => 0), fun _ => 0)) (fun W k x h => pR1_u hI (Or.inl rfl) h) 9 0 10 _ rfl (by decide) R0 (fun k hk => absurd hk (Nat.not_lt_zero k))
  obtain ⟨f, V, f0, v1, v2, v3⟩ := en_a (R := pR1 Inv w can mus wo) (w := w) (LP := fun f l W => d_X12_findBest_r125d_20 f l1 l W) (vis := vi1 w) (lf := lfB can mus wo w) (fun a W j x h => pR1_u hI (Or.inl rfl) h) h9 (fun f a W h3 _ hg => fb_20 h9 h3 hg f) (fun a W gr h3 R hg => hv1 hI h9 gr R hg) (fun j hj => s2 j (by omega)) s1.1.1 s1 hF
  have v1' : pR1 Inv w can mus wo (sBe can mus wo w) V := v1
  obtain ⟨f, rfl⟩ : ∃ q, f = q + 1 := ⟨f - 1, by omega⟩
  have e2 : d_X12_findBest_r125d_20 (f + 1) l1 0 V = d_X12_findBest_r125d_171 387420491 l1 1 (d_X12_firstGroups_r125d (vu V 125 46 0)) := if_pos rfl
  have hJ : ∀ (W : jW) (a k : Nat) (x : Int), (a = 145 ∨ (a = 125 ∧ k = 46)) → pR1 Inv w can mus wo (sBe can mus wo w) W → pR1 Inv w can mus wo (sBe can mus wo w) (vu W a k x) := fun W a k x h R => pR1_u hI h R
  have hR2 : ∀ (n : Int) (W : jW) (j : Nat) (x : Int), pR2 (pR1 Inv w can mus wo (sBe can mus wo w)) w can mus wo (sBe can mus wo w).1 n W → pR2 (pR1 Inv w can mus wo (sBe can mus wo w)) w can mus wo (sBe can mus wo w).1 n (vu W 145 j x) := fun n W j x h => ⟨pMw_u (Or.inl rfl) h.1, hJ W 145 j x (Or.inl rfl) h.2.1, (vu_n (by omega)).trans h.2.2.1, (vu_n (by omega)).trans h.2.2.2⟩
  have R2 : pR2 (pR1 Inv w can mus wo (sBe can mus wo w)) w can mus wo (sBe can mus wo w).1 0 (vu V 125 46 0) := ⟨pMw_u (Or.inr (Or.inr ⟨rfl, Or.inr (Or.inr rfl)⟩)) v1'.1, hJ _ _ _ _ (Or.inr ⟨rfl, rfl⟩) v1', (vu_n (by decide)).trans v1'.2.2.1, (vu_e rfl).trans wr_0.symm⟩
  obtain ⟨t1, t2⟩ := fg_e (Inv := pR2 (pR1 Inv w can mus wo (sBe can mus wo w)) w can mus wo (sBe can mus wo w).1 0) (fun W k x h => hR2 0 W k x h) 9 0 10 _ rfl (by decide) R2 (fun k hk => absurd hk (Nat.not_lt_zero k))
  obtain ⟨q, U, q0, u1, u2, u3⟩ := en_a (R := pR2 (pR1 Inv w can mus wo (sBe can mus wo w)) w can mus wo (sBe can mus wo w).1) (w := w) (LP := fun f l W => d_X12_findBest_r125d_171 f l1 l W) (vis := vi2 l1) (lf := lfR can mus wo w ((sBe can mus wo w).1 - l1)) hR2 h9 (fun f a W h3 _ hg => fb_171 f) (fun a W gr h3 R hg => hv2 hJ h9 bb.1 hl gr R hg) (fun j hj => t2 j (by omega)) t1.1.1 t1 (F := 387420491) (by decide)
  obtain ⟨q, rfl⟩ : ∃ z, q = z + 1 := ⟨q - 1, by omega⟩
  have e3 : d_X12_findBest_r125d_171 (q + 1) l1 0 U = U := if_pos rfl
  refine ⟨U, v3.trans (e2.trans (u3.trans e3)), u1.2.1, u1.2.2.2.trans ?_⟩
  have pr := tf_p (p := fun a : pjB => a.2.2.2.2 ((sBe can mus wo w).1 - l1)) (lf := lfB can mus wo w) (lg := lfR can mus wo w ((sBe can mus wo w).1 - l1)) (fun gr m a => by
    show (lfB can mus wo w gr m a).2.2.2.2 ((sBe can mus wo w).1 - l1) = lfR can mus wo w ((sBe can mus wo w).1 - l1) gr m (a.2.2.2.2 ((sBe can mus wo w).1 - l1))
    unfold lfB lfR
    by_cases c : tv (gdP can mus gr w) = 0
    · rw [if_pos c, if_pos c]
    · rw [if_neg c, if_neg c]
      unfold upB
      by_cases z : a.1 < wsm wo gr w ∨ (wsm wo gr w = a.1 ∧ (m : Int) < a.2.1)
      · rw [if_pos z]
      · rw [if_neg z]) w 0 (fun _ => 0) 0 (-1, 0, (fun _ => 0), (fun _ => 0), fun _ => 0)
  exact congrArg wr pr.symm
end
end jG101

section jG102
/-! pure: a JOINING that may be there always is one; pairs weighed by the reference -/
theorem tg_x {α : Type} {P : α → Prop} {s : Nat → α → α} (mono : ∀ j a, P a → P (s j a)) {k : Nat} (h : ∀ a, P (s k a)) : ∀ (n g : Nat) (a : α), g ≤ k → k < g + n → P (tgF s n g a) := by
  intro n
  induction n with
  | zero => intro g a h1 h2; omega
  | succ n ih =>
    intro g a h1 h2
    show P (tgF s n (g + 1) (s g a))
    by_cases z : g = k
    · rw [z]
      exact tg_v mono n (k + 1) _ (h a)
    · exact ih (g + 1) _ (by omega) (by omega)
section
variable {can mus : Nat → Nat → Prop} {wo : Nat → Nat → Int} {w : Nat}
theorem up_0 {ws : Int} {m : Nat} {gr : Nat → Int} {a : pjB} (h : 0 ≤ ws) : 0 ≤ (upB ws m gr a).1 := by
  unfold upB
  by_cases z : a.1 < ws ∨ (ws = a.1 ∧ (m : Int) < a.2.1)
  · rw [if_pos z]; exact h
  · rw [if_neg z]; show 0 ≤ a.1; omega
theorem lf_0 (h9 : w ≤ 9) (hw : ∀ a b : Nat, b < a → a < w → 0 ≤ wo a b ∧ wo a b ≤ 400) {gr : Nat → Int} {m : Nat} {a : pjB} (h : 0 ≤ a.1) : 0 ≤ (lfB can mus wo w gr m a).1 := by
  unfold lfB
  by_cases c : tv (gdP can mus gr w) = 0
  · rw [if_pos c]; exact h
  · rw [if_neg c]; exact up_0 (wsm_b w h9 hw).1
theorem be_x (h9 : w ≤ 9) (hw : ∀ a b : Nat, b < a → a < w → 0 ≤ wo a b ∧ wo a b ≤ 400) {so : Nat → Int} (hm : ∀ a b : Nat, b < a → a < w → (mus a b ↔ so a = so b)) (hc : ∀ a b : Nat, b < a → a < w → mus a b → can a b) : ∀ (c i m : Nat) (gr : Nat → Int) (a : pjB), i + c = w → mxG gr i = m → (∀ j : Nat, j < i → 0 ≤ gr j) → (∀ x y : Nat, y < x → x < i → (gr x = gr y ↔ so x = so y)) → 0 ≤ (tfF (lfB can mus wo w) c i gr m a).1 := by
  intro c
  induction c with
  | zero =>
    intro i m gr a e h1 h2 h3
    obtain rfl : i = w := by omega
    have gd : gdP can mus gr i := fun x y k1 k2 => ⟨fun q => hc x y k1 k2 ((hm x y k1 k2).mpr ((h3 x y k1 k2).mp q)), fun q z => q ((h3 x y k1 k2).mpr ((hm x y k1 k2).mp z))⟩
    show 0 ≤ (lfB can mus wo i gr m a).1
    unfold lfB
    rw [tv_t gd, if_neg (show ¬ (1 : Int) = 0 from by decide)]
    exact up_0 (wsm_b i h9 hw).1
  | succ c ih =>
    intro i m gr a e h1 h2 h3
    have mono : ∀ (j : Nat) (a : pjB), 0 ≤ a.1 → 0 ≤ (tfF (lfB can mus wo w) c (i + 1) (sU gr i (j : Int)) (if j = m then m + 1 else m) a).1 := fun j a q => tf_v (P := fun a : pjB => 0 ≤ a.1) (fun gr m a q => lf_0 h9 hw q) c _ _ _ a q
    have key : ∀ g : Nat, g ≤ m → (∀ y : Nat, y < i → ((g : Int) = gr y ↔ so i = so y)) → 0 ≤ (tfF (lfB can mus wo w) (c + 1) i gr m a).1 := fun g hg hy => by
      refine tg_x (P := fun a : pjB => 0 ≤ a.1) mono (k := g) (fun a => ?_) (m + 1) 0 a (by omega) (by omega)
      refine ih (i + 1) (if g = m then m + 1 else m) (sU gr i (g : Int)) a (by omega) (by rw [← h1]; exact mx_u (by omega)) (fun j hj => ?_) (fun x y k1 k2 => ?_)
      · show 0 ≤ if j = i then (g : Int) else gr j
        by_cases z : j = i
        · rw [if_pos z]; omega
        · rw [if_neg z]; exact h2 j (by omega)
      · show (if x = i then (g : Int) else gr x) = (if y = i then (g : Int) else gr y) ↔ so x = so y
        rw [if_neg (show ¬ y = i from by omega)]
        by_cases z : x = i
        · rw [if_pos z, z]; exact hy y (by omega)
        · rw [if_neg z]; exact h3 x y k1 (by omega)
    by_cases ex : ∃ j : Nat, j < i ∧ so i = so j
    · obtain ⟨j, j1, j2⟩ := ex
      have b := mxG_b (gr := gr) i j j1
      have p := h2 j j1
      refine key (gr j).toNat (by omega) (fun y hy => ?_)
      rw [show (((gr j).toNat : Nat) : Int) = gr j from by omega, j2]
      rcases Nat.lt_trichotomy j y with k | k | k
      · have q := h3 y j k hy
        exact ⟨fun z => (q.mp z.symm).symm, fun z => (q.mpr z.symm).symm⟩
      · rw [k]; exact ⟨fun _ => rfl, fun _ => rfl⟩
      · exact h3 j y k j1
    · refine key m (by omega) (fun y hy => ⟨fun z => ?_, fun z => absurd ⟨y, hy, z⟩ ex⟩)
      have b := mxG_b (gr := gr) i y hy
      have p := h2 y hy
      omega
theorem be_0 (h9 : w ≤ 9) (hw : ∀ a b : Nat, b < a → a < w → 0 ≤ wo a b ∧ wo a b ≤ 400) {so : Nat → Int} (hm : ∀ a b : Nat, b < a → a < w → (mus a b ↔ so a = so b)) (hc : ∀ a b : Nat, b < a → a < w → mus a b → can a b) : 0 ≤ (sBe can mus wo w).1 := be_x h9 hw hm hc w 0 0 _ _ (by omega) rfl (fun j hj => absurd hj (Nat.not_lt_zero j)) (fun x y _ h => absurd h (Nat.not_lt_zero x))
end
/-! WORTH is the same either way round -/
theorem sKn_s {E : pE} {a b : Nat} : sKn E a b ↔ sKn E b a := by
  have q : ∀ a b : Nat, sKn E a b → sKn E b a := fun a b ⟨i, k, h1, h2, h3, h4, h5, h6, h7, h8, h9, h10⟩ => ⟨k, i, h2, h1, h4, h3, h7, h8, h5, h6, sAl_s.mp h9, by rw [sWhy_s]; exact h10⟩
  exact ⟨q a b, q b a⟩
theorem sWo_s {t1 t2 t3 t4 : Int} {E : pE} {a b : Nat} : sWo t1 t2 t3 t4 E a b = sWo t1 t2 t3 t4 E b a := by
  unfold sWo
  rw [tv_e (show sIn E a 0 ∧ sIn E b 0 ↔ sIn E b 0 ∧ sIn E a 0 from ⟨fun h => ⟨h.2, h.1⟩, fun h => ⟨h.2, h.1⟩⟩), tv_e (show sIn E a 1 ∧ sIn E b 1 ∧ sAl E a b 1 ↔ sIn E b 1 ∧ sIn E a 1 ∧ sAl E b a 1 from ⟨fun h => ⟨h.2.1, h.1, sAl_s.mp h.2.2⟩, fun h => ⟨h.2.1, h.1, sAl_s.mp h.2.2⟩⟩), tv_e (show sAg E a b ↔ sAg E b a from by unfold sAg; exact ⟨fun h => h.elim Or.inr Or.inl, fun h => h.elim Or.inr Or.inl⟩), tv_e (sKn_s (a := a) (b := b))]
theorem sWo_b {t1 t2 t3 t4 : Int} {E : pE} {a b : Nat} (h1 : 0 ≤ t1 ∧ t1 ≤ 100) (h2 : 0 ≤ t2 ∧ t2 ≤ 100) (h3 : 0 ≤ t3 ∧ t3 ≤ 100) (h4 : 0 ≤ t4 ∧ t4 ≤ 100) : 0 ≤ sWo t1 t2 t3 t4 E a b ∧ sWo t1 t2 t3 t4 E a b ≤ 400 := by
  unfold sWo
  generalize tv (sIn E a 0 ∧ sIn E b 0) = p1
  generalize tv (sIn E a 1 ∧ sIn E b 1 ∧ sAl E a b 1) = p2
  generalize tv (sAg E a b) = p3
  generalize tv (sKn E a b) = p4
  repeat' split
  all_goals omega
/-- the terms of a JOINING: mentions that are wished, wm -/
def sCan (E : pE) (wm : Nat → Nat) (a b : Nat) : Prop := sWhy E (wm a) (wm b) = 0
def sMus (g : Nat → Int) (wm : Nat → Nat) (a b : Nat) : Prop := g (wm a) = g (wm b)
noncomputable def sWm (t : Int × Int × Int × Int) (E : pE) (wm : Nat → Nat) (a b : Nat) : Int := if sWhy E (wm a) (wm b) = 0 then sWo t.1 t.2.1 t.2.2.1 t.2.2.2 E (wm a) (wm b) else 0
def pTm (t : Int × Int × Int × Int) : Prop := (0 ≤ t.1 ∧ t.1 ≤ 100) ∧ (0 ≤ t.2.1 ∧ t.2.1 ≤ 100) ∧ (0 ≤ t.2.2.1 ∧ t.2.2.1 ≤ 100) ∧ (0 ≤ t.2.2.2 ∧ t.2.2.2 ≤ 100)
theorem sWm_b {t : Int × Int × Int × Int} {E : pE} {wm : Nat → Nat} (h : pTm t) (a b : Nat) : 0 ≤ sWm t E wm a b ∧ sWm t E wm a b ≤ 400 := by
  unfold sWm
  by_cases z : sWhy E (wm a) (wm b) = 0
  · rw [if_pos z]; exact sWo_b h.1 h.2.1 h.2.2.1 h.2.2.2
  · rw [if_neg z]; decide
/-- what weighing needs of the reference -/
def pWi (W : jW) (E : pE) (g : Nat → Int) (t : Int × Int × Int × Int) (w : Nat) (wm : Nat → Nat) : Prop := eOf W = E ∧ pYm W ∧ (∀ m : Nat, m < sNl E → W.1 139 m = g m) ∧ (W.1 125 23 = t.1 ∧ W.1 125 24 = t.2.1 ∧ W.1 125 25 = t.2.2.1 ∧ W.1 125 26 = t.2.2.2) ∧ W.1 125 36 = (w : Int) ∧ ∀ a : Nat, a < w → W.1 141 a = (wm a : Int) ∧ sMn E (wm a) ∧ wm a < sNl E
theorem pWi_e {W V : jW} {E : pE} {g : Nat → Int} {t : Int × Int × Int × Int} {w : Nat} {wm : Nat → Nat} (e : ∀ c : Nat, c = 126 ∨ c = 132 ∨ c = 133 ∨ c = 134 ∨ c = 139 ∨ c = 141 → V.1 c = W.1 c) (e5 : ∀ k : Nat, (23 ≤ k ∧ k ≤ 27) ∨ k = 36 → V.1 125 k = W.1 125 k) (P : pWi W E g t w wm) : pWi V E g t w wm := by
  obtain ⟨p1, p2, p3, p4, p5, p6⟩ := P
  have ee : eOf V = eOf W := by
    unfold eOf
    rw [e 126 (by decide), e 132 (by decide), e 133 (by decide), e 134 (by decide), e5 27 (by decide)]
  refine ⟨ee.trans p1, pYm_e ee p2, fun m hm => by rw [e 139 (by decide)]; exact p3 m hm, ⟨(e5 23 (by decide)).trans p4.1, (e5 24 (by decide)).trans p4.2.1, (e5 25 (by decide)).trans p4.2.2.1, (e5 26 (by decide)).trans p4.2.2.2⟩, (e5 36 (by decide)).trans p5, fun a ha => by rw [e 141 (by decide)]; exact p6 a ha⟩
theorem pWi_u {W : jW} {E : pE} {g : Nat → Int} {t : Int × Int × Int × Int} {w : Nat} {wm : Nat → Nat} {a k : Nat} {x : Int} (h : a = 142 ∨ a = 143 ∨ a = 144 ∨ (a = 125 ∧ k = 45)) (P : pWi W E g t w wm) : pWi (vu W a k x) E g t w wm := pWi_e (fun c hc => vu_c (by omega)) (fun j hj => vu_n (by omega)) P
theorem pWi_F {l : List (Nat × Nat)} {W V : jW} {E : pE} {g : Nat → Int} {t : Int × Int × Int × Int} {w : Nat} {wm : Nat → Nat} (F : pF [(137, 0), (138, 0)] W V) (P : pWi W E g t w wm) : pWi V E g t w wm := pWi_e (fun c hc => by
  rcases hc with rfl | rfl | rfl | rfl | rfl | rfl <;> exact pF_c F rfl) (fun k hk => F.1 125 k rfl) P
/-- pairs that are weighed -/
def pWd (W : jW) (E : pE) (g : Nat → Int) (t : Int × Int × Int × Int) (wm : Nat → Nat) (a b : Nat) : Prop := (∀ x y : Nat, y < x → (x < a ∨ (x = a ∧ y < b)) → (W.1 142 (9 * x + y) = 0 ↔ ¬ sCan E wm x y) ∧ (W.1 143 (9 * x + y) = 0 ↔ ¬ sMus g wm x y) ∧ W.1 144 (9 * x + y) = sWm t E wm x y) ∧ W.1 125 45 = wsm (sWm t E wm) (fun _ => 0) a + wrw (sWm t E wm a) (fun _ => 0) 0 b
section
variable {E : pE} {g : Nat → Int} {t : Int × Int × Int × Int} {w : Nat} {wm : Nat → Nat}
theorem w_24 {K : Int → jW → jW} (h9 : w ≤ 9) (ht : pTm t) {a : Nat} (ha : a < w) : ∀ (c b r : Nat) (W : jW), b + c = a → c < r → pWi W E g t w wm → pWd W E g t wm a b → ∃ V : jW, d_X12_weigh_r125d_24 K r (a : Int) (b : Int) W = K ((a : Int) + 1) V ∧ pWi V E g t w wm ∧ pWd V E g t wm (a + 1) 0 := by
  intro c
  induction c with
  | zero =>
    intro b r W e hr P D
    obtain ⟨r, rfl⟩ : ∃ q, r = q + 1 := ⟨r - 1, by omega⟩
    obtain rfl : b = a := by omega
    refine ⟨W, if_pos (Int.le_refl _), P, fun x y h1 h2 => D.1 x y h1 (by omega), ?_⟩
    rw [D.2]
    exact (Int.add_zero _).symm
  | succ c ih =>
    intro b r W e hr P D
    obtain ⟨r, rfl⟩ : ∃ q, r = q + 1 := ⟨r - 1, by omega⟩
    have wa := P.2.2.2.2.2 a ha
    have wb := P.2.2.2.2.2 b (by omega)
    have F1 : pF [(137, 0), (138, 0)] W (d_X12_why_r125d (wm a : Int) (wm b : Int) W).2 := fr_d_X12_why_r125d _ _ _
    have y1 := mwy P.2.1 (by rw [P.1]; exact wa.2.1) (by rw [P.1]; exact wb.2.1)
    rw [P.1] at y1
    have ix : ((9 * (a : Int)) + (b : Int)).toNat = 9 * a + b := by omega
    have st : d_X12_weigh_r125d_24 K (r + 1) (a : Int) (b : Int) W = (if (d_X12_why_r125d (wm a : Int) (wm b : Int) W).1 = 0 then d_X12_weigh_r125d_300063 K (fun l1 l2 W => d_X12_weigh_r125d_24 K r l1 l2 W) (a : Int) (b : Int) ((9 * (a : Int)) + (b : Int)) (d_X12_why_r125d (wm a : Int) (wm b : Int) W).2 else d_X12_weigh_r125d_200063 K (fun l1 l2 W => d_X12_weigh_r125d_24 K r l1 l2 W) (a : Int) (b : Int) ((9 * (a : Int)) + (b : Int)) (d_X12_why_r125d (wm a : Int) (wm b : Int) W).2) := by
      refine (if_neg (by omega)).trans ?_
      rw [show ((a : Int)).toNat = a from by omega, show ((b : Int)).toNat = b from by omega, wa.1, wb.1]
    have P1 := pWi_F (l := []) F1 P
    have D1 : pWd (d_X12_why_r125d (wm a : Int) (wm b : Int) W).2 E g t wm a b := by
      unfold pWd
      rw [show (d_X12_why_r125d (wm a : Int) (wm b : Int) W).2.1 142 = W.1 142 from pF_c F1 rfl, show (d_X12_why_r125d (wm a : Int) (wm b : Int) W).2.1 143 = W.1 143 from pF_c F1 rfl, show (d_X12_why_r125d (wm a : Int) (wm b : Int) W).2.1 144 = W.1 144 from pF_c F1 rfl, F1.1 125 45 rfl]
      exact D
    rw [st, y1]
    generalize (d_X12_why_r125d (wm a : Int) (wm b : Int) W).2 = W1 at *
    have wa1 := P1.2.2.2.2.2 a ha
    have wb1 := P1.2.2.2.2.2 b (by omega)
    have ga := P1.2.2.1 (wm a) wa.2.2
    have gb := P1.2.2.1 (wm b) wb.2.2
    have bw := wsm_b (wo := sWm t E wm) (gr := fun _ => 0) a (by omega) (fun x z _ _ => sWm_b ht x z)
    have br := wrw_b (wo := sWm t E wm a) (gr := fun _ => 0) (x := 0) b (fun j _ => sWm_b ht a j)
    have bv := sWm_b (t := t) (E := E) (wm := wm) ht a b
    have bb : (a : Int) * ((a : Int) - 1) ≤ 72 := by
      rcases (show a = 0 ∨ a = 1 ∨ a = 2 ∨ a = 3 ∨ a = 4 ∨ a = 5 ∨ a = 6 ∨ a = 7 ∨ a = 8 from by omega) with rfl | rfl | rfl | rfl | rfl | rfl | rfl | rfl | rfl <;> decide
    have wn : wrw (sWm t E wm a) (fun _ => 0) 0 (b + 1) = wrw (sWm t E wm a) (fun _ => 0) 0 b + sWm t E wm a b := rfl
    -- the end of a pair
    have fin : ∀ (U : jW) (v cv mv : Int), pWi U E g t w wm → (∀ k : Nat, k ≠ 9 * a + b → U.1 142 k = W1.1 142 k ∧ U.1 143 k = W1.1 143 k) → (∀ k : Nat, U.1 144 k = W1.1 144 k) → U.1 125 45 = W1.1 125 45 → U.1 142 (9 * a + b) = cv → U.1 143 (9 * a + b) = mv → (cv = 0 ↔ ¬ sCan E wm a b) → (mv = 0 ↔ ¬ sMus g wm a b) → v = sWm t E wm a b → ∃ V : jW, d_X12_weigh_r125d_24 K r (a : Int) ((b : Int) + 1) (vu (vu U 144 (9 * a + b) v) 125 45 (j_iadd (U.1 125 45) ((vu U 144 (9 * a + b) v).1 144 (9 * a + b)))) = K ((a : Int) + 1) V ∧ pWi V E g t w wm ∧ pWd V E g t wm (a + 1) 0 := fun U v cv mv PU u1 u2 u3 u4 u5 hc hm hv => by
      have e1 : (vu U 144 (9 * a + b) v).1 144 (9 * a + b) = v := vu_e rfl
      rw [e1, u3, D1.2, hv, j_ia (by omega) (by omega) (by omega)]
      have y := ih (b + 1) r (vu (vu U 144 (9 * a + b) (sWm t E wm a b)) 125 45 (wsm (sWm t E wm) (fun _ => 0) a + wrw (sWm t E wm a) (fun _ => 0) 0 b + sWm t E wm a b)) (by omega) (by omega) (pWi_u (Or.inr (Or.inr (Or.inr ⟨rfl, rfl⟩))) (pWi_u (Or.inr (Or.inr (Or.inl rfl))) PU)) ⟨fun x z h1 h2 => ?_, by rw [wn, ← Int.add_assoc]; exact vu_e rfl⟩
      · rw [show ((b + 1 : Nat) : Int) = (b : Int) + 1 from by omega] at y
        exact y
      · have n142 : (vu (vu U 144 (9 * a + b) (sWm t E wm a b)) 125 45 (wsm (sWm t E wm) (fun _ => 0) a + wrw (sWm t E wm a) (fun _ => 0) 0 b + sWm t E wm a b)).1 142 = U.1 142 := (vu_c (by decide)).trans (vu_c (by decide))
        have n143 : (vu (vu U 144 (9 * a + b) (sWm t E wm a b)) 125 45 (wsm (sWm t E wm) (fun _ => 0) a + wrw (sWm t E wm a) (fun _ => 0) 0 b + sWm t E wm a b)).1 143 = U.1 143 := (vu_c (by decide)).trans (vu_c (by decide))
        rw [n142, n143]
        by_cases q : x = a ∧ z = b
        · obtain ⟨q1, q2⟩ := q
          subst q1
          subst q2
          rw [u4, u5]
          exact ⟨hc, hm, (vu_n (by omega)).trans (vu_e rfl)⟩
        · have ne : 9 * x + z ≠ 9 * a + b := by omega
          have d := D1.1 x z h1 (by omega)
          rw [(u1 _ ne).1, (u1 _ ne).2]
          exact ⟨d.1, d.2.1, ((vu_n (by omega)).trans ((vu_n (by omega)).trans (u2 _))).trans d.2.2⟩
    have tail : ∀ cv mv : Int, (cv = 0 ↔ ¬ sCan E wm a b) → (mv = 0 ↔ ¬ sMus g wm a b) → ∃ V : jW, (if (vu W1 142 (9 * a + b) cv).1 142 (9 * a + b) = 0 then d_X12_weigh_r125d_200149 K (fun l1 l2 W => d_X12_weigh_r125d_24 K r l1 l2 W) (a : Int) (b : Int) ((9 * (a : Int)) + (b : Int)) (vu (vu W1 142 (9 * a + b) cv) 143 (9 * a + b) mv) else d_X12_weigh_r125d_149 K (fun l1 l2 W => d_X12_weigh_r125d_24 K r l1 l2 W) (a : Int) (b : Int) (d_X12_worthOf_r125d (wm a : Int) (wm b : Int) (vu (vu W1 142 (9 * a + b) cv) 143 (9 * a + b) mv)).1 ((9 * (a : Int)) + (b : Int)) (d_X12_worthOf_r125d (wm a : Int) (wm b : Int) (vu (vu W1 142 (9 * a + b) cv) 143 (9 * a + b) mv)).2) = K ((a : Int) + 1) V ∧ pWi V E g t w wm ∧ pWd V E g t wm (a + 1) 0 := fun cv mv hc hm => by
      have P2 : pWi (vu (vu W1 142 (9 * a + b) cv) 143 (9 * a + b) mv) E g t w wm := pWi_u (Or.inr (Or.inl rfl)) (pWi_u (Or.inl rfl) P1)
      have i1 : ∀ k : Nat, k ≠ 9 * a + b → (vu (vu W1 142 (9 * a + b) cv) 143 (9 * a + b) mv).1 142 k = W1.1 142 k ∧ (vu (vu W1 142 (9 * a + b) cv) 143 (9 * a + b) mv).1 143 k = W1.1 143 k := fun k hk => ⟨(vu_n (by omega)).trans (vu_n (by omega)), (vu_n (by omega)).trans (vu_n (by omega))⟩
      have i2 : ∀ k : Nat, (vu (vu W1 142 (9 * a + b) cv) 143 (9 * a + b) mv).1 144 k = W1.1 144 k := fun k => (vu_n (by omega)).trans (vu_n (by omega))
      have i3 : (vu (vu W1 142 (9 * a + b) cv) 143 (9 * a + b) mv).1 125 45 = W1.1 125 45 := (vu_n (by omega)).trans (vu_n (by omega))
      have i4 : (vu (vu W1 142 (9 * a + b) cv) 143 (9 * a + b) mv).1 142 (9 * a + b) = cv := (vu_n (by omega)).trans (vu_e rfl)
      have i5 : (vu (vu W1 142 (9 * a + b) cv) 143 (9 * a + b) mv).1 143 (9 * a + b) = mv := vu_e rfl
      rw [show (vu W1 142 (9 * a + b) cv).1 142 (9 * a + b) = cv from vu_e rfl]
      generalize vu (vu W1 142 (9 * a + b) cv) 143 (9 * a + b) mv = U at *
      by_cases z : cv = 0
      · rw [if_pos z]
        unfold d_X12_weigh_r125d_200149
        rw [ix]
        refine fin U 0 cv mv P2 i1 i2 i3 i4 i5 hc hm ?_
        have nc : ¬ sCan E wm a b := hc.mp z
        exact (if_neg nc).symm
      · rw [if_neg z]
        have yc : sCan E wm a b := Classical.byContradiction fun h => z (hc.mpr h)
        have F2 : pF [(137, 0), (138, 0)] U (d_X12_worthOf_r125d (wm a : Int) (wm b : Int) U).2 := fr_d_X12_worthOf_r125d _ _ _
        have y2 := mwo P2.2.1 (by rw [P2.1]; exact wa.2.1) (by rw [P2.1]; exact wb.2.1)
        rw [P2.1, P2.2.2.2.1.1, P2.2.2.2.1.2.1, P2.2.2.2.1.2.2.1, P2.2.2.2.1.2.2.2] at y2
        unfold d_X12_weigh_r125d_149
        rw [ix, y2]
        have P3 := pWi_F (l := []) F2 P2
        have g2 : (d_X12_worthOf_r125d (wm a : Int) (wm b : Int) U).2.1 142 = U.1 142 := pF_c F2 rfl
        have g3 : (d_X12_worthOf_r125d (wm a : Int) (wm b : Int) U).2.1 143 = U.1 143 := pF_c F2 rfl
        have g4 : (d_X12_worthOf_r125d (wm a : Int) (wm b : Int) U).2.1 144 = U.1 144 := pF_c F2 rfl
        have g5 : (d_X12_worthOf_r125d (wm a : Int) (wm b : Int) U).2.1 125 45 = U.1 125 45 := F2.1 125 45 rfl
        generalize (d_X12_worthOf_r125d (wm a : Int) (wm b : Int) U).2 = U2 at *
        exact fin U2 _ cv mv P3 (fun k hk => by rw [g2, g3]; exact i1 k hk) (fun k => by rw [g4]; exact i2 k) (g5.trans i3) (by rw [g2]; exact i4) (by rw [g3]; exact i5) hc hm (if_pos yc).symm
    have mid : ∀ cv : Int, (cv = 0 ↔ ¬ sCan E wm a b) → ∃ V : jW, (if W1.1 139 (W1.1 141 a).toNat = W1.1 139 (W1.1 141 b).toNat then d_X12_weigh_r125d_300104 K (fun l1 l2 W => d_X12_weigh_r125d_24 K r l1 l2 W) (a : Int) (b : Int) ((9 * (a : Int)) + (b : Int)) (vu W1 142 (9 * a + b) cv) else d_X12_weigh_r125d_200104 K (fun l1 l2 W => d_X12_weigh_r125d_24 K r l1 l2 W) (a : Int) (b : Int) ((9 * (a : Int)) + (b : Int)) (vu W1 142 (9 * a + b) cv)) = K ((a : Int) + 1) V ∧ pWi V E g t w wm ∧ pWd V E g t wm (a + 1) 0 := fun cv hc => by
      have v141 : (vu W1 142 (9 * a + b) cv).1 141 = W1.1 141 := vu_c (by decide)
      unfold d_X12_weigh_r125d_300104 d_X12_weigh_r125d_200104
      rw [v141, show ((a : Int)).toNat = a from by omega, show ((b : Int)).toNat = b from by omega, wa1.1, wb1.1, ix, show ((wm a : Int)).toNat = wm a from by omega, show ((wm b : Int)).toNat = wm b from by omega, ga, gb]
      by_cases z : g (wm a) = g (wm b)
      · rw [if_pos z]; exact tail cv 1 hc ⟨fun h => absurd h (by decide), fun h => absurd z h⟩
      · rw [if_neg z]; exact tail cv 0 hc ⟨fun _ => z, fun _ => rfl⟩
    by_cases z : sWhy E (wm a) (wm b) = 0
    · rw [if_pos z]
      unfold d_X12_weigh_r125d_300063
      rw [show ((a : Int)).toNat = a from by omega, show ((b : Int)).toNat = b from by omega, ix]
      exact mid 1 ⟨fun h => absurd h (by decide), fun h => absurd z h⟩
    · rw [if_neg z]
      unfold d_X12_weigh_r125d_200063
      rw [show ((a : Int)).toNat = a from by omega, show ((b : Int)).toNat = b from by omega, ix]
      exact mid 0 ⟨fun _ => z, fun _ => rfl⟩
theorem w_14 (h9 : w ≤ 9) (ht : pTm t) : ∀ (c a r : Nat) (W : jW), a + c = w → c < r → pWi W E g t w wm → pWd W E g t wm a 0 → pWi (d_X12_weigh_r125d_14 r (a : Int) W) E g t w wm ∧ pWd (d_X12_weigh_r125d_14 r (a : Int) W) E g t wm w 0 := by
  intro c
  induction c with
  | zero =>
    intro a r W e hr P D
    obtain ⟨r, rfl⟩ : ∃ q, r = q + 1 := ⟨r - 1, by omega⟩
    obtain rfl : a = w := by omega
    have st : d_X12_weigh_r125d_14 (r + 1) (a : Int) W = W := if_pos (by rw [P.2.2.2.2.1]; omega)
    rw [st]
    exact ⟨P, D⟩
  | succ c ih =>
    intro a r W e hr P D
    obtain ⟨r, rfl⟩ : ∃ q, r = q + 1 := ⟨r - 1, by omega⟩
    obtain ⟨V, v1, v2, v3⟩ := w_24 (K := fun l1 W => d_X12_weigh_r125d_14 r l1 W) h9 ht (a := a) (by omega) a 0 9 W (by omega) (by omega) P D
    have st : d_X12_weigh_r125d_14 (r + 1) (a : Int) W = d_X12_weigh_r125d_14 r ((a + 1 : Nat) : Int) V := by
      rw [show ((a + 1 : Nat) : Int) = (a : Int) + 1 from by omega]
      exact (if_neg (by rw [P.2.2.2.2.1]; omega)).trans v1
    rw [st]
    exact ih (a + 1) r V (by omega) (by omega) v2 v3
/-- the reference: the best JOINING -/
theorem mfB {W : jW} {l1 : Int} (h9 : w ≤ 9) (ht : pTm t) (hl : 0 ≤ l1 ∧ l1 ≤ 1000) (P : pWi (d_X12_find_r125d 146399 W) E g t w wm) : (d_X12_findBest_r125d l1 W).1 125 43 = (sBe (sCan E wm) (sMus g wm) (sWm t E wm) w).1 ∧ (d_X12_findBest_r125d l1 W).1 125 44 = (sBe (sCan E wm) (sMus g wm) (sWm t E wm) w).2.1 ∧ (d_X12_findBest_r125d l1 W).1 125 45 = wsm (sWm t E wm) (fun _ => 0) w ∧ (d_X12_findBest_r125d l1 W).1 125 46 = wr ((sBe (sCan E wm) (sMus g wm) (sWm t E wm) w).2.2.2.2 ((sBe (sCan E wm) (sMus g wm) (sWm t E wm) w).1 - l1)) ∧ (0 ≤ (sBe (sCan E wm) (sMus g wm) (sWm t E wm) w).1 → ∀ j : Nat, j < w → (d_X12_findBest_r125d l1 W).1 146 j = (sBe (sCan E wm) (sMus g wm) (sWm t E wm) w).2.2.1 j) ∧ pWi (d_X12_findBest_r125d l1 W) E g t w wm := by
  obtain ⟨q1, q2⟩ := w_14 h9 ht w 0 10 (vu (d_X12_find_r125d 146399 W) 125 45 0) (by omega) (by omega) (pWi_u (Or.inr (Or.inr (Or.inr ⟨rfl, rfl⟩))) P) ⟨fun x y _ h => by omega, vu_e rfl⟩
  have ew : d_X12_weigh_r125d W = d_X12_weigh_r125d_14 10 ((0 : Nat) : Int) (vu (d_X12_find_r125d 146399 W) 125 45 0) := rfl
  rw [← ew] at q1 q2
  have M : pMw (d_X12_weigh_r125d W) w (sCan E wm) (sMus g wm) (sWm t E wm) := ⟨q1.2.2.2.2.1, fun a b h1 h2 => ⟨(q2.1 a b h1 (by omega)).1, (q2.1 a b h1 (by omega)).2.1, (q2.1 a b h1 (by omega)).2.2, sWm_b ht a b⟩⟩
  have b45 : (d_X12_weigh_r125d W).1 125 45 = wsm (sWm t E wm) (fun _ => 0) w := q2.2.trans (Int.add_zero _)
  obtain ⟨V, v1, v2, v3⟩ := mfb (Inv := fun U => pWi U E g t w wm ∧ U.1 125 45 = wsm (sWm t E wm) (fun _ => 0) w) (fun U a k x h Q => by
    unfold bSt at h
    exact ⟨pWi_e (fun c hc => vu_c (by omega)) (fun j hj => vu_n (by omega)) Q.1, (vu_n (by omega)).trans Q.2⟩) h9 hl M ⟨q1, b45⟩ (F := 387420491) (by decide)
  have e : d_X12_findBest_r125d l1 W = V := v1
  rw [e]
  exact ⟨v2.2.2.1, v2.2.2.2.1, v2.2.1.2, v3, v2.2.2.2.2.2, v2.2.1.1⟩
end
end jG102
