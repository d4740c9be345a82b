section jG108
/-! pure: calls that ask of a MENTION as known on a DAY -/
def sKw (E : pE) (kn a : Int) : Prop := (0 ≤ kn ∧ kn ≤ 146399) ∧ sMe E a ∧ (sGs E kn).1 a.toNat ≠ -1
def gX (a kn : Int) (W : jW) (B : Int × jW) : Int × jW := if 0 ≤ kn ∧ kn ≤ 146399 then hX a W (-1, W) (if (d_X7_asKnown_r78d kn W).1 82 a.toNat = -1 then (-1, d_X7_asKnown_r78d kn W) else B) else (-1, W)
def gM (a kn : Int) (W : jW) (B : Int × jW) : Int × jW := hM a W (-1, vu W 125 0 0) (if 0 ≤ kn ∧ kn ≤ 146399 then (if (d_X12_find_r125d kn (vu W 125 0 0)).1 139 a.toNat = -1 then (-1, d_X12_find_r125d kn (vu W 125 0 0)) else B) else (-1, vu W 125 0 0))
section
variable {X M : jW} {E : pE} {t : jT} {w : Nat} {wm : Nat → Nat} {a kn : Int}
theorem kw_p (V : pEv E t w wm) (h : sKw E kn a) : ∃ p : Nat, (sGs E kn).1 a.toNat = (p : Int) ∧ p < sNl E ∧ (sGs E kn).1 p = (p : Int) := by
  have b := V.2.2.2.2.2.2.2.2.2.2.2.2.2.2.2
  have hm : a.toNat < sNl E := by have := h.2.1.2.1; unfold sNl; omega
  rcases ev_g V kn a.toNat hm with y | ⟨y1, y2, y3, y4⟩
  · exact absurd y h.2.2
  · exact ⟨((sGs E kn).1 a.toNat).toNat, by omega, by omega, by rw [y4]; omega⟩
theorem me_l (V : pEv E t w wm) (h : sMe E a) : a.toNat < sNl E := by
  have b := V.2.2.2.2.2.2.2.2.2.2.2.2.2.2.2
  have := h.2.1
  unfold sNl
  omega
/-- the class -/
theorem qX {B : Int × jW} {f : Int} (P : pCp X E t w wm) (K : pCk X E t w wm) (V : pEv E t w wm) (hB : ∀ p : Nat, sKw E kn a → pCp (d_X7_asKnown_r78d kn X) E t w wm → pCk (d_X7_asKnown_r78d kn X) E t w wm → pVk (d_X7_asKnown_r78d kn X) E kn → (d_X7_asKnown_r78d kn X).1 82 a.toNat = (p : Int) → p < sNl E → (sGs E kn).1 p = (p : Int) → B.1 = f ∧ pCk B.2 E t w wm) : (gX a kn X B).1 = (if tv (sKw E kn a) = 0 then -1 else f) ∧ pCk (gX a kn X B).2 E t w wm := by
  obtain ⟨P1, K1, Q1, G1, y1⟩ := c_as P K V kn
  have e33 : X.1 33 3 = E.1 0 := (P.2.1.1 pt_0 (by decide)).1
  unfold gX
  by_cases c1 : 0 ≤ kn ∧ kn ≤ 146399
  · rw [if_pos c1, hX_e P.1 e33 V.2.2.2.2.2.2.2.2.2.2.2.2.2.2.2]
    by_cases c2 : sMe E a
    · rw [tv_t c2, if_neg (show ¬ (1 : Int) = 0 from by decide)]
      have e82 := G1.1 a.toNat (me_l V c2)
      by_cases c3 : (sGs E kn).1 a.toNat = -1
      · rw [if_pos (e82.trans c3), if_pos (tv_f (fun h => h.2.2 c3))]
        exact ⟨rfl, K1⟩
      · have k : sKw E kn a := ⟨c1, c2, c3⟩
        obtain ⟨p, p1, p2, p3⟩ := kw_p V k
        rw [if_neg (by rw [e82]; exact c3), tv_t k, if_neg (show ¬ (1 : Int) = 0 from by decide)]
        exact hB p k P1 K1 Q1 (e82.trans p1) p2 p3
    · rw [if_pos (tv_f c2), if_pos (tv_f (fun h => c2 h.2.1))]
      exact ⟨rfl, K⟩
  · rw [if_neg c1, if_pos (tv_f (fun h => c1 h.1))]
    exact ⟨rfl, K⟩
/-- the reference -/
theorem qM {B : Int × jW} {f : Int} (P : pCm M E t w wm) (Y : pYm M) (V : pEv E t w wm) (hB : ∀ p : Nat, sKw E kn a → pAs (d_X12_find_r125d kn (vu M 125 0 0)) E (sGs E kn).1 kn → pCm (d_X12_find_r125d kn (vu M 125 0 0)) E t w wm → (d_X12_find_r125d kn (vu M 125 0 0)).1 139 a.toNat = (p : Int) → p < sNl E → (sGs E kn).1 p = (p : Int) → B.1 = f) : (gM a kn M B).1 = if tv (sKw E kn a) = 0 then -1 else f := by
  have P0 : pCm (vu M 125 0 0) E t w wm := cm_u P (Or.inl ⟨rfl, Or.inl (by decide)⟩)
  have Y0 : pYm (vu M 125 0 0) := pYm_e (P0.1.trans P.1.symm) Y
  obtain ⟨A1, G1, P1, _⟩ := m_fi P0 Y0 V kn
  unfold gM
  rw [hM_e (cm_126 P) A1.1.2.1]
  by_cases c2 : sMe E a
  · rw [tv_t c2, if_neg (show ¬ (1 : Int) = 0 from by decide)]
    by_cases c1 : 0 ≤ kn ∧ kn ≤ 146399
    · rw [if_pos c1]
      have e139 := G1.1 a.toNat (me_l V c2)
      by_cases c3 : (sGs E kn).1 a.toNat = -1
      · rw [if_pos (e139.trans c3), if_pos (tv_f (fun h => h.2.2 c3))]
      · have k : sKw E kn a := ⟨c1, c2, c3⟩
        obtain ⟨p, p1, p2, p3⟩ := kw_p V k
        rw [if_neg (by rw [e139]; exact c3), tv_t k, if_neg (show ¬ (1 : Int) = 0 from by decide)]
        exact hB p k A1 P1 (e139.trans p1) p2 p3
    · rw [if_neg c1, if_pos (tv_f (fun h => c1 h.1))]
  · rw [if_pos (tv_f c2), if_pos (tv_f (fun h => c2 h.2.1))]
/-! soul -/
noncomputable def aSoul (E : pE) (a kn : Int) : Int := if tv ((0 ≤ kn ∧ kn ≤ 146399) ∧ sMe E a) = 0 then -1 else (sGs E kn).1 a.toNat
theorem x_soul (P : pCp X E t w wm) (K : pCk X E t w wm) (V : pEv E t w wm) : (d_X11_soul_r31d a kn X).1 = aSoul E a kn ∧ pCk (d_X11_soul_r31d a kn X).2 E t w wm := by
  obtain ⟨P1, K1, Q1, G1, y1⟩ := c_as P K V kn
  have e33 : X.1 33 3 = E.1 0 := (P.2.1.1 pt_0 (by decide)).1
  have e : d_X11_soul_r31d a kn X = if 0 ≤ kn ∧ kn ≤ 146399 then hX a X (-1, X) ((d_X7_asKnown_r78d kn X).1 82 a.toNat, d_X7_asKnown_r78d kn X) else (-1, X) := rfl
  rw [e, hX_e P.1 e33 V.2.2.2.2.2.2.2.2.2.2.2.2.2.2.2]
  unfold aSoul
  by_cases c1 : 0 ≤ kn ∧ kn ≤ 146399
  · rw [if_pos c1]
    by_cases c2 : sMe E a
    · rw [tv_t c2, tv_t ⟨c1, c2⟩, if_neg (show ¬ (1 : Int) = 0 from by decide), if_neg (show ¬ (1 : Int) = 0 from by decide)]
      exact ⟨G1.1 a.toNat (me_l V c2), K1⟩
    · rw [if_pos (tv_f c2), if_pos (tv_f (fun h => c2 h.2))]
      exact ⟨rfl, K⟩
  · rw [if_neg c1, if_pos (tv_f (fun h => c1 h.1))]
    exact ⟨rfl, K⟩
theorem m_soul (P : pCm M E t w wm) (Y : pYm M) (V : pEv E t w wm) : (d_X12_soul_r125d a kn M).1 = aSoul E a kn := by
  have P0 : pCm (vu M 125 0 0) E t w wm := cm_u P (Or.inl ⟨rfl, Or.inl (by decide)⟩)
  have Y0 : pYm (vu M 125 0 0) := pYm_e (P0.1.trans P.1.symm) Y
  obtain ⟨A1, G1, P1, _⟩ := m_fi P0 Y0 V kn
  have e : d_X12_soul_r125d a kn M = hM a M (-1, vu M 125 0 0) (if 0 ≤ kn ∧ kn ≤ 146399 then ((d_X12_find_r125d kn (vu M 125 0 0)).1 139 a.toNat, d_X12_find_r125d kn (vu M 125 0 0)) else (-1, vu M 125 0 0)) := rfl
  rw [e, hM_e (cm_126 P) A1.1.2.1]
  unfold aSoul
  by_cases c2 : sMe E a
  · rw [tv_t c2, if_neg (show ¬ (1 : Int) = 0 from by decide)]
    by_cases c1 : 0 ≤ kn ∧ kn ≤ 146399
    · rw [if_pos c1, tv_t ⟨c1, c2⟩, if_neg (show ¬ (1 : Int) = 0 from by decide)]
      exact G1.1 a.toNat (me_l V c2)
    · rw [if_neg c1, if_pos (tv_f (fun h => c1 h.1))]
  · rw [if_pos (tv_f c2), if_pos (tv_f (fun h => c2 h.2))]
/-! waits -/
noncomputable def aWaits (E : pE) (kn i : Int) : Int := if 0 ≤ kn ∧ kn ≤ 146399 then (if i = -1 then ((sGs E kn).2.length : Int) else if 0 ≤ i ∧ i ≤ ((sGs E kn).2.length : Int) - 1 then nth (sGs E kn).2 i.toNat else -1) else -1
theorem x_waits {i : Int} (P : pCp X E t w wm) (K : pCk X E t w wm) (V : pEv E t w wm) : (d_X11_waits_r31d kn i X).1 = aWaits E kn i ∧ pCk (d_X11_waits_r31d kn i X).2 E t w wm := by
  obtain ⟨P1, K1, Q1, G1, y1⟩ := c_as P K V kn
  unfold d_X11_waits_r31d d_X11_waits_r31d_69 d_X11_waits_r31d_70 d_X11_waits_r31d_100070 aWaits
  by_cases c1 : 0 ≤ kn ∧ kn ≤ 146399
  · rw [if_pos c1, if_pos c1, G1.2.2.1]
    by_cases c2 : i = -1
    · rw [if_pos c2, if_pos c2]; exact ⟨rfl, K1⟩
    · rw [if_neg c2, if_neg c2]
      by_cases c3 : i < 0
      · rw [if_pos c3, if_neg (fun h => by omega)]; exact ⟨rfl, K1⟩
      · rw [if_neg c3]
        by_cases c4 : ((sGs E kn).2.length : Int) ≤ i
        · rw [if_pos c4, if_neg (fun h => by omega)]; exact ⟨rfl, K1⟩
        · rw [if_neg c4, if_pos ⟨by omega, by omega⟩]
          exact ⟨G1.2.2.2 i.toNat (by omega), K1⟩
  · rw [if_neg c1, if_neg c1]; exact ⟨rfl, K⟩
theorem m_waits {i : Int} (P : pCm M E t w wm) (Y : pYm M) (V : pEv E t w wm) : (d_X12_waits_r125d kn i M).1 = aWaits E kn i := by
  have P0 : pCm (vu M 125 0 0) E t w wm := cm_u P (Or.inl ⟨rfl, Or.inl (by decide)⟩)
  have Y0 : pYm (vu M 125 0 0) := pYm_e (P0.1.trans P.1.symm) Y
  obtain ⟨A1, G1, P1, _⟩ := m_fi P0 Y0 V kn
  unfold d_X12_waits_r125d d_X12_waits_r125d_57 d_X12_waits_r125d_100057 aWaits
  by_cases c1 : 0 ≤ kn ∧ kn ≤ 146399
  · rw [if_pos c1, if_pos c1, G1.2.1]
    by_cases c2 : i = -1
    · rw [if_pos c2, if_pos c2]
    · rw [if_neg c2, if_neg c2]
      by_cases c3 : 0 ≤ i ∧ i ≤ ((sGs E kn).2.length : Int) - 1
      · rw [if_pos c3, if_pos c3]
        exact G1.2.2 i.toNat (by omega)
      · rw [if_neg c3, if_neg c3]
  · rw [if_neg c1, if_neg c1]
/-! span -/
def sp4 (s : sT4) (k : Int) : Int := if k = 0 then s.1 else if k = 1 then s.2.1 else if k = 2 then s.2.2.1 else s.2.2.2
noncomputable def aSpan (E : pE) (a kn k : Int) : Int := if tv (sKw E kn a) = 0 then -1 else if 0 ≤ k ∧ k ≤ 3 then sp4 (sSn E (sGs E kn).1 ((sGs E kn).1 a.toNat)) k else -1
theorem x_span {k : Int} (P : pCp X E t w wm) (K : pCk X E t w wm) (V : pEv E t w wm) : (d_X11_span_r31d a kn k X).1 = aSpan E a kn k ∧ pCk (d_X11_span_r31d a kn k X).2 E t w wm := by
  refine qX (a := a) (kn := kn) (B := if k < 0 then (-1, d_X7_asKnown_r78d kn X) else if k ≤ 3 then ((d_X7_readSpan_r78d ((d_X7_asKnown_r78d kn X).1 82 a.toNat) (d_X7_asKnown_r78d kn X)).1 85 k.toNat, d_X7_readSpan_r78d ((d_X7_asKnown_r78d kn X).1 82 a.toNat) (d_X7_asKnown_r78d kn X)) else (-1, d_X7_asKnown_r78d kn X)) P K V (fun p k0 P1 K1 Q1 e p2 p3 => ?_)
  have gp : (sGs E kn).1 a.toNat = (p : Int) := (Q1.1.2.2.2.2.1 a.toNat (me_l V k0.2.1)).symm.trans e
  rw [e, gp]
  generalize d_X7_asKnown_r78d kn X = A at *
  by_cases c1 : k < 0
  · rw [if_pos c1, if_neg (fun h => by omega)]; exact ⟨rfl, K1⟩
  · rw [if_neg c1]
    by_cases c2 : k ≤ 3
    · rw [if_pos c2, if_pos ⟨by omega, c2⟩]
      obtain ⟨s1, s2, s3, s4⟩ := xsp Q1.1 p2 p3
      have F := fr_d_X7_readSpan_r78d (p : Int) A
      refine ⟨?_, pCk_k (fun c hc => funext fun j => F.1 c j (okk_n rfl hc)) (pKl_c (pF_c F rfl) (pF_c F rfl) (pF_c F rfl) K1.2.1) (pKh_c (pF_c F rfl) (pF_c F rfl) (pF_c F rfl) (pF_c F rfl) (pF_c F rfl) K1.2.2.1) K1⟩
      unfold sp4
      rcases (show k = 0 ∨ k = 1 ∨ k = 2 ∨ k = 3 from by omega) with rfl | rfl | rfl | rfl
      · exact s1
      · exact s2
      · exact s3
      · exact s4
    · rw [if_neg c2, if_neg (fun h => c2 h.2)]; exact ⟨rfl, K1⟩
theorem m_span {k : Int} (P : pCm M E t w wm) (Y : pYm M) (V : pEv E t w wm) : (d_X12_span_r125d a kn k M).1 = aSpan E a kn k := by
  refine qM (a := a) (kn := kn) (B := if 0 ≤ k ∧ k ≤ 3 then (if k = 0 then (d_X12_span_r125d_78 ((d_X12_findSpan_r125d ((d_X12_find_r125d kn (vu M 125 0 0)).1 139 a.toNat) (d_X12_find_r125d kn (vu M 125 0 0))).1 125 32) (d_X12_findSpan_r125d ((d_X12_find_r125d kn (vu M 125 0 0)).1 139 a.toNat) (d_X12_find_r125d kn (vu M 125 0 0)))) else (if k = 1 then (d_X12_span_r125d_78 ((d_X12_findSpan_r125d ((d_X12_find_r125d kn (vu M 125 0 0)).1 139 a.toNat) (d_X12_find_r125d kn (vu M 125 0 0))).1 125 33) (d_X12_findSpan_r125d ((d_X12_find_r125d kn (vu M 125 0 0)).1 139 a.toNat) (d_X12_find_r125d kn (vu M 125 0 0)))) else (if k = 2 then (d_X12_span_r125d_78 ((d_X12_findSpan_r125d ((d_X12_find_r125d kn (vu M 125 0 0)).1 139 a.toNat) (d_X12_find_r125d kn (vu M 125 0 0))).1 125 34) (d_X12_findSpan_r125d ((d_X12_find_r125d kn (vu M 125 0 0)).1 139 a.toNat) (d_X12_find_r125d kn (vu M 125 0 0)))) else (d_X12_span_r125d_78 ((d_X12_findSpan_r125d ((d_X12_find_r125d kn (vu M 125 0 0)).1 139 a.toNat) (d_X12_find_r125d kn (vu M 125 0 0))).1 125 35) (d_X12_findSpan_r125d ((d_X12_find_r125d kn (vu M 125 0 0)).1 139 a.toNat) (d_X12_find_r125d kn (vu M 125 0 0))))))) else (-1, d_X12_find_r125d kn (vu M 125 0 0))) P Y V (fun p k0 A1 P1 e p2 p3 => ?_)
  have gp : (sGs E kn).1 a.toNat = (p : Int) := (A1.1.2.2.2.2.2.2 a.toNat (me_l V k0.2.1)).symm.trans e
  rw [e, gp]
  generalize d_X12_find_r125d kn (vu M 125 0 0) = A at *
  have s := msp A1.1 (show (p : Int) ≠ -1 from by omega)
  unfold d_X12_span_r125d_78
  by_cases c1 : 0 ≤ k ∧ k ≤ 3
  · rw [if_pos c1, if_pos c1, ← s]
    unfold sp4
    rcases (show k = 0 ∨ k = 1 ∨ k = 2 ∨ k = 3 from by omega) with rfl | rfl | rfl | rfl
    · rfl
    · rfl
    · rfl
    · rfl
  · rw [if_neg c1, if_neg c1]
/-! mentions -/
noncomputable def aMens (E : pE) (a kn k i : Int) : Int := if tv (sKw E kn a) = 0 then -1 else if k = 0 then sCx (sGs E kn).1 ((sGs E kn).1 a.toNat) (sNl E) 0 0 else if k = 1 then sNt (sGs E kn).1 ((sGs E kn).1 a.toNat) i (sNl E) 0 0 else -1
theorem x_mentions {k i : Int} (P : pCp X E t w wm) (K : pCk X E t w wm) (V : pEv E t w wm) : (d_X11_mentions_r31d a kn k i X).1 = aMens E a kn k i ∧ pCk (d_X11_mentions_r31d a kn k i X).2 E t w wm := by
  refine qX (a := a) (kn := kn) (B := if k = 0 then (d_X7_sizeOf_r78d ((d_X7_asKnown_r78d kn X).1 82 a.toNat) (d_X7_asKnown_r78d kn X), d_X7_asKnown_r78d kn X) else if k = 1 then (d_X7_mentionOf_r78d ((d_X7_asKnown_r78d kn X).1 82 a.toNat) i (d_X7_asKnown_r78d kn X), d_X7_asKnown_r78d kn X) else (-1, d_X7_asKnown_r78d kn X)) P K V (fun p k0 P1 K1 Q1 e p2 p3 => ?_)
  have gp : (sGs E kn).1 a.toNat = (p : Int) := (Q1.1.2.2.2.2.1 a.toNat (me_l V k0.2.1)).symm.trans e
  have h6 := xs_6 Q1.1
  have f0 := xs_f Q1.1 p2 p3
  rw [e, gp]
  generalize d_X7_asKnown_r78d kn X = A at *
  have z1 := xsz_e Q1.1 (s := (p : Int)) (by omega) (sNl E) 0 601 0 rfl (by omega) (by omega)
  have z2 := xmn_e (i := i) Q1.1 (s := (p : Int)) (by omega) (sNl E) 0 601 0 rfl (by omega) (by omega)
  rw [f0] at z1 z2
  by_cases c1 : k = 0
  · rw [if_pos c1, if_pos c1]; exact ⟨z1, K1⟩
  · rw [if_neg c1, if_neg c1]
    by_cases c2 : k = 1
    · rw [if_pos c2, if_pos c2]; exact ⟨z2, K1⟩
    · rw [if_neg c2, if_neg c2]; exact ⟨rfl, K1⟩
theorem m_mentions {k i : Int} (P : pCm M E t w wm) (Y : pYm M) (V : pEv E t w wm) : (d_X12_mentions_r125d a kn k i M).1 = aMens E a kn k i := by
  refine qM (a := a) (kn := kn) (B := if 0 ≤ k ∧ k ≤ 1 then (d_X12_mentions_r125d_37 601 k i ((d_X12_find_r125d kn (vu M 125 0 0)).1 139 a.toNat) 0 0 (d_X12_find_r125d kn (vu M 125 0 0))) else (-1, d_X12_find_r125d kn (vu M 125 0 0))) P Y V (fun p k0 A1 P1 e p2 p3 => ?_)
  have gp : (sGs E kn).1 a.toNat = (p : Int) := (A1.1.2.2.2.2.2.2 a.toNat (me_l V k0.2.1)).symm.trans e
  have b := V.2.2.2.2.2.2.2.2.2.2.2.2.2.2.2
  have h6 : sNl E ≤ 600 := by unfold sNl; omega
  rw [e, gp]
  generalize d_X12_find_r125d kn (vu M 125 0 0) = A at *
  by_cases c1 : 0 ≤ k ∧ k ≤ 1
  · have z := mmn_e (i := i) (s := (p : Int)) A1.1 (l3 := k) (by omega) (sNl E) 0 601 0 rfl (by omega) (by omega)
    rw [show ((0 : Nat) : Int) = 0 from rfl] at z
    rw [if_pos c1, z]
    by_cases c2 : k = 0
    · rw [if_pos c2, if_pos c2]
    · rw [if_neg c2, if_neg c2, if_pos (show k = 1 from by omega)]
  · rw [if_neg c1, if_neg (show ¬ k = 0 from by omega), if_neg (show ¬ k = 1 from by omega)]
end
end jG108

section jG109
/-! pure: KIN -/
def sKi (v : Nat → Int) (i : Int) : Nat → Nat → Int → Int
  | 0, _, _ => -1
  | c + 1, l, n => if v l = -1 then sKi v i c (l + 1) n else if n = i then v l else sKi v i c (l + 1) (j_iadd n 1)
noncomputable def k2V (E : pE) (g : Nat → Int) (s : Int) (l : Nat) : Int := if E.1 (20 + 90 * l) = 0 ∧ g (3 * l) ≠ -1 ∧ (g (3 * l + 1) = s ∨ g (3 * l + 2) = s) then sNa E g (3 * l) else -1
noncomputable def k3V (E : pE) (g : Nat → Int) (s : Int) (l : Nat) : Int := if E.1 (20 + 90 * l) = 1 ∧ g (3 * l) ≠ -1 then (if g (3 * l) = s then sNa E g (3 * l + 1) else if g (3 * l + 1) = s then sNa E g (3 * l) else -1) else -1
section
variable {X M : jW} {E : pE} {g : Nat → Int} {s i : Int}
theorem co_3l (I : pIr E) {l : Nat} (hl : (l : Int) < E.1 0) : sCo E (3 * l) = if E.1 (20 + 90 * l) = 0 then 0 else if E.1 (20 + 90 * l) = 1 then 3 else 3 + E.1 (20 + 90 * l) := by
  have b := (I l hl).1
  unfold sCo sRo
  rw [show 3 * l / 3 = l from by omega, show 3 * l % 3 = 0 from by omega, show ((0 : Nat) : Int) = 0 from rfl]
  by_cases z0 : E.1 (20 + 90 * l) = 0
  · rw [if_pos z0, if_neg (by decide), if_pos z0, if_pos z0]
  · rw [if_neg z0, if_neg z0]
    by_cases z1 : E.1 (20 + 90 * l) = 1
    · rw [if_pos z1, if_neg (by decide), if_neg z0, if_pos z1, if_pos z1]; rfl
    · rw [if_neg z1, if_neg (by decide), if_neg z0, if_neg z1, if_neg z1]
theorem x_ch (P : pXs X E g) (N : pNe X E) (hs : s ≠ -1) : ∀ (c l r : Nat) (n : Int), (l : Int) + (c : Int) = E.1 0 → c < r → d_X7_childOf_r78d_5 r s i n (3 * (l : Int)) X = sKi (k2V E g s) i c l n := by
  have e33 := P.2.2.1
  have Ir := P.2.2.2.2.2.2.2
  intro c
  induction c with
  | zero =>
    intro l r n e hr
    obtain ⟨r, rfl⟩ : ∃ q, r = q + 1 := ⟨r - 1, by omega⟩
    exact if_pos (by omega)
  | succ c ih =>
    intro l r n e hr
    obtain ⟨r, rfl⟩ : ∃ q, r = q + 1 := ⟨r - 1, by omega⟩
    have hl : (l : Int) < E.1 0 := by omega
    have h0 : 3 * l < sNl E := by unfold sNl; omega
    have h1 : 3 * l + 1 < sNl E := by unfold sNl; omega
    have h2 : 3 * l + 2 < sNl E := by unfold sNl; omega
    have y : ∀ n : Int, d_X7_childOf_r78d_5 r s i n (3 * (l : Int) + 3) X = sKi (k2V E g s) i c (l + 1) n := fun n => by
      have y := ih (l + 1) r n (by omega) (by omega)
      rw [show 3 * ((l + 1 : Nat) : Int) = 3 * (l : Int) + 3 from by omega] at y
      exact y
    have co := co_3l Ir hl
    have b := (Ir l hl).1
    have l79 : X.1 79 (3 * l) = sCo E (3 * l) := (xs_l P h0).1
    have g0 := P.2.2.2.2.1 (3 * l) h0
    have g1 := P.2.2.2.2.1 (3 * l + 1) h1
    have g2 := P.2.2.2.2.1 (3 * l + 2) h2
    have n0 := N (3 * l) 0 h0 (by decide)
    have n1 := N (3 * l) 1 h0 (by decide)
    have ix : (3 * (l : Int)).toNat = 3 * l := by omega
    refine (if_neg (by omega)).trans ?_
    rw [ix, show (3 * (l : Int) + 1).toNat = 3 * l + 1 from by omega, show (3 * (l : Int) + 2).toNat = 3 * l + 2 from by omega, l79, g0, g1, g2]
    show _ = if k2V E g s l = -1 then sKi (k2V E g s) i c (l + 1) n else if n = i then k2V E g s l else sKi (k2V E g s) i c (l + 1) (j_iadd n 1)
    have skip : k2V E g s l = -1 → d_X7_childOf_r78d_107 (fun l1 l2 l3 l4 W => d_X7_childOf_r78d_5 r l1 l2 l3 l4 W) s i n (3 * (l : Int)) X = if k2V E g s l = -1 then sKi (k2V E g s) i c (l + 1) n else if n = i then k2V E g s l else sKi (k2V E g s) i c (l + 1) (j_iadd n 1) := fun z => by
      rw [if_pos z]; exact y n
    have take : E.1 (20 + 90 * l) = 0 → g (3 * l) ≠ -1 → (g (3 * l + 1) = s ∨ g (3 * l + 2) = s) → d_X7_childOf_r78d_79 (fun l1 l2 l3 l4 W => d_X7_childOf_r78d_5 r l1 l2 l3 l4 W) s i n (3 * (l : Int)) X = if k2V E g s l = -1 then sKi (k2V E g s) i c (l + 1) n else if n = i then k2V E g s l else sKi (k2V E g s) i c (l + 1) (j_iadd n 1) := fun z1 z2 z3 => by
      have kv : k2V E g s l = sNa E g (3 * l) := if_pos ⟨z1, z2, z3⟩
      unfold d_X7_childOf_r78d_79 d_X7_childOf_r78d_107
      dsimp only
      rw [show ((3 * (l : Int)) * 2 + 0).toNat = 2 * (3 * l) + 0 from by omega, show ((3 * (l : Int)) * 2 + 1).toNat = 2 * (3 * l) + 1 from by omega, ix, g0, y, y]
      by_cases q0 : 0 ≤ X.1 76 (2 * (3 * l) + 0)
      · have sn : sNa E g (3 * l) = g (3 * l) := if_neg (by rw [tv_t (Or.inl (n0.mp q0))]; decide)
        rw [if_pos q0, kv, sn, if_neg z2]
      · rw [if_neg q0]
        by_cases q1 : X.1 76 (2 * (3 * l) + 1) < 0
        · have sn : sNa E g (3 * l) = -1 := if_pos (tv_f (fun y => y.elim (fun y => q0 (n0.mpr y)) (fun y => by have := n1.mpr y; omega)))
          rw [if_pos q1, kv, sn, if_pos rfl]
        · have sn : sNa E g (3 * l) = g (3 * l) := if_neg (by rw [tv_t (Or.inr (n1.mp (by omega)))]; decide)
          rw [if_neg q1, kv, sn, if_neg z2]
    by_cases z1 : E.1 (20 + 90 * l) = 0
    · rw [co, if_pos z1, if_pos rfl]
      by_cases z2 : g (3 * l) = -1
      · rw [if_pos z2]; exact skip (if_neg (fun h => h.2.1 z2))
      · rw [if_neg z2]
        by_cases z3 : g (3 * l + 1) = s
        · rw [if_pos z3]; exact take z1 z2 (Or.inl z3)
        · rw [if_neg z3]
          by_cases z4 : g (3 * l + 2) = s
          · rw [if_pos z4]; exact take z1 z2 (Or.inr z4)
          · rw [if_neg z4]; exact skip (if_neg (fun h => h.2.2.elim z3 z4))
    · rw [if_neg (show ¬ sCo E (3 * l) = 0 from by
        rw [co, if_neg z1]
        by_cases q : E.1 (20 + 90 * l) = 1
        · rw [if_pos q]; decide
        · rw [if_neg q]; omega)]
      exact skip (if_neg (fun h => z1 h.1))
theorem x_sp (P : pXs X E g) (N : pNe X E) (hs : s ≠ -1) : ∀ (c l r : Nat) (n : Int), (l : Int) + (c : Int) = E.1 0 → c < r → d_X7_spouseOf_r78d_5 r s i n (3 * (l : Int)) X = sKi (k3V E g s) i c l n := by
  have e33 := P.2.2.1
  have Ir := P.2.2.2.2.2.2.2
  intro c
  induction c with
  | zero =>
    intro l r n e hr
    obtain ⟨r, rfl⟩ : ∃ q, r = q + 1 := ⟨r - 1, by omega⟩
    exact if_pos (by omega)
  | succ c ih =>
    intro l r n e hr
    obtain ⟨r, rfl⟩ : ∃ q, r = q + 1 := ⟨r - 1, by omega⟩
    have hl : (l : Int) < E.1 0 := by omega
    have h0 : 3 * l < sNl E := by unfold sNl; omega
    have h1 : 3 * l + 1 < sNl E := by unfold sNl; omega
    have y : ∀ n : Int, d_X7_spouseOf_r78d_5 r s i n (3 * (l : Int) + 3) X = sKi (k3V E g s) i c (l + 1) n := fun n => by
      have y := ih (l + 1) r n (by omega) (by omega)
      rw [show 3 * ((l + 1 : Nat) : Int) = 3 * (l : Int) + 3 from by omega] at y
      exact y
    have co := co_3l Ir hl
    have b := (Ir l hl).1
    have l79 : X.1 79 (3 * l) = sCo E (3 * l) := (xs_l P h0).1
    have g0 := P.2.2.2.2.1 (3 * l) h0
    have g1 := P.2.2.2.2.1 (3 * l + 1) h1
    have ix : (3 * (l : Int)).toNat = 3 * l := by omega
    refine (if_neg (by omega)).trans ?_
    rw [ix, show (3 * (l : Int) + 1).toNat = 3 * l + 1 from by omega, l79, g0, g1]
    show _ = if k3V E g s l = -1 then sKi (k3V E g s) i c (l + 1) n else if n = i then k3V E g s l else sKi (k3V E g s) i c (l + 1) (j_iadd n 1)
    have skip : k3V E g s l = -1 → d_X7_spouseOf_r78d_110 (fun l1 l2 l3 l4 W => d_X7_spouseOf_r78d_5 r l1 l2 l3 l4 W) s i n (3 * (l : Int)) X = if k3V E g s l = -1 then sKi (k3V E g s) i c (l + 1) n else if n = i then k3V E g s l else sKi (k3V E g s) i c (l + 1) (j_iadd n 1) := fun z => by
      rw [if_pos z]; exact y n
    have one : ∀ (m : Nat) (q : Int), q = (m : Int) → m < sNl E → k3V E g s l = sNa E g m → d_X7_spouseOf_r78d_88 (fun l1 l2 l3 l4 W => d_X7_spouseOf_r78d_5 r l1 l2 l3 l4 W) s i n (3 * (l : Int)) q X = if k3V E g s l = -1 then sKi (k3V E g s) i c (l + 1) n else if n = i then k3V E g s l else sKi (k3V E g s) i c (l + 1) (j_iadd n 1) := fun m q hq hm kv => by
      subst hq
      have n0 := N m 0 hm (by decide)
      have n1 := N m 1 hm (by decide)
      have gm := P.2.2.2.2.1 m hm
      have n4 : ¬ X.1 33 3 ≤ (m : Int) / 3 := by unfold sNl at hm; omega
      unfold d_X7_spouseOf_r78d_88 d_X7_spouseOf_r78d_110
      dsimp only
      rw [show ((m : Int) * 2 + 0).toNat = 2 * m + 0 from by omega, show ((m : Int) * 2 + 1).toNat = 2 * m + 1 from by omega, show ((m : Int)).toNat = m from by omega, gm, if_neg n4, y, y, kv]
      by_cases q0 : 0 ≤ X.1 76 (2 * m + 0)
      · rw [if_pos q0, show sNa E g m = g m from if_neg (by rw [tv_t (Or.inl (n0.mp q0))]; decide)]
      · rw [if_neg q0]
        by_cases q1 : X.1 76 (2 * m + 1) < 0
        · rw [if_pos q1, show sNa E g m = -1 from if_pos (tv_f (fun y => y.elim (fun y => q0 (n0.mpr y)) (fun y => by have := n1.mpr y; omega))), if_pos rfl]
        · rw [if_neg q1, show sNa E g m = g m from if_neg (by rw [tv_t (Or.inr (n1.mp (by omega)))]; decide)]
    by_cases z1 : E.1 (20 + 90 * l) = 1
    · rw [co, if_neg (show ¬ E.1 (20 + 90 * l) = 0 from by omega), if_pos z1, if_pos rfl]
      unfold d_X7_spouseOf_r78d_67
      rw [ix, g0]
      by_cases z2 : g (3 * l) = s
      · rw [if_pos z2, if_pos z2]
        exact one (3 * l + 1) _ (by omega) h1 ((if_pos ⟨z1, by rw [z2]; exact hs⟩).trans (if_pos z2))
      · rw [if_neg z2, if_neg z2]
        by_cases z3 : g (3 * l + 1) = s
        · rw [if_pos z3]
          refine one (3 * l) _ (by omega) h0 ?_
          by_cases z4 : g (3 * l) = -1
          · have sn : sNa E g (3 * l) = -1 := by
              unfold sNa
              by_cases q : tv (sIn E (3 * l) 0 ∨ sIn E (3 * l) 1) = 0
              · rw [if_pos q]
              · rw [if_neg q]; exact z4
            rw [sn]
            exact if_neg (fun h => h.2 z4)
          · exact (if_pos ⟨z1, z4⟩).trans ((if_neg z2).trans (if_pos z3))
        · rw [if_neg z3]
          refine skip ?_
          unfold k3V
          by_cases z4 : E.1 (20 + 90 * l) = 1 ∧ g (3 * l) ≠ -1
          · rw [if_pos z4, if_neg z2, if_neg z3]
          · rw [if_neg z4]
    · rw [if_neg (show ¬ sCo E (3 * l) = 3 from by
        rw [co]
        by_cases q : E.1 (20 + 90 * l) = 0
        · rw [if_pos q]; decide
        · rw [if_neg q, if_neg z1]; omega)]
      exact skip (if_neg (fun h => z1 h.1))
theorem m_ki (P : pMs M E g) {k : Int} (hk : k = 2 ∨ k = 3) : ∀ (c l r : Nat) (n : Int), (l : Int) + (c : Int) = E.1 0 → c < r → d_X12_kin_r125d_81 r k i s n (l : Int) M = (sKi (if k = 2 then k2V E g s else k3V E g s) i c l n, M) := by
  have e126 : M.1 126 = E.1 := congrArg Prod.fst P.1
  intro c
  induction c with
  | zero =>
    intro l r n e hr
    obtain ⟨r, rfl⟩ : ∃ q, r = q + 1 := ⟨r - 1, by omega⟩
    exact if_pos (by rw [e126]; omega)
  | succ c ih =>
    intro l r n e hr
    obtain ⟨r, rfl⟩ : ∃ q, r = q + 1 := ⟨r - 1, by omega⟩
    have h0 : 3 * l < sNl E := by unfold sNl; omega
    have h1 : 3 * l + 1 < sNl E := by unfold sNl; omega
    have h2 : 3 * l + 2 < sNl E := by unfold sNl; omega
    have g0 := P.2.2.2.2.2.2 (3 * l) h0
    have g1 := P.2.2.2.2.2.2 (3 * l + 1) h1
    have g2 := P.2.2.2.2.2.2 (3 * l + 2) h2
    have y : ∀ n : Int, d_X12_kin_r125d_81 r k i s n ((l : Int) + 1) M = (sKi (if k = 2 then k2V E g s else k3V E g s) i c (l + 1) n, M) := fun n => by
      have y := ih (l + 1) r n (by omega) (by omega)
      rw [show ((l + 1 : Nat) : Int) = (l : Int) + 1 from by omega] at y
      exact y
    have fin : ∀ v : Int, (if k = 2 then k2V E g s else k3V E g s) l = v → d_X12_kin_r125d_237 (fun l3 l4 l5 l6 l7 W => d_X12_kin_r125d_81 r l3 l4 l5 l6 l7 W) k i s n (l : Int) v M = (sKi (if k = 2 then k2V E g s else k3V E g s) i (c + 1) l n, M) := fun v hv => by
      have sk : sKi (if k = 2 then k2V E g s else k3V E g s) i (c + 1) l n = if v = -1 then sKi (if k = 2 then k2V E g s else k3V E g s) i c (l + 1) n else if n = i then v else sKi (if k = 2 then k2V E g s else k3V E g s) i c (l + 1) (j_iadd n 1) := by
        rw [← hv]; rfl
      unfold d_X12_kin_r125d_237 d_X12_kin_r125d_256
      dsimp only
      rw [sk, y, y]
      by_cases q1 : v = -1
      · rw [if_pos q1, if_pos q1]
      · rw [if_neg q1, if_neg q1]
        by_cases q2 : n = i
        · rw [if_pos q2, if_pos q2]
        · rw [if_neg q2, if_neg q2]
    have ix0 : (3 * (l : Int)).toNat = 3 * l := by omega
    have ix1 : (3 * (l : Int) + 1).toNat = 3 * l + 1 := by omega
    have ix2 : (3 * (l : Int) + 2).toNat = 3 * l + 2 := by omega
    have ixb : (20 + (90 * (l : Int))).toNat = 20 + 90 * l := by omega
    have na0 := m_na P h0 (q := 3 * (l : Int)) (by omega)
    have na1 := m_na P h1 (q := 3 * (l : Int) + 1) (by omega)
    refine (if_neg (by rw [e126]; omega)).trans ?_
    unfold d_X12_kin_r125d_154 d_X12_kin_r125d_162 d_X12_kin_r125d_235 d_X12_kin_r125d_100235
    rw [e126, ix0, ix1, ix2, ixb, g0, g1, g2, na0, na1]
    rcases hk with rfl | rfl
    · rw [if_pos rfl, if_neg (show ¬ (2 : Int) = 3 from by decide), if_neg (show ¬ (2 : Int) = 3 from by decide)]
      rw [if_pos (show (2 : Int) = 2 from rfl)] at fin
      rw [if_pos (show (2 : Int) = 2 from rfl)]
      by_cases z1 : E.1 (20 + 90 * l) = 0
      · rw [if_pos z1]
        by_cases z2 : g (3 * l) = -1
        · rw [if_pos z2]; exact fin (-1) (if_neg (fun h => h.2.1 z2))
        · rw [if_neg z2]
          by_cases z3 : g (3 * l + 1) = s
          · rw [if_pos z3]; exact fin _ (if_pos ⟨z1, z2, Or.inl z3⟩)
          · rw [if_neg z3]
            by_cases z4 : g (3 * l + 2) = s
            · rw [if_pos z4]; exact fin _ (if_pos ⟨z1, z2, Or.inr z4⟩)
            · rw [if_neg z4]; exact fin (-1) (if_neg (fun h => h.2.2.elim z3 z4))
      · rw [if_neg z1]; exact fin (-1) (if_neg (fun h => z1 h.1))
    · rw [if_neg (show ¬ (3 : Int) = 2 from by decide), if_pos rfl]
      rw [if_neg (show ¬ (3 : Int) = 2 from by decide)] at fin
      rw [if_neg (show ¬ (3 : Int) = 2 from by decide)]
      by_cases z1 : E.1 (20 + 90 * l) = 1
      · rw [if_pos z1]
        by_cases z2 : g (3 * l) = -1
        · rw [if_pos z2]; exact fin (-1) (if_neg (fun h => h.2 z2))
        · rw [if_neg z2]
          by_cases z3 : g (3 * l) = s
          · rw [if_pos z3]; exact fin _ ((if_pos ⟨z1, z2⟩).trans (if_pos z3))
          · rw [if_neg z3]
            by_cases z4 : g (3 * l + 1) = s
            · rw [if_pos z4]; exact fin _ ((if_pos ⟨z1, z2⟩).trans ((if_neg z3).trans (if_pos z4)))
            · rw [if_neg z4]; exact fin (-1) ((if_pos ⟨z1, z2⟩).trans ((if_neg z3).trans (if_neg z4)))
      · rw [if_neg z1]; exact fin (-1) (if_neg (fun h => z1 h.1))
end
/-- what NAMES are there, of MENTIONS -/
theorem ne_x {X : jW} {E : pE} (Y : pYx X E) (h0 : 0 ≤ E.1 0) : pNe X E := fun m w hm hw => by
  have hl : ((((2 * m + w) / 6 : Nat)) : Int) < E.1 0 := by unfold sNl at hm; omega
  have q := (Y.2.2.2.2.2.2.1 (2 * m + w) hl).1
  have fe : fcN (2 * m + w) = sNm m w := by unfold fcN sNm; omega
  have b := ((Y.2.1 (m / 3) (by unfold sNl at hm; omega)).2.2.2.2 (2 * (m % 3) + w) (by omega))
  rw [show 26 + 90 * (m / 3) + 14 * (2 * (m % 3) + w) = sNm m w from by unfold sNm; omega] at b
  rw [q, fe]
  unfold sIn
  by_cases z : E.1 (sNm m w) = 0
  · rw [if_pos z]; exact ⟨fun h => absurd h (by decide), fun h => by omega⟩
  · rw [if_neg z]; exact ⟨fun _ => by omega, fun _ => by omega⟩
section
variable {X M : jW} {E : pE} {t : jT} {w : Nat} {wm : Nat → Nat} {a kn : Int}
noncomputable def sPar (E : pE) (g : Nat → Int) (s : Int) (r : Nat) : Int := if sMo E g s 0 146399 = -1 then -1 else sNa E g ((sMo E g s 0 146399).toNat + r)
noncomputable def aKin (E : pE) (a kn k i : Int) : Int := if tv (sKw E kn a) = 0 then -1 else if k = 0 then sPar E (sGs E kn).1 ((sGs E kn).1 a.toNat) 1 else if k = 1 then sPar E (sGs E kn).1 ((sGs E kn).1 a.toNat) 2 else if k = 2 then sKi (k2V E (sGs E kn).1 ((sGs E kn).1 a.toNat)) i (E.1 0).toNat 0 0 else if k = 3 then sKi (k3V E (sGs E kn).1 ((sGs E kn).1 a.toNat)) i (E.1 0).toNat 0 0 else -1
/-- the class's named SOUL behind a birth -/
def nmX (b : Int) (r : Int) (W A : jW) : Int × jW := (if 1200 ≤ (((b + r) * 2) + 0) then (if 1200 ≤ (((b + r) * 2) + 1) then ((-1), A) else (if (W.1 76 (((b + r) * 2) + 1).toNat) < 0 then ((-1), A) else (if 600 ≤ (b + r) then ((-1), A) else (if (W.1 33 3) ≤ ((b + r) / 3) then ((-1), A) else ((A.1 82 (b + r).toNat), A))))) else (if 0 ≤ (W.1 76 (((b + r) * 2) + 0).toNat) then (if 600 ≤ (b + r) then ((-1), A) else (if (W.1 33 3) ≤ ((b + r) / 3) then ((-1), A) else ((A.1 82 (b + r).toNat), A))) else (if 1200 ≤ (((b + r) * 2) + 1) then ((-1), A) else (if (W.1 76 (((b + r) * 2) + 1).toNat) < 0 then ((-1), A) else (if 600 ≤ (b + r) then ((-1), A) else (if (W.1 33 3) ≤ ((b + r) / 3) then ((-1), A) else ((A.1 82 (b + r).toNat), A)))))))
theorem nmx_e {A : jW} {g : Nat → Int} {m r : Nat} (N : pNe X E) (e33 : X.1 33 3 = E.1 0) (h0 : 0 ≤ E.1 0 ∧ E.1 0 ≤ 200) (hm : m + r < sNl E) (e82 : A.1 82 (m + r) = g (m + r)) : nmX (m : Int) (r : Int) X A = (sNa E g (m + r), A) := by
  have n0 := N (m + r) 0 hm (by decide)
  have n1 := N (m + r) 1 hm (by decide)
  have n4 : ¬ X.1 33 3 ≤ ((m : Int) + (r : Int)) / 3 := by unfold sNl at hm; omega
  have o : ¬ 600 ≤ (m : Int) + (r : Int) := by unfold sNl at hm; omega
  unfold nmX
  rw [if_neg (show ¬ 1200 ≤ (((m : Int) + (r : Int)) * 2) + 0 from by omega), if_neg (show ¬ 1200 ≤ (((m : Int) + (r : Int)) * 2) + 1 from by omega), if_neg o, if_neg n4, show ((((m : Int) + (r : Int)) * 2) + 0).toNat = 2 * (m + r) + 0 from by omega, show ((((m : Int) + (r : Int)) * 2) + 1).toNat = 2 * (m + r) + 1 from by omega, show ((m : Int) + (r : Int)).toNat = m + r from by omega, e82]
  by_cases q0 : 0 ≤ X.1 76 (2 * (m + r) + 0)
  · rw [if_pos q0, show sNa E g (m + r) = g (m + r) from if_neg (by rw [tv_t (Or.inl (n0.mp q0))]; decide)]
  · rw [if_neg q0]
    by_cases q1 : X.1 76 (2 * (m + r) + 1) < 0
    · rw [if_pos q1, show sNa E g (m + r) = -1 from if_pos (tv_f (fun y => y.elim (fun y => q0 (n0.mpr y)) (fun y => by have := n1.mpr y; omega)))]
    · rw [if_neg q1, show sNa E g (m + r) = g (m + r) from if_neg (by rw [tv_t (Or.inr (n1.mp (by omega)))]; decide)]
theorem x_kin {k i : Int} (P : pCp X E t w wm) (K : pCk X E t w wm) (V : pEv E t w wm) : (d_X11_kin_r31d a kn k i X).1 = aKin E a kn k i ∧ pCk (d_X11_kin_r31d a kn k i X).2 E t w wm := by
  refine qX (a := a) (kn := kn) (B := if k = 0 then (if d_X7_birthOf_r78d ((d_X7_asKnown_r78d kn X).1 82 a.toNat) (d_X7_asKnown_r78d kn X) = -1 then (-1, d_X7_asKnown_r78d kn X) else nmX (d_X7_birthOf_r78d ((d_X7_asKnown_r78d kn X).1 82 a.toNat) (d_X7_asKnown_r78d kn X)) 1 X (d_X7_asKnown_r78d kn X)) else if k = 1 then (if d_X7_birthOf_r78d ((d_X7_asKnown_r78d kn X).1 82 a.toNat) (d_X7_asKnown_r78d kn X) = -1 then (-1, d_X7_asKnown_r78d kn X) else nmX (d_X7_birthOf_r78d ((d_X7_asKnown_r78d kn X).1 82 a.toNat) (d_X7_asKnown_r78d kn X)) 2 X (d_X7_asKnown_r78d kn X)) else if k = 2 then (d_X7_childOf_r78d ((d_X7_asKnown_r78d kn X).1 82 a.toNat) i (d_X7_asKnown_r78d kn X), d_X7_asKnown_r78d kn X) else if k = 3 then (d_X7_spouseOf_r78d ((d_X7_asKnown_r78d kn X).1 82 a.toNat) i (d_X7_asKnown_r78d kn X), d_X7_asKnown_r78d kn X) else (-1, d_X7_asKnown_r78d kn X)) P K V (fun p k0 P1 K1 Q1 e p2 p3 => ?_)
  have gp : (sGs E kn).1 a.toNat = (p : Int) := (Q1.1.2.2.2.2.1 a.toNat (me_l V k0.2.1)).symm.trans e
  have b := V.2.2.2.2.2.2.2.2.2.2.2.2.2.2.2
  have N := ne_x P.1 b.1
  have N1 := ne_x P1.1 b.1
  have e33 : X.1 33 3 = E.1 0 := (P.2.1.1 pt_0 (by decide)).1
  have bi := xbi Q1.1 (ev_q V kn).2.2.2 p2 p3
  rw [e, gp, bi]
  generalize d_X7_asKnown_r78d kn X = A at *
  have par : ∀ r : Nat, r = 1 ∨ r = 2 → ((if sMo E (sGs E kn).1 (p : Int) 0 146399 = -1 then ((-1 : Int), A) else nmX (sMo E (sGs E kn).1 (p : Int) 0 146399) (r : Int) X A).1 = sPar E (sGs E kn).1 (p : Int) r ∧ pCk (if sMo E (sGs E kn).1 (p : Int) 0 146399 = -1 then ((-1 : Int), A) else nmX (sMo E (sGs E kn).1 (p : Int) 0 146399) (r : Int) X A).2 E t w wm) := fun r hr => by
    unfold sPar
    by_cases z : sMo E (sGs E kn).1 (p : Int) 0 146399 = -1
    · rw [if_pos z, if_pos z]; exact ⟨rfl, K1⟩
    · obtain ⟨m, m1, m2, m3, _⟩ := mo_0 P1.1.2.1 z
      rw [if_neg z, if_neg z, m1, nmx_e N e33 b (by omega) (Q1.1.2.2.2.2.1 (m + r) (by omega)), show ((m : Int)).toNat = m from by omega]
      exact ⟨rfl, K1⟩
  by_cases c0 : k = 0
  · rw [if_pos c0, if_pos c0]; exact par 1 (Or.inl rfl)
  · rw [if_neg c0, if_neg c0]
    by_cases c1 : k = 1
    · rw [if_pos c1, if_pos c1]; exact par 2 (Or.inr rfl)
    · rw [if_neg c1, if_neg c1]
      by_cases c2 : k = 2
      · rw [if_pos c2, if_pos c2]
        exact ⟨x_ch (i := i) Q1.1 N1 (s := (p : Int)) (by omega) (E.1 0).toNat 0 601 0 (by omega) (by omega), K1⟩
      · rw [if_neg c2, if_neg c2]
        by_cases c3 : k = 3
        · rw [if_pos c3, if_pos c3]
          exact ⟨x_sp (i := i) Q1.1 N1 (s := (p : Int)) (by omega) (E.1 0).toNat 0 601 0 (by omega) (by omega), K1⟩
        · rw [if_neg c3, if_neg c3]; exact ⟨rfl, K1⟩
theorem m_kin {k i : Int} (P : pCm M E t w wm) (Y : pYm M) (V : pEv E t w wm) : (d_X12_kin_r125d a kn k i M).1 = aKin E a kn k i := by
  refine qM (a := a) (kn := kn) (B := if 0 ≤ k ∧ k ≤ 3 then (if 2 ≤ k then (d_X12_kin_r125d_81 201 k i ((d_X12_find_r125d kn (vu M 125 0 0)).1 139 a.toNat) 0 0 (d_X12_find_r125d kn (vu M 125 0 0))) else (if (d_X12_mentionOf_r125d ((d_X12_find_r125d kn (vu M 125 0 0)).1 139 a.toNat) 0 146399 (d_X12_find_r125d kn (vu M 125 0 0))) = (-1) then (d_X12_kin_r125d_100074  (d_X12_find_r125d kn (vu M 125 0 0))) else (d_X12_kin_r125d_74 (d_X12_named_r125d (((((d_X12_mentionOf_r125d ((d_X12_find_r125d kn (vu M 125 0 0)).1 139 a.toNat) 0 146399 (d_X12_find_r125d kn (vu M 125 0 0))) / 3) * 3) + 1) + k) (d_X12_find_r125d kn (vu M 125 0 0))) (d_X12_find_r125d kn (vu M 125 0 0))))) else (-1, d_X12_find_r125d kn (vu M 125 0 0))) P Y V (fun p k0 A1 P1 e p2 p3 => ?_)
  have gp : (sGs E kn).1 a.toNat = (p : Int) := (A1.1.2.2.2.2.2.2 a.toNat (me_l V k0.2.1)).symm.trans e
  have b := V.2.2.2.2.2.2.2.2.2.2.2.2.2.2.2
  rw [e, gp]
  generalize d_X12_find_r125d kn (vu M 125 0 0) = A at *
  rw [mmo A1.1 (show (p : Int) ≠ -1 from by omega) (by decide)]
  unfold d_X12_kin_r125d_74 d_X12_kin_r125d_100074
  by_cases c0 : 0 ≤ k ∧ k ≤ 3
  · rw [if_pos c0]
    by_cases c1 : 2 ≤ k
    · rw [if_pos c1, if_neg (show ¬ k = 0 from by omega), if_neg (show ¬ k = 1 from by omega)]
      have y := m_ki (i := i) (s := (p : Int)) A1.1 (k := k) (by omega) (E.1 0).toNat 0 201 0 (by omega) (by omega)
      rw [show ((0 : Nat) : Int) = 0 from rfl] at y
      rw [y]
      by_cases c2 : k = 2
      · rw [if_pos c2, if_pos c2]
      · rw [if_neg c2, if_neg c2, if_pos (show k = 3 from by omega)]
    · rw [if_neg c1]
      have par : ∀ r : Nat, (r : Int) = 1 + k → (if sMo E (sGs E kn).1 (p : Int) 0 146399 = -1 then ((-1 : Int), A) else (d_X12_named_r125d ((((sMo E (sGs E kn).1 (p : Int) 0 146399) / 3 * 3) + 1) + k) A, A)).1 = sPar E (sGs E kn).1 (p : Int) r := fun r hr => by
        unfold sPar
        by_cases z : sMo E (sGs E kn).1 (p : Int) 0 146399 = -1
        · rw [if_pos z, if_pos z]
        · obtain ⟨m, m1, m2, m3, _⟩ := mo_0 A1.1.2.1 z
          rw [if_neg z, if_neg z, m1, show ((m : Int)).toNat = m from by omega]
          exact m_na (m := m + r) A1.1 (by omega) (by omega)
      by_cases c2 : k = 0
      · rw [if_pos c2]; exact par 1 (by omega)
      · rw [if_neg c2, if_pos (show k = 1 from by omega)]; exact par 2 (by omega)
  · rw [if_neg c0, if_neg (show ¬ k = 0 from by omega), if_neg (show ¬ k = 1 from by omega), if_neg (show ¬ k = 2 from by omega), if_neg (show ¬ k = 3 from by omega)]
end
end jG109

section jG110
/-! pure: calls that ask of LAWS and of a MENTION -/
def gXz (a kn z : Int) (W : jW) (B : Int × jW) : Int × jW := if 0 ≤ kn ∧ kn ≤ 146399 then hX a W (z, W) (if (d_X7_asKnown_r78d kn W).1 82 a.toNat = -1 then (z, d_X7_asKnown_r78d kn W) else B) else (z, W)
def gMz (a kn z : Int) (W : jW) (B : Int × jW) : Int × jW := hM a W (z, vu W 125 0 0) (if 0 ≤ kn ∧ kn ≤ 146399 then (if (d_X12_find_r125d kn (vu W 125 0 0)).1 139 a.toNat = -1 then (z, d_X12_find_r125d kn (vu W 125 0 0)) else B) else (z, vu W 125 0 0))
section
variable {X M : jW} {E : pE} {t : jT} {w : Nat} {wm : Nat → Nat} {a kn z : Int}
theorem qXz {B : Int × jW} {f : Int} (P : pCp X E t w wm) (K : pCk X E t w wm) (V : pEv E t w wm) (hB : ∀ p : Nat, sKw E kn a → pCp (d_X7_asKnown_r78d kn X) E t w wm → pCk (d_X7_asKnown_r78d kn X) E t w wm → pVk (d_X7_asKnown_r78d kn X) E kn → (d_X7_asKnown_r78d kn X).1 82 a.toNat = (p : Int) → (sGs E kn).1 a.toNat = (p : Int) → p < sNl E → (sGs E kn).1 p = (p : Int) → B.1 = f ∧ pCk B.2 E t w wm) : (gXz a kn z X B).1 = (if tv (sKw E kn a) = 0 then z else f) ∧ pCk (gXz a kn z X B).2 E t w wm := by
  obtain ⟨P1, K1, Q1, G1, y1⟩ := c_as P K V kn
  have e33 : X.1 33 3 = E.1 0 := (P.2.1.1 pt_0 (by decide)).1
  unfold gXz
  by_cases c1 : 0 ≤ kn ∧ kn ≤ 146399
  · rw [if_pos c1, hX_e P.1 e33 V.2.2.2.2.2.2.2.2.2.2.2.2.2.2.2]
    by_cases c2 : sMe E a
    · rw [tv_t c2, if_neg (show ¬ (1 : Int) = 0 from by decide)]
      have e82 := G1.1 a.toNat (me_l V c2)
      by_cases c3 : (sGs E kn).1 a.toNat = -1
      · rw [if_pos (e82.trans c3), if_pos (tv_f (fun h => h.2.2 c3))]
        exact ⟨rfl, K1⟩
      · have k : sKw E kn a := ⟨c1, c2, c3⟩
        obtain ⟨p, p1, p2, p3⟩ := kw_p V k
        rw [if_neg (by rw [e82]; exact c3), tv_t k, if_neg (show ¬ (1 : Int) = 0 from by decide)]
        exact hB p k P1 K1 Q1 (e82.trans p1) p1 p2 p3
    · rw [if_pos (tv_f c2), if_pos (tv_f (fun h => c2 h.2.1))]
      exact ⟨rfl, K⟩
  · rw [if_neg c1, if_pos (tv_f (fun h => c1 h.1))]
    exact ⟨rfl, K⟩
theorem qMz {B : Int × jW} {f : Int} (P : pCm M E t w wm) (Y : pYm M) (V : pEv E t w wm) (hB : ∀ p : Nat, sKw E kn a → pAs (d_X12_find_r125d kn (vu M 125 0 0)) E (sGs E kn).1 kn → pCm (d_X12_find_r125d kn (vu M 125 0 0)) E t w wm → (d_X12_find_r125d kn (vu M 125 0 0)).1 139 a.toNat = (p : Int) → (sGs E kn).1 a.toNat = (p : Int) → p < sNl E → (sGs E kn).1 p = (p : Int) → B.1 = f) : (gMz a kn z M B).1 = if tv (sKw E kn a) = 0 then z else f := by
  have P0 : pCm (vu M 125 0 0) E t w wm := cm_u P (Or.inl ⟨rfl, Or.inl (by decide)⟩)
  have Y0 : pYm (vu M 125 0 0) := pYm_e (P0.1.trans P.1.symm) Y
  obtain ⟨A1, G1, P1, _⟩ := m_fi P0 Y0 V kn
  unfold gMz
  rw [hM_e (cm_126 P) A1.1.2.1]
  by_cases c2 : sMe E a
  · rw [tv_t c2, if_neg (show ¬ (1 : Int) = 0 from by decide)]
    by_cases c1 : 0 ≤ kn ∧ kn ≤ 146399
    · rw [if_pos c1]
      have e139 := G1.1 a.toNat (me_l V c2)
      by_cases c3 : (sGs E kn).1 a.toNat = -1
      · rw [if_pos (e139.trans c3), if_pos (tv_f (fun h => h.2.2 c3))]
      · have k : sKw E kn a := ⟨c1, c2, c3⟩
        obtain ⟨p, p1, p2, p3⟩ := kw_p V k
        rw [if_neg (by rw [e139]; exact c3), tv_t k, if_neg (show ¬ (1 : Int) = 0 from by decide)]
        exact hB p k A1 P1 (e139.trans p1) p1 p2 p3
    · rw [if_neg c1, if_pos (tv_f (fun h => c1 h.1))]
  · rw [if_pos (tv_f c2), if_pos (tv_f (fun h => c2 h.2.1))]
theorem kw_z {f : Int} : (if tv (sKw E kn a) = 0 then z else (if (2 : Int) = 3 then f else z)) = z := by
  by_cases c : tv (sKw E kn a) = 0
  · rw [if_pos c]
  · rw [if_neg c, if_neg (by decide)]
/-! about -/
noncomputable def aAbout (E : pE) (a d kn k : Int) : Int := if (0 ≤ d ∧ d ≤ 146399) ∧ 0 ≤ k ∧ k ≤ 9 then (if tv (sKw E kn a) = 0 then -1 else sQu E (sGs E kn).1 d kn k ((sGs E kn).1 a.toNat)) else -1
theorem x_about {d k : Int} (P : pCp X E t w wm) (K : pCk X E t w wm) (V : pEv E t w wm) : (d_X11_about_r31d a d kn k X).1 = aAbout E a d kn k ∧ pCk (d_X11_about_r31d a d kn k X).2 E t w wm := by
  unfold aAbout
  have e : d_X11_about_r31d a d kn k X = if 0 ≤ d ∧ d ≤ 146399 then (if k < 0 then (-1, X) else if k ≤ 9 then gXz a kn (-1) X (d_X0_quantity_r98d k ((d_X7_asKnown_r78d kn X).1 82 a.toNat) (d_X0_readHouses_r98d d kn (d_X0_readLaws_r98d d kn (d_X7_asKnown_r78d kn X)))) else (-1, X)) else (-1, X) := rfl
  rw [e]
  by_cases c1 : 0 ≤ d ∧ d ≤ 146399
  · rw [if_pos c1]
    by_cases c2 : k < 0
    · rw [if_pos c2, if_neg (fun h => by omega)]; exact ⟨rfl, K⟩
    · rw [if_neg c2]
      by_cases c3 : k ≤ 9
      · rw [if_pos c3, if_pos ⟨c1, by omega, c3⟩]
        refine qXz P K V (fun p k0 P1 K1 Q1 e1 e2 p2 p3 => ?_)
        rw [e1, e2]
        obtain ⟨v1, v2, v3, v4⟩ := c_tu (d := d) V Q1 K1
        refine ⟨xqu v1.1 (ev_q V kn) c1 p2 p3, (c_z v2 (pF_m rfl (fr_d_X0_quantity_r98d k (p : Int) _)) v3).2⟩
      · rw [if_neg c3, if_neg (fun h => c3 h.2.2)]; exact ⟨rfl, K⟩
  · rw [if_neg c1, if_neg (fun h => c1 h.1)]; exact ⟨rfl, K⟩
theorem m_about {d k : Int} (P : pCm M E t w wm) (Y : pYm M) (V : pEv E t w wm) : (d_X12_about_r125d a d kn k M).1 = aAbout E a d kn k := by
  have y : (d_X12_about_r125d a d kn k M).1 = if tv (sKw E kn a) = 0 then -1 else (if (0 ≤ d ∧ d ≤ 146399) ∧ 0 ≤ k ∧ k ≤ 9 then sQu E (sGs E kn).1 d kn k ((sGs E kn).1 a.toNat) else -1) := by
    refine qMz (B := if 0 ≤ d ∧ d ≤ 146399 then (if 0 ≤ k ∧ k ≤ 9 then d_X12_fact2_r125d ((d_X12_find_r125d kn (vu M 125 0 0)).1 139 a.toNat) d k (d_X12_find_r125d kn (vu M 125 0 0)) else (-1, d_X12_find_r125d kn (vu M 125 0 0))) else (-1, d_X12_find_r125d kn (vu M 125 0 0))) P Y V (fun p k0 A1 P1 e1 e2 p2 p3 => ?_)
    rw [e1, e2]
    by_cases c1 : 0 ≤ d ∧ d ≤ 146399
    · rw [if_pos c1]
      by_cases c2 : 0 ≤ k ∧ k ≤ 9
      · rw [if_pos c2, if_pos ⟨c1, c2⟩]
        exact mqu A1.1 A1.2.1 (ev_q V kn) c1 (by omega)
      · rw [if_neg c2, if_neg (fun h => c2 h.2)]
    · rw [if_neg c1, if_neg (fun h => c1 h.1)]
  rw [y]
  unfold aAbout
  by_cases c : (0 ≤ d ∧ d ≤ 146399) ∧ 0 ≤ k ∧ k ≤ 9
  · rw [if_pos c, if_pos c]
  · rw [if_neg c, if_neg c]; split <;> rfl
/-! holds -/
def sCl (r : Nat → Int) (x c : Int) : Prop := (0 ≤ x ∧ x < r 4) ∧ 0 ≤ c ∧ c < r ((18820 + (924 * x)) + 3).toNat
noncomputable def aHolds (E : pE) (x c a d kn : Int) : Int := if tv (sCl E.1 x c ∧ (0 ≤ d ∧ d ≤ 146399)) = 0 then -1 else if tv (sKw E kn a) = 0 then -1 else tv (sHd E.1 d kn x c fun w => sQu E (sGs E kn).1 d kn w ((sGs E kn).1 a.toNat))
/-- whether there is such a CLAUSE, at the class -/
def cX {β : Type} (x c : Int) (W : jW) (A B : β) : β := if x < 0 then A else if W.1 32 18 ≤ x then A else if (W.2.2.1 66 x.toNat).isNone = true then A else if c < 0 then A else if W.1 ((W.2.2.1 66 x.toNat).getD 0) 3 ≤ c then A else B
theorem cX_e {β : Type} {x c : Int} {A B : β} {r : Nat → Int} (T : pTc X r) : cX x c X A B = if tv (sCl r x c) = 0 then A else B := by
  unfold cX
  by_cases c1 : x < 0
  · rw [if_pos c1, if_pos (tv_f (fun h => by have := h.1.1; omega))]
  · rw [if_neg c1, T.1]
    by_cases c2 : r 4 ≤ x
    · rw [if_pos c2, if_pos (tv_f (fun h => by have := h.1.2; omega))]
    · obtain ⟨T0, hd, q1, q2, _⟩ := T.2 x (by omega) (by omega)
      rw [if_neg c2, q1, if_neg (show ¬ (some T0).isNone = true from fun y => Bool.noConfusion y), show (some T0).getD 0 = T0 from rfl, q2.2.2.2.2.2.1]
      by_cases c3 : c < 0
      · rw [if_pos c3, if_pos (tv_f (fun h => by have := h.2.1; omega))]
      · rw [if_neg c3]
        by_cases c4 : r ((18820 + (924 * x)) + 3).toNat ≤ c
        · rw [if_pos c4, if_pos (tv_f (fun h => by have := h.2.2; omega))]
        · rw [if_neg c4, tv_t (show sCl r x c from ⟨⟨by omega, by omega⟩, by omega, by omega⟩), if_neg (show ¬ (1 : Int) = 0 from by decide)]
theorem x_holds {x c d : Int} (P : pCp X E t w wm) (K : pCk X E t w wm) (V : pEv E t w wm) : (d_X11_holds_r31d x c a d kn X).1 = aHolds E x c a d kn ∧ pCk (d_X11_holds_r31d x c a d kn X).2 E t w wm := by
  unfold aHolds
  have e : d_X11_holds_r31d x c a d kn X = cX x c X (-1, X) (if 0 ≤ d ∧ d ≤ 146399 then gXz a kn (-1) X (if (d_X0_holdsFor_r98d x c ((d_X7_asKnown_r78d kn X).1 82 a.toNat) (d_X0_readHouses_r98d d kn (d_X0_readLaws_r98d d kn (d_X7_asKnown_r78d kn X)))).1 = 0 then (0, (d_X0_holdsFor_r98d x c ((d_X7_asKnown_r78d kn X).1 82 a.toNat) (d_X0_readHouses_r98d d kn (d_X0_readLaws_r98d d kn (d_X7_asKnown_r78d kn X)))).2) else (1, (d_X0_holdsFor_r98d x c ((d_X7_asKnown_r78d kn X).1 82 a.toNat) (d_X0_readHouses_r98d d kn (d_X0_readLaws_r98d d kn (d_X7_asKnown_r78d kn X)))).2)) else (-1, X)) := rfl
  rw [e, cX_e P.2.2.1]
  by_cases c1 : sCl E.1 x c
  · rw [tv_t c1, if_neg (show ¬ (1 : Int) = 0 from by decide)]
    by_cases c2 : 0 ≤ d ∧ d ≤ 146399
    · rw [if_pos c2, tv_t ⟨c1, c2⟩, if_neg (show ¬ (1 : Int) = 0 from by decide)]
      refine qXz P K V (fun p k0 P1 K1 Q1 e1 e2 p2 p3 => ?_)
      rw [e1, e2]
      obtain ⟨v1, v2, v3, v4⟩ := c_tu (d := d) V Q1 K1
      have h := xho (t := x) (c := c) v1.1 (ev_q V kn) c2 p2 p3 v1.2.1 V.2.2.2.2.2.1 V.2.2.2.2.1 v1.2.2 (ev_o V kn c2 (p : Int)) c1.1 c1.2 pF_r
      obtain ⟨h1, h2, h3⟩ := h
      have kk := (c_z v2 h3 v3).2
      rw [h1]
      by_cases c3 : sHd E.1 d kn x c fun w => sQu E (sGs E kn).1 d kn w (p : Int)
      · rw [tv_t c3, if_neg (show ¬ (1 : Int) = 0 from by decide)]; exact ⟨rfl, kk⟩
      · rw [tv_f c3, if_pos rfl]; exact ⟨rfl, kk⟩
    · rw [if_neg c2, if_pos (tv_f (fun h => c2 h.2))]; exact ⟨rfl, K⟩
  · rw [if_pos (tv_f c1), if_pos (tv_f (fun h => c1 h.1))]; exact ⟨rfl, K⟩
theorem m_holds {x c d : Int} (P : pCm M E t w wm) (Y : pYm M) (V : pEv E t w wm) (C : pCa E.1) : (d_X12_holds_r125d x c a d kn M).1 = aHolds E x c a d kn := by
  have e126 := cm_126 P
  have y : (d_X12_holds_r125d x c a d kn M).1 = if tv (sKw E kn a) = 0 then -1 else (if tv (sCl E.1 x c ∧ (0 ≤ d ∧ d ≤ 146399)) = 0 then -1 else tv (sHd E.1 d kn x c fun w => sQu E (sGs E kn).1 d kn w ((sGs E kn).1 a.toNat))) := by
    refine qMz (B := if 0 ≤ x ∧ x ≤ M.1 126 4 - 1 then (if 0 ≤ c ∧ c ≤ M.1 126 ((18820 + (924 * x)) + 3).toNat - 1 then (if 0 ≤ d ∧ d ≤ 146399 then (if (d_X12_holdsFor_r125d x c ((d_X12_find_r125d kn (vu M 125 0 0)).1 139 a.toNat) d (d_X12_find_r125d kn (vu M 125 0 0))).1 = 0 then (0, (d_X12_holdsFor_r125d x c ((d_X12_find_r125d kn (vu M 125 0 0)).1 139 a.toNat) d (d_X12_find_r125d kn (vu M 125 0 0))).2) else (1, (d_X12_holdsFor_r125d x c ((d_X12_find_r125d kn (vu M 125 0 0)).1 139 a.toNat) d (d_X12_find_r125d kn (vu M 125 0 0))).2)) else (-1, d_X12_find_r125d kn (vu M 125 0 0))) else (-1, d_X12_find_r125d kn (vu M 125 0 0))) else (-1, d_X12_find_r125d kn (vu M 125 0 0))) P Y V (fun p k0 A1 P1 e1 e2 p2 p3 => ?_)
    rw [e1, e2, e126]
    by_cases c1 : 0 ≤ x ∧ x ≤ E.1 4 - 1
    · rw [if_pos c1]
      by_cases c2 : 0 ≤ c ∧ c ≤ E.1 ((18820 + (924 * x)) + 3).toNat - 1
      · rw [if_pos c2]
        have cl : sCl E.1 x c := ⟨⟨c1.1, by omega⟩, c2.1, by omega⟩
        by_cases c3 : 0 ≤ d ∧ d ≤ 146399
        · rw [if_pos c3, tv_t ⟨cl, c3⟩, if_neg (show ¬ (1 : Int) = 0 from by decide)]
          have h := mhA A1 (ev_q V kn) c3 (show (p : Int) ≠ -1 from by omega) V.2.2.2.2.1 (ev_o V kn c3 (p : Int)) C cl.1 cl.2
          rw [h.1]
          by_cases c4 : sHd E.1 d kn x c fun w => sQu E (sGs E kn).1 d kn w (p : Int)
          · rw [tv_t c4, if_neg (show ¬ (1 : Int) = 0 from by decide)]
          · rw [tv_f c4, if_pos rfl]
        · rw [if_neg c3, if_pos (tv_f (fun h => c3 h.2))]
      · rw [if_neg c2, if_pos (tv_f (fun h => by have := h.1.2; omega))]
    · rw [if_neg c1, if_pos (tv_f (fun h => by have := h.1.1; omega))]
  rw [y]
  unfold aHolds
  by_cases q : tv (sCl E.1 x c ∧ (0 ≤ d ∧ d ≤ 146399)) = 0
  · rw [if_pos q, if_pos q]; split <;> rfl
  · rw [if_neg q, if_neg q]
/-! badge -/
noncomputable def aBadge (E : pE) (a d kn : Int) : Int := if 0 ≤ d ∧ d ≤ 146399 then (if tv (sKw E kn a) = 0 then -1 else if sBx E (sGs E kn).1 d kn 5 0 ((sGs E kn).1 a.toNat) = -1 then 0 else if sRe E (sGs E kn).1 ((sGs E kn).1 a.toNat) (d - 365) d ≤ 0 then 0 else 1) else -1
theorem x_badge {d : Int} (P : pCp X E t w wm) (K : pCk X E t w wm) (V : pEv E t w wm) : (d_X11_badge_r31d a d kn X).1 = aBadge E a d kn ∧ pCk (d_X11_badge_r31d a d kn X).2 E t w wm := by
  unfold aBadge
  have e : d_X11_badge_r31d a d kn X = if 0 ≤ d ∧ d ≤ 146399 then gXz a kn (-1) X (if (d_X0_quantity_r98d 7 ((d_X7_asKnown_r78d kn X).1 82 a.toNat) (d_X0_readHouses_r98d d kn (d_X0_readLaws_r98d d kn (d_X7_asKnown_r78d kn X)))).1 = 1 then (if (d_X0_weigh_r98d 4 0 ((d_X7_asKnown_r78d kn X).1 82 a.toNat) (d_X0_quantity_r98d 7 ((d_X7_asKnown_r78d kn X).1 82 a.toNat) (d_X0_readHouses_r98d d kn (d_X0_readLaws_r98d d kn (d_X7_asKnown_r78d kn X)))).2).1 = 0 then (0, (d_X0_weigh_r98d 4 0 ((d_X7_asKnown_r78d kn X).1 82 a.toNat) (d_X0_quantity_r98d 7 ((d_X7_asKnown_r78d kn X).1 82 a.toNat) (d_X0_readHouses_r98d d kn (d_X0_readLaws_r98d d kn (d_X7_asKnown_r78d kn X)))).2).2) else (1, (d_X0_weigh_r98d 4 0 ((d_X7_asKnown_r78d kn X).1 82 a.toNat) (d_X0_quantity_r98d 7 ((d_X7_asKnown_r78d kn X).1 82 a.toNat) (d_X0_readHouses_r98d d kn (d_X0_readLaws_r98d d kn (d_X7_asKnown_r78d kn X)))).2).2)) else (0, (d_X0_quantity_r98d 7 ((d_X7_asKnown_r78d kn X).1 82 a.toNat) (d_X0_readHouses_r98d d kn (d_X0_readLaws_r98d d kn (d_X7_asKnown_r78d kn X)))).2)) else (-1, X) := rfl
  rw [e]
  by_cases c1 : 0 ≤ d ∧ d ≤ 146399
  · rw [if_pos c1, if_pos c1]
    refine qXz P K V (fun p k0 P1 K1 Q1 e1 e2 p2 p3 => ?_)
    rw [e1, e2]
    obtain ⟨v1, v2, v3, v4⟩ := c_tu (d := d) V Q1 K1
    generalize d_X0_readHouses_r98d d kn (d_X0_readLaws_r98d d kn (d_X7_asKnown_r78d kn X)) = W at *
    have q7 := xqu (w := 7) v1.1 (ev_q V kn) c1 p2 p3
    have F7 : pF fw_X0_weigh_r98d W (d_X0_quantity_r98d 7 (p : Int) W).2 := pF_m rfl (fr_d_X0_quantity_r98d 7 (p : Int) W)
    obtain ⟨U, u1, u2, u3, _⟩ := xwe (ki := 4) (wh := 0) v1.1 (ev_q V kn) c1 p2 p3 v1.2.1 V.2.2.2.2.2.1 V.2.2.2.2.1 v1.2.2 (ev_o V kn c1 (p : Int)) (by decide) F7
    have s7 : sQu E (sGs E kn).1 d kn 7 (p : Int) = if sRe E (sGs E kn).1 (p : Int) (d - 365) d ≤ 0 then 0 else 1 := rfl
    rw [q7, s7, u1]
    have k7 := (c_z v2 F7 v3).2
    have kU := (c_z v2 u2 v3).2
    have sb : sBx E (sGs E kn).1 d kn 5 0 (p : Int) = U.1 98 13 := u3.symm
    rw [sb]
    by_cases c2 : sRe E (sGs E kn).1 (p : Int) (d - 365) d ≤ 0
    · rw [if_pos c2, if_neg (show ¬ (0 : Int) = 1 from by decide)]
      refine ⟨?_, k7⟩
      split <;> rfl
    · rw [if_neg c2, if_pos rfl]
      by_cases c3 : U.1 98 13 = -1
      · rw [if_pos c3, if_pos (show ((0 : Int), U).1 = 0 from rfl)]; exact ⟨rfl, kU⟩
      · rw [if_neg c3, if_neg (show ¬ ((1 : Int), U).1 = 0 from (by decide : ¬ (1 : Int) = 0))]; exact ⟨rfl, kU⟩
  · rw [if_neg c1, if_neg c1]; exact ⟨rfl, K⟩
theorem m_badge {d : Int} (P : pCm M E t w wm) (Y : pYm M) (V : pEv E t w wm) (C : pCa E.1) : (d_X12_badge_r125d a d kn M).1 = aBadge E a d kn := by
  have y : (d_X12_badge_r125d a d kn M).1 = if tv (sKw E kn a) = 0 then -1 else (if 0 ≤ d ∧ d ≤ 146399 then (if sBx E (sGs E kn).1 d kn 5 0 ((sGs E kn).1 a.toNat) = -1 then 0 else if sRe E (sGs E kn).1 ((sGs E kn).1 a.toNat) (d - 365) d ≤ 0 then 0 else 1) else -1) := by
    refine qMz (B := if 0 ≤ d ∧ d ≤ 146399 then (if (d_X12_findCount_r125d 5 0 ((d_X12_find_r125d kn (vu M 125 0 0)).1 139 a.toNat) d (d_X12_find_r125d kn (vu M 125 0 0))).1 125 65 = -1 then (0, d_X12_findCount_r125d 5 0 ((d_X12_find_r125d kn (vu M 125 0 0)).1 139 a.toNat) d (d_X12_find_r125d kn (vu M 125 0 0))) else (if d_X12_reliefOf_r125d ((d_X12_find_r125d kn (vu M 125 0 0)).1 139 a.toNat) (d - 365) d (d_X12_findCount_r125d 5 0 ((d_X12_find_r125d kn (vu M 125 0 0)).1 139 a.toNat) d (d_X12_find_r125d kn (vu M 125 0 0))) ≤ 0 then (0, d_X12_findCount_r125d 5 0 ((d_X12_find_r125d kn (vu M 125 0 0)).1 139 a.toNat) d (d_X12_find_r125d kn (vu M 125 0 0))) else (1, d_X12_findCount_r125d 5 0 ((d_X12_find_r125d kn (vu M 125 0 0)).1 139 a.toNat) d (d_X12_find_r125d kn (vu M 125 0 0))))) else (-1, d_X12_find_r125d kn (vu M 125 0 0))) P Y V (fun p k0 A1 P1 e1 e2 p2 p3 => ?_)
    rw [e1, e2]
    by_cases c1 : 0 ≤ d ∧ d ≤ 146399
    · rw [if_pos c1, if_pos c1]
      generalize d_X12_find_r125d kn (vu M 125 0 0) = A at *
      obtain ⟨m1, m2, m3, _⟩ := mfc (ki := 5) (wh := 0) A1.1 (ev_q V kn) A1.2.1 c1 (show (p : Int) ≠ -1 from by omega) V.2.2.2.2.1 (ev_o V kn c1 (p : Int)) C pF_r A1.2.2
      have re := mre (a := d - 365) (b := d) (pMs_F m1 A1.1) (show (p : Int) ≠ -1 from by omega)
      have sb : sBx E (sGs E kn).1 d kn 5 0 (p : Int) = (d_X12_findCount_r125d 5 0 (p : Int) d A).1 125 65 := m3.symm
      rw [sb, re]
      by_cases c2 : (d_X12_findCount_r125d 5 0 (p : Int) d A).1 125 65 = -1
      · rw [if_pos c2, if_pos c2]
      · rw [if_neg c2, if_neg c2]
        by_cases c3 : sRe E (sGs E kn).1 (p : Int) (d - 365) d ≤ 0
        · rw [if_pos c3, if_pos c3]
        · rw [if_neg c3, if_neg c3]
    · rw [if_neg c1, if_neg c1]
  rw [y]
  unfold aBadge
  by_cases q : 0 ≤ d ∧ d ≤ 146399
  · rw [if_pos q, if_pos q]
  · rw [if_neg q, if_neg q]; split <;> rfl
/-! force -/
noncomputable def aForce (E : pE) (x c d kn : Int) : Int := if tv (sCl E.1 x c ∧ (0 ≤ d ∧ d ≤ 146399) ∧ (0 ≤ kn ∧ kn ≤ 146399)) = 0 then -1 else tv (sLo E.1 d kn x ∧ sLs E.1 d kn ((12 * x) + c).toNat = 0)
theorem x_force {x c d : Int} (P : pCp X E t w wm) (K : pCk X E t w wm) (V : pEv E t w wm) : (d_X11_force_r31d x c d kn X).1 = aForce E x c d kn ∧ pCk (d_X11_force_r31d x c d kn X).2 E t w wm := by
  unfold aForce
  have e : d_X11_force_r31d x c d kn X = cX x c X (-1, X) (if 0 ≤ d ∧ d ≤ 146399 then (if 0 ≤ kn ∧ kn ≤ 146399 then (if X.1 32 18 ≤ x then (0, d_X0_readLaws_r98d d kn X) else if j_iand (j_ishr ((d_X0_readLaws_r98d d kn X).1 99 x.toNat) c) 1 = 1 then (1, d_X0_readLaws_r98d d kn X) else (0, d_X0_readLaws_r98d d kn X)) else (-1, X)) else (-1, X)) := rfl
  rw [e, cX_e P.2.2.1]
  by_cases c1 : sCl E.1 x c
  · rw [tv_t c1, if_neg (show ¬ (1 : Int) = 0 from by decide)]
    by_cases c2 : 0 ≤ d ∧ d ≤ 146399
    · rw [if_pos c2]
      by_cases c3 : 0 ≤ kn ∧ kn ≤ 146399
      · rw [if_pos c3, tv_t ⟨c1, c2, c3⟩, if_neg (show ¬ (1 : Int) = 0 from by decide), if_neg (show ¬ X.1 32 18 ≤ x from by rw [P.2.2.1.1]; have := c1.1.2; omega)]
        obtain ⟨a1, a2, a3, a4, a5, a6, a7⟩ := xrl (d := d) (kn := kn) (pTc_h P.2.2.1) V.2.2.2.2.1 V.2.2.2.2.2.1 K.2.1
        have F := fr_d_X0_readLaws_r98d d kn X
        have kk : pCk (d_X0_readLaws_r98d d kn X) E t w wm := pCk_k (fun q hq => funext fun j => F.1 q j (okk_n rfl hq)) a2 (pKh_c (pF_c F rfl) (pF_c F rfl) (pF_c F rfl) (pF_c F rfl) (pF_c F rfl) K.2.2.1) K
        have J := V.2.2.2.2.1
        have b30 := J.2.1
        have n12 := (J.2.2 x c1.1.1 c1.1.2).2.1
        have hc := c1.2
        have hx := c1.1
        have f := @bt_g ((d_X0_readLaws_r98d d kn X).1 99 x.toNat) c.toNat (by omega)
        have l := a1 x.toNat c.toNat (by omega) (by omega)
        rw [show ((x.toNat : Nat) : Int) = x from by omega, show 12 * x.toNat + c.toNat = ((12 * x) + c).toNat from by omega] at l
        rw [show ((c.toNat : Nat) : Int) = c from by omega] at f l
        have g : j_iand (j_ishr ((d_X0_readLaws_r98d d kn X).1 99 x.toNat) c) 1 = 1 ↔ (sLo E.1 d kn x ∧ sLs E.1 d kn ((12 * x) + c).toNat = 0) := f.trans (l.trans ⟨fun y => ⟨y.1, y.2.2⟩, fun y => ⟨y.1, hc.2, y.2⟩⟩)
        by_cases c4 : j_iand (j_ishr ((d_X0_readLaws_r98d d kn X).1 99 x.toNat) c) 1 = 1
        · rw [if_pos c4, tv_t (g.mp c4)]; exact ⟨rfl, kk⟩
        · rw [if_neg c4, tv_f (fun h => c4 (g.mpr h))]; exact ⟨rfl, kk⟩
      · rw [if_neg c3, if_pos (tv_f (fun h => c3 h.2.2))]; exact ⟨rfl, K⟩
    · rw [if_neg c2, if_pos (tv_f (fun h => c2 h.2.1))]; exact ⟨rfl, K⟩
  · rw [if_pos (tv_f c1), if_pos (tv_f (fun h => c1 h.1))]; exact ⟨rfl, K⟩
theorem m_force {x c d : Int} (P : pCm M E t w wm) (Y : pYm M) (V : pEv E t w wm) : (d_X12_force_r125d x c d kn M).1 = aForce E x c d kn := by
  have e126 := cm_126 P
  have P0 : pCm (vu M 125 0 0) E t w wm := cm_u P (Or.inl ⟨rfl, Or.inl (by decide)⟩)
  have Y0 : pYm (vu M 125 0 0) := pYm_e (P0.1.trans P.1.symm) Y
  obtain ⟨A1, G1, P1, _⟩ := m_fi P0 Y0 V kn
  unfold d_X12_force_r125d d_X12_force_r125d_29 d_X12_force_r125d_200052 d_X12_force_r125d_300052 aForce
  rw [e126]
  by_cases c1 : 0 ≤ x ∧ x ≤ E.1 4 - 1
  · rw [if_pos c1]
    by_cases c2 : 0 ≤ c ∧ c ≤ E.1 ((18820 + (924 * x)) + 3).toNat - 1
    · rw [if_pos c2]
      have cl : sCl E.1 x c := ⟨⟨c1.1, by omega⟩, c2.1, by omega⟩
      by_cases c3 : 0 ≤ d ∧ d ≤ 146399
      · rw [if_pos c3]
        by_cases c4 : 0 ≤ kn ∧ kn ≤ 146399
        · rw [if_pos c4, tv_t ⟨cl, c3, c4⟩, if_neg (show ¬ (1 : Int) = 0 from by decide)]
          have a126 := cm_126 P1
          have f := mff (M := d_X12_find_r125d kn (vu M 125 0 0)) (d := d) (by rw [a126]; exact V.2.2.2.2.1) (by omega) (by rw [a126, A1.2.1]; exact A1.2.2)
          rw [a126, A1.2.1] at f
          have f1 := f.1.1 ((12 * x) + c).toNat (by have := V.2.2.2.2.1.2.1; have := (V.2.2.2.2.1.2.2 x cl.1.1 cl.1.2).2.1; have := cl.2.2; omega)
          have f2 := f.1.2 x.toNat (by omega)
          rw [show ((x.toNat : Nat) : Int) = x from by omega] at f2
          rw [f1, f2]
          by_cases q1 : sLo E.1 d kn x
          · rw [tv_t q1, if_neg (show ¬ (1 : Int) = 0 from by decide)]
            by_cases q2 : sLs E.1 d kn ((12 * x) + c).toNat = 0
            · rw [if_pos q2, tv_t ⟨q1, q2⟩]
            · rw [if_neg q2, tv_f (fun h => q2 h.2)]
          · rw [tv_f q1, if_pos rfl, tv_f (fun h => q1 h.1)]
        · rw [if_neg c4, if_pos (tv_f (fun h => c4 h.2.2))]
      · rw [if_neg c3, if_pos (tv_f (fun h => c3 h.2.1))]
    · rw [if_neg c2, if_pos (tv_f (fun h => by have := h.1.2; omega))]
  · rw [if_neg c1, if_pos (tv_f (fun h => by have := h.1.1; omega))]
/-! house -/
noncomputable def aHouse (E : pE) (h d kn k : Int) : Int := if (0 ≤ h ∧ h < E.1 7) ∧ (0 ≤ d ∧ d ≤ 146399) ∧ (0 ≤ kn ∧ kn ≤ 146399) ∧ 0 ≤ k ∧ k ≤ 1 then (if k = 0 then sLf E d kn (E.1 7).toNat h.toNat else sHa E (sGs E kn).1 d kn (E.1 7).toNat h.toNat) else -1
theorem x_house {h d k : Int} (P : pCp X E t w wm) (K : pCk X E t w wm) (V : pEv E t w wm) : (d_X11_house_r31d h d kn k X).1 = aHouse E h d kn k ∧ pCk (d_X11_house_r31d h d kn k X).2 E t w wm := by
  obtain ⟨P1, K1, Q1, G1, y1⟩ := c_as P K V kn
  have e49 : X.1 49 3 = E.1 7 := P.2.1.2.2.2.2.1
  unfold d_X11_house_r31d d_X11_house_r31d_33 d_X11_house_r31d_78 aHouse
  by_cases c1 : h < 0
  · rw [if_pos c1, if_neg (fun q => by omega)]; exact ⟨rfl, K⟩
  · rw [if_neg c1, e49]
    by_cases c2 : E.1 7 ≤ h
    · rw [if_pos c2, if_neg (fun q => by omega)]; exact ⟨rfl, K⟩
    · rw [if_neg c2]
      by_cases c3 : 0 ≤ d ∧ d ≤ 146399
      · rw [if_pos c3]
        by_cases c4 : 0 ≤ kn ∧ kn ≤ 146399
        · rw [if_pos c4]
          by_cases c5 : k < 0
          · rw [if_pos c5, if_neg (fun q => by omega)]; exact ⟨rfl, K⟩
          · rw [if_neg c5]
            by_cases c6 : k ≤ 1
            · rw [if_pos c6, if_pos (c := (0 ≤ h ∧ h < E.1 7) ∧ (0 ≤ d ∧ d ≤ 146399) ∧ (0 ≤ kn ∧ kn ≤ 146399) ∧ 0 ≤ k ∧ k ≤ 1) ⟨⟨by omega, by omega⟩, c3, c4, by omega, c6⟩]
              obtain ⟨p1, p2, p3, p4, p5, p6, p7, p8⟩ := Q1
              obtain ⟨b1, b2, b3, b4, b5, b6⟩ := xrh (d := d) (kn := kn) V.2.2.1 p4 p5 p6 p1.2.2.1 p1.2.2.2.2.1 p8
              have F := fr_d_X0_readHouses_r98d d kn (d_X7_asKnown_r78d kn X)
              have kh : pKh (d_X0_readHouses_r98d d kn (d_X7_asKnown_r78d kn X)) E := fun _ => by rw [b4, b5]; exact b1
              have kk : pCk (d_X0_readHouses_r98d d kn (d_X7_asKnown_r78d kn X)) E t w wm := pCk_k (fun q hq => funext fun j => F.1 q j (okk_n rfl hq)) (pKl_c (pF_c F rfl) (pF_c F rfl) (pF_c F rfl) K1.2.1) kh K1
              have q := b1.2 h.toNat (by omega)
              by_cases c7 : k = 0
              · rw [if_pos c7, if_pos c7]; exact ⟨q.1, kk⟩
              · rw [if_neg c7, if_neg c7]; exact ⟨q.2, kk⟩
            · rw [if_neg c6, if_neg (fun q => by omega)]; exact ⟨rfl, K⟩
        · rw [if_neg c4, if_neg (fun q => c4 q.2.2.1)]; exact ⟨rfl, K⟩
      · rw [if_neg c3, if_neg (fun q => c3 q.2.1)]; exact ⟨rfl, K⟩
theorem m_house {h d k : Int} (P : pCm M E t w wm) (Y : pYm M) (V : pEv E t w wm) : (d_X12_house_r125d h d kn k M).1 = aHouse E h d kn k := by
  have e126 := cm_126 P
  have P0 : pCm (vu M 125 0 0) E t w wm := cm_u P (Or.inl ⟨rfl, Or.inl (by decide)⟩)
  have Y0 : pYm (vu M 125 0 0) := pYm_e (P0.1.trans P.1.symm) Y
  obtain ⟨A1, G1, P1, _⟩ := m_fi P0 Y0 V kn
  unfold d_X12_house_r125d d_X12_house_r125d_38 d_X12_house_r125d_77 aHouse
  rw [e126]
  by_cases c1 : 0 ≤ h ∧ h ≤ E.1 7 - 1
  · rw [if_pos c1]
    by_cases c3 : 0 ≤ d ∧ d ≤ 146399
    · rw [if_pos c3]
      by_cases c4 : 0 ≤ kn ∧ kn ≤ 146399
      · rw [if_pos c4]
        by_cases c5 : 0 ≤ k ∧ k ≤ 1
        · rw [if_pos c5, if_pos (c := (0 ≤ h ∧ h < E.1 7) ∧ (0 ≤ d ∧ d ≤ 146399) ∧ (0 ≤ kn ∧ kn ≤ 146399) ∧ 0 ≤ k ∧ k ≤ 1) ⟨⟨by omega, by omega⟩, c3, c4, c5⟩]
          have z := mhs1 (d := d) V.2.2.2.1 V.2.2.1 (show pMh (d_X12_find_r125d kn (vu M 125 0 0)) E (sGs E kn).1 kn from ⟨cm_126 P1, A1.2.1, A1.1.2.2.2.2.2.2⟩)
          have q := z h.toNat (by omega)
          rw [show (40 + h).toNat = 40 + h.toNat from by omega]
          by_cases c7 : k = 0
          · rw [if_pos c7, if_pos c7]; exact q.1
          · rw [if_neg c7, if_neg c7]; exact q.2
        · rw [if_neg c5, if_neg (fun q => c5 q.2.2.2)]
      · rw [if_neg c4, if_neg (fun q => c4 q.2.2.1)]
    · rw [if_neg c3, if_neg (fun q => c3 q.2.1)]
  · rw [if_neg c1, if_neg (fun q => by omega)]
end
end jG110

section jG111
/-! pure: seat, turn, fill, best, group -/
theorem cL_p {P : Int → Prop} : ∀ n : Nat, cL P n ≠ -1 → P (cL P n) := by
  intro n
  induction n with
  | zero => intro h; exact absurd rfl h
  | succ n ih =>
    intro h
    by_cases c : P (n : Int)
    · rw [cL_y c]; exact c
    · rw [cL_n c] at h ⊢; exact ih h
theorem sv_b {E : pE} {g : Nat → Int} {d kn ki wh s : Int} (C : pCa E.1) (O : qOk fun w => sQu E g d kn w s) (h : sBx E g d kn ki wh s ≠ -1) : -2000000000000 < sSv E g d kn ki wh s ∧ sSv E g d kn ki wh s ≤ 1000000000000 := by
  unfold sBx cBy at h
  by_cases c : cL (sCk E.1 d kn ki wh fun w => sQu E g d kn w s) 720 = -1
  · rw [if_pos c] at h; exact absurd rfl h
  · have p := cL_p 720 c
    unfold sSv cSu
    rw [if_neg c]
    generalize cL (sCk E.1 d kn ki wh fun w => sQu E g d kn w s) 720 = k at *
    obtain ⟨t1, c1, _, _, _, hd⟩ := p
    obtain ⟨hh, cd, L, Q⟩ := C ((k % 360) / 12) t1.1 (by omega)
    have q := (Q (k % 12) c1.1 (by omega) hd.1).1
    unfold sSq sSm
    by_cases z : E.1 ((((18820 + (924 * ((k % 360) / 12))) + 4) + (10 * (k % 12))) + 5).toNat ≤ E.1 ((((18820 + (924 * ((k % 360) / 12))) + 4) + (10 * (k % 12))) + 4).toNat
    · rw [if_pos z]; decide
    · rw [if_neg z]
      have e : (sEv E.1 ((k % 360) / 12) (E.1 ((((18820 + (924 * ((k % 360) / 12))) + 4) + (10 * (k % 12))) + 4).toNat) (E.1 ((((18820 + (924 * ((k % 360) / 12))) + 4) + (10 * (k % 12))) + 5).toNat) fun w => sQu E g d kn w s).1 = 0 := by
        rcases hd.2.2.2.2 with y | y
        · exact absurd y z
        · exact y
      exact pEx_b (q.2 (fun y => z (q.1.mp y))) O e
section
variable {X M : jW} {E : pE} {t : jT} {w : Nat} {wm : Nat → Nat} {kn : Int}
/-! seat -/
noncomputable def aSeat (E : pE) (d kn i : Int) : Int := if (0 ≤ d ∧ d ≤ 146399) ∧ 0 ≤ kn ∧ kn ≤ 146399 then sAn (sSa E d kn) i else -1
theorem x_seat {d i : Int} (P : pCp X E t w wm) (K : pCk X E t w wm) (V : pEv E t w wm) : (d_X11_seat_r31d d kn i X).1 = aSeat E d kn i ∧ pCk (d_X11_seat_r31d d kn i X).2 E t w wm := by
  obtain ⟨P1, K1, Q1, G1, y1⟩ := c_as P K V kn
  unfold d_X11_seat_r31d d_X11_seat_r31d_14 d_X11_seat_r31d_85 d_X11_seat_r31d_86 d_X11_seat_r31d_100086 aSeat
  by_cases c1 : 0 ≤ d ∧ d ≤ 146399
  · rw [if_pos c1]
    by_cases c2 : 0 ≤ kn ∧ kn ≤ 146399
    · rw [if_pos c2, if_pos (c := (0 ≤ d ∧ d ≤ 146399) ∧ 0 ≤ kn ∧ kn ≤ 146399) ⟨c1, c2⟩]
      obtain ⟨s1, s2, s3⟩ := xsa (d := d) Q1 K1.2.2.2.1 (ev_q V kn) c1 V.2.2.2.2.2.1 V.2.2.2.2.1 (fun p _ _ => ev_o V kn c1 (p : Int))
      have F := fr_d_X4_seatAll_r107d d kn (d_X7_asKnown_r78d kn X)
      generalize d_X7_asKnown_r78d kn X = A at *
      have kk : pCk (d_X4_seatAll_r107d d kn A) E t w wm := ⟨pKs_e (fun c hc => by rcases hc with rfl | rfl | rfl | rfl | rfl <;> exact pF_c F rfl) (F.1 78 13 rfl) K1.1, s2.2.2.2.2.2.2.1, s2.2.2.2.2.2.2.2, s3, pKt_e (fun c hc => by rcases hc with rfl | rfl | rfl | rfl | rfl <;> exact pF_c F rfl) (F.1 107 15 rfl) (F.1 107 16 rfl) K1.2.2.2.2.1, pKv_e (fun c hc => by rcases hc with rfl | rfl | rfl <;> exact pF_c F rfl) K1.2.2.2.2.2.1, pKj_e (fun c hc => by rcases hc with rfl | rfl | rfl <;> exact pF_c F rfl) (fun k _ _ => by rw [show (d_X4_seatAll_r107d d kn A).1 87 = A.1 87 from pF_c F rfl]) K1.2.2.2.2.2.2⟩
      rw [s1.1]
      unfold sAn
      by_cases c3 : i = -1
      · rw [if_pos c3, if_pos c3]; exact ⟨rfl, kk⟩
      · rw [if_neg c3, if_neg c3]
        by_cases c4 : i < 0
        · rw [if_pos c4, if_neg (fun h => by omega)]; exact ⟨rfl, kk⟩
        · rw [if_neg c4]
          by_cases c5 : ((sSa E d kn).1 : Int) ≤ i
          · rw [if_pos c5, if_neg (fun h => by omega)]; exact ⟨rfl, kk⟩
          · rw [if_neg c5, if_pos ⟨by omega, by omega⟩]
            exact ⟨s1.2 i.toNat (by omega), kk⟩
    · rw [if_neg c2, if_neg (fun h => c2 h.2)]; exact ⟨rfl, K⟩
  · rw [if_neg c1, if_neg (fun h => c1 h.1)]; exact ⟨rfl, K⟩
/-- the reference finds SOULS and HOLDINGS -/
theorem m_fh {d : Int} {g : Nat → Int} (A : pAs M E g kn) (V : pEv E t w wm) : pAs (d_X12_findHouses_r125_c1d d M) E g kn ∧ pHz ((d_X12_findHouses_r125_c1d d M).1 162) ((d_X12_findHouses_r125_c1d d M).1 163) 40 E g d kn (E.1 7).toNat := by
  have e126 : M.1 126 = E.1 := congrArg Prod.fst A.1.1
  have z := mhs1 (d := d) V.2.2.2.1 V.2.2.1 (show pMh M E g kn from ⟨e126, A.2.1, A.1.2.2.2.2.2.2⟩)
  have F := fr_d_X12_findHouses_r125_c1d d M
  have F2 : pF fw_X12_findCount_r125d M (d_X12_findHouses_r125_c1d d M) := pF_m rfl F
  refine ⟨⟨pMs_F F2 A.1, (F.1 125 28 rfl).trans A.2.1, ?_⟩, z⟩
  exact kf_c A.2.2 (pF_c F rfl) (pF_c F rfl) (pF_c F rfl)
theorem m_seat {d i : Int} (P : pCm M E t w wm) (Y : pYm M) (V : pEv E t w wm) (C : pCa E.1) : (d_X12_seat_r125d d kn i M).1 = aSeat E d kn i := by
  have P0 : pCm (vu M 125 0 0) E t w wm := cm_u P (Or.inl ⟨rfl, Or.inl (by decide)⟩)
  have Y0 : pYm (vu M 125 0 0) := pYm_e (P0.1.trans P.1.symm) Y
  obtain ⟨A1, G1, P1, _⟩ := m_fi P0 Y0 V kn
  have b7 := V.2.2.2.1.1
  unfold d_X12_seat_r125d d_X12_seat_r125d_19 aSeat
  by_cases c1 : 0 ≤ d ∧ d ≤ 146399
  · rw [if_pos c1]
    by_cases c2 : 0 ≤ kn ∧ kn ≤ 146399
    · rw [if_pos c2, if_pos (c := (0 ≤ d ∧ d ≤ 146399) ∧ 0 ≤ kn ∧ kn ≤ 146399) ⟨c1, c2⟩]
      obtain ⟨A2, Z⟩ := m_fh (d := d) A1 V
      have hq := ha_q (d := d) (kn := kn) (ev_q V kn) (ev_g V kn)
      obtain ⟨U, u1, _⟩ := ms38 (i := i) A2.1 (ev_q V kn) A2.2.1 c1 hq V.2.2.2.2.1 C (fun p _ _ => ev_o V kn c1 (p : Int)) Z (fun q hq1 hq2 hq3 => (sv_b C (ev_o V kn c1 _) hq3).1) (E.1 7).toNat 0 41 (d_X12_findHouses_r125_c1d d (d_X12_find_r125d kn (vu M 125 0 0))) (by omega) (by omega) (by omega) pZm_r A2.2.2 (fun j hj => absurd hj (Nat.not_lt_zero j)) (fun j hj => absurd hj (Nat.not_lt_zero j))
      have u2 : d_X12_seat_r125d_38 41 d i 0 0 (d_X12_findHouses_r125_c1d d (d_X12_find_r125d kn (vu M 125 0 0))) = (sAn (sSe E (sGs E kn).1 d kn (E.1 7).toNat) i, U) := u1
      rw [u2]
      rfl
    · rw [if_neg c2, if_neg (fun h => c2 h.2)]
  · rw [if_neg c1, if_neg (fun h => c1 h.1)]
/-! turn -/
noncomputable def aTurn (E : pE) (o y kn k : Int) : Int := if (0 ≤ o ∧ o ≤ 3) ∧ (0 ≤ y ∧ y ≤ 399) ∧ (0 ≤ kn ∧ kn ≤ 146399) ∧ 0 ≤ k ∧ k ≤ 2 then (if k = 0 then sSb E kn o y.toNat else if k = 1 then sPd E kn o y.toNat else sUn (sSb E kn o) (E.1 7) (y.toNat + 1)) else -1
theorem yr_d {y : Nat} (h : y ≤ 399) : 0 ≤ (y : Int) * 366 ∧ (y : Int) * 366 ≤ 146399 := by omega
theorem x_turn {o y k : Int} (P : pCp X E t w wm) (K : pCk X E t w wm) (V : pEv E t w wm) : (d_X11_turn_r31d o y kn k X).1 = aTurn E o y kn k ∧ pCk (d_X11_turn_r31d o y kn k X).2 E t w wm := by
  obtain ⟨P1, K1, Q1, G1, y1⟩ := c_as P K V kn
  unfold d_X11_turn_r31d d_X11_turn_r31d_32 aTurn
  by_cases c1 : 0 ≤ o ∧ o ≤ 3
  · rw [if_pos c1]
    by_cases c2 : 0 ≤ y ∧ y ≤ 399
    · rw [if_pos c2]
      by_cases c3 : 0 ≤ kn ∧ kn ≤ 146399
      · rw [if_pos c3]
        by_cases c4 : k < 0
        · rw [if_pos c4, if_neg (fun h => by omega)]; exact ⟨rfl, K⟩
        · rw [if_neg c4]
          by_cases c5 : k ≤ 2
          · rw [if_pos c5, if_pos (c := (0 ≤ o ∧ o ≤ 3) ∧ (0 ≤ y ∧ y ≤ 399) ∧ (0 ≤ kn ∧ kn ≤ 146399) ∧ 0 ≤ k ∧ k ≤ 2) ⟨c1, c2, c3, by omega, c5⟩]
            obtain ⟨⟨y2, r1, r2⟩, r3⟩ := xrt (o := o) (yl := y.toNat) Q1 K1.2.2.2.2.1 (ev_q V kn) (by omega) V.2.2.2.2.2.1 V.2.2.2.2.1 V.2.2.2.2.2.2.2.2.1 (fun j hj p _ _ => ev_o V kn (yr_d hj) (p : Int))
            rw [show ((y.toNat : Nat) : Int) = y from by omega] at r2 r3
            have F := fr_d_X4_runTurns_r107d o y kn (d_X7_asKnown_r78d kn X)
            generalize d_X7_asKnown_r78d kn X = A at *
            have kk : pCk (d_X4_runTurns_r107d o y kn A) E t w wm := ⟨pKs_e (fun c hc => by rcases hc with rfl | rfl | rfl | rfl | rfl <;> exact pF_c F rfl) (F.1 78 13 rfl) K1.1, r2.1.2.2.2.2.2.2.1, r2.1.2.2.2.2.2.2.2, pKe_e (fun c hc => by rcases hc with rfl | rfl | rfl <;> exact pF_c F rfl) (F.1 107 9 rfl) K1.2.2.2.1, r3, pKv_e (fun c hc => by rcases hc with rfl | rfl | rfl <;> exact pF_c F rfl) K1.2.2.2.2.2.1, pKj_e (fun c hc => by rcases hc with rfl | rfl | rfl <;> exact pF_c F rfl) (fun k _ _ => by rw [show (d_X4_runTurns_r107d o y kn A).1 87 = A.1 87 from pF_c F rfl]) K1.2.2.2.2.2.2⟩
            have q : ∀ j : Nat, j ≤ y.toNat → (d_X4_runTurns_r107d o y kn A).1 115 j = sSb E kn o j ∧ (d_X4_runTurns_r107d o y kn A).1 116 j = sPd E kn o j := fun j hj => by
              have a := r2.2.2.2.1 j (by omega)
              have b := ys_o (E := E) (kn := kn) (o := o) (g := (sGs E kn).1) (j := j) y2 (by omega)
              exact ⟨a.1.trans b.1, a.2.trans b.2⟩
            by_cases c6 : k = 0
            · rw [if_pos c6, if_pos c6]; exact ⟨(q y.toNat (Nat.le_refl _)).1, kk⟩
            · rw [if_neg c6, if_neg c6]
              by_cases c7 : k = 1
              · rw [if_pos c7, if_pos c7]; exact ⟨(q y.toNat (Nat.le_refl _)).2, kk⟩
              · rw [if_neg c7, if_neg c7]
                have e49 : (d_X4_runTurns_r107d o y kn A).1 49 3 = E.1 7 := r2.1.2.2.2.1.2.1
                have u := xun (b := sSb E kn o) (yl := y.toNat) (N := E.1 7) (W := d_X4_runTurns_r107d o y kn A) (by omega) V.2.2.2.1.1 (fun j _ => sb_r V.2.2.2.1.1 j) e49 (fun j hj => (q j hj).1)
                rw [show ((y.toNat : Nat) : Int) = y from by omega] at u
                have F2 := fr_d_X4_unevenness_r107d y (d_X4_runTurns_r107d o y kn A)
                exact ⟨u, pCk_k (fun c hc => funext fun j => F2.1 c j (okk_n rfl hc)) (pKl_c (pF_c F2 rfl) (pF_c F2 rfl) (pF_c F2 rfl) kk.2.1) (pKh_c (pF_c F2 rfl) (pF_c F2 rfl) (pF_c F2 rfl) (pF_c F2 rfl) (pF_c F2 rfl) kk.2.2.1) kk⟩
          · rw [if_neg c5, if_neg (fun h => c5 h.2.2.2.2)]; exact ⟨rfl, K⟩
      · rw [if_neg c3, if_neg (fun h => c3 h.2.2.1)]; exact ⟨rfl, K⟩
    · rw [if_neg c2, if_neg (fun h => c2 h.2.1)]; exact ⟨rfl, K⟩
  · rw [if_neg c1, if_neg (fun h => c1 h.1)]; exact ⟨rfl, K⟩
theorem m_turn {o y k : Int} (P : pCm M E t w wm) (Y : pYm M) (V : pEv E t w wm) (C : pCa E.1) : (d_X12_turn_r125d o y kn k M).1 = aTurn E o y kn k := by
  have P0 : pCm (vu M 125 0 0) E t w wm := cm_u P (Or.inl ⟨rfl, Or.inl (by decide)⟩)
  have Y0 : pYm (vu M 125 0 0) := pYm_e (P0.1.trans P.1.symm) Y
  obtain ⟨A1, G1, P1, _⟩ := m_fi P0 Y0 V kn
  unfold d_X12_turn_r125d d_X12_turn_r125d_44 d_X12_turn_r125d_83 aTurn
  by_cases c1 : 0 ≤ o ∧ o ≤ 3
  · rw [if_pos c1]
    by_cases c2 : 0 ≤ y ∧ y ≤ 399
    · rw [if_pos c2]
      by_cases c3 : 0 ≤ kn ∧ kn ≤ 146399
      · rw [if_pos c3]
        by_cases c4 : 0 ≤ k ∧ k ≤ 2
        · rw [if_pos c4, if_pos (c := (0 ≤ o ∧ o ≤ 3) ∧ (0 ≤ y ∧ y ≤ 399) ∧ (0 ≤ kn ∧ kn ≤ 146399) ∧ 0 ≤ k ∧ k ≤ 2) ⟨c1, c2, c3, c4⟩]
          generalize d_X12_find_r125d kn (vu M 125 0 0) = A at *
          have r := mrn2 (o := o) (yl := y.toNat) (ev_q V kn) (ev_g V kn) (by omega) V.2.2.2.2.1 C (fun j hj p _ _ => ev_o V kn (yr_d hj) (p : Int)) (y.toNat + 1) 0 401 A (by omega) (by omega) (by omega) ⟨A1.1, A1.2.1, A1.2.2, fun j hj => absurd hj (Nat.not_lt_zero j)⟩
          have e0 : ((sYs E (sGs E kn).1 kn o 0).2.2 + 1) % E.1 7 = 0 := by
            show ((-1 : Int) + 1) % E.1 7 = 0
            exact Int.zero_emod _
          have a126 : A.1 126 7 = E.1 7 := by rw [cm_126 P1]
          rw [e0, show ((y.toNat : Nat) : Int) = y from by omega, show ((0 : Nat) : Int) = 0 from rfl] at r
          have ft : d_X12_findTurns_r125d o y A = d_X12_findTurns_r125d_14 401 o y (E.1 7) 0 0 A := by unfold d_X12_findTurns_r125d; rw [a126]
          rw [← ft] at r
          have q : ∀ j : Nat, j ≤ y.toNat → (d_X12_findTurns_r125d o y A).1 168 j = sSb E kn o j ∧ (d_X12_findTurns_r125d o y A).1 169 j = sPd E kn o j := fun j hj => by
            have a := r.2.2.2 j (by omega)
            have b := ys_o (E := E) (kn := kn) (o := o) (g := (sGs E kn).1) (j := j) (y.toNat + 1) (by omega)
            exact ⟨a.1.trans b.1, a.2.trans b.2⟩
          by_cases c5 : 2 ≤ k
          · have u := mun (b := sSb E kn o) (yl := y.toNat) (N := E.1 7) (W := d_X12_findTurns_r125d o y A) (by omega) V.2.2.2.1.1 (by rw [show (d_X12_findTurns_r125d o y A).1 126 = E.1 from congrArg Prod.fst r.1.1]) (fun j hj => (q j hj).1)
            rw [show ((y.toNat : Nat) : Int) = y from by omega] at u
            rw [if_pos c5, u, if_neg (show ¬ k = 0 from by omega), if_neg (show ¬ k = 1 from by omega)]
          · rw [if_neg c5]
            by_cases c6 : k = 0
            · rw [if_pos c6, if_pos c6]; exact (q y.toNat (Nat.le_refl _)).1
            · rw [if_neg c6, if_neg c6, if_pos (show k = 1 from by omega)]; exact (q y.toNat (Nat.le_refl _)).2
        · rw [if_neg c4, if_neg (fun h => c4 h.2.2.2)]
      · rw [if_neg c3, if_neg (fun h => c3 h.2.2.1)]
    · rw [if_neg c2, if_neg (fun h => c2 h.2.1)]
  · rw [if_neg c1, if_neg (fun h => c1 h.1)]
/-! fill -/
noncomputable def aFill (E : pE) (bk a b kn k : Int) : Int := if (0 ≤ bk ∧ bk ≤ 5) ∧ (0 ≤ a ∧ a ≤ b ∧ b ≤ 146399) ∧ (0 ≤ kn ∧ kn ≤ 146399) ∧ 0 ≤ k ∧ k ≤ 2 then (if k = 2 then sGu E.1 bk kn a b else if k = 0 then sLe E (sGs E kn).1 bk a b else max (sLe E (sGs E kn).1 bk a b) (sMo2 E.1 bk kn (b - a) (E.1 0).toNat)) else -1
theorem i0_r (I : pIr E) : pI0 E.1 := fun l hl => (I l hl).2.2.1
theorem x_fill {bk a b k : Int} (P : pCp X E t w wm) (K : pCk X E t w wm) (V : pEv E t w wm) : (d_X11_fill_r31d bk a b kn k X).1 = aFill E bk a b kn k ∧ pCk (d_X11_fill_r31d bk a b kn k X).2 E t w wm := by
  obtain ⟨P1, K1, Q1, G1, y1⟩ := c_as P K V kn
  unfold d_X11_fill_r31d d_X11_fill_r31d_45 d_X11_fill_r31d_106 aFill
  by_cases c1 : 0 ≤ bk ∧ bk ≤ 5
  · rw [if_pos c1]
    by_cases c2 : 0 ≤ a ∧ a ≤ 146399
    · rw [if_pos c2]
      by_cases c3 : 0 ≤ b ∧ b ≤ 146399
      · rw [if_pos c3]
        by_cases c4 : b < a
        · rw [if_pos c4, if_neg (fun h => by omega)]; exact ⟨rfl, K⟩
        · rw [if_neg c4]
          by_cases c5 : 0 ≤ kn ∧ kn ≤ 146399
          · rw [if_pos c5]
            by_cases c6 : k < 0
            · rw [if_pos c6, if_neg (fun h => by omega)]; exact ⟨rfl, K⟩
            · rw [if_neg c6]
              by_cases c7 : k ≤ 2
              · have hab : 0 ≤ a ∧ a ≤ b ∧ b ≤ 146399 := by omega
                rw [if_pos c7, if_pos (c := (0 ≤ bk ∧ bk ≤ 5) ∧ (0 ≤ a ∧ a ≤ b ∧ b ≤ 146399) ∧ (0 ≤ kn ∧ kn ≤ 146399) ∧ 0 ≤ k ∧ k ≤ 2) ⟨c1, hab, c5, by omega, c7⟩]
                by_cases c8 : k = 2
                · rw [if_pos c8, if_pos c8]
                  exact ⟨xgu (P.2.1.1 pt_0 (by decide)) (P.2.1.1 pt_4 (by decide)) (i0_r P.1.2.1) hab, K⟩
                · rw [if_neg c8, if_neg c8]
                  have l := xle (a := a) (b := b) (bk := bk) Q1.1
                  have F := fr_d_X11_leastOf_r31d bk a b (d_X7_asKnown_r78d kn X)
                  generalize d_X7_asKnown_r78d kn X = A at *
                  have kk : pCk (d_X11_leastOf_r31d bk a b A).2 E t w wm := pCk_k (fun c hc => funext fun j => F.1 c j (okk_n rfl hc)) (pKl_c (pF_c F rfl) (pF_c F rfl) (pF_c F rfl) K1.2.1) (pKh_c (pF_c F rfl) (pF_c F rfl) (pF_c F rfl) (pF_c F rfl) (pF_c F rfl) K1.2.2.1) K1
                  have P2 : pCp (d_X11_leastOf_r31d bk a b A).2 E t w wm := pCp_Q0 (pQ0_F F rfl) P1
                  have mo := xmo (bk := bk) (kn := kn) (w := b - a) (P2.2.1.1 pt_0 (by decide)) (P2.2.1.1 pt_4 (by decide))
                  by_cases c9 : k = 0
                  · rw [if_pos c9, if_pos c9]; exact ⟨l, kk⟩
                  · rw [if_neg c9, if_neg c9, l, mo]; exact ⟨rfl, kk⟩
              · rw [if_neg c7, if_neg (fun h => c7 h.2.2.2.2)]; exact ⟨rfl, K⟩
          · rw [if_neg c5, if_neg (fun h => c5 h.2.2.1)]; exact ⟨rfl, K⟩
      · rw [if_neg c3, if_neg (fun h => by omega)]; exact ⟨rfl, K⟩
    · rw [if_neg c2, if_neg (fun h => by omega)]; exact ⟨rfl, K⟩
  · rw [if_neg c1, if_neg (fun h => c1 h.1)]; exact ⟨rfl, K⟩
theorem m_fill {bk a b k : Int} (P : pCm M E t w wm) (Y : pYm M) (V : pEv E t w wm) (h3 : 0 ≤ E.1 3 ∧ E.1 3 ≤ 20) : (d_X12_fill_r125d bk a b kn k M).1 = aFill E bk a b kn k := by
  have P0 : pCm (vu M 125 0 0) E t w wm := cm_u P (Or.inl ⟨rfl, Or.inl (by decide)⟩)
  have Y0 : pYm (vu M 125 0 0) := pYm_e (P0.1.trans P.1.symm) Y
  obtain ⟨A1, G1, P1, _⟩ := m_fi P0 Y0 V kn
  have b0 := V.2.2.2.2.2.2.2.2.2.2.2.2.2.2.2
  unfold d_X12_fill_r125d d_X12_fill_r125d_56 d_X12_fill_r125d_112 aFill
  by_cases c1 : 0 ≤ bk ∧ bk ≤ 5
  · rw [if_pos c1]
    by_cases c2 : 0 ≤ b ∧ b ≤ 146399
    · rw [if_pos c2]
      by_cases c3 : 0 ≤ a ∧ a ≤ b
      · rw [if_pos c3]
        by_cases c5 : 0 ≤ kn ∧ kn ≤ 146399
        · rw [if_pos c5]
          by_cases c7 : 0 ≤ k ∧ k ≤ 2
          · have hab : 0 ≤ a ∧ a ≤ b ∧ b ≤ 146399 := by omega
            rw [if_pos c7, if_pos (c := (0 ≤ bk ∧ bk ≤ 5) ∧ (0 ≤ a ∧ a ≤ b ∧ b ≤ 146399) ∧ (0 ≤ kn ∧ kn ≤ 146399) ∧ 0 ≤ k ∧ k ≤ 2) ⟨c1, hab, c5, c7⟩]
            generalize d_X12_find_r125d kn (vu M 125 0 0) = A at *
            by_cases c8 : k = 2
            · rw [if_pos c8, if_pos c8]
              exact mgu (cm_126 P1) A1.2.1 b0 h3 hab
            · rw [if_neg c8, if_neg c8]
              have l := mle (a := a) (b := b) (bk := bk) A1.1 c1
              have F := fr_d_X12_leastFilled_r125d bk a b A
              have e126 : (d_X12_leastFilled_r125d bk a b A).2.1 126 = E.1 := (pF_c F rfl).trans (cm_126 P1)
              have e28 : (d_X12_leastFilled_r125d bk a b A).2.1 125 28 = kn := (F.1 125 28 rfl).trans A1.2.1
              have mo := mmf (bk := bk) (w := b - a) e126 e28 b0 h3
              rw [l, mo]
              by_cases c9 : k = 0
              · rw [if_pos c9, if_pos c9]
              · rw [if_neg c9, if_neg c9]
                by_cases z : sLe E (sGs E kn).1 bk a b ≤ sMo2 E.1 bk kn (b - a) (E.1 0).toNat
                · rw [if_pos z]; show sMo2 E.1 bk kn (b - a) (E.1 0).toNat = _; omega
                · rw [if_neg z]; show sLe E (sGs E kn).1 bk a b = _; omega
          · rw [if_neg c7, if_neg (fun h => c7 h.2.2.2)]
        · rw [if_neg c5, if_neg (fun h => c5 h.2.2.1)]
      · rw [if_neg c3, if_neg (fun h => by omega)]
    · rw [if_neg c2, if_neg (fun h => by omega)]
  · rw [if_neg c1, if_neg (fun h => c1 h.1)]
/-! best, group -/
noncomputable def sBt (E : pE) (t : jT) (w : Nat) (wm : Nat → Nat) : pjB := sBe (sCan E wm) (sMus (sGs E 146399).1 wm) (sWm t E wm) w
noncomputable def aBest (E : pE) (t : jT) (w : Nat) (wm : Nat → Nat) (k n : Int) : Int := if (0 ≤ k ∧ k ≤ 3) ∧ (k = 3 → 0 ≤ n ∧ n ≤ 1000) then (if k = 0 then (sBt E t w wm).1 else if k = 1 then (sBt E t w wm).2.1 else if k = 2 then wsm (sWm t E wm) (fun _ => 0) w else wr ((sBt E t w wm).2.2.2.2 ((sBt E t w wm).1 - n))) else -1
noncomputable def aGroup (E : pE) (t : jT) (w : Nat) (wm : Nat → Nat) (i : Int) : Int := if 0 ≤ i ∧ i < (w : Int) then (sBt E t w wm).2.2.1 i.toNat else -1
theorem gk_n {d : Int} {m : Nat} (h : sG0 E d m ≠ -1) : ∀ k : Nat, (sGk E d k).1 m ≠ -1 := by
  intro k
  induction k with
  | zero => exact h
  | succ k ih =>
    show (sBs E d k (sGk E d k)).1 m ≠ -1
    unfold sBs
    by_cases c : sBk E k (sGk E d k).1 d
    · rw [if_pos c]
      by_cases z : tv (sCj E (sGk E d k).1 ((sGk E d k).1 (E.1 (18140 + 3 * k)).toNat) ((sGk E d k).1 (E.1 (18141 + 3 * k)).toNat)) = 0
      · rw [if_pos z]; exact ih
      · rw [if_neg z]
        obtain ⟨_, c2, c3, _⟩ := c
        generalize (sGk E d k).1 (E.1 (18140 + 3 * k)).toNat = p at *
        generalize (sGk E d k).1 (E.1 (18141 + 3 * k)).toNat = q at *
        show sJn (sGk E d k).1 p q m ≠ -1
        unfold sJn
        by_cases y : (sGk E d k).1 m = max p q
        · rw [if_pos y]; omega
        · rw [if_neg y]; exact ih
    · rw [if_neg c]; exact ih
theorem gs_l (I : pIr E) {m : Nat} (h : sMn E m) (hm : m < sNl E) : (sGs E 146399).1 m ≠ -1 := gk_n (by
  have b := (I (m / 3) h.1).2.2.2.1
  unfold sG0
  rw [if_pos ⟨hm, h.2, b.2⟩]
  omega) _
theorem bt_0g (V : pEv E t w wm) (I : pIr E) : 0 ≤ (sBt E t w wm).1 := be_0 V.2.2.2.2.2.2.2.2.2.2.2.2.2.1 (fun a b _ _ => sWm_b V.2.2.2.2.2.2.2.2.2.2.2.2.1 a b) (so := fun a => (sGs E 146399).1 (wm a)) (fun a b _ _ => Iff.rfl) (fun a b h1 h2 h => by
  have wa := V.2.2.2.2.2.2.2.2.2.2.2.2.2.2.1 a h2
  have wb := V.2.2.2.2.2.2.2.2.2.2.2.2.2.2.1 b (by omega)
  exact sGk_w _ (wm a) (wm b) wa.2.1 wb.2.1 (wa.2.2 b h1) (gs_l I wa.1 wa.2.1) h)
/-- all settled at the class -/
theorem c_se (P : pCp X E t w wm) (K : pCk X E t w wm) (V : pEv E t w wm) : pSet (d_X3_settle_r87d (d_X7_asKnown_r78d 146399 X)) E (sGs E 146399).1 t w wm ∧ pCk (d_X3_settle_r87d (d_X7_asKnown_r78d 146399 X)) E t w wm ∧ pCp (d_X3_settle_r87d (d_X7_asKnown_r78d 146399 X)) E t w wm ∧ pVk (d_X3_settle_r87d (d_X7_asKnown_r78d 146399 X)) E 146399 := by
  obtain ⟨P1, K1, Q1, G1, y1⟩ := c_as P K V 146399
  have F := fr_d_X3_settle_r87d (d_X7_asKnown_r78d 146399 X)
  have P2 := pCp_Q0 (pQ0_F F rfl) P1
  generalize d_X7_asKnown_r78d 146399 X = A at *
  have kl : pKl (d_X3_settle_r87d A) E.1 := pKl_c (pF_c F rfl) (pF_c F rfl) (pF_c F rfl) K1.2.1
  have kh : pKh (d_X3_settle_r87d A) E := pKh_c (pF_c F rfl) (pF_c F rfl) (pF_c F rfl) (pF_c F rfl) (pF_c F rfl) K1.2.2.1
  have st : pSet (d_X3_settle_r87d A) E (sGs E 146399).1 t w wm := by
    unfold d_X3_settle_r87d
    by_cases c : A.1 87 13 = A.1 32 19
    · rw [if_pos c]; exact K1.2.2.2.2.2.2 c
    · rw [if_neg c]
      have e : ∀ c : Nat, c ≠ 87 → (vu A 87 13 (A.1 32 19)).1 c = A.1 c := fun c hc => vu_c hc
      have xw : pXw (vu A 87 13 (A.1 32 19)) E (sGs E 146399).1 t w wm := ⟨pYx_e (fun c hc => e c (by omega)) P1.1, by rw [e 33 (by decide)]; exact (P1.2.1.1 pt_0 (by decide)).1, fun m hm => by rw [e 82 (by decide)]; exact G1.1 m hm, by rw [e 78 (by decide)]; exact P1.2.2.2.2.2.1, (vu_n (by decide)).trans P1.2.2.2.2.2.2.1, fun a ha => by
        rw [e 88 (by decide)]
        have wa := V.2.2.2.2.2.2.2.2.2.2.2.2.2.2.1 a ha
        exact ⟨P1.2.2.2.2.2.2.2.1 a ha, wa.1, wa.2.1⟩⟩
      exact (xset V.2.2.2.2.2.2.2.2.2.2.2.2.2.1 V.2.2.2.2.2.2.2.2.2.2.2.2.1 xw).2
  have xs : pXs (d_X3_settle_r87d A) E (sGs E 146399).1 := by
    obtain ⟨s1, s2, s3, s4, s5, s6, s7, s8⟩ := Q1.1
    exact ⟨s1, s2, by rw [pF_c F rfl]; exact s3, by rw [pF_c F rfl]; exact s4, fun m hm => by rw [pF_c F rfl]; exact s5 m hm, fun m hm => by rw [pF_c F rfl]; exact s6 m hm, P2.1.2.2.2.2.2.2.2, s8⟩
  refine ⟨st, ⟨pKs_e (fun c hc => by rcases hc with rfl | rfl | rfl | rfl | rfl <;> exact pF_c F rfl) (F.1 78 13 rfl) K1.1, kl, kh, pKe_e (fun c hc => by rcases hc with rfl | rfl | rfl <;> exact pF_c F rfl) (F.1 107 9 rfl) K1.2.2.2.1, pKt_e (fun c hc => by rcases hc with rfl | rfl | rfl | rfl | rfl <;> exact pF_c F rfl) (F.1 107 15 rfl) (F.1 107 16 rfl) K1.2.2.2.2.1, pKv_e (fun c hc => by rcases hc with rfl | rfl | rfl <;> exact pF_c F rfl) K1.2.2.2.2.2.1, fun _ => st⟩, P2, ⟨xs, P2.2.1.1 pt_5 (by decide), P2.2.2.1, P2.2.1.2.2.2, P2.2.1.1 pt_7 (by decide), P2.2.1.1 pt_9 (by decide), kl, kh⟩⟩
theorem x_best {k n : Int} (P : pCp X E t w wm) (K : pCk X E t w wm) (V : pEv E t w wm) : (d_X11_best_r31d k n X).1 = aBest E t w wm k n ∧ pCk (d_X11_best_r31d k n X).2 E t w wm := by
  obtain ⟨S, K2, P2, _⟩ := c_se P K V
  have b0 := bt_0g V P.1.2.1
  unfold d_X11_best_r31d d_X11_best_r31d_25 aBest
  have body : (k = 3 → 0 ≤ n ∧ n ≤ 1000) → 0 ≤ k → k ≤ 3 → (d_X11_best_r31d_27 k n X).1 = (if k = 0 then (sBt E t w wm).1 else if k = 1 then (sBt E t w wm).2.1 else if k = 2 then wsm (sWm t E wm) (fun _ => 0) w else wr ((sBt E t w wm).2.2.2.2 ((sBt E t w wm).1 - n))) ∧ pCk (d_X11_best_r31d_27 k n X).2 E t w wm := fun h1 h2 h3 => by
    unfold d_X11_best_r31d_27
    by_cases c0 : k = 0
    · rw [if_pos c0, if_pos c0]; exact ⟨S.1.1, K2⟩
    · rw [if_neg c0, if_neg c0]
      by_cases c1 : k = 1
      · rw [if_pos c1, if_pos c1]; exact ⟨S.1.2.1, K2⟩
      · rw [if_neg c1, if_neg c1]
        by_cases c2 : k = 2
        · rw [if_pos c2, if_pos c2]; exact ⟨S.2, K2⟩
        · rw [if_neg c2, if_neg c2]
          exact ⟨xri V.2.2.2.2.2.2.2.2.2.2.2.2.2.1 V.2.2.2.2.2.2.2.2.2.2.2.2.1 S b0 (h1 (by omega)), K2⟩
  by_cases c1 : k < 0
  · rw [if_pos c1, if_neg (fun h => by omega)]; exact ⟨rfl, K⟩
  · rw [if_neg c1]
    by_cases c2 : 3 < k
    · rw [if_pos c2, if_neg (fun h => by omega)]; exact ⟨rfl, K⟩
    · rw [if_neg c2]
      by_cases c3 : k = 3
      · rw [if_pos c3]
        by_cases c4 : n < 0
        · rw [if_pos c4, if_neg (fun h => by have := h.2 c3; omega)]; exact ⟨rfl, K⟩
        · rw [if_neg c4]
          by_cases c5 : n ≤ 1000
          · rw [if_pos c5, if_pos (c := (0 ≤ k ∧ k ≤ 3) ∧ (k = 3 → 0 ≤ n ∧ n ≤ 1000)) ⟨⟨by omega, by omega⟩, fun _ => ⟨by omega, c5⟩⟩]
            exact body (fun _ => ⟨by omega, c5⟩) (by omega) (by omega)
          · rw [if_neg c5, if_neg (fun h => by have := h.2 c3; omega)]; exact ⟨rfl, K⟩
      · rw [if_neg c3, if_pos (c := (0 ≤ k ∧ k ≤ 3) ∧ (k = 3 → 0 ≤ n ∧ n ≤ 1000)) ⟨⟨by omega, by omega⟩, fun h => absurd h c3⟩]
        exact body (fun h => absurd h c3) (by omega) (by omega)
theorem m_wi (P : pCm M E t w wm) (Y : pYm M) (V : pEv E t w wm) : pWi (d_X12_find_r125d 146399 M) E (sGs E 146399).1 t w wm := by
  obtain ⟨A1, G1, P1, _⟩ := m_fi P Y V 146399
  exact ⟨P1.1, pYm_e (P1.1.trans P.1.symm) Y, G1.1, P1.2.1, P1.2.2.1, fun a ha => by
    have wa := V.2.2.2.2.2.2.2.2.2.2.2.2.2.2.1 a ha
    exact ⟨P1.2.2.2 a ha, wa.1, wa.2.1⟩⟩
theorem m_best {k n : Int} (P : pCm M E t w wm) (Y : pYm M) (V : pEv E t w wm) : (d_X12_best_r125d k n M).1 = aBest E t w wm k n := by
  have P0 : pCm (vu M 125 0 0) E t w wm := cm_u P (Or.inl ⟨rfl, Or.inl (by decide)⟩)
  have Y0 : pYm (vu M 125 0 0) := pYm_e (P0.1.trans P.1.symm) Y
  have W := m_wi P0 Y0 V
  unfold d_X12_best_r125d d_X12_best_r125d_34 d_X12_best_r125d_36 d_X12_best_r125d_47 d_X12_best_r125d_200047 d_X12_best_r125d_89 aBest
  have b0 := mfB (l1 := 0) V.2.2.2.2.2.2.2.2.2.2.2.2.2.1 V.2.2.2.2.2.2.2.2.2.2.2.2.1 (by decide) W
  by_cases c1 : 0 ≤ k ∧ k ≤ 3
  · rw [if_pos c1]
    by_cases c3 : k = 3
    · rw [if_pos c3]
      by_cases c4 : 0 ≤ n ∧ n ≤ 1000
      · rw [if_pos c4, if_pos c3, if_pos (c := (0 ≤ k ∧ k ≤ 3) ∧ (k = 3 → 0 ≤ n ∧ n ≤ 1000)) ⟨c1, fun _ => c4⟩, if_neg (show ¬ k = 0 from by omega), if_neg (show ¬ k = 1 from by omega), if_neg (show ¬ k = 2 from by omega)]
        exact (mfB (l1 := n) V.2.2.2.2.2.2.2.2.2.2.2.2.2.1 V.2.2.2.2.2.2.2.2.2.2.2.2.1 c4 W).2.2.2.1
      · rw [if_neg c4, if_neg (fun h => c4 (h.2 c3))]
    · rw [if_neg c3, if_neg c3, if_pos (c := (0 ≤ k ∧ k ≤ 3) ∧ (k = 3 → 0 ≤ n ∧ n ≤ 1000)) ⟨c1, fun h => absurd h c3⟩]
      by_cases d0 : k = 0
      · rw [if_pos d0, if_pos d0]; exact b0.1
      · rw [if_neg d0, if_neg d0]
        by_cases d1 : k = 1
        · rw [if_pos d1, if_pos d1]; exact b0.2.1
        · rw [if_neg d1, if_neg d1, if_pos (show k = 2 from by omega)]; exact b0.2.2.1
  · rw [if_neg c1, if_neg (fun h => c1 h.1)]
theorem x_group {i : Int} (P : pCp X E t w wm) (K : pCk X E t w wm) (V : pEv E t w wm) : (d_X11_group_r31d i X).1 = aGroup E t w wm i ∧ pCk (d_X11_group_r31d i X).2 E t w wm := by
  obtain ⟨S, K2, P2, _⟩ := c_se P K V
  have b0 := bt_0g V P.1.2.1
  unfold d_X11_group_r31d d_X11_group_r31d_15 aGroup
  rw [P.2.2.2.2.2.2.1]
  by_cases c1 : i < 0
  · rw [if_pos c1, if_neg (fun h => by omega)]; exact ⟨rfl, K⟩
  · rw [if_neg c1]
    by_cases c2 : i < (w : Int)
    · rw [if_pos c2, if_neg (show ¬ (w : Int) ≤ i from by omega), if_pos ⟨by omega, c2⟩]
      exact ⟨S.1.2.2.2.1 b0 i.toNat (by omega), K2⟩
    · rw [if_neg c2, if_neg (fun h => c2 h.2)]; exact ⟨rfl, K⟩
theorem m_group {i : Int} (P : pCm M E t w wm) (Y : pYm M) (V : pEv E t w wm) (I : pIr E) : (d_X12_group_r125d i M).1 = aGroup E t w wm i := by
  have P0 : pCm (vu M 125 0 0) E t w wm := cm_u P (Or.inl ⟨rfl, Or.inl (by decide)⟩)
  have Y0 : pYm (vu M 125 0 0) := pYm_e (P0.1.trans P.1.symm) Y
  have W := m_wi P0 Y0 V
  have b0 := mfB (l1 := 0) V.2.2.2.2.2.2.2.2.2.2.2.2.2.1 V.2.2.2.2.2.2.2.2.2.2.2.2.1 (by decide) W
  unfold d_X12_group_r125d aGroup
  rw [P.2.2.1]
  by_cases c1 : 0 ≤ i ∧ i ≤ (w : Int) - 1
  · rw [if_pos c1, if_pos ⟨c1.1, by omega⟩]
    exact b0.2.2.2.2.1 (bt_0g V I) i.toNat (by omega)
  · rw [if_neg c1, if_neg (fun h => c1 ⟨h.1, by omega⟩)]
end
end jG111

section jG112
/-! pure: reason, worth, belong -/
section
variable {X M : jW} {E : pE} {t : jT} {w : Nat} {wm : Nat → Nat} {a b kn : Int}
noncomputable def aReason (E : pE) (a b : Int) : Int := if tv (sMe E a) = 0 then -1 else if tv (sMe E b) = 0 then -1 else sWhy E a.toNat b.toNat
theorem x_reason (P : pCp X E t w wm) (V : pEv E t w wm) : d_X11_reason_r31d a b X = aReason E a b := by
  have e33 : X.1 33 3 = E.1 0 := (P.2.1.1 pt_0 (by decide)).1
  have h0 := V.2.2.2.2.2.2.2.2.2.2.2.2.2.2.2
  have e : d_X11_reason_r31d a b X = hX a X (-1) (hX b X (-1) (d_X7_reasonFor_r78d a b X)) := rfl
  rw [e, hX_e P.1 e33 h0, hX_e P.1 e33 h0]
  unfold aReason
  by_cases c1 : sMe E a
  · by_cases c2 : sMe E b
    · have y := xwy P.1 c1.2 c2.2
      have k1 := c1.1
      have k2 := c2.1
      rw [show ((a.toNat : Nat) : Int) = a from by omega, show ((b.toNat : Nat) : Int) = b from by omega] at y
      rw [y]
    · rw [tv_f c2]; rfl
  · rw [tv_f c1]; rfl
theorem m_reason (P : pCm M E t w wm) (Y : pYm M) (V : pEv E t w wm) : (d_X12_reason_r125d a b M).1 = aReason E a b := by
  have P0 : pCm (vu M 125 0 0) E t w wm := cm_u P (Or.inl ⟨rfl, Or.inl (by decide)⟩)
  have Y0 : pYm (vu M 125 0 0) := pYm_e (P0.1.trans P.1.symm) Y
  have Ir : pIr E := by rw [← P.1]; exact Y.2.1
  have e : d_X12_reason_r125d a b M = hM a M (-1, vu M 125 0 0) (hM b M (-1, vu M 125 0 0) (d_X12_why_r125d a b (vu M 125 0 0))) := rfl
  rw [e, hM_e (cm_126 P) Ir, hM_e (cm_126 P) Ir]
  unfold aReason
  by_cases c1 : sMe E a
  · rw [tv_t c1, if_neg (show ¬ (1 : Int) = 0 from by decide), if_neg (show ¬ (1 : Int) = 0 from by decide)]
    by_cases c2 : sMe E b
    · rw [tv_t c2, if_neg (show ¬ (1 : Int) = 0 from by decide), if_neg (show ¬ (1 : Int) = 0 from by decide)]
      have y := mwy (a := a.toNat) (b := b.toNat) Y0 (by rw [P0.1]; exact c1.2) (by rw [P0.1]; exact c2.2)
      have k1 := c1.1
      have k2 := c2.1
      rw [show ((a.toNat : Nat) : Int) = a from by omega, show ((b.toNat : Nat) : Int) = b from by omega, P0.1] at y
      exact y
    · rw [if_pos (tv_f c2), if_pos (tv_f c2)]
  · rw [if_pos (tv_f c1), if_pos (tv_f c1)]
noncomputable def aWorth (E : pE) (t : jT) (a b : Int) : Int := if tv (sMe E a) = 0 then -1 else if tv (sMe E b) = 0 then -1 else if sWhy E a.toNat b.toNat = 0 then sWo t.1 t.2.1 t.2.2.1 t.2.2.2 E a.toNat b.toNat else -1
theorem x_worth (P : pCp X E t w wm) (V : pEv E t w wm) : d_X11_worth_r31d a b X = aWorth E t a b := by
  have e33 : X.1 33 3 = E.1 0 := (P.2.1.1 pt_0 (by decide)).1
  have h0 := V.2.2.2.2.2.2.2.2.2.2.2.2.2.2.2
  have e : d_X11_worth_r31d a b X = hX a X (-1) (hX b X (-1) (d_X7_worthOf_r78d a b X)) := rfl
  rw [e, hX_e P.1 e33 h0, hX_e P.1 e33 h0]
  unfold aWorth
  by_cases c1 : sMe E a
  · by_cases c2 : sMe E b
    · have y := xwo P.1 e33 c1.2 c2.2
      have k1 := c1.1
      have k2 := c2.1
      rw [show ((a.toNat : Nat) : Int) = a from by omega, show ((b.toNat : Nat) : Int) = b from by omega, P.2.2.2.2.2.1.1, P.2.2.2.2.2.1.2.1, P.2.2.2.2.2.1.2.2.1, P.2.2.2.2.2.1.2.2.2] at y
      rw [y]
    · rw [tv_f c2]; rfl
  · rw [tv_f c1]; rfl
theorem m_worth (P : pCm M E t w wm) (Y : pYm M) (V : pEv E t w wm) : (d_X12_worth_r125d a b M).1 = aWorth E t a b := by
  have P0 : pCm (vu M 125 0 0) E t w wm := cm_u P (Or.inl ⟨rfl, Or.inl (by decide)⟩)
  have Y0 : pYm (vu M 125 0 0) := pYm_e (P0.1.trans P.1.symm) Y
  have Ir : pIr E := by rw [← P.1]; exact Y.2.1
  have e : d_X12_worth_r125d a b M = hM a M (-1, vu M 125 0 0) (hM b M (-1, vu M 125 0 0) (if (d_X12_why_r125d a b (vu M 125 0 0)).1 = 0 then (d_X12_worthOf_r125d a b (d_X12_why_r125d a b (vu M 125 0 0)).2) else (-1, (d_X12_why_r125d a b (vu M 125 0 0)).2))) := rfl
  rw [e, hM_e (cm_126 P) Ir, hM_e (cm_126 P) Ir]
  unfold aWorth
  by_cases c1 : sMe E a
  · rw [tv_t c1, if_neg (show ¬ (1 : Int) = 0 from by decide), if_neg (show ¬ (1 : Int) = 0 from by decide)]
    by_cases c2 : sMe E b
    · rw [tv_t c2, if_neg (show ¬ (1 : Int) = 0 from by decide), if_neg (show ¬ (1 : Int) = 0 from by decide)]
      have y := mwy (a := a.toNat) (b := b.toNat) Y0 (by rw [P0.1]; exact c1.2) (by rw [P0.1]; exact c2.2)
      have k1 := c1.1
      have k2 := c2.1
      have F : pF [(137, 0), (138, 0)] (vu M 125 0 0) (d_X12_why_r125d a b (vu M 125 0 0)).2 := fr_d_X12_why_r125d _ _ _
      have P2 : pCm (d_X12_why_r125d a b (vu M 125 0 0)).2 E t w wm := pCm_F F rfl P0
      have Y2 : pYm (d_X12_why_r125d a b (vu M 125 0 0)).2 := pYm_e (P2.1.trans P0.1.symm) Y0
      have z := mwo (a := a.toNat) (b := b.toNat) Y2 (by rw [P2.1]; exact c1.2) (by rw [P2.1]; exact c2.2)
      rw [show ((a.toNat : Nat) : Int) = a from by omega, show ((b.toNat : Nat) : Int) = b from by omega, P0.1] at y
      rw [show ((a.toNat : Nat) : Int) = a from by omega, show ((b.toNat : Nat) : Int) = b from by omega, P2.1, P2.2.1.1, P2.2.1.2.1, P2.2.1.2.2.1, P2.2.1.2.2.2] at z
      rw [y]
      by_cases c3 : sWhy E a.toNat b.toNat = 0
      · rw [if_pos c3, if_pos c3]; exact z
      · rw [if_neg c3, if_neg c3]
    · rw [if_pos (tv_f c2), if_pos (tv_f c2)]
  · rw [if_pos (tv_f c1), if_pos (tv_f c1)]
/-! belong -/
theorem br_s {g : Nat → Int} {s d : Int} {r : Nat} (hs : s ≠ -1) : sBr E g kn (r + 1) s d = (sFb E g kn (sBr E g kn r) s d).1 := by
  show sBv E g kn (sBr E g kn r) s d = _
  unfold sBv
  exact if_neg hs
theorem x_be (V : pEv E t w wm) (kn : Int) : pBel d_X6_belongs_r120_c0d E kn (sBr E (sGs E kn).1 kn 6) 0 := by
  have I := ev_q V kn
  have Ik := V.2.2.2.2.2.1
  have Il := V.2.2.2.2.1
  have I1 := V.2.2.2.2.2.2.1
  have O : ∀ d : Int, 0 ≤ d ∧ d ≤ 146399 → ∀ p : Nat, p < sNl E → (sGs E kn).1 p = (p : Int) → qOk fun w => sQu E (sGs E kn).1 d kn w (p : Int) := fun d hd p _ _ => ev_o V kn hd (p : Int)
  exact bz_0 (bz_1 (bz_2 (bz_3 (bz_4 (bz_5 (bz_6 I Ik Il I1 O) I Ik Il I1 O) I Ik Il I1 O) I Ik Il I1 O) I Ik Il I1 O) I Ik Il I1 O) I Ik Il I1 O
noncomputable def aBelong (E : pE) (a d kn k : Int) : Int := if (0 ≤ d ∧ d ≤ 146399) ∧ 0 ≤ k ∧ k ≤ 2 then (if tv (sKw E kn a) = 0 then -1 else if k = 0 then sBr E (sGs E kn).1 kn 7 ((sGs E kn).1 a.toNat) d else if k = 1 then (sFb E (sGs E kn).1 kn (sBr E (sGs E kn).1 kn 6) ((sGs E kn).1 a.toNat) d).2 else (if sBr E (sGs E kn).1 kn 7 ((sGs E kn).1 a.toNat) d = -1 then (sBl E (sGs E kn).1 d kn ((sGs E kn).1 a.toNat) 720).2.2.2 else 0)) else -1
/-- at the class: where a SOUL BELONGS, all kept as it was -/
theorem c_be {A : jW} {d : Int} {p : Nat} (P1 : pCp A E t w wm) (K1 : pCk A E t w wm) (Q1 : pVk A E kn) (V : pEv E t w wm) (hd : 0 ≤ d ∧ d ≤ 146399) (hp : p < sNl E) (ep : (sGs E kn).1 p = (p : Int)) : (d_X6_belongs_r120_c0d (p : Int) d (vu A 120 5 kn)).1 = sBr E (sGs E kn).1 kn 7 (p : Int) d ∧ pVk (d_X6_belongs_r120_c0d (p : Int) d (vu A 120 5 kn)).2 E kn ∧ pCk (d_X6_belongs_r120_c0d (p : Int) d (vu A 120 5 kn)).2 E t w wm ∧ pCp (d_X6_belongs_r120_c0d (p : Int) d (vu A 120 5 kn)).2 E t w wm ∧ (d_X6_belongs_r120_c0d (p : Int) d (vu A 120 5 kn)).2.1 120 6 = (sFb E (sGs E kn).1 kn (sBr E (sGs E kn).1 kn 6) (p : Int) d).2 ∧ (d_X6_belongs_r120_c0d (p : Int) d (vu A 120 5 kn)).2.1 120 7 = if sBr E (sGs E kn).1 kn 7 (p : Int) d = -1 then (sBl E (sGs E kn).1 d kn (p : Int) 720).2.2.2 else 0 := by
  have h0 := V.2.2.2.2.2.2.2.2.2.2.2.2.2.2.2
  have Q2 : pVk (vu A 120 5 kn) E kn := pVk_u Q1 (by decide)
  have K2 : pCk (vu A 120 5 kn) E t w wm := pCk_k (fun c hc => vu_c (by omega)) Q2.2.2.2.2.2.2.1 Q2.2.2.2.2.2.2.2 K1
  have P2 : pCp (vu A 120 5 kn) E t w wm := pCp_Q0 ⟨fun c hc => vu_c (by unfold qC at hc; omega), fun k _ => vu_n (by omega), fun k _ => vu_n (by omega), fun _ _ => rfl, fun _ _ _ => rfl, rfl⟩ P1
  have B : pBx (vu A 120 5 kn) E kn := ⟨Q2, ne_x P2.1 h0.1, vu_e rfl⟩
  obtain ⟨b1, b2, b3, b4, b5⟩ := x_be V kn (p : Int) d (vu A 120 5 kn) (Or.inr ⟨p, hp, rfl, ep⟩) (fun _ => by omega) hd B
  have F := fr_d_X6_belongs_r120_c0d (p : Int) d (vu A 120 5 kn)
  have e7 : (sFb E (sGs E kn).1 kn (sBr E (sGs E kn).1 kn 6) (p : Int) d).1 = sBr E (sGs E kn).1 kn 7 (p : Int) d := (br_s (show (p : Int) ≠ -1 from by omega)).symm
  have b6 := b5 (by omega)
  rw [e7] at b6
  exact ⟨b1, b2.1, pCk_V F rfl b2.1 K2, pCp_Q0 (pQ0_F F rfl) P2, b6.1, b6.2⟩
theorem x_belong {d k : Int} (P : pCp X E t w wm) (K : pCk X E t w wm) (V : pEv E t w wm) : (d_X11_belong_r31d a d kn k X).1 = aBelong E a d kn k ∧ pCk (d_X11_belong_r31d a d kn k X).2 E t w wm := by
  unfold aBelong
  have e : d_X11_belong_r31d a d kn k X = if 0 ≤ d ∧ d ≤ 146399 then (if k < 0 then (-1, X) else if k ≤ 2 then gXz a kn (-1) X (if k = 0 then d_X6_belongs_r120_c0d ((d_X7_asKnown_r78d kn X).1 82 a.toNat) d (vu (d_X7_asKnown_r78d kn X) 120 5 kn) else if k = 1 then ((d_X6_belongs_r120_c0d ((d_X7_asKnown_r78d kn X).1 82 a.toNat) d (vu (d_X7_asKnown_r78d kn X) 120 5 kn)).2.1 120 6, (d_X6_belongs_r120_c0d ((d_X7_asKnown_r78d kn X).1 82 a.toNat) d (vu (d_X7_asKnown_r78d kn X) 120 5 kn)).2) else ((d_X6_belongs_r120_c0d ((d_X7_asKnown_r78d kn X).1 82 a.toNat) d (vu (d_X7_asKnown_r78d kn X) 120 5 kn)).2.1 120 7, (d_X6_belongs_r120_c0d ((d_X7_asKnown_r78d kn X).1 82 a.toNat) d (vu (d_X7_asKnown_r78d kn X) 120 5 kn)).2)) else (-1, X)) else (-1, X) := rfl
  rw [e]
  by_cases c1 : 0 ≤ d ∧ d ≤ 146399
  · rw [if_pos c1]
    by_cases c2 : k < 0
    · rw [if_pos c2, if_neg (fun h => by omega)]; exact ⟨rfl, K⟩
    · rw [if_neg c2]
      by_cases c3 : k ≤ 2
      · rw [if_pos c3, if_pos (c := (0 ≤ d ∧ d ≤ 146399) ∧ 0 ≤ k ∧ k ≤ 2) ⟨c1, by omega, c3⟩]
        refine qXz P K V (fun p k0 P1 K1 Q1 e1 e2 p2 p3 => ?_)
        rw [e1, e2]
        obtain ⟨b1, b2, b3, b4, b5, b6⟩ := c_be P1 K1 Q1 V c1 p2 p3
        by_cases c4 : k = 0
        · rw [if_pos c4, if_pos c4]; exact ⟨b1, b3⟩
        · rw [if_neg c4, if_neg c4]
          by_cases c5 : k = 1
          · rw [if_pos c5, if_pos c5]; exact ⟨b5, b3⟩
          · rw [if_neg c5, if_neg c5]; exact ⟨b6, b3⟩
      · rw [if_neg c3, if_neg (fun h => c3 h.2.2)]; exact ⟨rfl, K⟩
  · rw [if_neg c1, if_neg (fun h => c1 h.1)]; exact ⟨rfl, K⟩
/-- at the reference -/
theorem m_be {A : jW} {s d : Int} (A1 : pAs A E (sGs E kn).1 kn) (V : pEv E t w wm) (C : pCa E.1) (hd : 0 ≤ d ∧ d ≤ 146399) (hs : s ≠ -1) (ho : sOs E (sGs E kn).1 s) : ∃ U : jW, d_X12_belongs_r125d s d A = (sBr E (sGs E kn).1 kn 7 s d, U) ∧ pAs U E (sGs E kn).1 kn ∧ (sBr E (sGs E kn).1 kn 7 s d = -1 → U.1 125 76 = (sBl E (sGs E kn).1 d kn s 720).2.2.2) ∧ (sBr E (sGs E kn).1 kn 7 s d ≠ -1 → U.1 125 75 = (sFb E (sGs E kn).1 kn (sBr E (sGs E kn).1 kn 6) s d).2) := mbe (ev_q V kn) V.2.2.2.2.1 V.2.2.2.2.2.2.1 C (fun d hd p _ _ => ev_o V kn hd (p : Int)) hs ho hd A1 100000000000000000000000 (by decide)
theorem m_belong {d k : Int} (P : pCm M E t w wm) (Y : pYm M) (V : pEv E t w wm) (C : pCa E.1) : (d_X12_belong_r125d a d kn k M).1 = aBelong E a d kn k := by
  have y : (d_X12_belong_r125d a d kn k M).1 = if tv (sKw E kn a) = 0 then -1 else (if (0 ≤ d ∧ d ≤ 146399) ∧ 0 ≤ k ∧ k ≤ 2 then (if k = 0 then sBr E (sGs E kn).1 kn 7 ((sGs E kn).1 a.toNat) d else if k = 1 then (sFb E (sGs E kn).1 kn (sBr E (sGs E kn).1 kn 6) ((sGs E kn).1 a.toNat) d).2 else (if sBr E (sGs E kn).1 kn 7 ((sGs E kn).1 a.toNat) d = -1 then (sBl E (sGs E kn).1 d kn ((sGs E kn).1 a.toNat) 720).2.2.2 else 0)) else -1) := by
    refine qMz (B := if 0 ≤ d ∧ d ≤ 146399 then (if 0 ≤ k ∧ k ≤ 2 then (if k = 0 then d_X12_belongs_r125d ((d_X12_find_r125d kn (vu M 125 0 0)).1 139 a.toNat) d (d_X12_find_r125d kn (vu M 125 0 0)) else (if k = 1 then (if (d_X12_belongs_r125d ((d_X12_find_r125d kn (vu M 125 0 0)).1 139 a.toNat) d (d_X12_find_r125d kn (vu M 125 0 0))).1 = -1 then (-1, (d_X12_belongs_r125d ((d_X12_find_r125d kn (vu M 125 0 0)).1 139 a.toNat) d (d_X12_find_r125d kn (vu M 125 0 0))).2) else ((d_X12_belongs_r125d ((d_X12_find_r125d kn (vu M 125 0 0)).1 139 a.toNat) d (d_X12_find_r125d kn (vu M 125 0 0))).2.1 125 75, (d_X12_belongs_r125d ((d_X12_find_r125d kn (vu M 125 0 0)).1 139 a.toNat) d (d_X12_find_r125d kn (vu M 125 0 0))).2)) else (if (d_X12_belongs_r125d ((d_X12_find_r125d kn (vu M 125 0 0)).1 139 a.toNat) d (d_X12_find_r125d kn (vu M 125 0 0))).1 = -1 then ((d_X12_belongs_r125d ((d_X12_find_r125d kn (vu M 125 0 0)).1 139 a.toNat) d (d_X12_find_r125d kn (vu M 125 0 0))).2.1 125 76, (d_X12_belongs_r125d ((d_X12_find_r125d kn (vu M 125 0 0)).1 139 a.toNat) d (d_X12_find_r125d kn (vu M 125 0 0))).2) else (0, (d_X12_belongs_r125d ((d_X12_find_r125d kn (vu M 125 0 0)).1 139 a.toNat) d (d_X12_find_r125d kn (vu M 125 0 0))).2)))) else (-1, d_X12_find_r125d kn (vu M 125 0 0))) else (-1, d_X12_find_r125d kn (vu M 125 0 0))) P Y V (fun p k0 A1 P1 e1 e2 p2 p3 => ?_)
    rw [e1, e2]
    by_cases c1 : 0 ≤ d ∧ d ≤ 146399
    · rw [if_pos c1]
      by_cases c2 : 0 ≤ k ∧ k ≤ 2
      · rw [if_pos c2, if_pos (c := (0 ≤ d ∧ d ≤ 146399) ∧ 0 ≤ k ∧ k ≤ 2) ⟨c1, c2⟩]
        generalize d_X12_find_r125d kn (vu M 125 0 0) = A at *
        obtain ⟨U, u1, u2, u3, u4⟩ := m_be (s := (p : Int)) A1 V C c1 (by omega) (Or.inr ⟨p, p2, rfl, p3⟩)
        rw [u1]
        have e7 : sBr E (sGs E kn).1 kn 7 (p : Int) d = (sFb E (sGs E kn).1 kn (sBr E (sGs E kn).1 kn 6) (p : Int) d).1 := br_s (show (p : Int) ≠ -1 from by omega)
        by_cases c4 : k = 0
        · rw [if_pos c4, if_pos c4]
        · rw [if_neg c4, if_neg c4]
          by_cases c5 : k = 1
          · rw [if_pos c5, if_pos c5]
            by_cases c6 : sBr E (sGs E kn).1 kn 7 (p : Int) d = -1
            · rw [if_pos (show (sBr E (sGs E kn).1 kn 7 (p : Int) d, U).1 = -1 from c6)]
              exact (fs_1 _ _ (e7.symm.trans c6)).symm
            · rw [if_neg (show ¬ (sBr E (sGs E kn).1 kn 7 (p : Int) d, U).1 = -1 from c6)]
              exact u4 c6
          · rw [if_neg c5, if_neg c5]
            by_cases c6 : sBr E (sGs E kn).1 kn 7 (p : Int) d = -1
            · rw [if_pos (show (sBr E (sGs E kn).1 kn 7 (p : Int) d, U).1 = -1 from c6), if_pos c6]
              exact u3 c6
            · rw [if_neg (show ¬ (sBr E (sGs E kn).1 kn 7 (p : Int) d, U).1 = -1 from c6), if_neg c6]
      · rw [if_neg c2, if_neg (fun h => c2 h.2)]
    · rw [if_neg c1, if_neg (fun h => c1 h.1)]
  rw [y]
  unfold aBelong
  by_cases q : (0 ≤ d ∧ d ≤ 146399) ∧ 0 ≤ k ∧ k ≤ 2
  · rw [if_pos q, if_pos q]
  · rw [if_neg q, if_neg q]; split <;> rfl
end
end jG112

section jG113
/-! pure: calls that ask of a LINE: beyond, fee, order; counts -/
def sKl (E : pE) (l kn : Int) : Prop := (0 ≤ kn ∧ kn ≤ 146399) ∧ (0 ≤ l ∧ l < E.1 0) ∧ E.1 (20 + 90 * l + 3).toNat ≤ kn
section
variable {X M : jW} {E : pE} {t : jT} {w : Nat} {wm : Nat → Nat} {l kn : Int}
theorem kl_x (T : pT X 32 pt_0 E.1) : d_X8_isKnown_r33d l kn X = 0 ↔ ¬ ((0 ≤ l ∧ l < E.1 0) ∧ E.1 (20 + 90 * l + 3).toNat ≤ kn) := by
  by_cases c : 0 ≤ l ∧ l < E.1 0
  · rw [kn_33 T c.1 c.2]
    by_cases z : kn < E.1 (20 + 90 * l + 3).toNat
    · rw [if_pos z]; exact ⟨fun _ h => by omega, fun _ => rfl⟩
    · rw [if_neg z]; exact ⟨fun h => absurd h (by decide), fun h => absurd ⟨c, by omega⟩ h⟩
  · refine ⟨fun _ h => c h.1, fun _ => ?_⟩
    have e : X.1 33 3 = E.1 0 := T.1
    unfold d_X8_isKnown_r33d
    by_cases z : l < 0
    · rw [if_pos z]; rfl
    · rw [if_neg z, if_pos (by omega)]; rfl
theorem ln_m (V : pEv E t w wm) (I : pIr E) (h : 0 ≤ l ∧ l < E.1 0) : sMe E (3 * l) ∧ (3 * l).toNat < sNl E ∧ j_imul l 3 = 3 * l ∧ (3 * l).toNat = 3 * l.toNat := by
  have b := V.2.2.2.2.2.2.2.2.2.2.2.2.2.2.2
  have co := co_3l I (l := l.toNat) (by omega)
  have bk := (I l.toNat (by omega)).1
  have e3 : (3 * l).toNat = 3 * l.toNat := by omega
  refine ⟨⟨by omega, by rw [e3]; omega, ?_⟩, by unfold sNl; omega, ?_, e3⟩
  · rw [e3, co]
    split
    · decide
    · split
      · decide
      · omega
  · rw [j_im (by omega) (by decide) (by omega)]; omega
theorem ln_p (V : pEv E t w wm) (I : pIr E) (h : sKl E l kn) : ∃ p : Nat, (sGs E kn).1 (3 * l).toNat = (p : Int) ∧ p < sNl E ∧ (sGs E kn).1 p = (p : Int) := by
  obtain ⟨m1, m2, m3, m4⟩ := ln_m V I h.2.1
  have ne : (sGs E kn).1 (3 * l).toNat ≠ -1 := gk_n (by
    unfold sG0
    have k := h.2.2
    have k2 := h.2.1
    rw [if_pos ⟨m2, m1.2.2, by rw [show 23 + 90 * ((3 * l).toNat / 3) = (20 + 90 * l + 3).toNat from by omega]; exact k⟩]
    omega) _
  rcases ev_g V kn (3 * l).toNat m2 with y | ⟨y1, y2, y3, y4⟩
  · exact absurd y ne
  · exact ⟨((sGs E kn).1 (3 * l).toNat).toNat, by omega, by omega, by rw [y4]; omega⟩
/-- one CLAUSE weighed for a SOUL on a DAY, at the class -/
theorem c_we {A : jW} {d ki wh : Int} {p : Nat} (Q1 : pVk A E kn) (K1 : pCk A E t w wm) (V : pEv E t w wm) (hd : 0 ≤ d ∧ d ≤ 146399) (hp : p < sNl E) (ep : (sGs E kn).1 p = (p : Int)) (hki : 0 ≤ ki ∧ ki ≤ 7) {W : jW} (h : pF fw_X0_weigh_r98d (d_X0_readHouses_r98d d kn (d_X0_readLaws_r98d d kn A)) W) : (d_X0_weigh_r98d ki wh (p : Int) W).1 = (if sBx E (sGs E kn).1 d kn (ki + 1) wh (p : Int) = -1 then 0 else 1) ∧ (d_X0_weigh_r98d ki wh (p : Int) W).2.1 98 13 = sBx E (sGs E kn).1 d kn (ki + 1) wh (p : Int) ∧ (d_X0_weigh_r98d ki wh (p : Int) W).2.2.1 98 14 = sSv E (sGs E kn).1 d kn (ki + 1) wh (p : Int) ∧ (d_X0_weigh_r98d ki wh (p : Int) W).2.1 98 15 = cN (sCk E.1 d kn (ki + 1) wh fun w => sQu E (sGs E kn).1 d kn w (p : Int)) (sSq E.1 fun w => sQu E (sGs E kn).1 d kn w (p : Int)) (sSv E (sGs E kn).1 d kn (ki + 1) wh (p : Int)) 720 ∧ pF fw_X0_weigh_r98d (d_X0_readHouses_r98d d kn (d_X0_readLaws_r98d d kn A)) (d_X0_weigh_r98d ki wh (p : Int) W).2 ∧ pCk (d_X0_weigh_r98d ki wh (p : Int) W).2 E t w wm := by
  obtain ⟨v1, v2, v3, v4⟩ := c_tu (d := d) V Q1 K1
  obtain ⟨U, u1, u2, u3, u4, u5⟩ := xwe (ki := ki) (wh := wh) v1.1 (ev_q V kn) hd hp ep v1.2.1 V.2.2.2.2.2.1 V.2.2.2.2.1 v1.2.2 (ev_o V kn hd (p : Int)) hki h
  rw [u1]
  exact ⟨by rw [u3]; rfl, u3, u4, u5, u2, (c_z v2 u2 v3).2⟩
/-! beyond -/
def sBy (n s : Int) : Int := if 0 ≤ s then (if 0 ≤ j_lsub n s then j_l2i (j_lsub n s) else 0) else (if 0 ≤ n then n else 0)
noncomputable def aBeyond (E : pE) (l kn : Int) : Int := if tv (sKl E l kn ∧ E.1 (20 + 90 * l).toNat = 4) = 0 then -1 else sBy (E.1 (20 + 90 * l + 4).toNat) (sSv E (sGs E kn).1 (E.1 (20 + 90 * l + 2).toNat) kn 4 0 ((sGs E kn).1 (3 * l).toNat))
def byX (l kn s : Int) (W : jW) : Int × jW := (j_l2i (max 0 (j_lsub (d_X8_at_r33_c4d l (d_X0_weigh_r98d 3 0 s (d_X0_readHouses_r98d (d_X8_at_r33_c1d l W) kn (d_X0_readLaws_r98d (d_X8_at_r33_c1d l W) kn W))).2) (max 0 ((d_X0_weigh_r98d 3 0 s (d_X0_readHouses_r98d (d_X8_at_r33_c1d l W) kn (d_X0_readLaws_r98d (d_X8_at_r33_c1d l W) kn W))).2.2.1 98 14)))), (d_X0_weigh_r98d 3 0 s (d_X0_readHouses_r98d (d_X8_at_r33_c1d l W) kn (d_X0_readLaws_r98d (d_X8_at_r33_c1d l W) kn W))).2)
theorem pT0_w {A W : jW} {d : Int} (P1 : pCp A E t w wm) (V : pEv E t w wm) (Q1 : pVk A E kn) (K1 : pCk A E t w wm) (h : pF fw_X0_weigh_r98d (d_X0_readHouses_r98d d kn (d_X0_readLaws_r98d d kn A)) W) : pT W 32 pt_0 E.1 := by
  obtain ⟨v1, v2, v3, v4⟩ := c_tu (d := d) V Q1 K1
  have z : pZ (d_X0_readHouses_r98d d kn (d_X0_readLaws_r98d d kn A)) W := ⟨fun c k _ h2 => h.1 c k h2, fun c k _ h2 => h.2.1 c k h2, h.2.2.1, h.2.2.2⟩
  exact pT_Qy (pQy_t v4 (zQy z)) (by decide) (P1.2.1.1 pt_0 (by decide))
theorem x_beyond (P : pCp X E t w wm) (K : pCk X E t w wm) (V : pEv E t w wm) : (d_X11_beyond_r31d l kn X).1 = aBeyond E l kn ∧ pCk (d_X11_beyond_r31d l kn X).2 E t w wm := by
  have e33 : X.1 33 3 = E.1 0 := (P.2.1.1 pt_0 (by decide)).1
  have h0 := V.2.2.2.2.2.2.2.2.2.2.2.2.2.2.2
  have T0 := P.2.1.1 pt_0 (by decide)
  have e : d_X11_beyond_r31d l kn X = if 0 ≤ kn ∧ kn ≤ 146399 then (if d_X8_isKnown_r33d l kn X = 0 then (-1, X) else if d_X8_at_r33_c2d l X = 4 then (if 0 ≤ kn ∧ kn ≤ 146399 then hX (j_imul l 3) X (byX l kn (-1) X) (byX l kn ((d_X7_asKnown_r78d kn X).1 82 (j_imul l 3).toNat) (d_X7_asKnown_r78d kn X)) else byX l kn (-1) X) else (-1, X)) else (-1, X) := rfl
  rw [e]
  unfold aBeyond
  by_cases c1 : 0 ≤ kn ∧ kn ≤ 146399
  · rw [if_pos c1]
    by_cases c2 : (0 ≤ l ∧ l < E.1 0) ∧ E.1 (20 + 90 * l + 3).toNat ≤ kn
    · have k : sKl E l kn := ⟨c1, c2⟩
      rw [if_neg (fun h => ((kl_x T0).mp h) c2), at_33_2 T0 c2.1.1 c2.1.2, Int.add_zero]
      by_cases c3 : E.1 (20 + 90 * l).toNat = 4
      · obtain ⟨m1, m2, m3, m4⟩ := ln_m V P.1.2.1 c2.1
        obtain ⟨p, p1, p2, p3⟩ := ln_p V P.1.2.1 k
        obtain ⟨P1, K1, Q1, G1, y1⟩ := c_as P K V kn
        have e82 := (G1.1 (3 * l).toNat m2).trans p1
        have dd := (P.1.2.1 l.toNat (by omega)).2.2.1
        rw [show 22 + 90 * l.toNat = (20 + 90 * l + 2).toNat from by omega] at dd
        rw [if_pos c3, if_pos c1, m3, hX_e P.1 e33 h0, tv_t m1, tv_t ⟨k, c3⟩, if_neg (show ¬ (1 : Int) = 0 from by decide), if_neg (show ¬ (1 : Int) = 0 from by decide), e82, p1]
        have T1 := P1.2.1.1 pt_0 (by decide)
        generalize d_X7_asKnown_r78d kn X = A at *
        unfold byX
        rw [at_33_1 T1 c2.1.1 c2.1.2]
        obtain ⟨w1, w2, w3, w4, w5, w6⟩ := c_we (ki := 3) (wh := 0) Q1 K1 V dd p2 p3 (by decide) pF_r
        have T2 := pT0_w P1 V Q1 K1 w5
        refine ⟨?_, w6⟩
        rw [at_33_4 T2 c2.1.1 c2.1.2, w3]
        show j_l2i (max 0 (j_lsub (E.1 (20 + 90 * l + 4).toNat) (max 0 (sSv E (sGs E kn).1 (E.1 (20 + 90 * l + 2).toNat) kn 4 0 (p : Int))))) = _
        generalize sSv E (sGs E kn).1 (E.1 (20 + 90 * l + 2).toNat) kn 4 0 (p : Int) = s
        have nb := P.1.2.2.1 l.toNat (by omega)
        rw [show 24 + 90 * l.toNat = (20 + 90 * l + 4).toNat from by omega] at nb
        generalize E.1 (20 + 90 * l + 4).toNat = n at *
        unfold sBy
        by_cases z : 0 ≤ s
        · rw [if_pos z, show max 0 s = s from by omega]
          by_cases y : 0 ≤ j_lsub n s
          · rw [if_pos y, show max 0 (j_lsub n s) = j_lsub n s from by omega]
          · rw [if_neg y, show max 0 (j_lsub n s) = 0 from by omega]; exact l_2 (by decide)
        · rw [if_neg z, show max 0 s = 0 from by omega]
          have ls : j_lsub n 0 = n := by
            have := l_s (x := n) (y := 0) (by omega) (by decide) (by omega)
            rw [this]; omega
          rw [ls]
          by_cases y : 0 ≤ n
          · rw [if_pos y, show max 0 n = n from by omega]; exact l_2 (by omega)
          · rw [if_neg y, show max 0 n = 0 from by omega]; exact l_2 (by decide)
      · rw [if_neg c3, if_pos (tv_f (fun h => c3 h.2))]; exact ⟨rfl, K⟩
    · rw [if_pos ((kl_x T0).mpr c2), if_pos (tv_f (fun h => c2 h.1.2))]; exact ⟨rfl, K⟩
  · rw [if_neg c1, if_pos (tv_f (fun h => c1 h.1.1))]; exact ⟨rfl, K⟩
theorem m_beyond (P : pCm M E t w wm) (Y : pYm M) (V : pEv E t w wm) (C : pCa E.1) : (d_X12_beyond_r125d l kn M).1 = aBeyond E l kn := by
  have e126 := cm_126 P
  have Ir : pIr E := by rw [← P.1]; exact Y.2.1
  have P0 : pCm (vu M 125 0 0) E t w wm := cm_u P (Or.inl ⟨rfl, Or.inl (by decide)⟩)
  have Y0 : pYm (vu M 125 0 0) := pYm_e (P0.1.trans P.1.symm) Y
  obtain ⟨A1, G1, P1, _⟩ := m_fi P0 Y0 V kn
  unfold d_X12_beyond_r125d d_X12_beyond_r125d_38 aBeyond
  rw [e126]
  by_cases c1 : 0 ≤ l ∧ l ≤ E.1 0 - 1
  · rw [if_pos c1]
    by_cases c3 : E.1 (20 + 90 * l).toNat = 4
    · rw [if_pos c3]
      by_cases c2 : 0 ≤ kn ∧ kn ≤ 146399
      · rw [if_pos c2]
        by_cases c4 : kn < E.1 (20 + 90 * l + 3).toNat
        · rw [if_pos c4, if_pos (tv_f (fun h => by have := h.1.2.2; omega))]
        · have k : sKl E l kn := ⟨c2, ⟨c1.1, by omega⟩, by omega⟩
          obtain ⟨m1, m2, m3, m4⟩ := ln_m V Ir k.2.1
          obtain ⟨p, p1, p2, p3⟩ := ln_p V Ir k
          have e139 := (G1.1 (3 * l).toNat m2).trans p1
          have dd := (Ir l.toNat (by omega)).2.2.1
          rw [show 22 + 90 * l.toNat = (20 + 90 * l + 2).toNat from by omega] at dd
          rw [if_neg c4, tv_t ⟨k, c3⟩, if_neg (show ¬ (1 : Int) = 0 from by decide), e139, p1]
          generalize d_X12_find_r125d kn (vu M 125 0 0) = A at *
          obtain ⟨f1, f2, f3, f4, f5⟩ := mfc (ki := 4) (wh := 0) A1.1 (ev_q V kn) A1.2.1 dd (show (p : Int) ≠ -1 from by omega) V.2.2.2.2.1 (ev_o V kn dd (p : Int)) C pF_r A1.2.2
          have f6 : (d_X12_findCount_r125d 4 0 (p : Int) (E.1 (20 + 90 * l + 2).toNat) A).2.1 125 64 = sSv E (sGs E kn).1 (E.1 (20 + 90 * l + 2).toNat) kn 4 0 (p : Int) := f4
          have e2 : (d_X12_findCount_r125d 4 0 (p : Int) (E.1 (20 + 90 * l + 2).toNat) A).1 126 = E.1 := congrArg Prod.fst (pMs_F f1 A1.1).1
          unfold d_X12_beyond_r125d_81 d_X12_beyond_r125d_5000081 d_X12_beyond_r125d_106 d_X12_beyond_r125d_200106
          rw [f6, e2]
          unfold sBy
          by_cases z : 0 ≤ sSv E (sGs E kn).1 (E.1 (20 + 90 * l + 2).toNat) kn 4 0 (p : Int)
          · rw [if_pos z, if_pos z]
            split <;> rfl
          · rw [if_neg z, if_neg z, Int.sub_zero]
            split <;> rfl
      · rw [if_neg c2, if_pos (tv_f (fun h => c2 h.1.1))]
    · rw [if_neg c3, if_pos (tv_f (fun h => c3 h.2))]
  · rw [if_neg c1, if_pos (tv_f (fun h => by have := h.1.2.1; omega))]
end
end jG113

section jG114
/-! pure: fee, order, counts -/
section
variable {X M : jW} {E : pE} {t : jT} {w : Nat} {wm : Nat → Nat} {l kn : Int}
/-- the SUM that is weighed is within its range -/
theorem sv_r {g : Nat → Int} {d ki wh s : Int} (C : pCa E.1) (O : qOk fun w => sQu E g d kn w s) : -2000000000000 < sSv E g d kn ki wh s ∧ sSv E g d kn ki wh s ≤ 1000000000000 := by
  by_cases c : sBx E g d kn ki wh s = -1
  · have e : cL (sCk E.1 d kn ki wh fun w => sQu E g d kn w s) 720 = -1 := by
      unfold sBx cBy at c
      by_cases z : cL (sCk E.1 d kn ki wh fun w => sQu E g d kn w s) 720 = -1
      · exact z
      · rw [if_neg z] at c
        have b := cL_b (P := sCk E.1 d kn ki wh fun w => sQu E g d kn w s) 720
        omega
    unfold sSv cSu
    rw [if_pos e]
    decide
  · exact sv_b C O c
/-! fee -/
noncomputable def aFee (E : pE) (l kn : Int) : Int := if tv (sKl E l kn) = 0 then -1 else if E.1 (20 + 90 * l).toNat = 1 then max 0 (sSv E (sGs E kn).1 (E.1 (20 + 90 * l + 2).toNat) kn 7 2 ((sGs E kn).1 (3 * l).toNat)) else if E.1 (20 + 90 * l).toNat = 2 then max 0 (sSv E (sGs E kn).1 (E.1 (20 + 90 * l + 2).toNat) kn 7 0 ((sGs E kn).1 (3 * l).toNat)) + max 0 (sSv E (sGs E kn).1 (E.1 (20 + 90 * l + 2).toNat) kn 7 1 ((sGs E kn).1 (3 * l).toNat)) else 0
def feX (l kn s : Int) (W : jW) : Int × jW := (if (d_X8_at_r33_c2d l (d_X0_readHouses_r98d (d_X8_at_r33_c1d l W) kn (d_X0_readLaws_r98d (d_X8_at_r33_c1d l W) kn W))) = 1 then ((max 0 ((d_X0_weigh_r98d 6 2 s (d_X0_readHouses_r98d (d_X8_at_r33_c1d l W) kn (d_X0_readLaws_r98d (d_X8_at_r33_c1d l W) kn W))).2.2.1 98 14)), (d_X0_weigh_r98d 6 2 s (d_X0_readHouses_r98d (d_X8_at_r33_c1d l W) kn (d_X0_readLaws_r98d (d_X8_at_r33_c1d l W) kn W))).2) else (if (d_X8_at_r33_c2d l (d_X0_readHouses_r98d (d_X8_at_r33_c1d l W) kn (d_X0_readLaws_r98d (d_X8_at_r33_c1d l W) kn W))) = 2 then ((j_ladd (max 0 ((d_X0_weigh_r98d 6 0 s (d_X0_readHouses_r98d (d_X8_at_r33_c1d l W) kn (d_X0_readLaws_r98d (d_X8_at_r33_c1d l W) kn W))).2.2.1 98 14)) (max 0 ((d_X0_weigh_r98d 6 1 s (d_X0_weigh_r98d 6 0 s (d_X0_readHouses_r98d (d_X8_at_r33_c1d l W) kn (d_X0_readLaws_r98d (d_X8_at_r33_c1d l W) kn W))).2).2.2.1 98 14))), (d_X0_weigh_r98d 6 1 s (d_X0_weigh_r98d 6 0 s (d_X0_readHouses_r98d (d_X8_at_r33_c1d l W) kn (d_X0_readLaws_r98d (d_X8_at_r33_c1d l W) kn W))).2).2) else (0, (d_X0_readHouses_r98d (d_X8_at_r33_c1d l W) kn (d_X0_readLaws_r98d (d_X8_at_r33_c1d l W) kn W)))))
theorem x_fee (P : pCp X E t w wm) (K : pCk X E t w wm) (V : pEv E t w wm) : (d_X11_fee_r31d l kn X).1 = aFee E l kn ∧ pCk (d_X11_fee_r31d l kn X).2 E t w wm := by
  have e33 : X.1 33 3 = E.1 0 := (P.2.1.1 pt_0 (by decide)).1
  have h0 := V.2.2.2.2.2.2.2.2.2.2.2.2.2.2.2
  have T0 := P.2.1.1 pt_0 (by decide)
  have C := pTc_a P.2.2.1
  have e : d_X11_fee_r31d l kn X = if 0 ≤ kn ∧ kn ≤ 146399 then (if d_X8_isKnown_r33d l kn X = 0 then (-1, X) else (if 0 ≤ kn ∧ kn ≤ 146399 then hX (j_imul l 3) X (feX l kn (-1) X) (feX l kn ((d_X7_asKnown_r78d kn X).1 82 (j_imul l 3).toNat) (d_X7_asKnown_r78d kn X)) else feX l kn (-1) X)) else (-1, X) := rfl
  rw [e]
  unfold aFee
  by_cases c1 : 0 ≤ kn ∧ kn ≤ 146399
  · rw [if_pos c1]
    by_cases c2 : (0 ≤ l ∧ l < E.1 0) ∧ E.1 (20 + 90 * l + 3).toNat ≤ kn
    · have k : sKl E l kn := ⟨c1, c2⟩
      rw [if_neg (fun h => ((kl_x T0).mp h) c2), if_pos c1]
      obtain ⟨m1, m2, m3, m4⟩ := ln_m V P.1.2.1 c2.1
      obtain ⟨p, p1, p2, p3⟩ := ln_p V P.1.2.1 k
      obtain ⟨P1, K1, Q1, G1, y1⟩ := c_as P K V kn
      have e82 := (G1.1 (3 * l).toNat m2).trans p1
      have dd := (P.1.2.1 l.toNat (by omega)).2.2.1
      rw [show 22 + 90 * l.toNat = (20 + 90 * l + 2).toNat from by omega] at dd
      rw [m3, hX_e P.1 e33 h0, tv_t m1, tv_t k, if_neg (show ¬ (1 : Int) = 0 from by decide), if_neg (show ¬ (1 : Int) = 0 from by decide), e82, p1]
      have T1 := P1.2.1.1 pt_0 (by decide)
      generalize d_X7_asKnown_r78d kn X = A at *
      unfold feX
      rw [at_33_1 T1 c2.1.1 c2.1.2]
      have T2 := pT0_w (d := E.1 (20 + 90 * l + 2).toNat) P1 V Q1 K1 pF_r
      rw [at_33_2 T2 c2.1.1 c2.1.2, Int.add_zero]
      by_cases b1 : E.1 (20 + 90 * l).toNat = 1
      · rw [if_pos b1, if_pos b1]
        obtain ⟨w1, w2, w3, w4, w5, w6⟩ := c_we (ki := 6) (wh := 2) Q1 K1 V dd p2 p3 (by decide) pF_r
        exact ⟨by rw [w3]; rfl, w6⟩
      · rw [if_neg b1, if_neg b1]
        by_cases b2 : E.1 (20 + 90 * l).toNat = 2
        · rw [if_pos b2, if_pos b2]
          obtain ⟨w1, w2, w3, w4, w5, w6⟩ := c_we (ki := 6) (wh := 0) Q1 K1 V dd p2 p3 (by decide) pF_r
          obtain ⟨z1, z2, z3, z4, z5, z6⟩ := c_we (ki := 6) (wh := 1) Q1 K1 V dd p2 p3 (by decide) w5
          refine ⟨?_, z6⟩
          rw [w3, z3]
          have r1 := sv_r (kn := kn) (ki := 7) (wh := 0) C (ev_o V kn dd (p : Int))
          have r2 := sv_r (kn := kn) (ki := 7) (wh := 1) C (ev_o V kn dd (p : Int))
          exact l_a (by show _ ∧ _; exact ⟨by omega, by show max 0 (sSv E (sGs E kn).1 _ kn 7 0 _) ≤ _; omega⟩) ⟨by omega, by show max 0 (sSv E (sGs E kn).1 _ kn 7 1 _) ≤ _; omega⟩ ⟨by omega, by show max 0 (sSv E (sGs E kn).1 _ kn 7 0 _) + max 0 (sSv E (sGs E kn).1 _ kn 7 1 _) ≤ _; omega⟩
        · rw [if_neg b2, if_neg b2]
          exact ⟨rfl, (c_tu V Q1 K1).2.2.1⟩
    · rw [if_pos ((kl_x T0).mpr c2), if_pos (tv_f (fun h => c2 h.2))]; exact ⟨rfl, K⟩
  · rw [if_neg c1, if_pos (tv_f (fun h => c1 h.1))]; exact ⟨rfl, K⟩
theorem m_fee (P : pCm M E t w wm) (Y : pYm M) (V : pEv E t w wm) (C : pCa E.1) : (d_X12_fee_r125d l kn M).1 = aFee E l kn := by
  have e126 := cm_126 P
  have Ir : pIr E := by rw [← P.1]; exact Y.2.1
  have P0 : pCm (vu M 125 0 0) E t w wm := cm_u P (Or.inl ⟨rfl, Or.inl (by decide)⟩)
  have Y0 : pYm (vu M 125 0 0) := pYm_e (P0.1.trans P.1.symm) Y
  obtain ⟨A1, G1, P1, _⟩ := m_fi P0 Y0 V kn
  unfold d_X12_fee_r125d d_X12_fee_r125d_29 d_X12_fee_r125d_104 d_X12_fee_r125d_5000104 aFee
  rw [e126]
  by_cases c1 : 0 ≤ l ∧ l ≤ E.1 0 - 1
  · rw [if_pos c1]
    by_cases c2 : 0 ≤ kn ∧ kn ≤ 146399
    · rw [if_pos c2]
      by_cases c4 : kn < E.1 (20 + 90 * l + 3).toNat
      · rw [if_pos c4, if_pos (tv_f (fun h => by have := h.2.2; omega))]
      · have k : sKl E l kn := ⟨c2, ⟨c1.1, by omega⟩, by omega⟩
        obtain ⟨m1, m2, m3, m4⟩ := ln_m V Ir k.2.1
        obtain ⟨p, p1, p2, p3⟩ := ln_p V Ir k
        have e139 := (G1.1 (3 * l).toNat m2).trans p1
        have dd := (Ir l.toNat (by omega)).2.2.1
        rw [show 22 + 90 * l.toNat = (20 + 90 * l + 2).toNat from by omega] at dd
        rw [if_neg c4, tv_t k, if_neg (show ¬ (1 : Int) = 0 from by decide), e139, p1]
        generalize d_X12_find_r125d kn (vu M 125 0 0) = A at *
        by_cases b1 : E.1 (20 + 90 * l).toNat = 1
        · rw [if_pos b1, if_pos b1]
          obtain ⟨f1, f2, f3, f4, f5⟩ := mfc (ki := 7) (wh := 2) A1.1 (ev_q V kn) A1.2.1 dd (show (p : Int) ≠ -1 from by omega) V.2.2.2.2.1 (ev_o V kn dd (p : Int)) C pF_r A1.2.2
          have f6 : (d_X12_findCount_r125d 7 2 (p : Int) (E.1 (20 + 90 * l + 2).toNat) A).2.1 125 64 = sSv E (sGs E kn).1 (E.1 (20 + 90 * l + 2).toNat) kn 7 2 (p : Int) := f4
          rw [f6]
          by_cases z : 0 ≤ sSv E (sGs E kn).1 (E.1 (20 + 90 * l + 2).toNat) kn 7 2 (p : Int)
          · rw [if_pos z]; show sSv E (sGs E kn).1 (E.1 (20 + 90 * l + 2).toNat) kn 7 2 (p : Int) = _; omega
          · rw [if_neg z]; show 0 = _; omega
        · rw [if_neg b1, if_neg b1]
          by_cases b2 : E.1 (20 + 90 * l).toNat = 2
          · rw [if_pos b2, if_pos b2]
            obtain ⟨f1, f2, f3, f4, f5⟩ := mfc (ki := 7) (wh := 0) A1.1 (ev_q V kn) A1.2.1 dd (show (p : Int) ≠ -1 from by omega) V.2.2.2.2.1 (ev_o V kn dd (p : Int)) C pF_r A1.2.2
            obtain ⟨g1, g2, g3, g4, g5⟩ := mfc (ki := 7) (wh := 1) A1.1 (ev_q V kn) A1.2.1 dd (show (p : Int) ≠ -1 from by omega) V.2.2.2.2.1 (ev_o V kn dd (p : Int)) C f1 f2
            have f6 : (d_X12_findCount_r125d 7 0 (p : Int) (E.1 (20 + 90 * l + 2).toNat) A).2.1 125 64 = sSv E (sGs E kn).1 (E.1 (20 + 90 * l + 2).toNat) kn 7 0 (p : Int) := f4
            have g6 : (d_X12_findCount_r125d 7 1 (p : Int) (E.1 (20 + 90 * l + 2).toNat) (d_X12_findCount_r125d 7 0 (p : Int) (E.1 (20 + 90 * l + 2).toNat) A)).2.1 125 64 = sSv E (sGs E kn).1 (E.1 (20 + 90 * l + 2).toNat) kn 7 1 (p : Int) := g4
            have r1 := sv_r (kn := kn) (ki := 7) (wh := 0) C (ev_o V kn dd (p : Int))
            have r2 := sv_r (kn := kn) (ki := 7) (wh := 1) C (ev_o V kn dd (p : Int))
            rw [f6, g6]
            generalize sSv E (sGs E kn).1 (E.1 (20 + 90 * l + 2).toNat) kn 7 0 (p : Int) = x at *
            generalize sSv E (sGs E kn).1 (E.1 (20 + 90 * l + 2).toNat) kn 7 1 (p : Int) = y at *
            have la : 0 ≤ x → 0 ≤ y → j_ladd x y = x + y := fun h1 h2 => l_a (by omega) (by omega) (by omega)
            have lb : 0 ≤ y → j_ladd 0 y = y := fun h2 => by
              have := l_a (x := 0) (y := y) (by decide) (by omega) (by omega)
              rw [this]; omega
            by_cases z1 : 0 ≤ x
            · rw [if_pos z1]
              by_cases z2 : 0 ≤ y
              · rw [if_pos z2]; show j_ladd x y = _; rw [la z1 z2]; omega
              · rw [if_neg z2]; show x + 0 = _; omega
            · rw [if_neg z1]
              by_cases z2 : 0 ≤ y
              · rw [if_pos z2]
                first
                  | (show j_ladd 0 y = _; rw [lb z2]; omega)
                  | (show 0 + y = _; omega)
              · rw [if_neg z2]
                first
                  | (show (0 : Int) + 0 = _; omega)
                  | (show (0 : Int) = _; omega)
          · rw [if_neg b2, if_neg b2]
    · rw [if_neg c2, if_pos (tv_f (fun h => c2 h.1))]
  · rw [if_neg c1, if_pos (tv_f (fun h => by have := h.2.1; omega))]
/-! counts -/
def pS4 (X : jW) : Prop := (X.1 3 0 = 2 ∧ X.1 3 1 = 2 ∧ X.1 3 2 = 2 ∧ X.1 3 3 = 3 ∧ X.1 3 4 = 6 ∧ X.1 3 5 = 6 ∧ X.1 3 6 = 6 ∧ X.1 3 7 = 7) ∧ (X.1 4 0 = 0 ∧ X.1 4 1 = 1 ∧ X.1 4 2 = 2 ∧ X.1 4 3 = 0 ∧ X.1 4 4 = 0 ∧ X.1 4 5 = 1 ∧ X.1 4 6 = 2 ∧ X.1 4 7 = 0)
def kiC (k : Int) : Int := if k < 3 then 3 else if k = 3 then 4 else if k < 7 then 7 else 8
def whC (k : Int) : Int := if k < 3 then k else if k = 3 then 0 else if k < 7 then k - 4 else 0
theorem s4_e (S : pS4 X) {k : Int} (h : 0 ≤ k ∧ k ≤ 7) : X.1 3 k.toNat + 1 = kiC k ∧ X.1 4 k.toNat = whC k ∧ 0 ≤ X.1 3 k.toNat ∧ X.1 3 k.toNat ≤ 7 := by
  obtain ⟨⟨a0, a1, a2, a3, a4, a5, a6, a7⟩, b0, b1, b2, b3, b4, b5, b6, b7⟩ := S
  rcases (show k = 0 ∨ k = 1 ∨ k = 2 ∨ k = 3 ∨ k = 4 ∨ k = 5 ∨ k = 6 ∨ k = 7 from by omega) with rfl | rfl | rfl | rfl | rfl | rfl | rfl | rfl
  · exact ⟨by show X.1 3 0 + 1 = 3; omega, b0, by show 0 ≤ X.1 3 0; omega, by show X.1 3 0 ≤ 7; omega⟩
  · exact ⟨by show X.1 3 1 + 1 = 3; omega, b1, by show 0 ≤ X.1 3 1; omega, by show X.1 3 1 ≤ 7; omega⟩
  · exact ⟨by show X.1 3 2 + 1 = 3; omega, b2, by show 0 ≤ X.1 3 2; omega, by show X.1 3 2 ≤ 7; omega⟩
  · exact ⟨by show X.1 3 3 + 1 = 4; omega, b3, by show 0 ≤ X.1 3 3; omega, by show X.1 3 3 ≤ 7; omega⟩
  · exact ⟨by show X.1 3 4 + 1 = 7; omega, b4, by show 0 ≤ X.1 3 4; omega, by show X.1 3 4 ≤ 7; omega⟩
  · exact ⟨by show X.1 3 5 + 1 = 7; omega, b5, by show 0 ≤ X.1 3 5; omega, by show X.1 3 5 ≤ 7; omega⟩
  · exact ⟨by show X.1 3 6 + 1 = 7; omega, b6, by show 0 ≤ X.1 3 6; omega, by show X.1 3 6 ≤ 7; omega⟩
  · exact ⟨by show X.1 3 7 + 1 = 8; omega, b7, by show 0 ≤ X.1 3 7; omega, by show X.1 3 7 ≤ 7; omega⟩
noncomputable def vCo (E : pE) (kn d k s m : Int) : Int := if sBx E (sGs E kn).1 d kn (kiC k) (whC k) s = -1 then -2000000000000 else if m = 0 then sSv E (sGs E kn).1 d kn (kiC k) (whC k) s else if m = 1 then sBx E (sGs E kn).1 d kn (kiC k) (whC k) s else cN (sCk E.1 d kn (kiC k) (whC k) fun w => sQu E (sGs E kn).1 d kn w s) (sSq E.1 fun w => sQu E (sGs E kn).1 d kn w s) (sSv E (sGs E kn).1 d kn (kiC k) (whC k) s) 720
noncomputable def aCounts (E : pE) (k a d kn m : Int) : Int := if (0 ≤ k ∧ k ≤ 7) ∧ (0 ≤ m ∧ m ≤ 2) ∧ 0 ≤ d ∧ d ≤ 146399 then (if tv (sKw E kn a) = 0 then -2000000000000 else vCo E kn d k ((sGs E kn).1 a.toNat) m) else -2000000000000
theorem x_counts {k a d m : Int} (P : pCp X E t w wm) (K : pCk X E t w wm) (V : pEv E t w wm) (S : pS4 X) : (d_X11_counts_r31d k a d kn m X).1 = aCounts E k a d kn m ∧ pCk (d_X11_counts_r31d k a d kn m X).2 E t w wm := by
  unfold aCounts
  have e : d_X11_counts_r31d k a d kn m X = if k < 0 then (-2000000000000, X) else if 7 < k then (-2000000000000, X) else if m < 0 then (-2000000000000, X) else if 2 < m then (-2000000000000, X) else if 0 ≤ d ∧ d ≤ 146399 then gXz a kn (-2000000000000) X (if (d_X0_weigh_r98d (X.1 3 k.toNat) (X.1 4 k.toNat) ((d_X7_asKnown_r78d kn X).1 82 a.toNat) (d_X0_readHouses_r98d d kn (d_X0_readLaws_r98d d kn (d_X7_asKnown_r78d kn X)))).1 = 0 then (-2000000000000, (d_X0_weigh_r98d (X.1 3 k.toNat) (X.1 4 k.toNat) ((d_X7_asKnown_r78d kn X).1 82 a.toNat) (d_X0_readHouses_r98d d kn (d_X0_readLaws_r98d d kn (d_X7_asKnown_r78d kn X)))).2) else if m = 0 then ((d_X0_weigh_r98d (X.1 3 k.toNat) (X.1 4 k.toNat) ((d_X7_asKnown_r78d kn X).1 82 a.toNat) (d_X0_readHouses_r98d d kn (d_X0_readLaws_r98d d kn (d_X7_asKnown_r78d kn X)))).2.2.1 98 14, (d_X0_weigh_r98d (X.1 3 k.toNat) (X.1 4 k.toNat) ((d_X7_asKnown_r78d kn X).1 82 a.toNat) (d_X0_readHouses_r98d d kn (d_X0_readLaws_r98d d kn (d_X7_asKnown_r78d kn X)))).2) else if m = 1 then ((d_X0_weigh_r98d (X.1 3 k.toNat) (X.1 4 k.toNat) ((d_X7_asKnown_r78d kn X).1 82 a.toNat) (d_X0_readHouses_r98d d kn (d_X0_readLaws_r98d d kn (d_X7_asKnown_r78d kn X)))).2.1 98 13, (d_X0_weigh_r98d (X.1 3 k.toNat) (X.1 4 k.toNat) ((d_X7_asKnown_r78d kn X).1 82 a.toNat) (d_X0_readHouses_r98d d kn (d_X0_readLaws_r98d d kn (d_X7_asKnown_r78d kn X)))).2) else ((d_X0_weigh_r98d (X.1 3 k.toNat) (X.1 4 k.toNat) ((d_X7_asKnown_r78d kn X).1 82 a.toNat) (d_X0_readHouses_r98d d kn (d_X0_readLaws_r98d d kn (d_X7_asKnown_r78d kn X)))).2.1 98 15, (d_X0_weigh_r98d (X.1 3 k.toNat) (X.1 4 k.toNat) ((d_X7_asKnown_r78d kn X).1 82 a.toNat) (d_X0_readHouses_r98d d kn (d_X0_readLaws_r98d d kn (d_X7_asKnown_r78d kn X)))).2)) else (-2000000000000, X) := rfl
  rw [e]
  by_cases c1 : k < 0
  · rw [if_pos c1, if_neg (fun h => by omega)]; exact ⟨rfl, K⟩
  · rw [if_neg c1]
    by_cases c2 : 7 < k
    · rw [if_pos c2, if_neg (fun h => by omega)]; exact ⟨rfl, K⟩
    · rw [if_neg c2]
      by_cases c3 : m < 0
      · rw [if_pos c3, if_neg (fun h => by omega)]; exact ⟨rfl, K⟩
      · rw [if_neg c3]
        by_cases c4 : 2 < m
        · rw [if_pos c4, if_neg (fun h => by omega)]; exact ⟨rfl, K⟩
        · rw [if_neg c4]
          by_cases c5 : 0 ≤ d ∧ d ≤ 146399
          · rw [if_pos c5, if_pos (c := (0 ≤ k ∧ k ≤ 7) ∧ (0 ≤ m ∧ m ≤ 2) ∧ 0 ≤ d ∧ d ≤ 146399) ⟨⟨by omega, by omega⟩, ⟨by omega, by omega⟩, c5⟩]
            obtain ⟨s1, s2, s3⟩ := s4_e S (k := k) ⟨by omega, by omega⟩
            refine qXz P K V (fun p k0 P1 K1 Q1 e1 e2 p2 p3 => ?_)
            rw [e1, e2]
            obtain ⟨w1, w2, w3, w4, w5, w6⟩ := c_we (ki := X.1 3 k.toNat) (wh := X.1 4 k.toNat) Q1 K1 V c5 p2 p3 s3 pF_r
            rw [w1, w2, w3, w4]
            rw [s1, s2]
            unfold vCo
            by_cases q0 : sBx E (sGs E kn).1 d kn (kiC k) (whC k) (p : Int) = -1
            · rw [if_pos q0, if_pos q0, if_pos rfl]; exact ⟨rfl, by rw [s2] at w6; exact w6⟩
            · rw [if_neg q0, if_neg q0, if_neg (show ¬ (1 : Int) = 0 from by decide)]
              rw [s2] at w6
              by_cases q1 : m = 0
              · rw [if_pos q1, if_pos q1]; exact ⟨rfl, w6⟩
              · rw [if_neg q1, if_neg q1]
                by_cases q2 : m = 1
                · rw [if_pos q2, if_pos q2]; exact ⟨rfl, w6⟩
                · rw [if_neg q2, if_neg q2]; exact ⟨rfl, w6⟩
          · rw [if_neg c5, if_neg (fun h => c5 h.2.2)]; exact ⟨rfl, K⟩
theorem m_counts {k a d m : Int} (P : pCm M E t w wm) (Y : pYm M) (V : pEv E t w wm) (C : pCa E.1) : (d_X12_counts_r125d k a d kn m M).1 = aCounts E k a d kn m := by
  have y : (d_X12_counts_r125d k a d kn m M).1 = if tv (sKw E kn a) = 0 then -2000000000000 else (if (0 ≤ k ∧ k ≤ 7) ∧ (0 ≤ m ∧ m ≤ 2) ∧ 0 ≤ d ∧ d ≤ 146399 then vCo E kn d k ((sGs E kn).1 a.toNat) m else -2000000000000) := by
    refine qMz (B := if 0 ≤ k ∧ k ≤ 7 then (if 0 ≤ d ∧ d ≤ 146399 then (if 0 ≤ m ∧ m ≤ 2 then (if 3 ≤ k then (if k = 3 then (d_X12_counts_r125d_600088 k d m ((d_X12_find_r125d kn (vu M 125 0 0)).1 139 a.toNat) (d_X12_find_r125d kn (vu M 125 0 0))) else (if 7 ≤ k then (d_X12_counts_r125d_1000088 k d m ((d_X12_find_r125d kn (vu M 125 0 0)).1 139 a.toNat) (d_X12_find_r125d kn (vu M 125 0 0))) else (d_X12_counts_r125d_900088 k d m ((d_X12_find_r125d kn (vu M 125 0 0)).1 139 a.toNat) (d_X12_find_r125d kn (vu M 125 0 0))))) else (d_X12_counts_r125d_500088 k d m ((d_X12_find_r125d kn (vu M 125 0 0)).1 139 a.toNat) (d_X12_find_r125d kn (vu M 125 0 0)))) else (-2000000000000, d_X12_find_r125d kn (vu M 125 0 0))) else (-2000000000000, d_X12_find_r125d kn (vu M 125 0 0))) else (-2000000000000, d_X12_find_r125d kn (vu M 125 0 0))) P Y V (fun p k0 A1 P1 e1 e2 p2 p3 => ?_)
    rw [e1, e2]
    generalize d_X12_find_r125d kn (vu M 125 0 0) = A at *
    by_cases c1 : 0 ≤ k ∧ k ≤ 7
    · rw [if_pos c1]
      by_cases c2 : 0 ≤ d ∧ d ≤ 146399
      · rw [if_pos c2]
        by_cases c3 : 0 ≤ m ∧ m ≤ 2
        · rw [if_pos c3, if_pos (c := (0 ≤ k ∧ k ≤ 7) ∧ (0 ≤ m ∧ m ≤ 2) ∧ 0 ≤ d ∧ d ≤ 146399) ⟨c1, c3, c2⟩]
          have one : d_X12_counts_r125d_115 d m (p : Int) (whC k) (kiC k) A = (vCo E kn d k (p : Int) m, d_X12_findCount_r125d (kiC k) (whC k) (p : Int) d A) := by
            obtain ⟨f1, f2, f3, f4, f5⟩ := mfc (ki := kiC k) (wh := whC k) A1.1 (ev_q V kn) A1.2.1 c2 (show (p : Int) ≠ -1 from by omega) V.2.2.2.2.1 (ev_o V kn c2 (p : Int)) C pF_r A1.2.2
            unfold d_X12_counts_r125d_115 d_X12_counts_r125d_166 d_X12_counts_r125d_5000166 vCo
            have f6 : (d_X12_findCount_r125d (kiC k) (whC k) (p : Int) d A).1 125 65 = sBx E (sGs E kn).1 d kn (kiC k) (whC k) (p : Int) := f3
            have f7 : (d_X12_findCount_r125d (kiC k) (whC k) (p : Int) d A).2.1 125 64 = sSv E (sGs E kn).1 d kn (kiC k) (whC k) (p : Int) := f4
            have f8 : (d_X12_findCount_r125d (kiC k) (whC k) (p : Int) d A).1 125 66 = cN (sCk E.1 d kn (kiC k) (whC k) fun w => sQu E (sGs E kn).1 d kn w (p : Int)) (sSq E.1 fun w => sQu E (sGs E kn).1 d kn w (p : Int)) (sSv E (sGs E kn).1 d kn (kiC k) (whC k) (p : Int)) 720 := f5
            rw [f6, f7, f8]
            by_cases q0 : sBx E (sGs E kn).1 d kn (kiC k) (whC k) (p : Int) = -1
            · rw [if_pos q0, if_pos q0]
            · rw [if_neg q0, if_neg q0]
              by_cases q1 : m = 0
              · rw [if_pos q1, if_pos q1]
              · rw [if_neg q1, if_neg q1]
                by_cases q2 : m = 1
                · rw [if_pos q2, if_pos q2]
                · rw [if_neg q2, if_neg q2]
          by_cases d1 : 3 ≤ k
          · rw [if_pos d1]
            by_cases d2 : k = 3
            · rw [if_pos d2]
              rw [show kiC k = 4 from by unfold kiC; rw [if_neg (by omega), if_pos d2], show whC k = 0 from by unfold whC; rw [if_neg (by omega), if_pos d2]] at one
              exact congrArg Prod.fst one
            · rw [if_neg d2]
              by_cases d3 : 7 ≤ k
              · rw [if_pos d3]
                rw [show kiC k = 8 from by unfold kiC; rw [if_neg (by omega), if_neg d2, if_neg (by omega)], show whC k = 0 from by unfold whC; rw [if_neg (by omega), if_neg d2, if_neg (by omega)]] at one
                exact congrArg Prod.fst one
              · rw [if_neg d3]
                rw [show kiC k = 7 from by unfold kiC; rw [if_neg (by omega), if_neg d2, if_pos (by omega)], show whC k = k - 4 from by unfold whC; rw [if_neg (by omega), if_neg d2, if_pos (by omega)]] at one
                exact congrArg Prod.fst one
          · rw [if_neg d1]
            rw [show kiC k = 3 from by unfold kiC; rw [if_pos (by omega)], show whC k = k from by unfold whC; rw [if_pos (by omega)]] at one
            exact congrArg Prod.fst one
        · rw [if_neg c3, if_neg (fun h => c3 h.2.1)]
      · rw [if_neg c2, if_neg (fun h => c2 h.2.2)]
    · rw [if_neg c1, if_neg (fun h => c1 h.1)]
  rw [y]
  unfold aCounts
  by_cases q : (0 ≤ k ∧ k ≤ 7) ∧ (0 ≤ m ∧ m ≤ 2) ∧ 0 ≤ d ∧ d ≤ 146399
  · rw [if_pos q, if_pos q]
  · rw [if_neg q, if_neg q]; split <;> rfl
end
end jG114

section jG115
/-! pure: order -/
def pEw (E : pE) : Prop := (∀ l : Nat, (l : Int) < E.1 11 → (0 ≤ E.1 (48301 + 4 * l) ∧ E.1 (48301 + 4 * l) ≤ 399) ∧ 0 ≤ E.1 (48302 + 4 * l) ∧ E.1 (48302 + 4 * l) ≤ 1000000) ∧ (∀ l : Nat, (l : Int) < E.1 0 → E.1 (20 + 90 * l) = 5 → 0 ≤ E.1 (24 + 90 * l)) ∧ (∀ j : Nat, (j : Int) < E.1 6 → 0 ≤ E.1 (47141 + 3 * j)) ∧ (0 ≤ E.1 6 ∧ E.1 6 ≤ 40) ∧ (0 ≤ E.1 11 ∧ E.1 11 ≤ 40) ∧ (0 ≤ E.1 12 ∧ E.1 12 ≤ 100) ∧ (0 ≤ E.1 3 ∧ E.1 3 ≤ 20)
def sApl (E : pE) (l kn : Int) (j : Nat) : Prop := E.1 (47140 + 3 * j) = l ∧ E.1 (47142 + 3 * j) ≤ kn
section
variable {X M : jW} {E : pE} {t : jT} {w : Nat} {wm : Nat → Nat} {l kn : Int}
noncomputable def sFa (E : pE) (l kn : Int) (j : Nat) : Nat := sFi (sApl E l kn) ((E.1 6).toNat - j) j
noncomputable def sFad (E : pE) (l kn : Int) (j : Nat) : Int := if sFa E l kn j = (E.1 6).toNat then -1 else E.1 (47141 + 3 * sFa E l kn j)
theorem x_ap (T : pT X 32 pt_6 E.1) (h6 : 0 ≤ E.1 6 ∧ E.1 6 ≤ 40) : d_X11_firstAppeal_r31d l kn X = if sFa E l kn 0 = (E.1 6).toNat then -1 else (sFa E l kn 0 : Int) := by
  have e45 : X.1 45 3 = E.1 6 := T.1
  have key : ∀ (c j r : Nat), j + c = (E.1 6).toNat → c < r → d_X11_firstAppeal_r31d_2 r l kn (j : Int) X = if sFi (sApl E l kn) c j = (E.1 6).toNat then -1 else (sFi (sApl E l kn) c j : Int) := by
    intro c
    induction c with
    | zero =>
      intro j r e hr
      obtain ⟨r, rfl⟩ : ∃ q, r = q + 1 := ⟨r - 1, by omega⟩
      rw [if_pos (show sFi (sApl E l kn) 0 j = (E.1 6).toNat from by show j = _; omega)]
      exact if_pos (by omega)
    | succ c ih =>
      intro j r e hr
      obtain ⟨r, rfl⟩ : ∃ q, r = q + 1 := ⟨r - 1, by omega⟩
      have y := ih (j + 1) r (by omega) (by omega)
      rw [show ((j + 1 : Nat) : Int) = (j : Int) + 1 from by omega] at y
      have a2 := at_45_2 T (i := (j : Int)) (by omega) (by omega)
      have ak := kn_45 T (k := kn) (i := (j : Int)) (by omega) (by omega)
      rw [show (47140 + 3 * (j : Int) + 0).toNat = 47140 + 3 * j from by omega] at a2
      rw [show (47140 + 3 * (j : Int) + 2).toNat = 47142 + 3 * j from by omega] at ak
      refine (if_neg (by omega)).trans ?_
      rw [a2, ak]
      unfold d_X11_firstAppeal_r31d_49
      by_cases z1 : E.1 (47140 + 3 * j) = l
      · rw [if_pos z1]
        by_cases z2 : kn < E.1 (47142 + 3 * j)
        · rw [if_pos z2, if_pos rfl, fi_n (fun h => by have := h.2; omega)]; exact y
        · rw [if_neg z2, if_neg (show ¬ (1 : Int) = 0 from by decide), fi_y (P := sApl E l kn) (c := c) (n := j) ⟨z1, by omega⟩, if_neg (by omega)]
      · rw [if_neg z1, fi_n (fun h => z1 h.1)]; exact y
  exact key (E.1 6).toNat 0 41 (by omega) (by omega)
noncomputable def sGood (E : pE) (l kn s : Int) : Int := tv (sBr E (sGs E kn).1 kn 7 s (E.1 (20 + 90 * l + 2).toNat) = E.1 (20 + 90 * l + 4).toNat ∧ (¬ sCe E (sGs E kn).1 s (E.1 (20 + 90 * l + 2).toNat) (E.1 (20 + 90 * l + 4).toNat) kn ∨ 0 < sRe E (sGs E kn).1 s (E.1 (20 + 90 * l + 2).toNat - 365) (E.1 (20 + 90 * l + 2).toNat)))
noncomputable def vOr (E : pE) (l kn s k : Int) : Int := if k = 0 then sGood E l kn s else if sGood E l kn s = 0 then (if sFad E l kn 0 = -1 then 0 else if k = 1 then 1 else sRe E (sGs E kn).1 s (E.1 (20 + 90 * l + 2).toNat) (sFad E l kn 0)) else 0
noncomputable def aOrder (E : pE) (l kn k : Int) : Int := if tv (sKl E l kn ∧ E.1 (20 + 90 * l).toNat = 5 ∧ 0 ≤ k ∧ k ≤ 2) = 0 then -1 else vOr E l kn ((sGs E kn).1 (3 * l).toNat) k
def orX (l kn k s : Int) (W : jW) : Int × jW := (if k = 0 then (if (d_X11_isGood_r31d l s kn W).1 = 0 then (0, (d_X11_isGood_r31d l s kn W).2) else (1, (d_X11_isGood_r31d l s kn W).2)) else (if (d_X11_isGood_r31d l s kn W).1 = 0 then (if (d_X11_firstAppeal_r31d l kn (d_X11_isGood_r31d l s kn W).2) = (-1) then (0, (d_X11_isGood_r31d l s kn W).2) else (if k = 1 then (1, (d_X11_isGood_r31d l s kn W).2) else ((d_X7_reliefOf_r78d s (d_X8_at_r33_c1d l (d_X11_isGood_r31d l s kn W).2) (d_X8_at_r45_c1d (d_X11_firstAppeal_r31d l kn (d_X11_isGood_r31d l s kn W).2) (d_X11_isGood_r31d l s kn W).2) (d_X11_isGood_r31d l s kn W).2), (d_X11_isGood_r31d l s kn W).2))) else (0, (d_X11_isGood_r31d l s kn W).2)))
theorem c_go {A : jW} {p : Nat} (P1 : pCp A E t w wm) (K1 : pCk A E t w wm) (Q1 : pVk A E kn) (V : pEv E t w wm) (hl : 0 ≤ l ∧ l < E.1 0) (hp : p < sNl E) (ep : (sGs E kn).1 p = (p : Int)) : (d_X11_isGood_r31d l (p : Int) kn A).1 = sGood E l kn (p : Int) ∧ pVk (d_X11_isGood_r31d l (p : Int) kn A).2 E kn ∧ pCk (d_X11_isGood_r31d l (p : Int) kn A).2 E t w wm ∧ pCp (d_X11_isGood_r31d l (p : Int) kn A).2 E t w wm := by
  have T1 := P1.2.1.1 pt_0 (by decide)
  have dd := (P1.1.2.1 l.toNat (by omega)).2.2.1
  rw [show 22 + 90 * l.toNat = (20 + 90 * l + 2).toNat from by omega] at dd
  obtain ⟨b1, b2, b3, b4, _⟩ := c_be P1 K1 Q1 V dd hp ep
  unfold d_X11_isGood_r31d d_X11_isGood_r31d_57 d_X11_isGood_r31d_94 d_X11_isGood_r31d_200099 d_X11_isGood_r31d_300099 sGood
  rw [if_neg (show ¬ (p : Int) = -1 from by omega), at_33_1 T1 hl.1 hl.2, at_33_4 T1 hl.1 hl.2, b1, xce b2.1 (b4.2.1.1 pt_5 (by decide)) V.2.1, xre b2.1 hp ep]
  by_cases c1 : sBr E (sGs E kn).1 kn 7 (p : Int) (E.1 (20 + 90 * l + 2).toNat) = E.1 (20 + 90 * l + 4).toNat
  · rw [if_pos c1]
    by_cases c2 : sCe E (sGs E kn).1 (p : Int) (E.1 (20 + 90 * l + 2).toNat) (E.1 (20 + 90 * l + 4).toNat) kn
    · rw [tv_t c2, if_neg (show ¬ (1 : Int) = 0 from by decide)]
      by_cases c3 : sRe E (sGs E kn).1 (p : Int) (E.1 (20 + 90 * l + 2).toNat - 365) (E.1 (20 + 90 * l + 2).toNat) ≤ 0
      · rw [if_pos c3, tv_f (fun h => h.2.elim (fun h => h c2) (fun h => by omega))]; exact ⟨rfl, b2, b3, b4⟩
      · rw [if_neg c3, tv_t ⟨c1, Or.inr (by omega)⟩]; exact ⟨rfl, b2, b3, b4⟩
    · rw [tv_f c2, if_pos rfl, tv_t ⟨c1, Or.inl c2⟩]; exact ⟨rfl, b2, b3, b4⟩
  · rw [if_neg c1, tv_f (fun h => c1 h.1)]; exact ⟨rfl, b2, b3, b4⟩
theorem x_order {k : Int} (P : pCp X E t w wm) (K : pCk X E t w wm) (V : pEv E t w wm) (Ew : pEw E) : (d_X11_order_r31d l kn k X).1 = aOrder E l kn k ∧ pCk (d_X11_order_r31d l kn k X).2 E t w wm := by
  have e33 : X.1 33 3 = E.1 0 := (P.2.1.1 pt_0 (by decide)).1
  have h0 := V.2.2.2.2.2.2.2.2.2.2.2.2.2.2.2
  have T0 := P.2.1.1 pt_0 (by decide)
  have e : d_X11_order_r31d l kn k X = if 0 ≤ kn ∧ kn ≤ 146399 then (if d_X8_isKnown_r33d l kn X = 0 then (-1, X) else if d_X8_at_r33_c2d l X = 5 then (if k < 0 then (-1, X) else if k ≤ 2 then (if 0 ≤ kn ∧ kn ≤ 146399 then hX (j_imul l 3) X (orX l kn k (-1) X) (orX l kn k ((d_X7_asKnown_r78d kn X).1 82 (j_imul l 3).toNat) (d_X7_asKnown_r78d kn X)) else orX l kn k (-1) X) else (-1, X)) else (-1, X)) else (-1, X) := rfl
  rw [e]
  unfold aOrder
  by_cases c1 : 0 ≤ kn ∧ kn ≤ 146399
  · rw [if_pos c1]
    by_cases c2 : (0 ≤ l ∧ l < E.1 0) ∧ E.1 (20 + 90 * l + 3).toNat ≤ kn
    · have kk : sKl E l kn := ⟨c1, c2⟩
      rw [if_neg (fun h => ((kl_x T0).mp h) c2), at_33_2 T0 c2.1.1 c2.1.2, Int.add_zero]
      by_cases c3 : E.1 (20 + 90 * l).toNat = 5
      · rw [if_pos c3]
        by_cases c4 : k < 0
        · rw [if_pos c4, if_pos (tv_f (fun h => by have := h.2.2.1; omega))]; exact ⟨rfl, K⟩
        · rw [if_neg c4]
          by_cases c5 : k ≤ 2
          · obtain ⟨m1, m2, m3, m4⟩ := ln_m V P.1.2.1 c2.1
            obtain ⟨p, p1, p2, p3⟩ := ln_p V P.1.2.1 kk
            obtain ⟨P1, K1, Q1, G1, y1⟩ := c_as P K V kn
            have e82 := (G1.1 (3 * l).toNat m2).trans p1
            rw [if_pos c5, if_pos c1, m3, hX_e P.1 e33 h0, tv_t m1, tv_t ⟨kk, c3, by omega, c5⟩, if_neg (show ¬ (1 : Int) = 0 from by decide), if_neg (show ¬ (1 : Int) = 0 from by decide), e82, p1]
            generalize d_X7_asKnown_r78d kn X = A at *
            obtain ⟨g1, g2, g3, g4⟩ := c_go P1 K1 Q1 V c2.1 p2 p3
            have T6 := g4.2.1.1 pt_6 (by decide)
            have fa := x_ap (l := l) (kn := kn) T6 Ew.2.2.2.1
            have fb := fi_b (P := sApl E l kn) (E.1 6).toNat 0
            unfold orX vOr
            rw [g1, fa, at_33_1 (g4.2.1.1 pt_0 (by decide)) c2.1.1 c2.1.2]
            have gd : sGood E l kn (p : Int) = 0 ∨ sGood E l kn (p : Int) = 1 := by
              unfold sGood
              by_cases z : (sBr E (sGs E kn).1 kn 7 (p : Int) (E.1 (20 + 90 * l + 2).toNat) = E.1 (20 + 90 * l + 4).toNat ∧ (¬ sCe E (sGs E kn).1 (p : Int) (E.1 (20 + 90 * l + 2).toNat) (E.1 (20 + 90 * l + 4).toNat) kn ∨ 0 < sRe E (sGs E kn).1 (p : Int) (E.1 (20 + 90 * l + 2).toNat - 365) (E.1 (20 + 90 * l + 2).toNat)))
              · exact Or.inr (tv_t z)
              · exact Or.inl (tv_f z)
            by_cases d0 : k = 0
            · rw [if_pos d0, if_pos d0]
              rcases gd with z | z
              · rw [z, if_pos rfl]; exact ⟨rfl, g3⟩
              · rw [z, if_neg (show ¬ (1 : Int) = 0 from by decide)]; exact ⟨rfl, g3⟩
            · rw [if_neg d0, if_neg d0]
              by_cases d1 : sGood E l kn (p : Int) = 0
              · rw [if_pos d1, if_pos d1]
                unfold sFad
                have fe : sFa E l kn 0 = sFi (sApl E l kn) (E.1 6).toNat 0 := rfl
                by_cases d2 : sFa E l kn 0 = (E.1 6).toNat
                · rw [if_pos d2, if_pos d2, if_pos rfl, if_pos rfl]; exact ⟨rfl, g3⟩
                · have lt : sFa E l kn 0 < (E.1 6).toNat := by omega
                  have b6 := Ew.2.2.2.1
                  have dy := Ew.2.2.1 (sFa E l kn 0) (by omega)
                  rw [if_neg d2, if_neg d2, if_neg (show ¬ (sFa E l kn 0 : Int) = -1 from by omega), if_neg (show ¬ E.1 (47141 + 3 * sFa E l kn 0) = -1 from by omega)]
                  by_cases d3 : k = 1
                  · rw [if_pos d3, if_pos d3]; exact ⟨rfl, g3⟩
                  · rw [if_neg d3, if_neg d3, at_45_1 T6 (show (0 : Int) ≤ (sFa E l kn 0 : Int) from by omega) (show (sFa E l kn 0 : Int) < E.1 6 from by omega), show (47140 + 3 * (sFa E l kn 0 : Int) + 1).toNat = 47141 + 3 * sFa E l kn 0 from by omega, xre g2.1 p2 p3]
                    exact ⟨rfl, g3⟩
              · rw [if_neg d1, if_neg d1]; exact ⟨rfl, g3⟩
          · rw [if_neg c5, if_pos (tv_f (fun h => c5 h.2.2.2))]; exact ⟨rfl, K⟩
      · rw [if_neg c3, if_pos (tv_f (fun h => c3 h.2.1))]; exact ⟨rfl, K⟩
    · rw [if_pos ((kl_x T0).mpr c2), if_pos (tv_f (fun h => c2 h.1.2))]; exact ⟨rfl, K⟩
  · rw [if_neg c1, if_pos (tv_f (fun h => c1 h.1.1))]; exact ⟨rfl, K⟩
theorem o_78 {A : jW} {k gd : Int} (e126 : A.1 126 = E.1) (h6 : 0 ≤ E.1 6 ∧ E.1 6 ≤ 40) : ∀ (j r : Nat), j < r → (j : Int) ≤ E.1 6 → d_X12_order_r125d_78 r l kn k gd (sFad E l kn j) ((j : Int) - 1) A = (if gd = 0 then (if sFad E l kn 0 = -1 then d_X12_order_r125d_154 l k gd (sFad E l kn 0) A else d_X12_order_r125d_300155 l k gd (sFad E l kn 0) A) else d_X12_order_r125d_154 l k gd (sFad E l kn 0) A) := by
  intro j
  induction j with
  | zero =>
    intro r hr _
    obtain ⟨r, rfl⟩ : ∃ q, r = q + 1 := ⟨r - 1, by omega⟩
    exact if_pos (by decide)
  | succ j ih =>
    intro r hr hj
    obtain ⟨r, rfl⟩ : ∃ q, r = q + 1 := ⟨r - 1, by omega⟩
    have y := ih r (by omega) (by omega)
    have ft : (E.1 6).toNat - j = ((E.1 6).toNat - (j + 1)) + 1 := by omega
    rw [show (((j + 1 : Nat) : Int) - 1) = (j : Int) from by omega]
    refine (if_neg (by omega)).trans ?_
    unfold d_X12_order_r125d_129 d_X12_order_r125d_131
    dsimp only
    rw [e126, show (47140 + (3 * (j : Int))).toNat = 47140 + 3 * j from by omega, show ((47140 + (3 * (j : Int))) + 2).toNat = 47142 + 3 * j from by omega, show ((47140 + (3 * (j : Int))) + 1).toNat = 47141 + 3 * j from by omega, show (j : Int) + -1 = (j : Int) - 1 from by omega]
    have no : ¬ sApl E l kn j → sFad E l kn j = sFad E l kn (j + 1) := fun n => by
      unfold sFad sFa
      rw [ft, fi_n n]
    by_cases z1 : E.1 (47140 + 3 * j) = l
    · rw [if_pos z1]
      by_cases z2 : kn < E.1 (47142 + 3 * j)
      · rw [if_pos z2, ← no (fun h => by have := h.2; omega)]; exact y
      · rw [if_neg z2]
        have ye : sFad E l kn j = E.1 (47141 + 3 * j) := by
          unfold sFad sFa
          rw [ft, fi_y (P := sApl E l kn) (n := j) ⟨z1, by omega⟩, if_neg (by omega)]
        rw [← ye]; exact y
    · rw [if_neg z1, ← no (fun h => z1 h.1)]; exact y
theorem m_order {k : Int} (P : pCm M E t w wm) (Y : pYm M) (V : pEv E t w wm) (C : pCa E.1) (Ew : pEw E) : (d_X12_order_r125d l kn k M).1 = aOrder E l kn k := by
  have e126 := cm_126 P
  have Ir : pIr E := by rw [← P.1]; exact Y.2.1
  have P0 : pCm (vu M 125 0 0) E t w wm := cm_u P (Or.inl ⟨rfl, Or.inl (by decide)⟩)
  have Y0 : pYm (vu M 125 0 0) := pYm_e (P0.1.trans P.1.symm) Y
  obtain ⟨A1, G1, P1, _⟩ := m_fi P0 Y0 V kn
  unfold d_X12_order_r125d d_X12_order_r125d_50 aOrder
  rw [e126]
  by_cases c1 : 0 ≤ l ∧ l ≤ E.1 0 - 1
  · rw [if_pos c1]
    by_cases c3 : E.1 (20 + 90 * l).toNat = 5
    · rw [if_pos c3]
      by_cases c2 : 0 ≤ kn ∧ kn ≤ 146399
      · rw [if_pos c2]
        by_cases c4 : kn < E.1 (20 + 90 * l + 3).toNat
        · rw [if_pos c4, if_pos (tv_f (fun h => by have := h.1.2.2; omega))]
        · rw [if_neg c4]
          by_cases c5 : 0 ≤ k ∧ k ≤ 2
          · have kk : sKl E l kn := ⟨c2, ⟨c1.1, by omega⟩, by omega⟩
            obtain ⟨m1, m2, m3, m4⟩ := ln_m V Ir kk.2.1
            obtain ⟨p, p1, p2, p3⟩ := ln_p V Ir kk
            have e139 := (G1.1 (3 * l).toNat m2).trans p1
            have dd := (Ir l.toNat (by omega)).2.2.1
            rw [show 22 + 90 * l.toNat = (20 + 90 * l + 2).toNat from by omega] at dd
            have nn := Ew.2.1 l.toNat (by omega) (by rw [show 20 + 90 * l.toNat = (20 + 90 * l).toNat from by omega]; exact c3)
            rw [show 24 + 90 * l.toNat = (20 + 90 * l + 4).toNat from by omega] at nn
            rw [if_pos c5, tv_t ⟨kk, c3, c5⟩, if_neg (show ¬ (1 : Int) = 0 from by decide), e139, p1]
            generalize d_X12_find_r125d kn (vu M 125 0 0) = A at *
            obtain ⟨U, u1, u2, u3, u4⟩ := m_be (s := (p : Int)) A1 V C dd (by omega) (Or.inr ⟨p, p2, rfl, p3⟩)
            have ue : U.1 126 = E.1 := congrArg Prod.fst u2.1.1
            have ce := mce (s := (p : Int)) (d := E.1 (20 + 90 * l + 2).toNat) (pa := E.1 (20 + 90 * l + 4).toNat) u2.1 V.2.1 u2.2.1
            have re := fun a b => mre (a := a) (b := b) u2.1 (show (p : Int) ≠ -1 from by omega)
            have u139 : U.1 139 (3 * l).toNat = (p : Int) := (u2.1.2.2.2.2.2.2 (3 * l).toNat m2).trans p1
            rw [u1]
            have b6 := Ew.2.2.2.1
            have fin : ∀ gd : Int, gd = sGood E l kn (p : Int) → (d_X12_order_r125d_78 41 l kn k gd (-1) (E.1 6 - 1) U).1 = vOr E l kn (p : Int) k := fun gd hg => by
              have y := o_78 (l := l) (kn := kn) (k := k) (gd := gd) ue b6 (E.1 6).toNat 41 (by omega) (by omega)
              have s0 : sFad E l kn (E.1 6).toNat = -1 := by
                unfold sFad sFa
                rw [Nat.sub_self]
                exact if_pos rfl
              rw [s0, show (((E.1 6).toNat : Nat) : Int) = E.1 6 from by omega] at y
              rw [y]
              unfold d_X12_order_r125d_154 d_X12_order_r125d_300155 d_X12_order_r125d_200155 d_X12_order_r125d_200220 d_X12_order_r125d_300220 d_X12_order_r125d_220 vOr
              rw [← hg, u139, ue, re]
              have g01 : gd = 0 ∨ gd = 1 := by
                rw [hg]
                unfold sGood
                by_cases z : (sBr E (sGs E kn).1 kn 7 (p : Int) (E.1 (20 + 90 * l + 2).toNat) = E.1 (20 + 90 * l + 4).toNat ∧ (¬ sCe E (sGs E kn).1 (p : Int) (E.1 (20 + 90 * l + 2).toNat) (E.1 (20 + 90 * l + 4).toNat) kn ∨ 0 < sRe E (sGs E kn).1 (p : Int) (E.1 (20 + 90 * l + 2).toNat - 365) (E.1 (20 + 90 * l + 2).toNat)))
                · exact Or.inr (tv_t z)
                · exact Or.inl (tv_f z)
              rcases g01 with z | z
              · rw [z, if_pos rfl]
                by_cases f : sFad E l kn 0 = -1
                · rw [if_pos f]
                  by_cases d0 : k = 0
                  · rw [if_pos d0, if_pos d0]; rfl
                  · rw [if_neg d0, if_neg d0, if_pos rfl, if_pos f]
                    split <;> rfl
                · rw [if_neg f]
                  by_cases d0 : k = 0
                  · rw [if_pos d0, if_pos d0]
                  · rw [if_neg d0, if_neg d0, if_pos rfl, if_neg f]
                    by_cases d1 : k = 1
                    · rw [if_pos d1, if_pos d1]
                    · rw [if_neg d1, if_neg d1]
              · rw [z, if_neg (show ¬ (1 : Int) = 0 from by decide), if_neg (show ¬ (1 : Int) = 0 from by decide)]
                by_cases d0 : k = 0
                · rw [if_pos d0, if_pos d0]
                · rw [if_neg d0, if_neg d0, if_neg (show ¬ (1 : Int) = 0 from by decide)]
                  split <;> rfl
            by_cases z1 : sBr E (sGs E kn).1 kn 7 (p : Int) (E.1 (20 + 90 * l + 2).toNat) = E.1 (20 + 90 * l + 4).toNat
            · rw [if_pos z1, if_neg (show ¬ E.1 (20 + 90 * l + 4).toNat = -1 from by omega), ce, re]
              by_cases z2 : sCe E (sGs E kn).1 (p : Int) (E.1 (20 + 90 * l + 2).toNat) (E.1 (20 + 90 * l + 4).toNat) kn
              · rw [tv_t z2, if_neg (show ¬ (1 : Int) = 0 from by decide)]
                by_cases z3 : sRe E (sGs E kn).1 (p : Int) (E.1 (20 + 90 * l + 2).toNat - 365) (E.1 (20 + 90 * l + 2).toNat) ≤ 0
                · rw [if_pos z3]
                  exact fin 0 (tv_f (fun h => h.2.elim (fun h => h z2) (fun h => by omega))).symm
                · rw [if_neg z3]
                  exact fin 1 (tv_t ⟨z1, Or.inr (by omega)⟩).symm
              · rw [tv_f z2, if_pos rfl]
                exact fin 1 (tv_t ⟨z1, Or.inl z2⟩).symm
            · rw [if_neg z1]
              exact fin 0 (tv_f (fun h => z1 h.1)).symm
          · rw [if_neg c5, if_pos (tv_f (fun h => c5 h.2.2))]
      · rw [if_neg c2, if_pos (tv_f (fun h => c2 h.1.1))]
    · rw [if_neg c3, if_pos (tv_f (fun h => c3 h.2.1))]
  · rw [if_neg c1, if_pos (tv_f (fun h => by have := h.1.2.1; omega))]
end
end jG115
