/-! pure: where a SOUL BELONGS, the class (wip/gen/belongs.py) -/
def pNe (X : jW) (E : pE) : Prop := ∀ m w : Nat, m < sNl E → w < 2 → (0 ≤ X.1 76 (2 * m + w) ↔ sIn E m w)
def pBx (X : jW) (E : pE) (kn : Int) : Prop := pVk X E kn ∧ pNe X E ∧ X.1 120 5 = kn
def pBw (X W : jW) (J : Nat) (L : sB4) : Prop := pZ X W ∧ W.1 120 = X.1 120 ∧ (∀ i : Nat, i < 6 * J → W.1 121 i = X.1 121 i ∧ W.1 122 i = X.1 122 i) ∧ ∀ i : Nat, i < L.1 → W.1 121 (6 * J + i) = L.2.1 i ∧ W.1 122 (6 * J + i) = L.2.2.1 i
theorem pBw_h {X W V : jW} {J : Nat} {L : sB4} (h : pBw X W J L) (z : pZ X V) (e : ∀ a : Nat, 107 ≤ a → a ≤ 122 → V.1 a = W.1 a ∧ V.2.1 a = W.2.1 a) : pBw X V J L := by
  refine ⟨z, (e 120 (by decide) (by decide)).1.trans h.2.1, fun i hi => ?_, fun i hi => ?_⟩
  · rw [(e 121 (by decide) (by decide)).1, (e 122 (by decide) (by decide)).1]; exact h.2.2.1 i hi
  · rw [(e 121 (by decide) (by decide)).1, (e 122 (by decide) (by decide)).1]; exact h.2.2.2 i hi
theorem pBw_a {X W : jW} {J : Nat} {L : sB4} (h : pBw X W J L) {a b y : Int} : pBw X (vu (vu W 121 (6 * J + L.1) a) 122 (6 * J + L.1) b) J (L.1 + 1, sU L.2.1 L.1 a, sU L.2.2.1 L.1 b, y) := by
  refine ⟨pZ_u (pZ_u h.1 (by decide)) (by decide), (vu_c (by decide)).trans ((vu_c (by decide)).trans h.2.1), fun i hi => ⟨?_, ?_⟩, fun i hi => ?_⟩
  · exact (vu_n (by omega)).trans ((vu_n (by omega)).trans (h.2.2.1 i hi).1)
  · exact (vu_n (by omega)).trans ((vu_n (by omega)).trans (h.2.2.1 i hi).2)
  · have hi' : i < L.1 + 1 := hi
    show _ = (if i = L.1 then a else L.2.1 i) ∧ _ = (if i = L.1 then b else L.2.2.1 i)
    by_cases z : i = L.1
    · rw [if_pos z, if_pos z, z]
      exact ⟨(vu_n (by omega)).trans (vu_e rfl), vu_e rfl⟩
    · rw [if_neg z, if_neg z]
      exact ⟨(vu_n (by omega)).trans ((vu_n (by omega)).trans (h.2.2.2 i (by omega)).1), (vu_n (by omega)).trans ((vu_n (by omega)).trans (h.2.2.2 i (by omega)).2)⟩
theorem pTe_Qy {X Y : jW} {r : Nat → Int} {t : Int} {T hd : Nat} (y : pQy X Y) (h : pTe X r t T hd) : pTe Y r t T hd := by
  obtain ⟨r1, r2, r3, r4, r5, r6, r7, r8⟩ := h
  exact ⟨r1, r2, by rw [y.1 T (by omega)]; exact r3, by rw [y.1 T (by omega)]; exact r4, by rw [y.1 T (by omega)]; exact r5, by rw [y.1 T (by omega)]; exact r6, by rw [y.2.1 T _ (by omega)]; exact r7, fun c ca cb => by rw [y.1 hd (by omega)]; exact r8 c ca cb⟩
/-- the latest wedding -/
def wdf (E : pE) (d : Int) (a : Int × Int) (m : Nat) : Int × Int := if sCo E m = 4 ∧ sDy E m ≤ d ∧ a.1 ≤ sDy E m then (sDy E m, (m : Int)) else a
theorem wd_f {E : pE} {g : Nat → Int} {s d : Int} (I : pIr E) : ∀ (c k : Nat) (x i : Int), k + c ≤ sNl E → ((i = -1 ∧ x = -1) ∨ (0 ≤ i ∧ x = sDy E i.toNat)) → (sFd g s (wdf E d) c k (x, i)).2 = sFd g s (sMu E 4 d) c k i := by
  intro c
  induction c with
  | zero => intro k x i _ _; rfl
  | succ c ih =>
    intro k x i hk h
    have dk : 0 ≤ sDy E k := (I (k / 3) (by unfold sNl at hk; omega)).2.2.1.1
    show (sFd g s (wdf E d) c (k + 1) (if g k = s then wdf E d (x, i) k else (x, i))).2 = sFd g s (sMu E 4 d) c (k + 1) (if g k = s then sMu E 4 d i k else i)
    by_cases z : g k = s
    · rw [if_pos z, if_pos z]
      unfold wdf sMu
      by_cases q : sCo E k = 4 ∧ sDy E k ≤ d ∧ x ≤ sDy E k
      · rw [if_pos (show sCo E k = 4 ∧ sDy E k ≤ d ∧ (x, i).1 ≤ sDy E k from q), if_pos ⟨q.1, q.2.1, by omega⟩]
        exact ih (k + 1) _ _ (by omega) (Or.inr ⟨by omega, by rw [show ((k : Int)).toNat = k from by omega]⟩)
      · rw [if_neg (show ¬ (sCo E k = 4 ∧ sDy E k ≤ d ∧ (x, i).1 ≤ sDy E k) from q), if_neg (fun y => q ⟨y.1, y.2.1, by omega⟩)]
        exact ih (k + 1) _ _ (by omega) h
    · rw [if_neg z, if_neg z]
      exact ih (k + 1) _ _ (by omega) h
/-- what a belongs of some depth does -/
def pBel (F : Int → Int → jW → Int × jW) (E : pE) (kn : Int) (re : Int → Int → Int) (J : Nat) : Prop := ∀ (s d : Int) (X : jW), (s = -1 ∨ ∃ p : Nat, p < sNl E ∧ s = (p : Int) ∧ (sGs E kn).1 p = (p : Int)) → (J = 0 → s ≠ -1) → 0 ≤ d ∧ d ≤ 146399 → pBx X E kn → (F s d X).1 = sBv E (sGs E kn).1 kn re s d ∧ pBx (F s d X).2 E kn ∧ pQy X (F s d X).2 ∧ (∀ i : Nat, i < 6 * J → (F s d X).2.1 121 i = X.1 121 i ∧ (F s d X).2.1 122 i = X.1 122 i) ∧ (s ≠ -1 → (F s d X).2.1 120 6 = (sFb E (sGs E kn).1 kn re s d).2 ∧ (F s d X).2.1 120 7 = if (sFb E (sGs E kn).1 kn re s d).1 = -1 then (sBl E (sGs E kn).1 d kn s 720).2.2.2 else 0)
theorem pBx_Q {X Y : jW} {E : pE} {kn : Int} (P : pBx X E kn) (Q : pVk Y E kn) (y : pQy X Y) (e : Y.1 120 5 = X.1 120 5) : pBx Y E kn := ⟨Q, fun m w hm hw => by rw [y.1 76 (by omega)]; exact P.2.1 m w hm hw, e.trans P.2.2⟩
section
variable {E : pE} {d kn : Int} {g : Nat → Int}
theorem b115_6 {t : Int} {T hd so p : Nat} {X : jW} (K54 : Int → Int → Int → Int → Int → jW → (Int × jW)) (K63 : Int → Int → Int → Int → Int → Int → jW → (Int × jW)) (Q : pV X E g d kn) (I : pIq E g) (hdd : 0 ≤ d ∧ d ≤ 146399) (hp : p < sNl E) (ep : g p = (p : Int)) (Ik : pIk E.1) (Il : pIl E.1) (I1 : pI1 E.1) (O : qOk fun w => sQu E g d kn w (p : Int)) (ht : 0 ≤ t ∧ t < E.1 4) (Qe : pTe X E.1 t T hd) (hso : so ≤ 1) (es : E.1 (18820 + (924 * t)).toNat = (so : Int)) : ∀ (q c f : Nat) (W : jW), (c : Int) + (q : Int) = E.1 ((18820 + (924 * t)) + 3).toNat → q < f → pBw X W 6 (sBl E g d kn (p : Int) (360 * so + 12 * t.toNat + c)) → ∃ V : jW, d_X6_belongs_r120_c6d_115 K54 K63 f (p : Int) d ((sBl E g d kn (p : Int) (360 * so + 12 * t.toNat + c)).1 : Int) (sBl E g d kn (p : Int) (360 * so + 12 * t.toNat + c)).2.2.2 (so : Int) t T (E.1 ((18820 + (924 * t)) + 3).toNat) (c : Int) W = K63 (p : Int) d ((sBl E g d kn (p : Int) (360 * so + 12 * t.toNat + (c + q))).1 : Int) (sBl E g d kn (p : Int) (360 * so + 12 * t.toNat + (c + q))).2.2.2 (so : Int) (t + 1) V ∧ pBw X V 6 (sBl E g d kn (p : Int) (360 * so + 12 * t.toNat + (c + q))) := by
  have b30 := Il.2.1
  have J12 := (Il.2.2 t ht.1 ht.2).2.1
  have T0 : ¬ T = 0 := by have := Qe.1; omega
  intro q
  induction q with
  | zero =>
    intro c f W e hf h
    obtain ⟨f, rfl⟩ : ∃ q, f = q + 1 := ⟨f - 1, by omega⟩
    exact ⟨W, (if_neg T0).trans (if_pos (by omega)), h⟩
  | succ q ih =>
    intro c f W e hf h
    obtain ⟨f, rfl⟩ : ∃ q, f = q + 1 := ⟨f - 1, by omega⟩
    have QW := pTe_Qy (zQy h.1) Qe
    have hc : (0 : Int) ≤ (c : Int) ∧ (c : Int) < E.1 ((18820 + (924 * t)) + 3).toNat := by omega
    have H := QW.2.2.2.2.2.2.2 (c : Int) hc.1 hc.2
    have k0 := (he_e QW hc.1 hc.2 (show (0 : Int) ≤ 0 ∧ (0 : Int) < 6 from by decide)).trans H.1
    have k1 := (he_e QW hc.1 hc.2 (show (0 : Int) ≤ 1 ∧ (1 : Int) < 6 from by decide)).trans H.2.1
    have kt : ((360 * so + 12 * t.toNat + c : Nat) : Int) % 360 / 12 = t := by omega
    have kc : ((360 * so + 12 * t.toNat + c : Nat) : Int) % 12 = (c : Int) := by omega
    have ks : ((360 * so + 12 * t.toNat + c : Nat) : Int) / 360 = (so : Int) := by omega
    have k3 : ((360 * so + 12 * t.toNat + c : Nat) : Int) % 360 = t * 12 + (c : Int) := by omega
    have gk : sBg E.1 ((360 * so + 12 * t.toNat + c : Nat) : Int) = E.1 ((((18820 + (924 * t)) + 4) + (10 * (c : Int))) + 1).toNat := by
      unfold sBg
      rw [kt, kc]
    have pk : sBh E g d kn (p : Int) ((360 * so + 12 * t.toNat + c : Nat) : Int) ↔ E.1 (((18820 + (924 * t)) + 4) + (10 * (c : Int))).toNat = 1 ∧ sHd E.1 d kn t (c : Int) fun w => sQu E g d kn w (p : Int) := by
      unfold sBh
      rw [kt, kc, ks]
      exact ⟨fun y => y.2.2.2, fun y => ⟨⟨by omega, by omega⟩, ⟨by omega, by omega⟩, es, y⟩⟩
    have hz := xhz (t := t) (c := (c : Int)) Q I hdd hp ep Ik Il O ht hc h.1
    have lt6 := fun a b => bl_l (E := E) (g := g) (d := d) (kn := kn) (s := (p : Int)) (k := 360 * so + 12 * t.toNat + c) I1 a b
    have go : ∀ W1 : jW, ¬ (sBh E g d kn (p : Int) ((360 * so + 12 * t.toNat + c : Nat) : Int) ∧ j_iand (j_ishr (sBl E g d kn (p : Int) (360 * so + 12 * t.toNat + c)).2.2.2 (sBg E.1 ((360 * so + 12 * t.toNat + c : Nat) : Int))) 1 = 0) → pBw X W1 6 (sBl E g d kn (p : Int) (360 * so + 12 * t.toNat + c)) → ∃ V : jW, d_X6_belongs_r120_c6d_115 K54 K63 f (p : Int) d ((sBl E g d kn (p : Int) (360 * so + 12 * t.toNat + c)).1 : Int) (sBl E g d kn (p : Int) (360 * so + 12 * t.toNat + c)).2.2.2 (so : Int) t T (E.1 ((18820 + (924 * t)) + 3).toNat) ((c : Int) + 1) W1 = K63 (p : Int) d ((sBl E g d kn (p : Int) (360 * so + 12 * t.toNat + (c + (q + 1)))).1 : Int) (sBl E g d kn (p : Int) (360 * so + 12 * t.toNat + (c + (q + 1)))).2.2.2 (so : Int) (t + 1) V ∧ pBw X V 6 (sBl E g d kn (p : Int) (360 * so + 12 * t.toNat + (c + (q + 1)))) := fun W1 ne hw => by
      have e1 : sBl E g d kn (p : Int) (360 * so + 12 * t.toNat + (c + 1)) = sBl E g d kn (p : Int) (360 * so + 12 * t.toNat + c) := bl_n ne
      have y := ih (c + 1) f W1 (by omega) (by omega) (by rw [e1]; exact hw)
      rw [e1, show c + 1 + q = c + (q + 1) from by omega, show ((c + 1 : Nat) : Int) = (c : Int) + 1 from by omega] at y
      exact y
    have st : d_X6_belongs_r120_c6d_115 K54 K63 (f + 1) (p : Int) d ((sBl E g d kn (p : Int) (360 * so + 12 * t.toNat + c)).1 : Int) (sBl E g d kn (p : Int) (360 * so + 12 * t.toNat + c)).2.2.2 (so : Int) t T (E.1 ((18820 + (924 * t)) + 3).toNat) (c : Int) W = (if d_head T (c : Int) 0 W = 0 then (if j_iand (j_ishr (sBl E g d kn (p : Int) (360 * so + 12 * t.toNat + c)).2.2.2 (d_head T (c : Int) 1 W)) 1 = 0 then (if 6 ≤ ((sBl E g d kn (p : Int) (360 * so + 12 * t.toNat + c)).1 : Int) then d_X6_belongs_r120_c6d_115 K54 K63 f (p : Int) d ((sBl E g d kn (p : Int) (360 * so + 12 * t.toNat + c)).1 : Int) (sBl E g d kn (p : Int) (360 * so + 12 * t.toNat + c)).2.2.2 (so : Int) t T (E.1 ((18820 + (924 * t)) + 3).toNat) ((c : Int) + 1) W else if (d_X0_holdsFor_r98d t (c : Int) (p : Int) W).1 = 0 then d_X6_belongs_r120_c6d_115 K54 K63 f (p : Int) d ((sBl E g d kn (p : Int) (360 * so + 12 * t.toNat + c)).1 : Int) (sBl E g d kn (p : Int) (360 * so + 12 * t.toNat + c)).2.2.2 (so : Int) t T (E.1 ((18820 + (924 * t)) + 3).toNat) ((c : Int) + 1) (d_X0_holdsFor_r98d t (c : Int) (p : Int) W).2 else d_X6_belongs_r120_c6d_115 K54 K63 f (p : Int) d (((sBl E g d kn (p : Int) (360 * so + 12 * t.toNat + c)).1 : Int) + 1) (j_ior (sBl E g d kn (p : Int) (360 * so + 12 * t.toNat + c)).2.2.2 (j_ishl 1 (d_head T (c : Int) 1 W))) (so : Int) t T (E.1 ((18820 + (924 * t)) + 3).toNat) ((c : Int) + 1) (vu (vu (d_X0_holdsFor_r98d t (c : Int) (p : Int) W).2 121 (36 + ((sBl E g d kn (p : Int) (360 * so + 12 * t.toNat + c)).1 : Int)).toNat (d_head T (c : Int) 1 W)) 122 (36 + ((sBl E g d kn (p : Int) (360 * so + 12 * t.toNat + c)).1 : Int)).toNat (t * 12 + (c : Int)))) else d_X6_belongs_r120_c6d_115 K54 K63 f (p : Int) d ((sBl E g d kn (p : Int) (360 * so + 12 * t.toNat + c)).1 : Int) (sBl E g d kn (p : Int) (360 * so + 12 * t.toNat + c)).2.2.2 (so : Int) t T (E.1 ((18820 + (924 * t)) + 3).toNat) ((c : Int) + 1) W) else d_X6_belongs_r120_c6d_115 K54 K63 f (p : Int) d ((sBl E g d kn (p : Int) (360 * so + 12 * t.toNat + c)).1 : Int) (sBl E g d kn (p : Int) (360 * so + 12 * t.toNat + c)).2.2.2 (so : Int) t T (E.1 ((18820 + (924 * t)) + 3).toNat) ((c : Int) + 1) W) := (if_neg T0).trans (if_neg (by omega))
    rw [st, k0, k1]
    by_cases n0 : E.1 (((18820 + (924 * t)) + 4) + (10 * (c : Int))).toNat = 1
    · rw [n0, if_neg (show ¬ (1 : Int) = 0 from by decide), if_neg (show ¬ (1 : Int) = 0 from by decide), if_pos (show (1 : Int) - 1 = 0 from by decide), ← gk, ← k3]
      by_cases n1 : j_iand (j_ishr (sBl E g d kn (p : Int) (360 * so + 12 * t.toNat + c)).2.2.2 (sBg E.1 ((360 * so + 12 * t.toNat + c : Nat) : Int))) 1 = 0
      · rw [if_pos n1]
        by_cases n2 : sHd E.1 d kn t (c : Int) fun w => sQu E g d kn w (p : Int)
        · have hb := pk.mpr ⟨n0, n2⟩
          have l6 := lt6 hb n1
          have e1 : sBl E g d kn (p : Int) (360 * so + 12 * t.toNat + (c + 1)) = _ := bl_y hb n1
          rw [if_neg (by omega), hz.1, tv_t n2, if_neg (show ¬ (1 : Int) = 0 from by decide)]
          have y := ih (c + 1) f (vu (vu (d_X0_holdsFor_r98d t (c : Int) (p : Int) W).2 121 (6 * 6 + (sBl E g d kn (p : Int) (360 * so + 12 * t.toNat + c)).1) (sBg E.1 ((360 * so + 12 * t.toNat + c : Nat) : Int))) 122 (6 * 6 + (sBl E g d kn (p : Int) (360 * so + 12 * t.toNat + c)).1) (((360 * so + 12 * t.toNat + c : Nat) : Int) % 360)) (by omega) (by omega) (by rw [e1]; exact pBw_a (pBw_h h hz.2.1 hz.2.2))
          rw [e1, show c + 1 + q = c + (q + 1) from by omega, show ((c + 1 : Nat) : Int) = (c : Int) + 1 from by omega] at y
          rw [show (36 + ((sBl E g d kn (p : Int) (360 * so + 12 * t.toNat + c)).1 : Int)).toNat = 6 * 6 + (sBl E g d kn (p : Int) (360 * so + 12 * t.toNat + c)).1 from by omega]
          exact y
        · have ne : ¬ (sBh E g d kn (p : Int) ((360 * so + 12 * t.toNat + c : Nat) : Int) ∧ j_iand (j_ishr (sBl E g d kn (p : Int) (360 * so + 12 * t.toNat + c)).2.2.2 (sBg E.1 ((360 * so + 12 * t.toNat + c : Nat) : Int))) 1 = 0) := fun y => n2 (pk.mp y.1).2
          by_cases n3 : 6 ≤ ((sBl E g d kn (p : Int) (360 * so + 12 * t.toNat + c)).1 : Int)
          · rw [if_pos n3]; exact go W ne h
          · rw [if_neg n3, hz.1, tv_f n2, if_pos rfl]; exact go _ ne (pBw_h h hz.2.1 hz.2.2)
      · rw [if_neg n1]; exact go W (fun y => n1 y.2) h
    · rw [if_neg (show ¬ (if E.1 (((18820 + (924 * t)) + 4) + (10 * (c : Int))).toNat = 0 then 8 else E.1 (((18820 + (924 * t)) + 4) + (10 * (c : Int))).toNat - 1) = 0 from by
        by_cases q : E.1 (((18820 + (924 * t)) + 4) + (10 * (c : Int))).toNat = 0
        · rw [if_pos q]; decide
        · rw [if_neg q]; omega)]
      exact go W (fun y => n0 (pk.mp y.1).1) h
theorem b63_6 {so p : Nat} {X : jW} (K54 : Int → Int → Int → Int → Int → jW → (Int × jW)) (Q : pV X E g d kn) (I : pIq E g) (hdd : 0 ≤ d ∧ d ≤ 146399) (hp : p < sNl E) (ep : g p = (p : Int)) (Ik : pIk E.1) (Il : pIl E.1) (I1 : pI1 E.1) (O : qOk fun w => sQu E g d kn w (p : Int)) (hso : so ≤ 1) : ∀ (q t f : Nat) (W : jW), (t : Int) + (q : Int) = E.1 4 → q < f → pBw X W 6 (sBl E g d kn (p : Int) (360 * so + 12 * t)) → ∃ V : jW, d_X6_belongs_r120_c6d_63 K54 f (p : Int) d ((sBl E g d kn (p : Int) (360 * so + 12 * t)).1 : Int) (sBl E g d kn (p : Int) (360 * so + 12 * t)).2.2.2 (so : Int) (t : Int) W = K54 (p : Int) d ((sBl E g d kn (p : Int) (360 * so + 360)).1 : Int) (sBl E g d kn (p : Int) (360 * so + 360)).2.2.2 ((so : Int) + 1) V ∧ pBw X V 6 (sBl E g d kn (p : Int) (360 * so + 360)) := by
  have b30 := Il.2.1
  intro q
  induction q with
  | zero =>
    intro t f W e hf h
    obtain ⟨f, rfl⟩ : ∃ q, f = q + 1 := ⟨f - 1, by omega⟩
    have c32 : W.1 32 18 = E.1 4 := (pTc_Qy (zQy h.1) Q.2.1).1
    have e1 : sBl E g d kn (p : Int) (360 * so + 360) = sBl E g d kn (p : Int) (360 * so + 12 * t) := bl_u (by omega) (fun j j1 j2 y => by
      have y2 := y.1.2
      omega)
    rw [e1]
    exact ⟨W, if_pos (by omega), h⟩
  | succ q ih =>
    intro t f W e hf h
    obtain ⟨f, rfl⟩ : ∃ q, f = q + 1 := ⟨f - 1, by omega⟩
    have c32 : W.1 32 18 = E.1 4 := (pTc_Qy (zQy h.1) Q.2.1).1
    obtain ⟨T, hd, eT, Qe, _⟩ := Q.2.1.2 (t : Int) (by omega) (by omega)
    have QW := pTe_Qy (zQy h.1) Qe
    have T0 : ¬ T = 0 := by have := Qe.1; omega
    have eW : W.2.2.1 66 (t : Int).toNat = some T := ((zQy h.1).2.1 66 _ (by omega)).trans eT
    have J12 := Il.2.2 (t : Int) (by omega) (by omega)
    have st : d_X6_belongs_r120_c6d_63 K54 (f + 1) (p : Int) d ((sBl E g d kn (p : Int) (360 * so + 12 * t)).1 : Int) (sBl E g d kn (p : Int) (360 * so + 12 * t)).2.2.2 (so : Int) (t : Int) W = (if E.1 ((18820 + (924 * (t : Int))) + 0).toNat = (so : Int) then d_X6_belongs_r120_c6d_115 K54 (fun l1 l2 l5 l6 l7 l8 W => d_X6_belongs_r120_c6d_63 K54 f l1 l2 l5 l6 l7 l8 W) 13 (p : Int) d ((sBl E g d kn (p : Int) (360 * so + 12 * t)).1 : Int) (sBl E g d kn (p : Int) (360 * so + 12 * t)).2.2.2 (so : Int) (t : Int) T (E.1 ((18820 + (924 * (t : Int))) + 3).toNat) 0 W else d_X6_belongs_r120_c6d_101 K54 (fun l1 l2 l5 l6 l7 l8 W => d_X6_belongs_r120_c6d_63 K54 f l1 l2 l5 l6 l7 l8 W) (p : Int) d ((sBl E g d kn (p : Int) (360 * so + 12 * t)).1 : Int) (sBl E g d kn (p : Int) (360 * so + 12 * t)).2.2.2 (so : Int) (t : Int) T W) := by
      refine (if_neg (by omega)).trans ((if_neg (by omega)).trans ?_)
      rw [eW, if_neg (show ¬ (some T).isNone = true from fun y => Bool.noConfusion y), show (some T).getD 0 = T from rfl, QW.2.2.1, QW.2.2.2.2.2.1]
      rfl
    rw [st, Int.add_zero]
    by_cases n0 : E.1 (18820 + (924 * (t : Int))).toNat = (so : Int)
    · rw [if_pos n0]
      obtain ⟨V, v1, v2⟩ := b115_6 K54 (fun l1 l2 l5 l6 l7 l8 W => d_X6_belongs_r120_c6d_63 K54 f l1 l2 l5 l6 l7 l8 W) Q I hdd hp ep Ik Il I1 O ⟨by omega, by omega⟩ Qe hso n0 (E.1 ((18820 + (924 * (t : Int))) + 3).toNat).toNat 0 13 W (by omega) (by omega) h
      rw [show (t : Int).toNat = t from by omega, Nat.zero_add] at v1 v2
      have e1 : sBl E g d kn (p : Int) (360 * so + 12 * (t + 1)) = sBl E g d kn (p : Int) (360 * so + 12 * t + (E.1 ((18820 + (924 * (t : Int))) + 3).toNat).toNat) := bl_u (by omega) (fun j j1 j2 y => by
        have y2 := y.2.1.2
        rw [show (j : Int) % 360 / 12 = (t : Int) from by omega] at y2
        omega)
      obtain ⟨V2, w1, w2⟩ := ih (t + 1) f V (by omega) (by omega) (by rw [e1]; exact v2)
      rw [e1, show ((t + 1 : Nat) : Int) = (t : Int) + 1 from by omega] at w1
      exact ⟨V2, v1.trans w1, w2⟩
    · rw [if_neg n0]
      have e1 : sBl E g d kn (p : Int) (360 * so + 12 * (t + 1)) = sBl E g d kn (p : Int) (360 * so + 12 * t) := bl_u (by omega) (fun j j1 j2 y => by
        have y2 := y.2.2.1
        rw [show (j : Int) % 360 / 12 = (t : Int) from by omega, show (j : Int) / 360 = (so : Int) from by omega] at y2
        exact n0 y2)
      obtain ⟨V2, w1, w2⟩ := ih (t + 1) f W (by omega) (by omega) (by rw [e1]; exact h)
      rw [e1, show ((t + 1 : Nat) : Int) = (t : Int) + 1 from by omega] at w1
      refine ⟨V2, Eq.trans ?_ w1, w2⟩
      unfold d_X6_belongs_r120_c6d_101 d_X6_belongs_r120_c6d_200110
      rw [if_neg T0, if_neg T0]
      exact (if_neg T0).trans (if_pos (by decide))
theorem b54_6 {p : Nat} {X W : jW} (Q : pV X E g d kn) (I : pIq E g) (hdd : 0 ≤ d ∧ d ≤ 146399) (hp : p < sNl E) (ep : g p = (p : Int)) (Ik : pIk E.1) (Il : pIl E.1) (I1 : pI1 E.1) (O : qOk fun w => sQu E g d kn w (p : Int)) (z : pZ X W) (e120 : W.1 120 = X.1 120) (e1 : ∀ i : Nat, i < 6 * 6 → W.1 121 i = X.1 121 i ∧ W.1 122 i = X.1 122 i) : ∃ V : jW, d_X6_belongs_r120_c6d_54 3 (p : Int) d 0 0 0 W = d_X6_belongs_r120_c6d_238 7 (p : Int) d ((sBl E g d kn (p : Int) 720).1 : Int) (sBl E g d kn (p : Int) 720).2.2.2 0 V ∧ pBw X V 6 (sBl E g d kn (p : Int) 720) := by
  have b30 := Il
  have h0 : pBw X W 6 (sBl E g d kn (p : Int) (360 * 0 + 12 * 0)) := ⟨z, e120, e1, fun i hi => absurd hi (Nat.not_lt_zero i)⟩
  obtain ⟨V, v1, v2⟩ := b63_6 (so := 0) (fun l1 l2 l5 l6 l7 W => d_X6_belongs_r120_c6d_54 2 l1 l2 l5 l6 l7 W) Q I hdd hp ep Ik Il I1 O (by decide) (E.1 4).toNat 0 31 W (by have := Il.1; omega) (by have := Il.2.1; omega) h0
  obtain ⟨V2, w1, w2⟩ := b63_6 (so := 1) (fun l1 l2 l5 l6 l7 W => d_X6_belongs_r120_c6d_54 1 l1 l2 l5 l6 l7 W) Q I hdd hp ep Ik Il I1 O (by decide) (E.1 4).toNat 0 31 V (by have := Il.1; omega) (by have := Il.2.1; omega) v2
  refine ⟨V2, ?_, w2⟩
  have s1 : d_X6_belongs_r120_c6d_54 3 (p : Int) d 0 0 0 W = d_X6_belongs_r120_c6d_63 (fun l1 l2 l5 l6 l7 W => d_X6_belongs_r120_c6d_54 2 l1 l2 l5 l6 l7 W) 31 (p : Int) d 0 0 0 0 W := if_neg (by decide)
  have s2 : d_X6_belongs_r120_c6d_54 2 (p : Int) d ((sBl E g d kn (p : Int) (360 * 0 + 360)).1 : Int) (sBl E g d kn (p : Int) (360 * 0 + 360)).2.2.2 (((0 : Nat) : Int) + 1) V = d_X6_belongs_r120_c6d_63 (fun l1 l2 l5 l6 l7 W => d_X6_belongs_r120_c6d_54 1 l1 l2 l5 l6 l7 W) 31 (p : Int) d ((sBl E g d kn (p : Int) (360 * 1 + 12 * 0)).1 : Int) (sBl E g d kn (p : Int) (360 * 1 + 12 * 0)).2.2.2 ((1 : Nat) : Int) ((0 : Nat) : Int) V := if_neg (by decide)
  have s3 : d_X6_belongs_r120_c6d_54 1 (p : Int) d ((sBl E g d kn (p : Int) (360 * 1 + 360)).1 : Int) (sBl E g d kn (p : Int) (360 * 1 + 360)).2.2.2 (((1 : Nat) : Int) + 1) V2 = d_X6_belongs_r120_c6d_238 7 (p : Int) d ((sBl E g d kn (p : Int) 720).1 : Int) (sBl E g d kn (p : Int) 720).2.2.2 0 V2 := if_pos (by decide)
  exact s1.trans (v1.trans (s2.trans (w1.trans s3)))
theorem bw_6 {W : jW} {p : Nat} (P : pXs W E g) (hp : p < sNl E) (ep : g p = (p : Int)) : d_X6_byWedding_r120_c6d (p : Int) d W = d_X6_byWedding_r120_c6d_103 d (sMo E g (p : Int) 4 d) W := by
  have h6 := xs_6 P
  have key := @ch_f (Int × Int) Int g (sNl E) (p : Int) h6 (fun m => W.1 83 m) (xs_n P (by omega)) (fun r m n a => d_X6_byWedding_r120_c6d_12 r d a.1 a.2 m n W) (wdf E d) (fun a => d_X6_byWedding_r120_c6d_103 d a.2 W) (fun r n a => if_pos rfl) (fun r m n a hm hz hn => by
    obtain ⟨l1, l2, l3⟩ := @xs_l W E g P m hm
    change W.1 80 m = sDy E m at l2
    refine (if_neg (show ¬ (m : Int) = -1 from by omega)).trans ((if_neg (show ¬ (600 : Int) ≤ (n : Int) from by omega)).trans ?_)
    rw [show ((m : Int)).toNat = m from by omega, l1, l2]
    show (if sCo E m = 4 then (if d < sDy E m then d_X6_byWedding_r120_c6d_12 r d a.1 a.2 (W.1 83 ((m : Int)).toNat) ((n : Int) + 1) W else if sDy E m < a.1 then d_X6_byWedding_r120_c6d_12 r d a.1 a.2 (W.1 83 ((m : Int)).toNat) ((n : Int) + 1) W else d_X6_byWedding_r120_c6d_12 r d (sDy E m) (m : Int) (W.1 83 ((m : Int)).toNat) ((n : Int) + 1) W) else d_X6_byWedding_r120_c6d_12 r d a.1 a.2 (W.1 83 ((m : Int)).toNat) ((n : Int) + 1) W) = d_X6_byWedding_r120_c6d_12 r d (wdf E d a m).1 (wdf E d a m).2 (W.1 83 m) ((n : Int) + 1) W
    rw [show ((m : Int)).toNat = m from by omega]
    unfold wdf
    by_cases q1 : sCo E m = 4
    · rw [if_pos q1]
      by_cases q2 : d < sDy E m
      · rw [if_pos q2, if_neg (fun y => by omega)]
      · rw [if_neg q2]
        by_cases q3 : sDy E m < a.1
        · rw [if_pos q3, if_neg (fun y => by omega)]
        · rw [if_neg q3, if_pos ⟨q1, by omega, by omega⟩]
    · rw [if_neg q1, if_neg (fun y => q1 y.1)]) (sNl E) 0 601 0 (-1, -1) rfl (by omega) (by omega)
  rw [xs_f P hp ep, show ((0 : Nat) : Int) = 0 from rfl, wd_f P.2.2.2.2.2.2.2 (sNl E) 0 (-1) (-1) (by omega) (Or.inl ⟨rfl, rfl⟩)] at key
  exact key
theorem by_6 (I : pIq E (sGs E kn).1) {W : jW} {p : Nat} {gr : Int} (hp : p < sNl E) (ep : (sGs E kn).1 p = (p : Int)) (P : pBx W E kn) (hg : 0 ≤ gr ∧ gr ≤ 5) : d_X6_parishBy_r120_c6d gr (p : Int) d W = sVal E (sGs E kn).1 kn (fun _ _ => -1) (p : Int) d gr := by
  have Px := P.1.1
  have T5 := P.1.2.1
  unfold d_X6_parishBy_r120_c6d sVal
  rcases (show gr = 0 ∨ gr = 1 ∨ gr = 2 ∨ gr = 3 ∨ gr = 4 ∨ gr = 5 from by omega) with rfl | rfl | rfl | rfl | rfl | rfl
  · simp only [show ((0 : Int) = 1) = False from by decide, show ((0 : Int) = 2) = False from by decide, show ((0 : Int) = 3) = False from by decide, show ((0 : Int) = 4) = False from by decide, show ((0 : Int) = 5) = False from by decide, if_false]
    exact xbb Px T5 I.1 P.2.2 hp ep
  · simp only [show ((1 : Int) = 4) = False from by decide, show ((1 : Int) = 5) = False from by decide, if_false, if_true]
    exact xbl (gr := 1) (d := d) (co := 2) Px T5 I.1 P.2.2 (by decide) (by decide)
  · simp only [show ((2 : Int) = 1) = False from by decide, show ((2 : Int) = 4) = False from by decide, show ((2 : Int) = 5) = False from by decide, if_false, if_true]
    exact xbl (gr := 2) (d := d) (co := 1) Px T5 I.1 P.2.2 (by decide) (by decide)
  · simp only [show ((3 : Int) = 1) = False from by decide, show ((3 : Int) = 2) = False from by decide, show ((3 : Int) = 4) = False from by decide, show ((3 : Int) = 5) = False from by decide, if_false, if_true]
    exact xbl (gr := 3) (d := d) (co := 2) Px T5 I.1 P.2.2 (by decide) (by decide)
  · simp only [show ((4 : Int) = 1) = False from by decide, show ((4 : Int) = 2) = False from by decide, show ((4 : Int) = 3) = False from by decide, if_false, if_true]
    rw [bw_6 Px hp ep]
    unfold d_X6_byWedding_r120_c6d_103 d_X6_byWedding_r120_c6d_115 d_X6_byWedding_r120_c6d_100138
    by_cases z : sMo E (sGs E kn).1 (p : Int) 4 d = -1
    · rw [if_pos z]
    · rw [if_neg z]
  · simp only [show ((5 : Int) = 1) = False from by decide, show ((5 : Int) = 2) = False from by decide, show ((5 : Int) = 3) = False from by decide, show ((5 : Int) = 4) = False from by decide, if_false, if_true]
    unfold d_X6_byParents_r120_c6d d_X6_byParents_r120_c6d_20
    by_cases z : sMo E (sGs E kn).1 (p : Int) 0 146399 = -1
    · rw [if_pos z]; split <;> rfl
    · rw [if_neg z]; split <;> rfl
theorem b238_6 (I : pIq E (sGs E kn).1) {p n : Nat} {bs : Int} {gr cl : Nat → Int} (hp : p < sNl E) (ep : (sGs E kn).1 p = (p : Int)) (n6 : n ≤ 6) (hg : ∀ i : Nat, i < n → 0 ≤ gr i ∧ gr i ≤ 5) : ∀ (c i f : Nat) (W : jW), i + c = n → c < f → pBx W E kn → (∀ j : Nat, j < n → W.1 121 (6 * 6 + j) = gr j ∧ W.1 122 (6 * 6 + j) = cl j) → ∃ V : jW, d_X6_belongs_r120_c6d_238 f (p : Int) d (n : Int) bs (i : Int) W = ((sFs (sVal E (sGs E kn).1 kn (fun _ _ => -1) (p : Int) d) gr cl c i).1, V) ∧ pBx V E kn ∧ pQy W V ∧ (∀ i : Nat, i < 6 * 6 → V.1 121 i = W.1 121 i ∧ V.1 122 i = W.1 122 i) ∧ V.1 120 6 = (sFs (sVal E (sGs E kn).1 kn (fun _ _ => -1) (p : Int) d) gr cl c i).2 ∧ V.1 120 7 = if (sFs (sVal E (sGs E kn).1 kn (fun _ _ => -1) (p : Int) d) gr cl c i).1 = -1 then bs else 0 := by
  have up : ∀ (W : jW) (a b : Int), pBx W E kn → pBx (vu (vu W 120 6 a) 120 7 b) E kn := fun W a b P => pBx_Q P (pVk_u (pVk_u P.1 (by decide)) (by decide)) (pQy_u (pQy_u pQy_r (by decide)) (by decide)) ((vu_n (by decide)).trans (vu_n (by decide)))
  have uq : ∀ (W : jW) (a b : Int), pQy W (vu (vu W 120 6 a) 120 7 b) := fun W a b => pQy_u (pQy_u pQy_r (by decide)) (by decide)
  intro c
  induction c with
  | zero =>
    intro i f W e hf P h
    obtain ⟨f, rfl⟩ : ∃ q, f = q + 1 := ⟨f - 1, by omega⟩
    refine ⟨vu (vu W 120 6 (-1)) 120 7 bs, if_pos (by omega), up W _ _ P, uq W _ _, fun i hi => ⟨(vu_n (by omega)).trans (vu_n (by omega)), (vu_n (by omega)).trans (vu_n (by omega))⟩, (vu_n (by decide)).trans (vu_e rfl), ?_⟩
    rw [if_pos (show (sFs (sVal E (sGs E kn).1 kn (fun _ _ => -1) (p : Int) d) gr cl 0 i).1 = -1 from rfl)]
    exact vu_e rfl
  | succ c ih =>
    intro i f W e hf P h
    obtain ⟨f, rfl⟩ : ∃ q, f = q + 1 := ⟨f - 1, by omega⟩
    have hi := h i (by omega)
    have q := by_6 (d := d) I hp ep P (hg i (by omega))
    have st : d_X6_belongs_r120_c6d_238 (f + 1) (p : Int) d (n : Int) bs (i : Int) W = (if d_X6_parishBy_r120_c6d (gr i) (p : Int) d W = -1 then d_X6_belongs_r120_c6d_238 f (p : Int) d (n : Int) bs ((i : Int) + 1) W else (d_X6_parishBy_r120_c6d (gr i) (p : Int) d W, vu (vu W 120 6 (W.1 122 (36 + (i : Int)).toNat)) 120 7 0)) := by
      refine (if_neg (by omega)).trans ?_
      rw [show W.1 121 (36 + (i : Int)).toNat = gr i from by rw [show (36 + (i : Int)).toNat = 6 * 6 + i from by omega]; exact hi.1]
    rw [st, show (36 + (i : Int)).toNat = 6 * 6 + i from by omega, hi.2, q]
    by_cases z : sVal E (sGs E kn).1 kn (fun _ _ => -1) (p : Int) d (gr i) = -1
    · have sf : sFs (sVal E (sGs E kn).1 kn (fun _ _ => -1) (p : Int) d) gr cl (c + 1) i = sFs (sVal E (sGs E kn).1 kn (fun _ _ => -1) (p : Int) d) gr cl c (i + 1) := if_pos z
      rw [if_pos z, sf]
      obtain ⟨V, v1, v2⟩ := ih (i + 1) f W (by omega) (by omega) P h
      rw [show ((i + 1 : Nat) : Int) = (i : Int) + 1 from by omega] at v1
      exact ⟨V, v1, v2⟩
    · have sf : sFs (sVal E (sGs E kn).1 kn (fun _ _ => -1) (p : Int) d) gr cl (c + 1) i = (sVal E (sGs E kn).1 kn (fun _ _ => -1) (p : Int) d (gr i), cl i) := if_neg z
      rw [if_neg z, sf]
      refine ⟨_, rfl, up _ _ _ P, uq _ _ _, fun j hj => ⟨(vu_n (by omega)).trans (vu_n (by omega)), (vu_n (by omega)).trans (vu_n (by omega))⟩, (vu_n (by decide)).trans (vu_e rfl), ?_⟩
      rw [if_neg z]
      exact vu_e rfl
theorem bz_6 (I : pIq E (sGs E kn).1) (Ik : pIk E.1) (Il : pIl E.1) (I1 : pI1 E.1) (O : ∀ d : Int, 0 ≤ d ∧ d ≤ 146399 → ∀ p : Nat, p < sNl E → (sGs E kn).1 p = (p : Int) → qOk fun w => sQu E (sGs E kn).1 d kn w (p : Int)) : pBel d_X6_belongs_r120_c6d E kn (fun _ _ => -1) 6 := by
  intro s d X hs hJ hdd P
  have u0 : pVk (vu (vu X 120 6 (-1)) 120 7 0) E kn := pVk_u (pVk_u P.1 (by decide)) (by decide)
  have uq : pQy X (vu (vu X 120 6 (-1)) 120 7 0) := pQy_u (pQy_u pQy_r (by decide)) (by decide)
  have u5 : (vu (vu X 120 6 (-1)) 120 7 0).1 120 5 = X.1 120 5 := (vu_n (by decide)).trans (vu_n (by decide))
  rcases hs with rfl | ⟨p, hp, rfl, ep⟩
  · have e : d_X6_belongs_r120_c6d (-1) d X = (-1, vu (vu X 120 6 (-1)) 120 7 0) := if_pos rfl
    rw [e]
    exact ⟨(if_pos rfl).symm, pBx_Q P u0 uq u5, uq, fun i hi => ⟨(vu_n (by omega)).trans (vu_n (by omega)), (vu_n (by omega)).trans (vu_n (by omega))⟩, fun y => absurd rfl y⟩
  · have e : d_X6_belongs_r120_c6d (p : Int) d X = d_X6_belongs_r120_c6d_54 3 (p : Int) d 0 0 0 (d_X0_readHouses_r98d d kn (d_X0_readLaws_r98d d kn (vu (vu X 120 6 (-1)) 120 7 0))) := by
      unfold d_X6_belongs_r120_c6d
      rw [if_neg (show ¬ (p : Int) = -1 from by omega), P.2.2]
    rw [e]
    obtain ⟨l1, l2, l3, l4, l5, l6, l7⟩ := xtl (d := d) u0 Il Ik
    generalize hW1 : d_X0_readLaws_r98d d kn (vu (vu X 120 6 (-1)) 120 7 0) = W1 at *
    obtain ⟨h1, h2, h3, h4⟩ := xth (d := d) l2 I.2.1 l1
    generalize hW2 : d_X0_readHouses_r98d d kn W1 = W2 at *
    have y2 : pQy X W2 := pQy_t uq (pQy_t l5 h3)
    have s121 : W2.1 121 = X.1 121 := ((h4 121 (by decide)).1.trans (l6 121 (by decide))).trans ((vu_c (by decide)).trans (vu_c (by decide)))
    have s122 : W2.1 122 = X.1 122 := ((h4 122 (by decide)).1.trans (l6 122 (by decide))).trans ((vu_c (by decide)).trans (vu_c (by decide)))
    have s120 : W2.1 120 = (vu (vu X 120 6 (-1)) 120 7 0).1 120 := (h4 120 (by decide)).1.trans (l6 120 (by decide))
    obtain ⟨V, v1, v2⟩ := b54_6 h1 I hdd hp ep Ik Il I1 (O d hdd p hp ep) pZ_r rfl (fun _ _ => ⟨rfl, rfl⟩)
    rw [v1]
    have PV : pBx V E kn := pBx_Q P (pVk_Z h2 v2.1) (pQy_t y2 (zQy v2.1)) (by rw [v2.2.1, s120]; exact u5)
    obtain ⟨Z, z1, z2, z3, z4, z5, z6⟩ := b238_6 I hp ep (d := d) (bl_6 I1 720) (bl_c I1 720).2 (sBl E (sGs E kn).1 d kn (p : Int) 720).1 0 7 V (by omega) (by have := bl_6 (E := E) (g := (sGs E kn).1) (d := d) (kn := kn) (s := (p : Int)) I1 720; omega) PV v2.2.2.2 (bs := (sBl E (sGs E kn).1 d kn (p : Int) 720).2.2.2)
    rw [show ((0 : Nat) : Int) = 0 from rfl] at z1
    rw [z1]
    refine ⟨(if_neg (show ¬ (p : Int) = -1 from by omega)).symm, z2, pQy_t (pQy_t y2 (zQy v2.1)) z3, fun i hi => ?_, fun _ => ⟨z5, z6⟩⟩
    exact ⟨(z4 i hi).1.trans ((v2.2.2.1 i hi).1.trans (by rw [s121])), (z4 i hi).2.trans ((v2.2.2.1 i hi).2.trans (by rw [s122]))⟩
theorem b115_5 {t : Int} {T hd so p : Nat} {X : jW} (K54 : Int → Int → Int → Int → Int → jW → (Int × jW)) (K63 : Int → Int → Int → Int → Int → Int → jW → (Int × jW)) (Q : pV X E g d kn) (I : pIq E g) (hdd : 0 ≤ d ∧ d ≤ 146399) (hp : p < sNl E) (ep : g p = (p : Int)) (Ik : pIk E.1) (Il : pIl E.1) (I1 : pI1 E.1) (O : qOk fun w => sQu E g d kn w (p : Int)) (ht : 0 ≤ t ∧ t < E.1 4) (Qe : pTe X E.1 t T hd) (hso : so ≤ 1) (es : E.1 (18820 + (924 * t)).toNat = (so : Int)) : ∀ (q c f : Nat) (W : jW), (c : Int) + (q : Int) = E.1 ((18820 + (924 * t)) + 3).toNat → q < f → pBw X W 5 (sBl E g d kn (p : Int) (360 * so + 12 * t.toNat + c)) → ∃ V : jW, d_X6_belongs_r120_c5d_115 K54 K63 f (p : Int) d ((sBl E g d kn (p : Int) (360 * so + 12 * t.toNat + c)).1 : Int) (sBl E g d kn (p : Int) (360 * so + 12 * t.toNat + c)).2.2.2 (so : Int) t T (E.1 ((18820 + (924 * t)) + 3).toNat) (c : Int) W = K63 (p : Int) d ((sBl E g d kn (p : Int) (360 * so + 12 * t.toNat + (c + q))).1 : Int) (sBl E g d kn (p : Int) (360 * so + 12 * t.toNat + (c + q))).2.2.2 (so : Int) (t + 1) V ∧ pBw X V 5 (sBl E g d kn (p : Int) (360 * so + 12 * t.toNat + (c + q))) := by
  have b30 := Il.2.1
  have J12 := (Il.2.2 t ht.1 ht.2).2.1
  have T0 : ¬ T = 0 := by have := Qe.1; omega
  intro q
  induction q with
  | zero =>
    intro c f W e hf h
    obtain ⟨f, rfl⟩ : ∃ q, f = q + 1 := ⟨f - 1, by omega⟩
    exact ⟨W, (if_neg T0).trans (if_pos (by omega)), h⟩
  | succ q ih =>
    intro c f W e hf h
    obtain ⟨f, rfl⟩ : ∃ q, f = q + 1 := ⟨f - 1, by omega⟩
    have QW := pTe_Qy (zQy h.1) Qe
    have hc : (0 : Int) ≤ (c : Int) ∧ (c : Int) < E.1 ((18820 + (924 * t)) + 3).toNat := by omega
    have H := QW.2.2.2.2.2.2.2 (c : Int) hc.1 hc.2
    have k0 := (he_e QW hc.1 hc.2 (show (0 : Int) ≤ 0 ∧ (0 : Int) < 6 from by decide)).trans H.1
    have k1 := (he_e QW hc.1 hc.2 (show (0 : Int) ≤ 1 ∧ (1 : Int) < 6 from by decide)).trans H.2.1
    have kt : ((360 * so + 12 * t.toNat + c : Nat) : Int) % 360 / 12 = t := by omega
    have kc : ((360 * so + 12 * t.toNat + c : Nat) : Int) % 12 = (c : Int) := by omega
    have ks : ((360 * so + 12 * t.toNat + c : Nat) : Int) / 360 = (so : Int) := by omega
    have k3 : ((360 * so + 12 * t.toNat + c : Nat) : Int) % 360 = t * 12 + (c : Int) := by omega
    have gk : sBg E.1 ((360 * so + 12 * t.toNat + c : Nat) : Int) = E.1 ((((18820 + (924 * t)) + 4) + (10 * (c : Int))) + 1).toNat := by
      unfold sBg
      rw [kt, kc]
    have pk : sBh E g d kn (p : Int) ((360 * so + 12 * t.toNat + c : Nat) : Int) ↔ E.1 (((18820 + (924 * t)) + 4) + (10 * (c : Int))).toNat = 1 ∧ sHd E.1 d kn t (c : Int) fun w => sQu E g d kn w (p : Int) := by
      unfold sBh
      rw [kt, kc, ks]
      exact ⟨fun y => y.2.2.2, fun y => ⟨⟨by omega, by omega⟩, ⟨by omega, by omega⟩, es, y⟩⟩
    have hz := xhz (t := t) (c := (c : Int)) Q I hdd hp ep Ik Il O ht hc h.1
    have lt6 := fun a b => bl_l (E := E) (g := g) (d := d) (kn := kn) (s := (p : Int)) (k := 360 * so + 12 * t.toNat + c) I1 a b
    have go : ∀ W1 : jW, ¬ (sBh E g d kn (p : Int) ((360 * so + 12 * t.toNat + c : Nat) : Int) ∧ j_iand (j_ishr (sBl E g d kn (p : Int) (360 * so + 12 * t.toNat + c)).2.2.2 (sBg E.1 ((360 * so + 12 * t.toNat + c : Nat) : Int))) 1 = 0) → pBw X W1 5 (sBl E g d kn (p : Int) (360 * so + 12 * t.toNat + c)) → ∃ V : jW, d_X6_belongs_r120_c5d_115 K54 K63 f (p : Int) d ((sBl E g d kn (p : Int) (360 * so + 12 * t.toNat + c)).1 : Int) (sBl E g d kn (p : Int) (360 * so + 12 * t.toNat + c)).2.2.2 (so : Int) t T (E.1 ((18820 + (924 * t)) + 3).toNat) ((c : Int) + 1) W1 = K63 (p : Int) d ((sBl E g d kn (p : Int) (360 * so + 12 * t.toNat + (c + (q + 1)))).1 : Int) (sBl E g d kn (p : Int) (360 * so + 12 * t.toNat + (c + (q + 1)))).2.2.2 (so : Int) (t + 1) V ∧ pBw X V 5 (sBl E g d kn (p : Int) (360 * so + 12 * t.toNat + (c + (q + 1)))) := fun W1 ne hw => by
      have e1 : sBl E g d kn (p : Int) (360 * so + 12 * t.toNat + (c + 1)) = sBl E g d kn (p : Int) (360 * so + 12 * t.toNat + c) := bl_n ne
      have y := ih (c + 1) f W1 (by omega) (by omega) (by rw [e1]; exact hw)
      rw [e1, show c + 1 + q = c + (q + 1) from by omega, show ((c + 1 : Nat) : Int) = (c : Int) + 1 from by omega] at y
      exact y
    have st : d_X6_belongs_r120_c5d_115 K54 K63 (f + 1) (p : Int) d ((sBl E g d kn (p : Int) (360 * so + 12 * t.toNat + c)).1 : Int) (sBl E g d kn (p : Int) (360 * so + 12 * t.toNat + c)).2.2.2 (so : Int) t T (E.1 ((18820 + (924 * t)) + 3).toNat) (c : Int) W = (if d_head T (c : Int) 0 W = 0 then (if j_iand (j_ishr (sBl E g d kn (p : Int) (360 * so + 12 * t.toNat + c)).2.2.2 (d_head T (c : Int) 1 W)) 1 = 0 then (if 6 ≤ ((sBl E g d kn (p : Int) (360 * so + 12 * t.toNat + c)).1 : Int) then d_X6_belongs_r120_c5d_115 K54 K63 f (p : Int) d ((sBl E g d kn (p : Int) (360 * so + 12 * t.toNat + c)).1 : Int) (sBl E g d kn (p : Int) (360 * so + 12 * t.toNat + c)).2.2.2 (so : Int) t T (E.1 ((18820 + (924 * t)) + 3).toNat) ((c : Int) + 1) W else if (d_X0_holdsFor_r98d t (c : Int) (p : Int) W).1 = 0 then d_X6_belongs_r120_c5d_115 K54 K63 f (p : Int) d ((sBl E g d kn (p : Int) (360 * so + 12 * t.toNat + c)).1 : Int) (sBl E g d kn (p : Int) (360 * so + 12 * t.toNat + c)).2.2.2 (so : Int) t T (E.1 ((18820 + (924 * t)) + 3).toNat) ((c : Int) + 1) (d_X0_holdsFor_r98d t (c : Int) (p : Int) W).2 else d_X6_belongs_r120_c5d_115 K54 K63 f (p : Int) d (((sBl E g d kn (p : Int) (360 * so + 12 * t.toNat + c)).1 : Int) + 1) (j_ior (sBl E g d kn (p : Int) (360 * so + 12 * t.toNat + c)).2.2.2 (j_ishl 1 (d_head T (c : Int) 1 W))) (so : Int) t T (E.1 ((18820 + (924 * t)) + 3).toNat) ((c : Int) + 1) (vu (vu (d_X0_holdsFor_r98d t (c : Int) (p : Int) W).2 121 (30 + ((sBl E g d kn (p : Int) (360 * so + 12 * t.toNat + c)).1 : Int)).toNat (d_head T (c : Int) 1 W)) 122 (30 + ((sBl E g d kn (p : Int) (360 * so + 12 * t.toNat + c)).1 : Int)).toNat (t * 12 + (c : Int)))) else d_X6_belongs_r120_c5d_115 K54 K63 f (p : Int) d ((sBl E g d kn (p : Int) (360 * so + 12 * t.toNat + c)).1 : Int) (sBl E g d kn (p : Int) (360 * so + 12 * t.toNat + c)).2.2.2 (so : Int) t T (E.1 ((18820 + (924 * t)) + 3).toNat) ((c : Int) + 1) W) else d_X6_belongs_r120_c5d_115 K54 K63 f (p : Int) d ((sBl E g d kn (p : Int) (360 * so + 12 * t.toNat + c)).1 : Int) (sBl E g d kn (p : Int) (360 * so + 12 * t.toNat + c)).2.2.2 (so : Int) t T (E.1 ((18820 + (924 * t)) + 3).toNat) ((c : Int) + 1) W) := (if_neg T0).trans (if_neg (by omega))
    rw [st, k0, k1]
    by_cases n0 : E.1 (((18820 + (924 * t)) + 4) + (10 * (c : Int))).toNat = 1
    · rw [n0, if_neg (show ¬ (1 : Int) = 0 from by decide), if_neg (show ¬ (1 : Int) = 0 from by decide), if_pos (show (1 : Int) - 1 = 0 from by decide), ← gk, ← k3]
      by_cases n1 : j_iand (j_ishr (sBl E g d kn (p : Int) (360 * so + 12 * t.toNat + c)).2.2.2 (sBg E.1 ((360 * so + 12 * t.toNat + c : Nat) : Int))) 1 = 0
      · rw [if_pos n1]
        by_cases n2 : sHd E.1 d kn t (c : Int) fun w => sQu E g d kn w (p : Int)
        · have hb := pk.mpr ⟨n0, n2⟩
          have l6 := lt6 hb n1
          have e1 : sBl E g d kn (p : Int) (360 * so + 12 * t.toNat + (c + 1)) = _ := bl_y hb n1
          rw [if_neg (by omega), hz.1, tv_t n2, if_neg (show ¬ (1 : Int) = 0 from by decide)]
          have y := ih (c + 1) f (vu (vu (d_X0_holdsFor_r98d t (c : Int) (p : Int) W).2 121 (6 * 5 + (sBl E g d kn (p : Int) (360 * so + 12 * t.toNat + c)).1) (sBg E.1 ((360 * so + 12 * t.toNat + c : Nat) : Int))) 122 (6 * 5 + (sBl E g d kn (p : Int) (360 * so + 12 * t.toNat + c)).1) (((360 * so + 12 * t.toNat + c : Nat) : Int) % 360)) (by omega) (by omega) (by rw [e1]; exact pBw_a (pBw_h h hz.2.1 hz.2.2))
          rw [e1, show c + 1 + q = c + (q + 1) from by omega, show ((c + 1 : Nat) : Int) = (c : Int) + 1 from by omega] at y
          rw [show (30 + ((sBl E g d kn (p : Int) (360 * so + 12 * t.toNat + c)).1 : Int)).toNat = 6 * 5 + (sBl E g d kn (p : Int) (360 * so + 12 * t.toNat + c)).1 from by omega]
          exact y
        · have ne : ¬ (sBh E g d kn (p : Int) ((360 * so + 12 * t.toNat + c : Nat) : Int) ∧ j_iand (j_ishr (sBl E g d kn (p : Int) (360 * so + 12 * t.toNat + c)).2.2.2 (sBg E.1 ((360 * so + 12 * t.toNat + c : Nat) : Int))) 1 = 0) := fun y => n2 (pk.mp y.1).2
          by_cases n3 : 6 ≤ ((sBl E g d kn (p : Int) (360 * so + 12 * t.toNat + c)).1 : Int)
          · rw [if_pos n3]; exact go W ne h
          · rw [if_neg n3, hz.1, tv_f n2, if_pos rfl]; exact go _ ne (pBw_h h hz.2.1 hz.2.2)
      · rw [if_neg n1]; exact go W (fun y => n1 y.2) h
    · rw [if_neg (show ¬ (if E.1 (((18820 + (924 * t)) + 4) + (10 * (c : Int))).toNat = 0 then 8 else E.1 (((18820 + (924 * t)) + 4) + (10 * (c : Int))).toNat - 1) = 0 from by
        by_cases q : E.1 (((18820 + (924 * t)) + 4) + (10 * (c : Int))).toNat = 0
        · rw [if_pos q]; decide
        · rw [if_neg q]; omega)]
      exact go W (fun y => n0 (pk.mp y.1).1) h
theorem b63_5 {so p : Nat} {X : jW} (K54 : Int → Int → Int → Int → Int → jW → (Int × jW)) (Q : pV X E g d kn) (I : pIq E g) (hdd : 0 ≤ d ∧ d ≤ 146399) (hp : p < sNl E) (ep : g p = (p : Int)) (Ik : pIk E.1) (Il : pIl E.1) (I1 : pI1 E.1) (O : qOk fun w => sQu E g d kn w (p : Int)) (hso : so ≤ 1) : ∀ (q t f : Nat) (W : jW), (t : Int) + (q : Int) = E.1 4 → q < f → pBw X W 5 (sBl E g d kn (p : Int) (360 * so + 12 * t)) → ∃ V : jW, d_X6_belongs_r120_c5d_63 K54 f (p : Int) d ((sBl E g d kn (p : Int) (360 * so + 12 * t)).1 : Int) (sBl E g d kn (p : Int) (360 * so + 12 * t)).2.2.2 (so : Int) (t : Int) W = K54 (p : Int) d ((sBl E g d kn (p : Int) (360 * so + 360)).1 : Int) (sBl E g d kn (p : Int) (360 * so + 360)).2.2.2 ((so : Int) + 1) V ∧ pBw X V 5 (sBl E g d kn (p : Int) (360 * so + 360)) := by
  have b30 := Il.2.1
  intro q
  induction q with
  | zero =>
    intro t f W e hf h
    obtain ⟨f, rfl⟩ : ∃ q, f = q + 1 := ⟨f - 1, by omega⟩
    have c32 : W.1 32 18 = E.1 4 := (pTc_Qy (zQy h.1) Q.2.1).1
    have e1 : sBl E g d kn (p : Int) (360 * so + 360) = sBl E g d kn (p : Int) (360 * so + 12 * t) := bl_u (by omega) (fun j j1 j2 y => by
      have y2 := y.1.2
      omega)
    rw [e1]
    exact ⟨W, if_pos (by omega), h⟩
  | succ q ih =>
    intro t f W e hf h
    obtain ⟨f, rfl⟩ : ∃ q, f = q + 1 := ⟨f - 1, by omega⟩
    have c32 : W.1 32 18 = E.1 4 := (pTc_Qy (zQy h.1) Q.2.1).1
    obtain ⟨T, hd, eT, Qe, _⟩ := Q.2.1.2 (t : Int) (by omega) (by omega)
    have QW := pTe_Qy (zQy h.1) Qe
    have T0 : ¬ T = 0 := by have := Qe.1; omega
    have eW : W.2.2.1 66 (t : Int).toNat = some T := ((zQy h.1).2.1 66 _ (by omega)).trans eT
    have J12 := Il.2.2 (t : Int) (by omega) (by omega)
    have st : d_X6_belongs_r120_c5d_63 K54 (f + 1) (p : Int) d ((sBl E g d kn (p : Int) (360 * so + 12 * t)).1 : Int) (sBl E g d kn (p : Int) (360 * so + 12 * t)).2.2.2 (so : Int) (t : Int) W = (if E.1 ((18820 + (924 * (t : Int))) + 0).toNat = (so : Int) then d_X6_belongs_r120_c5d_115 K54 (fun l1 l2 l5 l6 l7 l8 W => d_X6_belongs_r120_c5d_63 K54 f l1 l2 l5 l6 l7 l8 W) 13 (p : Int) d ((sBl E g d kn (p : Int) (360 * so + 12 * t)).1 : Int) (sBl E g d kn (p : Int) (360 * so + 12 * t)).2.2.2 (so : Int) (t : Int) T (E.1 ((18820 + (924 * (t : Int))) + 3).toNat) 0 W else d_X6_belongs_r120_c5d_101 K54 (fun l1 l2 l5 l6 l7 l8 W => d_X6_belongs_r120_c5d_63 K54 f l1 l2 l5 l6 l7 l8 W) (p : Int) d ((sBl E g d kn (p : Int) (360 * so + 12 * t)).1 : Int) (sBl E g d kn (p : Int) (360 * so + 12 * t)).2.2.2 (so : Int) (t : Int) T W) := by
      refine (if_neg (by omega)).trans ((if_neg (by omega)).trans ?_)
      rw [eW, if_neg (show ¬ (some T).isNone = true from fun y => Bool.noConfusion y), show (some T).getD 0 = T from rfl, QW.2.2.1, QW.2.2.2.2.2.1]
      rfl
    rw [st, Int.add_zero]
    by_cases n0 : E.1 (18820 + (924 * (t : Int))).toNat = (so : Int)
    · rw [if_pos n0]
      obtain ⟨V, v1, v2⟩ := b115_5 K54 (fun l1 l2 l5 l6 l7 l8 W => d_X6_belongs_r120_c5d_63 K54 f l1 l2 l5 l6 l7 l8 W) Q I hdd hp ep Ik Il I1 O ⟨by omega, by omega⟩ Qe hso n0 (E.1 ((18820 + (924 * (t : Int))) + 3).toNat).toNat 0 13 W (by omega) (by omega) h
      rw [show (t : Int).toNat = t from by omega, Nat.zero_add] at v1 v2
      have e1 : sBl E g d kn (p : Int) (360 * so + 12 * (t + 1)) = sBl E g d kn (p : Int) (360 * so + 12 * t + (E.1 ((18820 + (924 * (t : Int))) + 3).toNat).toNat) := bl_u (by omega) (fun j j1 j2 y => by
        have y2 := y.2.1.2
        rw [show (j : Int) % 360 / 12 = (t : Int) from by omega] at y2
        omega)
      obtain ⟨V2, w1, w2⟩ := ih (t + 1) f V (by omega) (by omega) (by rw [e1]; exact v2)
      rw [e1, show ((t + 1 : Nat) : Int) = (t : Int) + 1 from by omega] at w1
      exact ⟨V2, v1.trans w1, w2⟩
    · rw [if_neg n0]
      have e1 : sBl E g d kn (p : Int) (360 * so + 12 * (t + 1)) = sBl E g d kn (p : Int) (360 * so + 12 * t) := bl_u (by omega) (fun j j1 j2 y => by
        have y2 := y.2.2.1
        rw [show (j : Int) % 360 / 12 = (t : Int) from by omega, show (j : Int) / 360 = (so : Int) from by omega] at y2
        exact n0 y2)
      obtain ⟨V2, w1, w2⟩ := ih (t + 1) f W (by omega) (by omega) (by rw [e1]; exact h)
      rw [e1, show ((t + 1 : Nat) : Int) = (t : Int) + 1 from by omega] at w1
      refine ⟨V2, Eq.trans ?_ w1, w2⟩
      unfold d_X6_belongs_r120_c5d_101 d_X6_belongs_r120_c5d_200110
      rw [if_neg T0, if_neg T0]
      exact (if_neg T0).trans (if_pos (by decide))
theorem b54_5 {p : Nat} {X W : jW} (Q : pV X E g d kn) (I : pIq E g) (hdd : 0 ≤ d ∧ d ≤ 146399) (hp : p < sNl E) (ep : g p = (p : Int)) (Ik : pIk E.1) (Il : pIl E.1) (I1 : pI1 E.1) (O : qOk fun w => sQu E g d kn w (p : Int)) (z : pZ X W) (e120 : W.1 120 = X.1 120) (e1 : ∀ i : Nat, i < 6 * 5 → W.1 121 i = X.1 121 i ∧ W.1 122 i = X.1 122 i) : ∃ V : jW, d_X6_belongs_r120_c5d_54 3 (p : Int) d 0 0 0 W = d_X6_belongs_r120_c5d_238 7 (p : Int) d ((sBl E g d kn (p : Int) 720).1 : Int) (sBl E g d kn (p : Int) 720).2.2.2 0 V ∧ pBw X V 5 (sBl E g d kn (p : Int) 720) := by
  have b30 := Il
  have h0 : pBw X W 5 (sBl E g d kn (p : Int) (360 * 0 + 12 * 0)) := ⟨z, e120, e1, fun i hi => absurd hi (Nat.not_lt_zero i)⟩
  obtain ⟨V, v1, v2⟩ := b63_5 (so := 0) (fun l1 l2 l5 l6 l7 W => d_X6_belongs_r120_c5d_54 2 l1 l2 l5 l6 l7 W) Q I hdd hp ep Ik Il I1 O (by decide) (E.1 4).toNat 0 31 W (by have := Il.1; omega) (by have := Il.2.1; omega) h0
  obtain ⟨V2, w1, w2⟩ := b63_5 (so := 1) (fun l1 l2 l5 l6 l7 W => d_X6_belongs_r120_c5d_54 1 l1 l2 l5 l6 l7 W) Q I hdd hp ep Ik Il I1 O (by decide) (E.1 4).toNat 0 31 V (by have := Il.1; omega) (by have := Il.2.1; omega) v2
  refine ⟨V2, ?_, w2⟩
  have s1 : d_X6_belongs_r120_c5d_54 3 (p : Int) d 0 0 0 W = d_X6_belongs_r120_c5d_63 (fun l1 l2 l5 l6 l7 W => d_X6_belongs_r120_c5d_54 2 l1 l2 l5 l6 l7 W) 31 (p : Int) d 0 0 0 0 W := if_neg (by decide)
  have s2 : d_X6_belongs_r120_c5d_54 2 (p : Int) d ((sBl E g d kn (p : Int) (360 * 0 + 360)).1 : Int) (sBl E g d kn (p : Int) (360 * 0 + 360)).2.2.2 (((0 : Nat) : Int) + 1) V = d_X6_belongs_r120_c5d_63 (fun l1 l2 l5 l6 l7 W => d_X6_belongs_r120_c5d_54 1 l1 l2 l5 l6 l7 W) 31 (p : Int) d ((sBl E g d kn (p : Int) (360 * 1 + 12 * 0)).1 : Int) (sBl E g d kn (p : Int) (360 * 1 + 12 * 0)).2.2.2 ((1 : Nat) : Int) ((0 : Nat) : Int) V := if_neg (by decide)
  have s3 : d_X6_belongs_r120_c5d_54 1 (p : Int) d ((sBl E g d kn (p : Int) (360 * 1 + 360)).1 : Int) (sBl E g d kn (p : Int) (360 * 1 + 360)).2.2.2 (((1 : Nat) : Int) + 1) V2 = d_X6_belongs_r120_c5d_238 7 (p : Int) d ((sBl E g d kn (p : Int) 720).1 : Int) (sBl E g d kn (p : Int) 720).2.2.2 0 V2 := if_pos (by decide)
  exact s1.trans (v1.trans (s2.trans (w1.trans s3)))
theorem bw_5 {W : jW} {p : Nat} (P : pXs W E g) (hp : p < sNl E) (ep : g p = (p : Int)) : d_X6_byWedding_r120_c5d (p : Int) d W = d_X6_byWedding_r120_c5d_103 d (sMo E g (p : Int) 4 d) W := by
  have h6 := xs_6 P
  have key := @ch_f (Int × Int) (Int × jW) g (sNl E) (p : Int) h6 (fun m => W.1 83 m) (xs_n P (by omega)) (fun r m n a => d_X6_byWedding_r120_c5d_12 r d a.1 a.2 m n W) (wdf E d) (fun a => d_X6_byWedding_r120_c5d_103 d a.2 W) (fun r n a => if_pos rfl) (fun r m n a hm hz hn => by
    obtain ⟨l1, l2, l3⟩ := @xs_l W E g P m hm
    change W.1 80 m = sDy E m at l2
    refine (if_neg (show ¬ (m : Int) = -1 from by omega)).trans ((if_neg (show ¬ (600 : Int) ≤ (n : Int) from by omega)).trans ?_)
    rw [show ((m : Int)).toNat = m from by omega, l1, l2]
    show (if sCo E m = 4 then (if d < sDy E m then d_X6_byWedding_r120_c5d_12 r d a.1 a.2 (W.1 83 ((m : Int)).toNat) ((n : Int) + 1) W else if sDy E m < a.1 then d_X6_byWedding_r120_c5d_12 r d a.1 a.2 (W.1 83 ((m : Int)).toNat) ((n : Int) + 1) W else d_X6_byWedding_r120_c5d_12 r d (sDy E m) (m : Int) (W.1 83 ((m : Int)).toNat) ((n : Int) + 1) W) else d_X6_byWedding_r120_c5d_12 r d a.1 a.2 (W.1 83 ((m : Int)).toNat) ((n : Int) + 1) W) = d_X6_byWedding_r120_c5d_12 r d (wdf E d a m).1 (wdf E d a m).2 (W.1 83 m) ((n : Int) + 1) W
    rw [show ((m : Int)).toNat = m from by omega]
    unfold wdf
    by_cases q1 : sCo E m = 4
    · rw [if_pos q1]
      by_cases q2 : d < sDy E m
      · rw [if_pos q2, if_neg (fun y => by omega)]
      · rw [if_neg q2]
        by_cases q3 : sDy E m < a.1
        · rw [if_pos q3, if_neg (fun y => by omega)]
        · rw [if_neg q3, if_pos ⟨q1, by omega, by omega⟩]
    · rw [if_neg q1, if_neg (fun y => q1 y.1)]) (sNl E) 0 601 0 (-1, -1) rfl (by omega) (by omega)
  rw [xs_f P hp ep, show ((0 : Nat) : Int) = 0 from rfl, wd_f P.2.2.2.2.2.2.2 (sNl E) 0 (-1) (-1) (by omega) (Or.inl ⟨rfl, rfl⟩)] at key
  exact key
theorem bn_5 {W : jW} {m : Nat} (P : pXs W E g) (N : pNe W E) (h3 : m % 3 = 1) (hm : m < sNl E) : d_X6_byWedding_r120_c5d_103 d (m : Int) W = d_X6_belongs_r120_c6d (sNa E g (m - 1)) d W := by
  have h6 := xs_6 P
  have nl : W.1 33 3 = E.1 0 := P.2.2.1
  have b0 := P.2.1
  have g1 : W.1 82 ((m : Int) - 1).toNat = g (m - 1) := by rw [show ((m : Int) - 1).toNat = m - 1 from by omega]; exact P.2.2.2.2.1 (m - 1) (by omega)
  have q0 := N (m - 1) 0 (by omega) (by decide)
  have q1 := N (m - 1) 1 (by omega) (by decide)
  rw [show 2 * (m - 1) + 0 = ((((m : Int) - 1) * 2) + 0).toNat from by omega] at q0
  rw [show 2 * (m - 1) + 1 = ((((m : Int) - 1) * 2) + 1).toNat from by omega] at q1
  have n4 : ¬ W.1 33 3 ≤ ((m : Int) - 1) / 3 := by unfold sNl at hm; omega
  unfold d_X6_byWedding_r120_c5d_103 d_X6_byWedding_r120_c5d_138
  rw [if_neg (show ¬ (m : Int) = -1 from by omega), if_neg (show ¬ (((m : Int) - 1) * 2) + 0 < 0 from by omega)]
  by_cases a : 0 ≤ W.1 76 ((((m : Int) - 1) * 2) + 0).toNat
  · rw [if_pos a, if_neg (show ¬ (m : Int) - 1 < 0 from by omega), if_neg n4, g1]
    rw [show sNa E g (m - 1) = g (m - 1) from if_neg (by rw [tv_t (Or.inl (q0.mp a))]; decide)]
  · rw [if_neg a, if_neg (show ¬ (((m : Int) - 1) * 2) + 1 < 0 from by omega)]
    by_cases b : W.1 76 ((((m : Int) - 1) * 2) + 1).toNat < 0
    · rw [if_pos b]
      rw [show sNa E g (m - 1) = -1 from if_pos (tv_f (fun y => y.elim (fun y => a (q0.mpr y)) (fun y => by have := q1.mpr y; omega)))]
    · rw [if_neg b, if_neg (show ¬ (m : Int) - 1 < 0 from by omega), if_neg n4, g1]
      rw [show sNa E g (m - 1) = g (m - 1) from if_neg (by rw [tv_t (Or.inr (q1.mp (by omega)))]; decide)]
theorem bp_5 {W : jW} {m p : Nat} (P : pXs W E g) (N : pNe W E) (hb : d_X7_birthOf_r78d (p : Int) W = (m : Int)) (h3 : m % 3 = 0) (hm : m + 2 < sNl E) : d_X6_byParents_r120_c5d (p : Int) W = if (d_X6_belongs_r120_c6d (sNa E g (m + 1)) (sDy E m) W).1 = -1 then d_X6_belongs_r120_c6d (sNa E g (m + 2)) (sDy E m) (d_X6_belongs_r120_c6d (sNa E g (m + 1)) (sDy E m) W).2 else d_X6_belongs_r120_c6d (sNa E g (m + 1)) (sDy E m) W := by
  have h6 := xs_6 P
  have nl : W.1 33 3 = E.1 0 := P.2.2.1
  have b0 := P.2.1
  have l2 := (@xs_l W E g P m (by omega)).2.1
  change W.1 80 m = sDy E m at l2
  have g1 : W.1 82 ((m : Int) + 1).toNat = g (m + 1) := by rw [show ((m : Int) + 1).toNat = m + 1 from by omega]; exact P.2.2.2.2.1 (m + 1) (by omega)
  have g2 : W.1 82 ((m : Int) + 2).toNat = g (m + 2) := by rw [show ((m : Int) + 2).toNat = m + 2 from by omega]; exact P.2.2.2.2.1 (m + 2) (by omega)
  have p0 := N (m + 1) 0 (by omega) (by decide)
  have p1 := N (m + 1) 1 (by omega) (by decide)
  have q0 := N (m + 2) 0 (by omega) (by decide)
  have q1 := N (m + 2) 1 (by omega) (by decide)
  rw [show 2 * (m + 1) + 0 = ((((m : Int) + 1) * 2) + 0).toNat from by omega] at p0
  rw [show 2 * (m + 1) + 1 = ((((m : Int) + 1) * 2) + 1).toNat from by omega] at p1
  rw [show 2 * (m + 2) + 0 = ((((m : Int) + 2) * 2) + 0).toNat from by omega] at q0
  rw [show 2 * (m + 2) + 1 = ((((m : Int) + 2) * 2) + 1).toNat from by omega] at q1
  have n1 : ¬ W.1 33 3 ≤ ((m : Int) + 1) / 3 := by unfold sNl at hm; omega
  have n2 : ¬ W.1 33 3 ≤ ((m : Int) + 2) / 3 := by unfold sNl at hm; omega
  have o1 : ¬ 600 ≤ (m : Int) + 1 := by omega
  have o2 : ¬ 600 ≤ (m : Int) + 2 := by omega
  have r0 : ¬ 1200 ≤ (((m : Int) + 1) * 2) + 0 := by omega
  have r1 : ¬ 1200 ≤ (((m : Int) + 1) * 2) + 1 := by omega
  have s0 : ¬ 1200 ≤ (((m : Int) + 2) * 2) + 0 := by omega
  have s1 : ¬ 1200 ≤ (((m : Int) + 2) * 2) + 1 := by omega
  have second : ∀ Z : Int × jW, (if 0 ≤ W.1 76 ((((m : Int) + 2) * 2) + 0).toNat then d_X6_belongs_r120_c6d (g (m + 2)) (sDy E m) Z.2 else if W.1 76 ((((m : Int) + 2) * 2) + 1).toNat < 0 then d_X6_belongs_r120_c6d (-1) (sDy E m) Z.2 else d_X6_belongs_r120_c6d (g (m + 2)) (sDy E m) Z.2) = d_X6_belongs_r120_c6d (sNa E g (m + 2)) (sDy E m) Z.2 := fun Z => by
    by_cases a : 0 ≤ W.1 76 ((((m : Int) + 2) * 2) + 0).toNat
    · rw [if_pos a, show sNa E g (m + 2) = g (m + 2) from if_neg (by rw [tv_t (Or.inl (q0.mp a))]; decide)]
    · rw [if_neg a]
      by_cases b : W.1 76 ((((m : Int) + 2) * 2) + 1).toNat < 0
      · rw [if_pos b, show sNa E g (m + 2) = -1 from if_pos (tv_f (fun y => y.elim (fun y => a (q0.mpr y)) (fun y => by have := q1.mpr y; omega)))]
      · rw [if_neg b, show sNa E g (m + 2) = g (m + 2) from if_neg (by rw [tv_t (Or.inr (q1.mp (by omega)))]; decide)]
  unfold d_X6_byParents_r120_c5d d_X6_byParents_r120_c5d_84
  rw [hb, if_neg (show ¬ (m : Int) = -1 from by omega), show ((m : Int)).toNat = m from by omega, l2, g1, g2]
  simp only [if_neg r0, if_neg r1, if_neg s0, if_neg s1, if_neg o1, if_neg o2, if_neg n1, if_neg n2]
  by_cases a : 0 ≤ W.1 76 ((((m : Int) + 1) * 2) + 0).toNat
  · rw [if_pos a, show sNa E g (m + 1) = g (m + 1) from if_neg (by rw [tv_t (Or.inl (p0.mp a))]; decide)]
    by_cases z : (d_X6_belongs_r120_c6d (g (m + 1)) (sDy E m) W).1 = -1
    · rw [if_pos z, if_pos z]; exact second _
    · rw [if_neg z, if_neg z]
  · rw [if_neg a]
    by_cases b : W.1 76 ((((m : Int) + 1) * 2) + 1).toNat < 0
    · rw [if_pos b, show sNa E g (m + 1) = -1 from if_pos (tv_f (fun y => y.elim (fun y => a (p0.mpr y)) (fun y => by have := p1.mpr y; omega)))]
      by_cases z : (d_X6_belongs_r120_c6d (-1) (sDy E m) W).1 = -1
      · rw [if_pos z, if_pos z]; exact second _
      · rw [if_neg z, if_neg z]
    · rw [if_neg b, show sNa E g (m + 1) = g (m + 1) from if_neg (by rw [tv_t (Or.inr (p1.mp (by omega)))]; decide)]
      by_cases z : (d_X6_belongs_r120_c6d (g (m + 1)) (sDy E m) W).1 = -1
      · rw [if_pos z, if_pos z]; exact second _
      · rw [if_neg z, if_neg z]
theorem by_5 {re : Int → Int → Int} (H : pBel d_X6_belongs_r120_c6d E kn re 6) (I : pIq E (sGs E kn).1) {W : jW} {p : Nat} {gr : Int} (hp : p < sNl E) (ep : (sGs E kn).1 p = (p : Int)) (hdd : 0 ≤ d ∧ d ≤ 146399) (P : pBx W E kn) (hg : 0 ≤ gr ∧ gr ≤ 5) : (d_X6_parishBy_r120_c5d gr (p : Int) d W).1 = sVal E (sGs E kn).1 kn (sBv E (sGs E kn).1 kn re) (p : Int) d gr ∧ pBx (d_X6_parishBy_r120_c5d gr (p : Int) d W).2 E kn ∧ pQy W (d_X6_parishBy_r120_c5d gr (p : Int) d W).2 ∧ ∀ i : Nat, i < 6 * 6 → (d_X6_parishBy_r120_c5d gr (p : Int) d W).2.1 121 i = W.1 121 i ∧ (d_X6_parishBy_r120_c5d gr (p : Int) d W).2.1 122 i = W.1 122 i := by
  have Px := P.1.1
  have T5 := P.1.2.1
  have Ir := Px.2.2.2.2.2.2.2
  have G := Px.1
  unfold d_X6_parishBy_r120_c5d sVal
  rcases (show gr = 0 ∨ gr = 1 ∨ gr = 2 ∨ gr = 3 ∨ gr = 4 ∨ gr = 5 from by omega) with rfl | rfl | rfl | rfl | rfl | rfl
  · simp only [show ((0 : Int) = 1) = False from by decide, show ((0 : Int) = 2) = False from by decide, show ((0 : Int) = 3) = False from by decide, show ((0 : Int) = 4) = False from by decide, show ((0 : Int) = 5) = False from by decide, if_false]
    exact ⟨xbb Px T5 I.1 P.2.2 hp ep, P, pQy_r, fun _ _ => ⟨trivial, trivial⟩⟩
  · simp only [show ((1 : Int) = 4) = False from by decide, show ((1 : Int) = 5) = False from by decide, if_false, if_true]
    exact ⟨xbl (gr := 1) (d := d) (co := 2) Px T5 I.1 P.2.2 (by decide) (by decide), P, pQy_r, fun _ _ => ⟨trivial, trivial⟩⟩
  · simp only [show ((2 : Int) = 1) = False from by decide, show ((2 : Int) = 4) = False from by decide, show ((2 : Int) = 5) = False from by decide, if_false, if_true]
    exact ⟨xbl (gr := 2) (d := d) (co := 1) Px T5 I.1 P.2.2 (by decide) (by decide), P, pQy_r, fun _ _ => ⟨trivial, trivial⟩⟩
  · simp only [show ((3 : Int) = 1) = False from by decide, show ((3 : Int) = 2) = False from by decide, show ((3 : Int) = 4) = False from by decide, show ((3 : Int) = 5) = False from by decide, if_false, if_true]
    exact ⟨xbl (gr := 3) (d := d) (co := 2) Px T5 I.1 P.2.2 (by decide) (by decide), P, pQy_r, fun _ _ => ⟨trivial, trivial⟩⟩
  · simp only [show ((4 : Int) = 1) = False from by decide, show ((4 : Int) = 2) = False from by decide, show ((4 : Int) = 3) = False from by decide, if_false, if_true]
    rw [bw_5 Px hp ep]
    by_cases z : sMo E (sGs E kn).1 (p : Int) 4 d = -1
    · rw [if_pos z, z]
      exact ⟨rfl, P, pQy_r, fun _ _ => ⟨rfl, rfl⟩⟩
    · obtain ⟨m, m1, m2, m3⟩ := mo_4 Ir z
      rw [if_neg z, m1, bn_5 Px P.2.1 m2 m3, show ((m : Int)).toNat = m from by omega]
      have h := H (sNa E (sGs E kn).1 (m - 1)) d W (na_s G (by omega)) (fun y => absurd y (by decide)) hdd P
      exact ⟨h.1, h.2.1, h.2.2.1, h.2.2.2.1⟩
  · simp only [show ((5 : Int) = 1) = False from by decide, show ((5 : Int) = 2) = False from by decide, show ((5 : Int) = 3) = False from by decide, show ((5 : Int) = 4) = False from by decide, if_false, if_true]
    have bi := xbi Px I.2.2.2 hp ep
    by_cases z : sMo E (sGs E kn).1 (p : Int) 0 146399 = -1
    · rw [if_pos z]
      have e : d_X6_byParents_r120_c5d (p : Int) W = (-1, W) := by
        unfold d_X6_byParents_r120_c5d
        rw [bi, if_pos z]
        rfl
      rw [e]
      exact ⟨rfl, P, pQy_r, fun _ _ => ⟨rfl, rfl⟩⟩
    · obtain ⟨m, m1, m2, m3, m4, m5⟩ := mo_0 Ir z
      rw [if_neg z, bp_5 Px P.2.1 (bi.trans m1) m2 m3, m1, show ((m : Int)).toNat = m from by omega]
      have h := H (sNa E (sGs E kn).1 (m + 1)) (sDy E m) W (na_s G (by omega)) (fun y => absurd y (by decide)) ⟨m4, m5⟩ P
      by_cases z2 : (d_X6_belongs_r120_c6d (sNa E (sGs E kn).1 (m + 1)) (sDy E m) W).1 = -1
      · rw [if_pos z2, if_pos (h.1.symm.trans z2)]
        have h2 := H (sNa E (sGs E kn).1 (m + 2)) (sDy E m) _ (na_s G (by omega)) (fun y => absurd y (by decide)) ⟨m4, m5⟩ h.2.1
        exact ⟨h2.1, h2.2.1, pQy_t h.2.2.1 h2.2.2.1, fun i hi => ⟨(h2.2.2.2.1 i hi).1.trans (h.2.2.2.1 i hi).1, (h2.2.2.2.1 i hi).2.trans (h.2.2.2.1 i hi).2⟩⟩
      · rw [if_neg z2, if_neg (fun y => z2 (h.1.trans y))]
        exact ⟨h.1, h.2.1, h.2.2.1, h.2.2.2.1⟩
theorem b238_5 {re : Int → Int → Int} (H : pBel d_X6_belongs_r120_c6d E kn re 6) (I : pIq E (sGs E kn).1) {p n : Nat} {bs : Int} {gr cl : Nat → Int} (hp : p < sNl E) (ep : (sGs E kn).1 p = (p : Int)) (hdd : 0 ≤ d ∧ d ≤ 146399) (n6 : n ≤ 6) (hg : ∀ i : Nat, i < n → 0 ≤ gr i ∧ gr i ≤ 5) : ∀ (c i f : Nat) (W : jW), i + c = n → c < f → pBx W E kn → (∀ j : Nat, j < n → W.1 121 (6 * 5 + j) = gr j ∧ W.1 122 (6 * 5 + j) = cl j) → ∃ V : jW, d_X6_belongs_r120_c5d_238 f (p : Int) d (n : Int) bs (i : Int) W = ((sFs (sVal E (sGs E kn).1 kn (sBv E (sGs E kn).1 kn re) (p : Int) d) gr cl c i).1, V) ∧ pBx V E kn ∧ pQy W V ∧ (∀ i : Nat, i < 6 * 5 → V.1 121 i = W.1 121 i ∧ V.1 122 i = W.1 122 i) ∧ V.1 120 6 = (sFs (sVal E (sGs E kn).1 kn (sBv E (sGs E kn).1 kn re) (p : Int) d) gr cl c i).2 ∧ V.1 120 7 = if (sFs (sVal E (sGs E kn).1 kn (sBv E (sGs E kn).1 kn re) (p : Int) d) gr cl c i).1 = -1 then bs else 0 := by
  have up : ∀ (W : jW) (a b : Int), pBx W E kn → pBx (vu (vu W 120 6 a) 120 7 b) E kn := fun W a b P => pBx_Q P (pVk_u (pVk_u P.1 (by decide)) (by decide)) (pQy_u (pQy_u pQy_r (by decide)) (by decide)) ((vu_n (by decide)).trans (vu_n (by decide)))
  have uq : ∀ (W : jW) (a b : Int), pQy W (vu (vu W 120 6 a) 120 7 b) := fun W a b => pQy_u (pQy_u pQy_r (by decide)) (by decide)
  intro c
  induction c with
  | zero =>
    intro i f W e hf P h
    obtain ⟨f, rfl⟩ : ∃ q, f = q + 1 := ⟨f - 1, by omega⟩
    refine ⟨vu (vu W 120 6 (-1)) 120 7 bs, if_pos (by omega), up W _ _ P, uq W _ _, fun i hi => ⟨(vu_n (by omega)).trans (vu_n (by omega)), (vu_n (by omega)).trans (vu_n (by omega))⟩, (vu_n (by decide)).trans (vu_e rfl), ?_⟩
    rw [if_pos (show (sFs (sVal E (sGs E kn).1 kn (sBv E (sGs E kn).1 kn re) (p : Int) d) gr cl 0 i).1 = -1 from rfl)]
    exact vu_e rfl
  | succ c ih =>
    intro i f W e hf P h
    obtain ⟨f, rfl⟩ : ∃ q, f = q + 1 := ⟨f - 1, by omega⟩
    have hi := h i (by omega)
    have q := by_5 H I hp ep hdd P (hg i (by omega))
    have st : d_X6_belongs_r120_c5d_238 (f + 1) (p : Int) d (n : Int) bs (i : Int) W = (if (d_X6_parishBy_r120_c5d (gr i) (p : Int) d W).1 = -1 then d_X6_belongs_r120_c5d_238 f (p : Int) d (n : Int) bs ((i : Int) + 1) (d_X6_parishBy_r120_c5d (gr i) (p : Int) d W).2 else ((d_X6_parishBy_r120_c5d (gr i) (p : Int) d W).1, vu (vu (d_X6_parishBy_r120_c5d (gr i) (p : Int) d W).2 120 6 ((d_X6_parishBy_r120_c5d (gr i) (p : Int) d W).2.1 122 (30 + (i : Int)).toNat)) 120 7 0)) := by
      refine (if_neg (by omega)).trans ?_
      rw [show W.1 121 (30 + (i : Int)).toNat = gr i from by rw [show (30 + (i : Int)).toNat = 6 * 5 + i from by omega]; exact hi.1]
    rw [st, show (30 + (i : Int)).toNat = 6 * 5 + i from by omega]
    generalize d_X6_parishBy_r120_c5d (gr i) (p : Int) d W = Z at *
    have z2 : Z.2.1 122 (6 * 5 + i) = cl i := (q.2.2.2 _ (by omega)).2.trans hi.2
    by_cases z : Z.1 = -1
    · have sf : sFs (sVal E (sGs E kn).1 kn (sBv E (sGs E kn).1 kn re) (p : Int) d) gr cl (c + 1) i = sFs (sVal E (sGs E kn).1 kn (sBv E (sGs E kn).1 kn re) (p : Int) d) gr cl c (i + 1) := if_pos (q.1.symm.trans z)
      rw [if_pos z, sf]
      obtain ⟨V, v1, v2, v3, v4, v5⟩ := ih (i + 1) f Z.2 (by omega) (by omega) q.2.1 (fun j hj => ⟨(q.2.2.2 _ (by omega)).1.trans (h j hj).1, (q.2.2.2 _ (by omega)).2.trans (h j hj).2⟩)
      rw [show ((i + 1 : Nat) : Int) = (i : Int) + 1 from by omega] at v1
      exact ⟨V, v1, v2, pQy_t q.2.2.1 v3, fun j hj => ⟨(v4 j hj).1.trans (q.2.2.2 j (by omega)).1, (v4 j hj).2.trans (q.2.2.2 j (by omega)).2⟩, v5⟩
    · have sf : sFs (sVal E (sGs E kn).1 kn (sBv E (sGs E kn).1 kn re) (p : Int) d) gr cl (c + 1) i = (sVal E (sGs E kn).1 kn (sBv E (sGs E kn).1 kn re) (p : Int) d (gr i), cl i) := if_neg (fun y => z (q.1.trans y))
      rw [if_neg z, sf, z2, q.1]
      refine ⟨_, rfl, up _ _ _ q.2.1, pQy_t q.2.2.1 (uq _ _ _), fun j hj => ⟨((vu_n (by omega)).trans (vu_n (by omega))).trans (q.2.2.2 j (by omega)).1, ((vu_n (by omega)).trans (vu_n (by omega))).trans (q.2.2.2 j (by omega)).2⟩, (vu_n (by decide)).trans (vu_e rfl), ?_⟩
      rw [if_neg (fun y => z (q.1.trans y))]
      exact vu_e rfl
theorem bz_5 {re : Int → Int → Int} (H : pBel d_X6_belongs_r120_c6d E kn re 6) (I : pIq E (sGs E kn).1) (Ik : pIk E.1) (Il : pIl E.1) (I1 : pI1 E.1) (O : ∀ d : Int, 0 ≤ d ∧ d ≤ 146399 → ∀ p : Nat, p < sNl E → (sGs E kn).1 p = (p : Int) → qOk fun w => sQu E (sGs E kn).1 d kn w (p : Int)) : pBel d_X6_belongs_r120_c5d E kn (sBv E (sGs E kn).1 kn re) 5 := by
  intro s d X hs hJ hdd P
  have u0 : pVk (vu (vu X 120 6 (-1)) 120 7 0) E kn := pVk_u (pVk_u P.1 (by decide)) (by decide)
  have uq : pQy X (vu (vu X 120 6 (-1)) 120 7 0) := pQy_u (pQy_u pQy_r (by decide)) (by decide)
  have u5 : (vu (vu X 120 6 (-1)) 120 7 0).1 120 5 = X.1 120 5 := (vu_n (by decide)).trans (vu_n (by decide))
  rcases hs with rfl | ⟨p, hp, rfl, ep⟩
  · have e : d_X6_belongs_r120_c5d (-1) d X = (-1, vu (vu X 120 6 (-1)) 120 7 0) := if_pos rfl
    rw [e]
    exact ⟨(if_pos rfl).symm, pBx_Q P u0 uq u5, uq, fun i hi => ⟨(vu_n (by omega)).trans (vu_n (by omega)), (vu_n (by omega)).trans (vu_n (by omega))⟩, fun y => absurd rfl y⟩
  · have e : d_X6_belongs_r120_c5d (p : Int) d X = d_X6_belongs_r120_c5d_54 3 (p : Int) d 0 0 0 (d_X0_readHouses_r98d d kn (d_X0_readLaws_r98d d kn (vu (vu X 120 6 (-1)) 120 7 0))) := by
      unfold d_X6_belongs_r120_c5d
      rw [if_neg (show ¬ (p : Int) = -1 from by omega), P.2.2]
    rw [e]
    obtain ⟨l1, l2, l3, l4, l5, l6, l7⟩ := xtl (d := d) u0 Il Ik
    generalize hW1 : d_X0_readLaws_r98d d kn (vu (vu X 120 6 (-1)) 120 7 0) = W1 at *
    obtain ⟨h1, h2, h3, h4⟩ := xth (d := d) l2 I.2.1 l1
    generalize hW2 : d_X0_readHouses_r98d d kn W1 = W2 at *
    have y2 : pQy X W2 := pQy_t uq (pQy_t l5 h3)
    have s121 : W2.1 121 = X.1 121 := ((h4 121 (by decide)).1.trans (l6 121 (by decide))).trans ((vu_c (by decide)).trans (vu_c (by decide)))
    have s122 : W2.1 122 = X.1 122 := ((h4 122 (by decide)).1.trans (l6 122 (by decide))).trans ((vu_c (by decide)).trans (vu_c (by decide)))
    have s120 : W2.1 120 = (vu (vu X 120 6 (-1)) 120 7 0).1 120 := (h4 120 (by decide)).1.trans (l6 120 (by decide))
    obtain ⟨V, v1, v2⟩ := b54_5 h1 I hdd hp ep Ik Il I1 (O d hdd p hp ep) pZ_r rfl (fun _ _ => ⟨rfl, rfl⟩)
    rw [v1]
    have PV : pBx V E kn := pBx_Q P (pVk_Z h2 v2.1) (pQy_t y2 (zQy v2.1)) (by rw [v2.2.1, s120]; exact u5)
    obtain ⟨Z, z1, z2, z3, z4, z5, z6⟩ := b238_5 H I hp ep hdd (bl_6 I1 720) (bl_c I1 720).2 (sBl E (sGs E kn).1 d kn (p : Int) 720).1 0 7 V (by omega) (by have := bl_6 (E := E) (g := (sGs E kn).1) (d := d) (kn := kn) (s := (p : Int)) I1 720; omega) PV v2.2.2.2 (bs := (sBl E (sGs E kn).1 d kn (p : Int) 720).2.2.2)
    rw [show ((0 : Nat) : Int) = 0 from rfl] at z1
    rw [z1]
    refine ⟨(if_neg (show ¬ (p : Int) = -1 from by omega)).symm, z2, pQy_t (pQy_t y2 (zQy v2.1)) z3, fun i hi => ?_, fun _ => ⟨z5, z6⟩⟩
    exact ⟨(z4 i hi).1.trans ((v2.2.2.1 i hi).1.trans (by rw [s121])), (z4 i hi).2.trans ((v2.2.2.1 i hi).2.trans (by rw [s122]))⟩
theorem b115_4 {t : Int} {T hd so p : Nat} {X : jW} (K54 : Int → Int → Int → Int → Int → jW → (Int × jW)) (K63 : Int → Int → Int → Int → Int → Int → jW → (Int × jW)) (Q : pV X E g d kn) (I : pIq E g) (hdd : 0 ≤ d ∧ d ≤ 146399) (hp : p < sNl E) (ep : g p = (p : Int)) (Ik : pIk E.1) (Il : pIl E.1) (I1 : pI1 E.1) (O : qOk fun w => sQu E g d kn w (p : Int)) (ht : 0 ≤ t ∧ t < E.1 4) (Qe : pTe X E.1 t T hd) (hso : so ≤ 1) (es : E.1 (18820 + (924 * t)).toNat = (so : Int)) : ∀ (q c f : Nat) (W : jW), (c : Int) + (q : Int) = E.1 ((18820 + (924 * t)) + 3).toNat → q < f → pBw X W 4 (sBl E g d kn (p : Int) (360 * so + 12 * t.toNat + c)) → ∃ V : jW, d_X6_belongs_r120_c4d_115 K54 K63 f (p : Int) d ((sBl E g d kn (p : Int) (360 * so + 12 * t.toNat + c)).1 : Int) (sBl E g d kn (p : Int) (360 * so + 12 * t.toNat + c)).2.2.2 (so : Int) t T (E.1 ((18820 + (924 * t)) + 3).toNat) (c : Int) W = K63 (p : Int) d ((sBl E g d kn (p : Int) (360 * so + 12 * t.toNat + (c + q))).1 : Int) (sBl E g d kn (p : Int) (360 * so + 12 * t.toNat + (c + q))).2.2.2 (so : Int) (t + 1) V ∧ pBw X V 4 (sBl E g d kn (p : Int) (360 * so + 12 * t.toNat + (c + q))) := by
  have b30 := Il.2.1
  have J12 := (Il.2.2 t ht.1 ht.2).2.1
  have T0 : ¬ T = 0 := by have := Qe.1; omega
  intro q
  induction q with
  | zero =>
    intro c f W e hf h
    obtain ⟨f, rfl⟩ : ∃ q, f = q + 1 := ⟨f - 1, by omega⟩
    exact ⟨W, (if_neg T0).trans (if_pos (by omega)), h⟩
  | succ q ih =>
    intro c f W e hf h
    obtain ⟨f, rfl⟩ : ∃ q, f = q + 1 := ⟨f - 1, by omega⟩
    have QW := pTe_Qy (zQy h.1) Qe
    have hc : (0 : Int) ≤ (c : Int) ∧ (c : Int) < E.1 ((18820 + (924 * t)) + 3).toNat := by omega
    have H := QW.2.2.2.2.2.2.2 (c : Int) hc.1 hc.2
    have k0 := (he_e QW hc.1 hc.2 (show (0 : Int) ≤ 0 ∧ (0 : Int) < 6 from by decide)).trans H.1
    have k1 := (he_e QW hc.1 hc.2 (show (0 : Int) ≤ 1 ∧ (1 : Int) < 6 from by decide)).trans H.2.1
    have kt : ((360 * so + 12 * t.toNat + c : Nat) : Int) % 360 / 12 = t := by omega
    have kc : ((360 * so + 12 * t.toNat + c : Nat) : Int) % 12 = (c : Int) := by omega
    have ks : ((360 * so + 12 * t.toNat + c : Nat) : Int) / 360 = (so : Int) := by omega
    have k3 : ((360 * so + 12 * t.toNat + c : Nat) : Int) % 360 = t * 12 + (c : Int) := by omega
    have gk : sBg E.1 ((360 * so + 12 * t.toNat + c : Nat) : Int) = E.1 ((((18820 + (924 * t)) + 4) + (10 * (c : Int))) + 1).toNat := by
      unfold sBg
      rw [kt, kc]
    have pk : sBh E g d kn (p : Int) ((360 * so + 12 * t.toNat + c : Nat) : Int) ↔ E.1 (((18820 + (924 * t)) + 4) + (10 * (c : Int))).toNat = 1 ∧ sHd E.1 d kn t (c : Int) fun w => sQu E g d kn w (p : Int) := by
      unfold sBh
      rw [kt, kc, ks]
      exact ⟨fun y => y.2.2.2, fun y => ⟨⟨by omega, by omega⟩, ⟨by omega, by omega⟩, es, y⟩⟩
    have hz := xhz (t := t) (c := (c : Int)) Q I hdd hp ep Ik Il O ht hc h.1
    have lt6 := fun a b => bl_l (E := E) (g := g) (d := d) (kn := kn) (s := (p : Int)) (k := 360 * so + 12 * t.toNat + c) I1 a b
    have go : ∀ W1 : jW, ¬ (sBh E g d kn (p : Int) ((360 * so + 12 * t.toNat + c : Nat) : Int) ∧ j_iand (j_ishr (sBl E g d kn (p : Int) (360 * so + 12 * t.toNat + c)).2.2.2 (sBg E.1 ((360 * so + 12 * t.toNat + c : Nat) : Int))) 1 = 0) → pBw X W1 4 (sBl E g d kn (p : Int) (360 * so + 12 * t.toNat + c)) → ∃ V : jW, d_X6_belongs_r120_c4d_115 K54 K63 f (p : Int) d ((sBl E g d kn (p : Int) (360 * so + 12 * t.toNat + c)).1 : Int) (sBl E g d kn (p : Int) (360 * so + 12 * t.toNat + c)).2.2.2 (so : Int) t T (E.1 ((18820 + (924 * t)) + 3).toNat) ((c : Int) + 1) W1 = K63 (p : Int) d ((sBl E g d kn (p : Int) (360 * so + 12 * t.toNat + (c + (q + 1)))).1 : Int) (sBl E g d kn (p : Int) (360 * so + 12 * t.toNat + (c + (q + 1)))).2.2.2 (so : Int) (t + 1) V ∧ pBw X V 4 (sBl E g d kn (p : Int) (360 * so + 12 * t.toNat + (c + (q + 1)))) := fun W1 ne hw => by
      have e1 : sBl E g d kn (p : Int) (360 * so + 12 * t.toNat + (c + 1)) = sBl E g d kn (p : Int) (360 * so + 12 * t.toNat + c) := bl_n ne
      have y := ih (c + 1) f W1 (by omega) (by omega) (by rw [e1]; exact hw)
      rw [e1, show c + 1 + q = c + (q + 1) from by omega, show ((c + 1 : Nat) : Int) = (c : Int) + 1 from by omega] at y
      exact y
    have st : d_X6_belongs_r120_c4d_115 K54 K63 (f + 1) (p : Int) d ((sBl E g d kn (p : Int) (360 * so + 12 * t.toNat + c)).1 : Int) (sBl E g d kn (p : Int) (360 * so + 12 * t.toNat + c)).2.2.2 (so : Int) t T (E.1 ((18820 + (924 * t)) + 3).toNat) (c : Int) W = (if d_head T (c : Int) 0 W = 0 then (if j_iand (j_ishr (sBl E g d kn (p : Int) (360 * so + 12 * t.toNat + c)).2.2.2 (d_head T (c : Int) 1 W)) 1 = 0 then (if 6 ≤ ((sBl E g d kn (p : Int) (360 * so + 12 * t.toNat + c)).1 : Int) then d_X6_belongs_r120_c4d_115 K54 K63 f (p : Int) d ((sBl E g d kn (p : Int) (360 * so + 12 * t.toNat + c)).1 : Int) (sBl E g d kn (p : Int) (360 * so + 12 * t.toNat + c)).2.2.2 (so : Int) t T (E.1 ((18820 + (924 * t)) + 3).toNat) ((c : Int) + 1) W else if (d_X0_holdsFor_r98d t (c : Int) (p : Int) W).1 = 0 then d_X6_belongs_r120_c4d_115 K54 K63 f (p : Int) d ((sBl E g d kn (p : Int) (360 * so + 12 * t.toNat + c)).1 : Int) (sBl E g d kn (p : Int) (360 * so + 12 * t.toNat + c)).2.2.2 (so : Int) t T (E.1 ((18820 + (924 * t)) + 3).toNat) ((c : Int) + 1) (d_X0_holdsFor_r98d t (c : Int) (p : Int) W).2 else d_X6_belongs_r120_c4d_115 K54 K63 f (p : Int) d (((sBl E g d kn (p : Int) (360 * so + 12 * t.toNat + c)).1 : Int) + 1) (j_ior (sBl E g d kn (p : Int) (360 * so + 12 * t.toNat + c)).2.2.2 (j_ishl 1 (d_head T (c : Int) 1 W))) (so : Int) t T (E.1 ((18820 + (924 * t)) + 3).toNat) ((c : Int) + 1) (vu (vu (d_X0_holdsFor_r98d t (c : Int) (p : Int) W).2 121 (24 + ((sBl E g d kn (p : Int) (360 * so + 12 * t.toNat + c)).1 : Int)).toNat (d_head T (c : Int) 1 W)) 122 (24 + ((sBl E g d kn (p : Int) (360 * so + 12 * t.toNat + c)).1 : Int)).toNat (t * 12 + (c : Int)))) else d_X6_belongs_r120_c4d_115 K54 K63 f (p : Int) d ((sBl E g d kn (p : Int) (360 * so + 12 * t.toNat + c)).1 : Int) (sBl E g d kn (p : Int) (360 * so + 12 * t.toNat + c)).2.2.2 (so : Int) t T (E.1 ((18820 + (924 * t)) + 3).toNat) ((c : Int) + 1) W) else d_X6_belongs_r120_c4d_115 K54 K63 f (p : Int) d ((sBl E g d kn (p : Int) (360 * so + 12 * t.toNat + c)).1 : Int) (sBl E g d kn (p : Int) (360 * so + 12 * t.toNat + c)).2.2.2 (so : Int) t T (E.1 ((18820 + (924 * t)) + 3).toNat) ((c : Int) + 1) W) := (if_neg T0).trans (if_neg (by omega))
    rw [st, k0, k1]
    by_cases n0 : E.1 (((18820 + (924 * t)) + 4) + (10 * (c : Int))).toNat = 1
    · rw [n0, if_neg (show ¬ (1 : Int) = 0 from by decide), if_neg (show ¬ (1 : Int) = 0 from by decide), if_pos (show (1 : Int) - 1 = 0 from by decide), ← gk, ← k3]
      by_cases n1 : j_iand (j_ishr (sBl E g d kn (p : Int) (360 * so + 12 * t.toNat + c)).2.2.2 (sBg E.1 ((360 * so + 12 * t.toNat + c : Nat) : Int))) 1 = 0
      · rw [if_pos n1]
        by_cases n2 : sHd E.1 d kn t (c : Int) fun w => sQu E g d kn w (p : Int)
        · have hb := pk.mpr ⟨n0, n2⟩
          have l6 := lt6 hb n1
          have e1 : sBl E g d kn (p : Int) (360 * so + 12 * t.toNat + (c + 1)) = _ := bl_y hb n1
          rw [if_neg (by omega), hz.1, tv_t n2, if_neg (show ¬ (1 : Int) = 0 from by decide)]
          have y := ih (c + 1) f (vu (vu (d_X0_holdsFor_r98d t (c : Int) (p : Int) W).2 121 (6 * 4 + (sBl E g d kn (p : Int) (360 * so + 12 * t.toNat + c)).1) (sBg E.1 ((360 * so + 12 * t.toNat + c : Nat) : Int))) 122 (6 * 4 + (sBl E g d kn (p : Int) (360 * so + 12 * t.toNat + c)).1) (((360 * so + 12 * t.toNat + c : Nat) : Int) % 360)) (by omega) (by omega) (by rw [e1]; exact pBw_a (pBw_h h hz.2.1 hz.2.2))
          rw [e1, show c + 1 + q = c + (q + 1) from by omega, show ((c + 1 : Nat) : Int) = (c : Int) + 1 from by omega] at y
          rw [show (24 + ((sBl E g d kn (p : Int) (360 * so + 12 * t.toNat + c)).1 : Int)).toNat = 6 * 4 + (sBl E g d kn (p : Int) (360 * so + 12 * t.toNat + c)).1 from by omega]
          exact y
        · have ne : ¬ (sBh E g d kn (p : Int) ((360 * so + 12 * t.toNat + c : Nat) : Int) ∧ j_iand (j_ishr (sBl E g d kn (p : Int) (360 * so + 12 * t.toNat + c)).2.2.2 (sBg E.1 ((360 * so + 12 * t.toNat + c : Nat) : Int))) 1 = 0) := fun y => n2 (pk.mp y.1).2
          by_cases n3 : 6 ≤ ((sBl E g d kn (p : Int) (360 * so + 12 * t.toNat + c)).1 : Int)
          · rw [if_pos n3]; exact go W ne h
          · rw [if_neg n3, hz.1, tv_f n2, if_pos rfl]; exact go _ ne (pBw_h h hz.2.1 hz.2.2)
      · rw [if_neg n1]; exact go W (fun y => n1 y.2) h
    · rw [if_neg (show ¬ (if E.1 (((18820 + (924 * t)) + 4) + (10 * (c : Int))).toNat = 0 then 8 else E.1 (((18820 + (924 * t)) + 4) + (10 * (c : Int))).toNat - 1) = 0 from by
        by_cases q : E.1 (((18820 + (924 * t)) + 4) + (10 * (c : Int))).toNat = 0
        · rw [if_pos q]; decide
        · rw [if_neg q]; omega)]
      exact go W (fun y => n0 (pk.mp y.1).1) h
theorem b63_4 {so p : Nat} {X : jW} (K54 : Int → Int → Int → Int → Int → jW → (Int × jW)) (Q : pV X E g d kn) (I : pIq E g) (hdd : 0 ≤ d ∧ d ≤ 146399) (hp : p < sNl E) (ep : g p = (p : Int)) (Ik : pIk E.1) (Il : pIl E.1) (I1 : pI1 E.1) (O : qOk fun w => sQu E g d kn w (p : Int)) (hso : so ≤ 1) : ∀ (q t f : Nat) (W : jW), (t : Int) + (q : Int) = E.1 4 → q < f → pBw X W 4 (sBl E g d kn (p : Int) (360 * so + 12 * t)) → ∃ V : jW, d_X6_belongs_r120_c4d_63 K54 f (p : Int) d ((sBl E g d kn (p : Int) (360 * so + 12 * t)).1 : Int) (sBl E g d kn (p : Int) (360 * so + 12 * t)).2.2.2 (so : Int) (t : Int) W = K54 (p : Int) d ((sBl E g d kn (p : Int) (360 * so + 360)).1 : Int) (sBl E g d kn (p : Int) (360 * so + 360)).2.2.2 ((so : Int) + 1) V ∧ pBw X V 4 (sBl E g d kn (p : Int) (360 * so + 360)) := by
  have b30 := Il.2.1
  intro q
  induction q with
  | zero =>
    intro t f W e hf h
    obtain ⟨f, rfl⟩ : ∃ q, f = q + 1 := ⟨f - 1, by omega⟩
    have c32 : W.1 32 18 = E.1 4 := (pTc_Qy (zQy h.1) Q.2.1).1
    have e1 : sBl E g d kn (p : Int) (360 * so + 360) = sBl E g d kn (p : Int) (360 * so + 12 * t) := bl_u (by omega) (fun j j1 j2 y => by
      have y2 := y.1.2
      omega)
    rw [e1]
    exact ⟨W, if_pos (by omega), h⟩
  | succ q ih =>
    intro t f W e hf h
    obtain ⟨f, rfl⟩ : ∃ q, f = q + 1 := ⟨f - 1, by omega⟩
    have c32 : W.1 32 18 = E.1 4 := (pTc_Qy (zQy h.1) Q.2.1).1
    obtain ⟨T, hd, eT, Qe, _⟩ := Q.2.1.2 (t : Int) (by omega) (by omega)
    have QW := pTe_Qy (zQy h.1) Qe
    have T0 : ¬ T = 0 := by have := Qe.1; omega
    have eW : W.2.2.1 66 (t : Int).toNat = some T := ((zQy h.1).2.1 66 _ (by omega)).trans eT
    have J12 := Il.2.2 (t : Int) (by omega) (by omega)
    have st : d_X6_belongs_r120_c4d_63 K54 (f + 1) (p : Int) d ((sBl E g d kn (p : Int) (360 * so + 12 * t)).1 : Int) (sBl E g d kn (p : Int) (360 * so + 12 * t)).2.2.2 (so : Int) (t : Int) W = (if E.1 ((18820 + (924 * (t : Int))) + 0).toNat = (so : Int) then d_X6_belongs_r120_c4d_115 K54 (fun l1 l2 l5 l6 l7 l8 W => d_X6_belongs_r120_c4d_63 K54 f l1 l2 l5 l6 l7 l8 W) 13 (p : Int) d ((sBl E g d kn (p : Int) (360 * so + 12 * t)).1 : Int) (sBl E g d kn (p : Int) (360 * so + 12 * t)).2.2.2 (so : Int) (t : Int) T (E.1 ((18820 + (924 * (t : Int))) + 3).toNat) 0 W else d_X6_belongs_r120_c4d_101 K54 (fun l1 l2 l5 l6 l7 l8 W => d_X6_belongs_r120_c4d_63 K54 f l1 l2 l5 l6 l7 l8 W) (p : Int) d ((sBl E g d kn (p : Int) (360 * so + 12 * t)).1 : Int) (sBl E g d kn (p : Int) (360 * so + 12 * t)).2.2.2 (so : Int) (t : Int) T W) := by
      refine (if_neg (by omega)).trans ((if_neg (by omega)).trans ?_)
      rw [eW, if_neg (show ¬ (some T).isNone = true from fun y => Bool.noConfusion y), show (some T).getD 0 = T from rfl, QW.2.2.1, QW.2.2.2.2.2.1]
      rfl
    rw [st, Int.add_zero]
    by_cases n0 : E.1 (18820 + (924 * (t : Int))).toNat = (so : Int)
    · rw [if_pos n0]
      obtain ⟨V, v1, v2⟩ := b115_4 K54 (fun l1 l2 l5 l6 l7 l8 W => d_X6_belongs_r120_c4d_63 K54 f l1 l2 l5 l6 l7 l8 W) Q I hdd hp ep Ik Il I1 O ⟨by omega, by omega⟩ Qe hso n0 (E.1 ((18820 + (924 * (t : Int))) + 3).toNat).toNat 0 13 W (by omega) (by omega) h
      rw [show (t : Int).toNat = t from by omega, Nat.zero_add] at v1 v2
      have e1 : sBl E g d kn (p : Int) (360 * so + 12 * (t + 1)) = sBl E g d kn (p : Int) (360 * so + 12 * t + (E.1 ((18820 + (924 * (t : Int))) + 3).toNat).toNat) := bl_u (by omega) (fun j j1 j2 y => by
        have y2 := y.2.1.2
        rw [show (j : Int) % 360 / 12 = (t : Int) from by omega] at y2
        omega)
      obtain ⟨V2, w1, w2⟩ := ih (t + 1) f V (by omega) (by omega) (by rw [e1]; exact v2)
      rw [e1, show ((t + 1 : Nat) : Int) = (t : Int) + 1 from by omega] at w1
      exact ⟨V2, v1.trans w1, w2⟩
    · rw [if_neg n0]
      have e1 : sBl E g d kn (p : Int) (360 * so + 12 * (t + 1)) = sBl E g d kn (p : Int) (360 * so + 12 * t) := bl_u (by omega) (fun j j1 j2 y => by
        have y2 := y.2.2.1
        rw [show (j : Int) % 360 / 12 = (t : Int) from by omega, show (j : Int) / 360 = (so : Int) from by omega] at y2
        exact n0 y2)
      obtain ⟨V2, w1, w2⟩ := ih (t + 1) f W (by omega) (by omega) (by rw [e1]; exact h)
      rw [e1, show ((t + 1 : Nat) : Int) = (t : Int) + 1 from by omega] at w1
      refine ⟨V2, Eq.trans ?_ w1, w2⟩
      unfold d_X6_belongs_r120_c4d_101 d_X6_belongs_r120_c4d_200110
      rw [if_neg T0, if_neg T0]
      exact (if_neg T0).trans (if_pos (by decide))
theorem b54_4 {p : Nat} {X W : jW} (Q : pV X E g d kn) (I : pIq E g) (hdd : 0 ≤ d ∧ d ≤ 146399) (hp : p < sNl E) (ep : g p = (p : Int)) (Ik : pIk E.1) (Il : pIl E.1) (I1 : pI1 E.1) (O : qOk fun w => sQu E g d kn w (p : Int)) (z : pZ X W) (e120 : W.1 120 = X.1 120) (e1 : ∀ i : Nat, i < 6 * 4 → W.1 121 i = X.1 121 i ∧ W.1 122 i = X.1 122 i) : ∃ V : jW, d_X6_belongs_r120_c4d_54 3 (p : Int) d 0 0 0 W = d_X6_belongs_r120_c4d_238 7 (p : Int) d ((sBl E g d kn (p : Int) 720).1 : Int) (sBl E g d kn (p : Int) 720).2.2.2 0 V ∧ pBw X V 4 (sBl E g d kn (p : Int) 720) := by
  have b30 := Il
  have h0 : pBw X W 4 (sBl E g d kn (p : Int) (360 * 0 + 12 * 0)) := ⟨z, e120, e1, fun i hi => absurd hi (Nat.not_lt_zero i)⟩
  obtain ⟨V, v1, v2⟩ := b63_4 (so := 0) (fun l1 l2 l5 l6 l7 W => d_X6_belongs_r120_c4d_54 2 l1 l2 l5 l6 l7 W) Q I hdd hp ep Ik Il I1 O (by decide) (E.1 4).toNat 0 31 W (by have := Il.1; omega) (by have := Il.2.1; omega) h0
  obtain ⟨V2, w1, w2⟩ := b63_4 (so := 1) (fun l1 l2 l5 l6 l7 W => d_X6_belongs_r120_c4d_54 1 l1 l2 l5 l6 l7 W) Q I hdd hp ep Ik Il I1 O (by decide) (E.1 4).toNat 0 31 V (by have := Il.1; omega) (by have := Il.2.1; omega) v2
  refine ⟨V2, ?_, w2⟩
  have s1 : d_X6_belongs_r120_c4d_54 3 (p : Int) d 0 0 0 W = d_X6_belongs_r120_c4d_63 (fun l1 l2 l5 l6 l7 W => d_X6_belongs_r120_c4d_54 2 l1 l2 l5 l6 l7 W) 31 (p : Int) d 0 0 0 0 W := if_neg (by decide)
  have s2 : d_X6_belongs_r120_c4d_54 2 (p : Int) d ((sBl E g d kn (p : Int) (360 * 0 + 360)).1 : Int) (sBl E g d kn (p : Int) (360 * 0 + 360)).2.2.2 (((0 : Nat) : Int) + 1) V = d_X6_belongs_r120_c4d_63 (fun l1 l2 l5 l6 l7 W => d_X6_belongs_r120_c4d_54 1 l1 l2 l5 l6 l7 W) 31 (p : Int) d ((sBl E g d kn (p : Int) (360 * 1 + 12 * 0)).1 : Int) (sBl E g d kn (p : Int) (360 * 1 + 12 * 0)).2.2.2 ((1 : Nat) : Int) ((0 : Nat) : Int) V := if_neg (by decide)
  have s3 : d_X6_belongs_r120_c4d_54 1 (p : Int) d ((sBl E g d kn (p : Int) (360 * 1 + 360)).1 : Int) (sBl E g d kn (p : Int) (360 * 1 + 360)).2.2.2 (((1 : Nat) : Int) + 1) V2 = d_X6_belongs_r120_c4d_238 7 (p : Int) d ((sBl E g d kn (p : Int) 720).1 : Int) (sBl E g d kn (p : Int) 720).2.2.2 0 V2 := if_pos (by decide)
  exact s1.trans (v1.trans (s2.trans (w1.trans s3)))
theorem bw_4 {W : jW} {p : Nat} (P : pXs W E g) (hp : p < sNl E) (ep : g p = (p : Int)) : d_X6_byWedding_r120_c4d (p : Int) d W = d_X6_byWedding_r120_c4d_103 d (sMo E g (p : Int) 4 d) W := by
  have h6 := xs_6 P
  have key := @ch_f (Int × Int) (Int × jW) g (sNl E) (p : Int) h6 (fun m => W.1 83 m) (xs_n P (by omega)) (fun r m n a => d_X6_byWedding_r120_c4d_12 r d a.1 a.2 m n W) (wdf E d) (fun a => d_X6_byWedding_r120_c4d_103 d a.2 W) (fun r n a => if_pos rfl) (fun r m n a hm hz hn => by
    obtain ⟨l1, l2, l3⟩ := @xs_l W E g P m hm
    change W.1 80 m = sDy E m at l2
    refine (if_neg (show ¬ (m : Int) = -1 from by omega)).trans ((if_neg (show ¬ (600 : Int) ≤ (n : Int) from by omega)).trans ?_)
    rw [show ((m : Int)).toNat = m from by omega, l1, l2]
    show (if sCo E m = 4 then (if d < sDy E m then d_X6_byWedding_r120_c4d_12 r d a.1 a.2 (W.1 83 ((m : Int)).toNat) ((n : Int) + 1) W else if sDy E m < a.1 then d_X6_byWedding_r120_c4d_12 r d a.1 a.2 (W.1 83 ((m : Int)).toNat) ((n : Int) + 1) W else d_X6_byWedding_r120_c4d_12 r d (sDy E m) (m : Int) (W.1 83 ((m : Int)).toNat) ((n : Int) + 1) W) else d_X6_byWedding_r120_c4d_12 r d a.1 a.2 (W.1 83 ((m : Int)).toNat) ((n : Int) + 1) W) = d_X6_byWedding_r120_c4d_12 r d (wdf E d a m).1 (wdf E d a m).2 (W.1 83 m) ((n : Int) + 1) W
    rw [show ((m : Int)).toNat = m from by omega]
    unfold wdf
    by_cases q1 : sCo E m = 4
    · rw [if_pos q1]
      by_cases q2 : d < sDy E m
      · rw [if_pos q2, if_neg (fun y => by omega)]
      · rw [if_neg q2]
        by_cases q3 : sDy E m < a.1
        · rw [if_pos q3, if_neg (fun y => by omega)]
        · rw [if_neg q3, if_pos ⟨q1, by omega, by omega⟩]
    · rw [if_neg q1, if_neg (fun y => q1 y.1)]) (sNl E) 0 601 0 (-1, -1) rfl (by omega) (by omega)
  rw [xs_f P hp ep, show ((0 : Nat) : Int) = 0 from rfl, wd_f P.2.2.2.2.2.2.2 (sNl E) 0 (-1) (-1) (by omega) (Or.inl ⟨rfl, rfl⟩)] at key
  exact key
theorem bn_4 {W : jW} {m : Nat} (P : pXs W E g) (N : pNe W E) (h3 : m % 3 = 1) (hm : m < sNl E) : d_X6_byWedding_r120_c4d_103 d (m : Int) W = d_X6_belongs_r120_c5d (sNa E g (m - 1)) d W := by
  have h6 := xs_6 P
  have nl : W.1 33 3 = E.1 0 := P.2.2.1
  have b0 := P.2.1
  have g1 : W.1 82 ((m : Int) - 1).toNat = g (m - 1) := by rw [show ((m : Int) - 1).toNat = m - 1 from by omega]; exact P.2.2.2.2.1 (m - 1) (by omega)
  have q0 := N (m - 1) 0 (by omega) (by decide)
  have q1 := N (m - 1) 1 (by omega) (by decide)
  rw [show 2 * (m - 1) + 0 = ((((m : Int) - 1) * 2) + 0).toNat from by omega] at q0
  rw [show 2 * (m - 1) + 1 = ((((m : Int) - 1) * 2) + 1).toNat from by omega] at q1
  have n4 : ¬ W.1 33 3 ≤ ((m : Int) - 1) / 3 := by unfold sNl at hm; omega
  unfold d_X6_byWedding_r120_c4d_103 d_X6_byWedding_r120_c4d_138
  rw [if_neg (show ¬ (m : Int) = -1 from by omega), if_neg (show ¬ (((m : Int) - 1) * 2) + 0 < 0 from by omega)]
  by_cases a : 0 ≤ W.1 76 ((((m : Int) - 1) * 2) + 0).toNat
  · rw [if_pos a, if_neg (show ¬ (m : Int) - 1 < 0 from by omega), if_neg n4, g1]
    rw [show sNa E g (m - 1) = g (m - 1) from if_neg (by rw [tv_t (Or.inl (q0.mp a))]; decide)]
  · rw [if_neg a, if_neg (show ¬ (((m : Int) - 1) * 2) + 1 < 0 from by omega)]
    by_cases b : W.1 76 ((((m : Int) - 1) * 2) + 1).toNat < 0
    · rw [if_pos b]
      rw [show sNa E g (m - 1) = -1 from if_pos (tv_f (fun y => y.elim (fun y => a (q0.mpr y)) (fun y => by have := q1.mpr y; omega)))]
    · rw [if_neg b, if_neg (show ¬ (m : Int) - 1 < 0 from by omega), if_neg n4, g1]
      rw [show sNa E g (m - 1) = g (m - 1) from if_neg (by rw [tv_t (Or.inr (q1.mp (by omega)))]; decide)]
theorem bp_4 {W : jW} {m p : Nat} (P : pXs W E g) (N : pNe W E) (hb : d_X7_birthOf_r78d (p : Int) W = (m : Int)) (h3 : m % 3 = 0) (hm : m + 2 < sNl E) : d_X6_byParents_r120_c4d (p : Int) W = if (d_X6_belongs_r120_c5d (sNa E g (m + 1)) (sDy E m) W).1 = -1 then d_X6_belongs_r120_c5d (sNa E g (m + 2)) (sDy E m) (d_X6_belongs_r120_c5d (sNa E g (m + 1)) (sDy E m) W).2 else d_X6_belongs_r120_c5d (sNa E g (m + 1)) (sDy E m) W := by
  have h6 := xs_6 P
  have nl : W.1 33 3 = E.1 0 := P.2.2.1
  have b0 := P.2.1
  have l2 := (@xs_l W E g P m (by omega)).2.1
  change W.1 80 m = sDy E m at l2
  have g1 : W.1 82 ((m : Int) + 1).toNat = g (m + 1) := by rw [show ((m : Int) + 1).toNat = m + 1 from by omega]; exact P.2.2.2.2.1 (m + 1) (by omega)
  have g2 : W.1 82 ((m : Int) + 2).toNat = g (m + 2) := by rw [show ((m : Int) + 2).toNat = m + 2 from by omega]; exact P.2.2.2.2.1 (m + 2) (by omega)
  have p0 := N (m + 1) 0 (by omega) (by decide)
  have p1 := N (m + 1) 1 (by omega) (by decide)
  have q0 := N (m + 2) 0 (by omega) (by decide)
  have q1 := N (m + 2) 1 (by omega) (by decide)
  rw [show 2 * (m + 1) + 0 = ((((m : Int) + 1) * 2) + 0).toNat from by omega] at p0
  rw [show 2 * (m + 1) + 1 = ((((m : Int) + 1) * 2) + 1).toNat from by omega] at p1
  rw [show 2 * (m + 2) + 0 = ((((m : Int) + 2) * 2) + 0).toNat from by omega] at q0
  rw [show 2 * (m + 2) + 1 = ((((m : Int) + 2) * 2) + 1).toNat from by omega] at q1
  have n1 : ¬ W.1 33 3 ≤ ((m : Int) + 1) / 3 := by unfold sNl at hm; omega
  have n2 : ¬ W.1 33 3 ≤ ((m : Int) + 2) / 3 := by unfold sNl at hm; omega
  have o1 : ¬ 600 ≤ (m : Int) + 1 := by omega
  have o2 : ¬ 600 ≤ (m : Int) + 2 := by omega
  have r0 : ¬ 1200 ≤ (((m : Int) + 1) * 2) + 0 := by omega
  have r1 : ¬ 1200 ≤ (((m : Int) + 1) * 2) + 1 := by omega
  have s0 : ¬ 1200 ≤ (((m : Int) + 2) * 2) + 0 := by omega
  have s1 : ¬ 1200 ≤ (((m : Int) + 2) * 2) + 1 := by omega
  have second : ∀ Z : Int × jW, (if 0 ≤ W.1 76 ((((m : Int) + 2) * 2) + 0).toNat then d_X6_belongs_r120_c5d (g (m + 2)) (sDy E m) Z.2 else if W.1 76 ((((m : Int) + 2) * 2) + 1).toNat < 0 then d_X6_belongs_r120_c5d (-1) (sDy E m) Z.2 else d_X6_belongs_r120_c5d (g (m + 2)) (sDy E m) Z.2) = d_X6_belongs_r120_c5d (sNa E g (m + 2)) (sDy E m) Z.2 := fun Z => by
    by_cases a : 0 ≤ W.1 76 ((((m : Int) + 2) * 2) + 0).toNat
    · rw [if_pos a, show sNa E g (m + 2) = g (m + 2) from if_neg (by rw [tv_t (Or.inl (q0.mp a))]; decide)]
    · rw [if_neg a]
      by_cases b : W.1 76 ((((m : Int) + 2) * 2) + 1).toNat < 0
      · rw [if_pos b, show sNa E g (m + 2) = -1 from if_pos (tv_f (fun y => y.elim (fun y => a (q0.mpr y)) (fun y => by have := q1.mpr y; omega)))]
      · rw [if_neg b, show sNa E g (m + 2) = g (m + 2) from if_neg (by rw [tv_t (Or.inr (q1.mp (by omega)))]; decide)]
  unfold d_X6_byParents_r120_c4d d_X6_byParents_r120_c4d_84
  rw [hb, if_neg (show ¬ (m : Int) = -1 from by omega), show ((m : Int)).toNat = m from by omega, l2, g1, g2]
  simp only [if_neg r0, if_neg r1, if_neg s0, if_neg s1, if_neg o1, if_neg o2, if_neg n1, if_neg n2]
  by_cases a : 0 ≤ W.1 76 ((((m : Int) + 1) * 2) + 0).toNat
  · rw [if_pos a, show sNa E g (m + 1) = g (m + 1) from if_neg (by rw [tv_t (Or.inl (p0.mp a))]; decide)]
    by_cases z : (d_X6_belongs_r120_c5d (g (m + 1)) (sDy E m) W).1 = -1
    · rw [if_pos z, if_pos z]; exact second _
    · rw [if_neg z, if_neg z]
  · rw [if_neg a]
    by_cases b : W.1 76 ((((m : Int) + 1) * 2) + 1).toNat < 0
    · rw [if_pos b, show sNa E g (m + 1) = -1 from if_pos (tv_f (fun y => y.elim (fun y => a (p0.mpr y)) (fun y => by have := p1.mpr y; omega)))]
      by_cases z : (d_X6_belongs_r120_c5d (-1) (sDy E m) W).1 = -1
      · rw [if_pos z, if_pos z]; exact second _
      · rw [if_neg z, if_neg z]
    · rw [if_neg b, show sNa E g (m + 1) = g (m + 1) from if_neg (by rw [tv_t (Or.inr (p1.mp (by omega)))]; decide)]
      by_cases z : (d_X6_belongs_r120_c5d (g (m + 1)) (sDy E m) W).1 = -1
      · rw [if_pos z, if_pos z]; exact second _
      · rw [if_neg z, if_neg z]
theorem by_4 {re : Int → Int → Int} (H : pBel d_X6_belongs_r120_c5d E kn re 5) (I : pIq E (sGs E kn).1) {W : jW} {p : Nat} {gr : Int} (hp : p < sNl E) (ep : (sGs E kn).1 p = (p : Int)) (hdd : 0 ≤ d ∧ d ≤ 146399) (P : pBx W E kn) (hg : 0 ≤ gr ∧ gr ≤ 5) : (d_X6_parishBy_r120_c4d gr (p : Int) d W).1 = sVal E (sGs E kn).1 kn (sBv E (sGs E kn).1 kn re) (p : Int) d gr ∧ pBx (d_X6_parishBy_r120_c4d gr (p : Int) d W).2 E kn ∧ pQy W (d_X6_parishBy_r120_c4d gr (p : Int) d W).2 ∧ ∀ i : Nat, i < 6 * 5 → (d_X6_parishBy_r120_c4d gr (p : Int) d W).2.1 121 i = W.1 121 i ∧ (d_X6_parishBy_r120_c4d gr (p : Int) d W).2.1 122 i = W.1 122 i := by
  have Px := P.1.1
  have T5 := P.1.2.1
  have Ir := Px.2.2.2.2.2.2.2
  have G := Px.1
  unfold d_X6_parishBy_r120_c4d sVal
  rcases (show gr = 0 ∨ gr = 1 ∨ gr = 2 ∨ gr = 3 ∨ gr = 4 ∨ gr = 5 from by omega) with rfl | rfl | rfl | rfl | rfl | rfl
  · simp only [show ((0 : Int) = 1) = False from by decide, show ((0 : Int) = 2) = False from by decide, show ((0 : Int) = 3) = False from by decide, show ((0 : Int) = 4) = False from by decide, show ((0 : Int) = 5) = False from by decide, if_false]
    exact ⟨xbb Px T5 I.1 P.2.2 hp ep, P, pQy_r, fun _ _ => ⟨trivial, trivial⟩⟩
  · simp only [show ((1 : Int) = 4) = False from by decide, show ((1 : Int) = 5) = False from by decide, if_false, if_true]
    exact ⟨xbl (gr := 1) (d := d) (co := 2) Px T5 I.1 P.2.2 (by decide) (by decide), P, pQy_r, fun _ _ => ⟨trivial, trivial⟩⟩
  · simp only [show ((2 : Int) = 1) = False from by decide, show ((2 : Int) = 4) = False from by decide, show ((2 : Int) = 5) = False from by decide, if_false, if_true]
    exact ⟨xbl (gr := 2) (d := d) (co := 1) Px T5 I.1 P.2.2 (by decide) (by decide), P, pQy_r, fun _ _ => ⟨trivial, trivial⟩⟩
  · simp only [show ((3 : Int) = 1) = False from by decide, show ((3 : Int) = 2) = False from by decide, show ((3 : Int) = 4) = False from by decide, show ((3 : Int) = 5) = False from by decide, if_false, if_true]
    exact ⟨xbl (gr := 3) (d := d) (co := 2) Px T5 I.1 P.2.2 (by decide) (by decide), P, pQy_r, fun _ _ => ⟨trivial, trivial⟩⟩
  · simp only [show ((4 : Int) = 1) = False from by decide, show ((4 : Int) = 2) = False from by decide, show ((4 : Int) = 3) = False from by decide, if_false, if_true]
    rw [bw_4 Px hp ep]
    by_cases z : sMo E (sGs E kn).1 (p : Int) 4 d = -1
    · rw [if_pos z, z]
      exact ⟨rfl, P, pQy_r, fun _ _ => ⟨rfl, rfl⟩⟩
    · obtain ⟨m, m1, m2, m3⟩ := mo_4 Ir z
      rw [if_neg z, m1, bn_4 Px P.2.1 m2 m3, show ((m : Int)).toNat = m from by omega]
      have h := H (sNa E (sGs E kn).1 (m - 1)) d W (na_s G (by omega)) (fun y => absurd y (by decide)) hdd P
      exact ⟨h.1, h.2.1, h.2.2.1, h.2.2.2.1⟩
  · simp only [show ((5 : Int) = 1) = False from by decide, show ((5 : Int) = 2) = False from by decide, show ((5 : Int) = 3) = False from by decide, show ((5 : Int) = 4) = False from by decide, if_false, if_true]
    have bi := xbi Px I.2.2.2 hp ep
    by_cases z : sMo E (sGs E kn).1 (p : Int) 0 146399 = -1
    · rw [if_pos z]
      have e : d_X6_byParents_r120_c4d (p : Int) W = (-1, W) := by
        unfold d_X6_byParents_r120_c4d
        rw [bi, if_pos z]
        rfl
      rw [e]
      exact ⟨rfl, P, pQy_r, fun _ _ => ⟨rfl, rfl⟩⟩
    · obtain ⟨m, m1, m2, m3, m4, m5⟩ := mo_0 Ir z
      rw [if_neg z, bp_4 Px P.2.1 (bi.trans m1) m2 m3, m1, show ((m : Int)).toNat = m from by omega]
      have h := H (sNa E (sGs E kn).1 (m + 1)) (sDy E m) W (na_s G (by omega)) (fun y => absurd y (by decide)) ⟨m4, m5⟩ P
      by_cases z2 : (d_X6_belongs_r120_c5d (sNa E (sGs E kn).1 (m + 1)) (sDy E m) W).1 = -1
      · rw [if_pos z2, if_pos (h.1.symm.trans z2)]
        have h2 := H (sNa E (sGs E kn).1 (m + 2)) (sDy E m) _ (na_s G (by omega)) (fun y => absurd y (by decide)) ⟨m4, m5⟩ h.2.1
        exact ⟨h2.1, h2.2.1, pQy_t h.2.2.1 h2.2.2.1, fun i hi => ⟨(h2.2.2.2.1 i hi).1.trans (h.2.2.2.1 i hi).1, (h2.2.2.2.1 i hi).2.trans (h.2.2.2.1 i hi).2⟩⟩
      · rw [if_neg z2, if_neg (fun y => z2 (h.1.trans y))]
        exact ⟨h.1, h.2.1, h.2.2.1, h.2.2.2.1⟩
theorem b238_4 {re : Int → Int → Int} (H : pBel d_X6_belongs_r120_c5d E kn re 5) (I : pIq E (sGs E kn).1) {p n : Nat} {bs : Int} {gr cl : Nat → Int} (hp : p < sNl E) (ep : (sGs E kn).1 p = (p : Int)) (hdd : 0 ≤ d ∧ d ≤ 146399) (n6 : n ≤ 6) (hg : ∀ i : Nat, i < n → 0 ≤ gr i ∧ gr i ≤ 5) : ∀ (c i f : Nat) (W : jW), i + c = n → c < f → pBx W E kn → (∀ j : Nat, j < n → W.1 121 (6 * 4 + j) = gr j ∧ W.1 122 (6 * 4 + j) = cl j) → ∃ V : jW, d_X6_belongs_r120_c4d_238 f (p : Int) d (n : Int) bs (i : Int) W = ((sFs (sVal E (sGs E kn).1 kn (sBv E (sGs E kn).1 kn re) (p : Int) d) gr cl c i).1, V) ∧ pBx V E kn ∧ pQy W V ∧ (∀ i : Nat, i < 6 * 4 → V.1 121 i = W.1 121 i ∧ V.1 122 i = W.1 122 i) ∧ V.1 120 6 = (sFs (sVal E (sGs E kn).1 kn (sBv E (sGs E kn).1 kn re) (p : Int) d) gr cl c i).2 ∧ V.1 120 7 = if (sFs (sVal E (sGs E kn).1 kn (sBv E (sGs E kn).1 kn re) (p : Int) d) gr cl c i).1 = -1 then bs else 0 := by
  have up : ∀ (W : jW) (a b : Int), pBx W E kn → pBx (vu (vu W 120 6 a) 120 7 b) E kn := fun W a b P => pBx_Q P (pVk_u (pVk_u P.1 (by decide)) (by decide)) (pQy_u (pQy_u pQy_r (by decide)) (by decide)) ((vu_n (by decide)).trans (vu_n (by decide)))
  have uq : ∀ (W : jW) (a b : Int), pQy W (vu (vu W 120 6 a) 120 7 b) := fun W a b => pQy_u (pQy_u pQy_r (by decide)) (by decide)
  intro c
  induction c with
  | zero =>
    intro i f W e hf P h
    obtain ⟨f, rfl⟩ : ∃ q, f = q + 1 := ⟨f - 1, by omega⟩
    refine ⟨vu (vu W 120 6 (-1)) 120 7 bs, if_pos (by omega), up W _ _ P, uq W _ _, fun i hi => ⟨(vu_n (by omega)).trans (vu_n (by omega)), (vu_n (by omega)).trans (vu_n (by omega))⟩, (vu_n (by decide)).trans (vu_e rfl), ?_⟩
    rw [if_pos (show (sFs (sVal E (sGs E kn).1 kn (sBv E (sGs E kn).1 kn re) (p : Int) d) gr cl 0 i).1 = -1 from rfl)]
    exact vu_e rfl
  | succ c ih =>
    intro i f W e hf P h
    obtain ⟨f, rfl⟩ : ∃ q, f = q + 1 := ⟨f - 1, by omega⟩
    have hi := h i (by omega)
    have q := by_4 H I hp ep hdd P (hg i (by omega))
    have st : d_X6_belongs_r120_c4d_238 (f + 1) (p : Int) d (n : Int) bs (i : Int) W = (if (d_X6_parishBy_r120_c4d (gr i) (p : Int) d W).1 = -1 then d_X6_belongs_r120_c4d_238 f (p : Int) d (n : Int) bs ((i : Int) + 1) (d_X6_parishBy_r120_c4d (gr i) (p : Int) d W).2 else ((d_X6_parishBy_r120_c4d (gr i) (p : Int) d W).1, vu (vu (d_X6_parishBy_r120_c4d (gr i) (p : Int) d W).2 120 6 ((d_X6_parishBy_r120_c4d (gr i) (p : Int) d W).2.1 122 (24 + (i : Int)).toNat)) 120 7 0)) := by
      refine (if_neg (by omega)).trans ?_
      rw [show W.1 121 (24 + (i : Int)).toNat = gr i from by rw [show (24 + (i : Int)).toNat = 6 * 4 + i from by omega]; exact hi.1]
    rw [st, show (24 + (i : Int)).toNat = 6 * 4 + i from by omega]
    generalize d_X6_parishBy_r120_c4d (gr i) (p : Int) d W = Z at *
    have z2 : Z.2.1 122 (6 * 4 + i) = cl i := (q.2.2.2 _ (by omega)).2.trans hi.2
    by_cases z : Z.1 = -1
    · have sf : sFs (sVal E (sGs E kn).1 kn (sBv E (sGs E kn).1 kn re) (p : Int) d) gr cl (c + 1) i = sFs (sVal E (sGs E kn).1 kn (sBv E (sGs E kn).1 kn re) (p : Int) d) gr cl c (i + 1) := if_pos (q.1.symm.trans z)
      rw [if_pos z, sf]
      obtain ⟨V, v1, v2, v3, v4, v5⟩ := ih (i + 1) f Z.2 (by omega) (by omega) q.2.1 (fun j hj => ⟨(q.2.2.2 _ (by omega)).1.trans (h j hj).1, (q.2.2.2 _ (by omega)).2.trans (h j hj).2⟩)
      rw [show ((i + 1 : Nat) : Int) = (i : Int) + 1 from by omega] at v1
      exact ⟨V, v1, v2, pQy_t q.2.2.1 v3, fun j hj => ⟨(v4 j hj).1.trans (q.2.2.2 j (by omega)).1, (v4 j hj).2.trans (q.2.2.2 j (by omega)).2⟩, v5⟩
    · have sf : sFs (sVal E (sGs E kn).1 kn (sBv E (sGs E kn).1 kn re) (p : Int) d) gr cl (c + 1) i = (sVal E (sGs E kn).1 kn (sBv E (sGs E kn).1 kn re) (p : Int) d (gr i), cl i) := if_neg (fun y => z (q.1.trans y))
      rw [if_neg z, sf, z2, q.1]
      refine ⟨_, rfl, up _ _ _ q.2.1, pQy_t q.2.2.1 (uq _ _ _), fun j hj => ⟨((vu_n (by omega)).trans (vu_n (by omega))).trans (q.2.2.2 j (by omega)).1, ((vu_n (by omega)).trans (vu_n (by omega))).trans (q.2.2.2 j (by omega)).2⟩, (vu_n (by decide)).trans (vu_e rfl), ?_⟩
      rw [if_neg (fun y => z (q.1.trans y))]
      exact vu_e rfl
theorem bz_4 {re : Int → Int → Int} (H : pBel d_X6_belongs_r120_c5d E kn re 5) (I : pIq E (sGs E kn).1) (Ik : pIk E.1) (Il : pIl E.1) (I1 : pI1 E.1) (O : ∀ d : Int, 0 ≤ d ∧ d ≤ 146399 → ∀ p : Nat, p < sNl E → (sGs E kn).1 p = (p : Int) → qOk fun w => sQu E (sGs E kn).1 d kn w (p : Int)) : pBel d_X6_belongs_r120_c4d E kn (sBv E (sGs E kn).1 kn re) 4 := by
  intro s d X hs hJ hdd P
  have u0 : pVk (vu (vu X 120 6 (-1)) 120 7 0) E kn := pVk_u (pVk_u P.1 (by decide)) (by decide)
  have uq : pQy X (vu (vu X 120 6 (-1)) 120 7 0) := pQy_u (pQy_u pQy_r (by decide)) (by decide)
  have u5 : (vu (vu X 120 6 (-1)) 120 7 0).1 120 5 = X.1 120 5 := (vu_n (by decide)).trans (vu_n (by decide))
  rcases hs with rfl | ⟨p, hp, rfl, ep⟩
  · have e : d_X6_belongs_r120_c4d (-1) d X = (-1, vu (vu X 120 6 (-1)) 120 7 0) := if_pos rfl
    rw [e]
    exact ⟨(if_pos rfl).symm, pBx_Q P u0 uq u5, uq, fun i hi => ⟨(vu_n (by omega)).trans (vu_n (by omega)), (vu_n (by omega)).trans (vu_n (by omega))⟩, fun y => absurd rfl y⟩
  · have e : d_X6_belongs_r120_c4d (p : Int) d X = d_X6_belongs_r120_c4d_54 3 (p : Int) d 0 0 0 (d_X0_readHouses_r98d d kn (d_X0_readLaws_r98d d kn (vu (vu X 120 6 (-1)) 120 7 0))) := by
      unfold d_X6_belongs_r120_c4d
      rw [if_neg (show ¬ (p : Int) = -1 from by omega), P.2.2]
    rw [e]
    obtain ⟨l1, l2, l3, l4, l5, l6, l7⟩ := xtl (d := d) u0 Il Ik
    generalize hW1 : d_X0_readLaws_r98d d kn (vu (vu X 120 6 (-1)) 120 7 0) = W1 at *
    obtain ⟨h1, h2, h3, h4⟩ := xth (d := d) l2 I.2.1 l1
    generalize hW2 : d_X0_readHouses_r98d d kn W1 = W2 at *
    have y2 : pQy X W2 := pQy_t uq (pQy_t l5 h3)
    have s121 : W2.1 121 = X.1 121 := ((h4 121 (by decide)).1.trans (l6 121 (by decide))).trans ((vu_c (by decide)).trans (vu_c (by decide)))
    have s122 : W2.1 122 = X.1 122 := ((h4 122 (by decide)).1.trans (l6 122 (by decide))).trans ((vu_c (by decide)).trans (vu_c (by decide)))
    have s120 : W2.1 120 = (vu (vu X 120 6 (-1)) 120 7 0).1 120 := (h4 120 (by decide)).1.trans (l6 120 (by decide))
    obtain ⟨V, v1, v2⟩ := b54_4 h1 I hdd hp ep Ik Il I1 (O d hdd p hp ep) pZ_r rfl (fun _ _ => ⟨rfl, rfl⟩)
    rw [v1]
    have PV : pBx V E kn := pBx_Q P (pVk_Z h2 v2.1) (pQy_t y2 (zQy v2.1)) (by rw [v2.2.1, s120]; exact u5)
    obtain ⟨Z, z1, z2, z3, z4, z5, z6⟩ := b238_4 H I hp ep hdd (bl_6 I1 720) (bl_c I1 720).2 (sBl E (sGs E kn).1 d kn (p : Int) 720).1 0 7 V (by omega) (by have := bl_6 (E := E) (g := (sGs E kn).1) (d := d) (kn := kn) (s := (p : Int)) I1 720; omega) PV v2.2.2.2 (bs := (sBl E (sGs E kn).1 d kn (p : Int) 720).2.2.2)
    rw [show ((0 : Nat) : Int) = 0 from rfl] at z1
    rw [z1]
    refine ⟨(if_neg (show ¬ (p : Int) = -1 from by omega)).symm, z2, pQy_t (pQy_t y2 (zQy v2.1)) z3, fun i hi => ?_, fun _ => ⟨z5, z6⟩⟩
    exact ⟨(z4 i hi).1.trans ((v2.2.2.1 i hi).1.trans (by rw [s121])), (z4 i hi).2.trans ((v2.2.2.1 i hi).2.trans (by rw [s122]))⟩
theorem b115_3 {t : Int} {T hd so p : Nat} {X : jW} (K54 : Int → Int → Int → Int → Int → jW → (Int × jW)) (K63 : Int → Int → Int → Int → Int → Int → jW → (Int × jW)) (Q : pV X E g d kn) (I : pIq E g) (hdd : 0 ≤ d ∧ d ≤ 146399) (hp : p < sNl E) (ep : g p = (p : Int)) (Ik : pIk E.1) (Il : pIl E.1) (I1 : pI1 E.1) (O : qOk fun w => sQu E g d kn w (p : Int)) (ht : 0 ≤ t ∧ t < E.1 4) (Qe : pTe X E.1 t T hd) (hso : so ≤ 1) (es : E.1 (18820 + (924 * t)).toNat = (so : Int)) : ∀ (q c f : Nat) (W : jW), (c : Int) + (q : Int) = E.1 ((18820 + (924 * t)) + 3).toNat → q < f → pBw X W 3 (sBl E g d kn (p : Int) (360 * so + 12 * t.toNat + c)) → ∃ V : jW, d_X6_belongs_r120_c3d_115 K54 K63 f (p : Int) d ((sBl E g d kn (p : Int) (360 * so + 12 * t.toNat + c)).1 : Int) (sBl E g d kn (p : Int) (360 * so + 12 * t.toNat + c)).2.2.2 (so : Int) t T (E.1 ((18820 + (924 * t)) + 3).toNat) (c : Int) W = K63 (p : Int) d ((sBl E g d kn (p : Int) (360 * so + 12 * t.toNat + (c + q))).1 : Int) (sBl E g d kn (p : Int) (360 * so + 12 * t.toNat + (c + q))).2.2.2 (so : Int) (t + 1) V ∧ pBw X V 3 (sBl E g d kn (p : Int) (360 * so + 12 * t.toNat + (c + q))) := by
  have b30 := Il.2.1
  have J12 := (Il.2.2 t ht.1 ht.2).2.1
  have T0 : ¬ T = 0 := by have := Qe.1; omega
  intro q
  induction q with
  | zero =>
    intro c f W e hf h
    obtain ⟨f, rfl⟩ : ∃ q, f = q + 1 := ⟨f - 1, by omega⟩
    exact ⟨W, (if_neg T0).trans (if_pos (by omega)), h⟩
  | succ q ih =>
    intro c f W e hf h
    obtain ⟨f, rfl⟩ : ∃ q, f = q + 1 := ⟨f - 1, by omega⟩
    have QW := pTe_Qy (zQy h.1) Qe
    have hc : (0 : Int) ≤ (c : Int) ∧ (c : Int) < E.1 ((18820 + (924 * t)) + 3).toNat := by omega
    have H := QW.2.2.2.2.2.2.2 (c : Int) hc.1 hc.2
    have k0 := (he_e QW hc.1 hc.2 (show (0 : Int) ≤ 0 ∧ (0 : Int) < 6 from by decide)).trans H.1
    have k1 := (he_e QW hc.1 hc.2 (show (0 : Int) ≤ 1 ∧ (1 : Int) < 6 from by decide)).trans H.2.1
    have kt : ((360 * so + 12 * t.toNat + c : Nat) : Int) % 360 / 12 = t := by omega
    have kc : ((360 * so + 12 * t.toNat + c : Nat) : Int) % 12 = (c : Int) := by omega
    have ks : ((360 * so + 12 * t.toNat + c : Nat) : Int) / 360 = (so : Int) := by omega
    have k3 : ((360 * so + 12 * t.toNat + c : Nat) : Int) % 360 = t * 12 + (c : Int) := by omega
    have gk : sBg E.1 ((360 * so + 12 * t.toNat + c : Nat) : Int) = E.1 ((((18820 + (924 * t)) + 4) + (10 * (c : Int))) + 1).toNat := by
      unfold sBg
      rw [kt, kc]
    have pk : sBh E g d kn (p : Int) ((360 * so + 12 * t.toNat + c : Nat) : Int) ↔ E.1 (((18820 + (924 * t)) + 4) + (10 * (c : Int))).toNat = 1 ∧ sHd E.1 d kn t (c : Int) fun w => sQu E g d kn w (p : Int) := by
      unfold sBh
      rw [kt, kc, ks]
      exact ⟨fun y => y.2.2.2, fun y => ⟨⟨by omega, by omega⟩, ⟨by omega, by omega⟩, es, y⟩⟩
    have hz := xhz (t := t) (c := (c : Int)) Q I hdd hp ep Ik Il O ht hc h.1
    have lt6 := fun a b => bl_l (E := E) (g := g) (d := d) (kn := kn) (s := (p : Int)) (k := 360 * so + 12 * t.toNat + c) I1 a b
    have go : ∀ W1 : jW, ¬ (sBh E g d kn (p : Int) ((360 * so + 12 * t.toNat + c : Nat) : Int) ∧ j_iand (j_ishr (sBl E g d kn (p : Int) (360 * so + 12 * t.toNat + c)).2.2.2 (sBg E.1 ((360 * so + 12 * t.toNat + c : Nat) : Int))) 1 = 0) → pBw X W1 3 (sBl E g d kn (p : Int) (360 * so + 12 * t.toNat + c)) → ∃ V : jW, d_X6_belongs_r120_c3d_115 K54 K63 f (p : Int) d ((sBl E g d kn (p : Int) (360 * so + 12 * t.toNat + c)).1 : Int) (sBl E g d kn (p : Int) (360 * so + 12 * t.toNat + c)).2.2.2 (so : Int) t T (E.1 ((18820 + (924 * t)) + 3).toNat) ((c : Int) + 1) W1 = K63 (p : Int) d ((sBl E g d kn (p : Int) (360 * so + 12 * t.toNat + (c + (q + 1)))).1 : Int) (sBl E g d kn (p : Int) (360 * so + 12 * t.toNat + (c + (q + 1)))).2.2.2 (so : Int) (t + 1) V ∧ pBw X V 3 (sBl E g d kn (p : Int) (360 * so + 12 * t.toNat + (c + (q + 1)))) := fun W1 ne hw => by
      have e1 : sBl E g d kn (p : Int) (360 * so + 12 * t.toNat + (c + 1)) = sBl E g d kn (p : Int) (360 * so + 12 * t.toNat + c) := bl_n ne
      have y := ih (c + 1) f W1 (by omega) (by omega) (by rw [e1]; exact hw)
      rw [e1, show c + 1 + q = c + (q + 1) from by omega, show ((c + 1 : Nat) : Int) = (c : Int) + 1 from by omega] at y
      exact y
    have st : d_X6_belongs_r120_c3d_115 K54 K63 (f + 1) (p : Int) d ((sBl E g d kn (p : Int) (360 * so + 12 * t.toNat + c)).1 : Int) (sBl E g d kn (p : Int) (360 * so + 12 * t.toNat + c)).2.2.2 (so : Int) t T (E.1 ((18820 + (924 * t)) + 3).toNat) (c : Int) W = (if d_head T (c : Int) 0 W = 0 then (if j_iand (j_ishr (sBl E g d kn (p : Int) (360 * so + 12 * t.toNat + c)).2.2.2 (d_head T (c : Int) 1 W)) 1 = 0 then (if 6 ≤ ((sBl E g d kn (p : Int) (360 * so + 12 * t.toNat + c)).1 : Int) then d_X6_belongs_r120_c3d_115 K54 K63 f (p : Int) d ((sBl E g d kn (p : Int) (360 * so + 12 * t.toNat + c)).1 : Int) (sBl E g d kn (p : Int) (360 * so + 12 * t.toNat + c)).2.2.2 (so : Int) t T (E.1 ((18820 + (924 * t)) + 3).toNat) ((c : Int) + 1) W else if (d_X0_holdsFor_r98d t (c : Int) (p : Int) W).1 = 0 then d_X6_belongs_r120_c3d_115 K54 K63 f (p : Int) d ((sBl E g d kn (p : Int) (360 * so + 12 * t.toNat + c)).1 : Int) (sBl E g d kn (p : Int) (360 * so + 12 * t.toNat + c)).2.2.2 (so : Int) t T (E.1 ((18820 + (924 * t)) + 3).toNat) ((c : Int) + 1) (d_X0_holdsFor_r98d t (c : Int) (p : Int) W).2 else d_X6_belongs_r120_c3d_115 K54 K63 f (p : Int) d (((sBl E g d kn (p : Int) (360 * so + 12 * t.toNat + c)).1 : Int) + 1) (j_ior (sBl E g d kn (p : Int) (360 * so + 12 * t.toNat + c)).2.2.2 (j_ishl 1 (d_head T (c : Int) 1 W))) (so : Int) t T (E.1 ((18820 + (924 * t)) + 3).toNat) ((c : Int) + 1) (vu (vu (d_X0_holdsFor_r98d t (c : Int) (p : Int) W).2 121 (18 + ((sBl E g d kn (p : Int) (360 * so + 12 * t.toNat + c)).1 : Int)).toNat (d_head T (c : Int) 1 W)) 122 (18 + ((sBl E g d kn (p : Int) (360 * so + 12 * t.toNat + c)).1 : Int)).toNat (t * 12 + (c : Int)))) else d_X6_belongs_r120_c3d_115 K54 K63 f (p : Int) d ((sBl E g d kn (p : Int) (360 * so + 12 * t.toNat + c)).1 : Int) (sBl E g d kn (p : Int) (360 * so + 12 * t.toNat + c)).2.2.2 (so : Int) t T (E.1 ((18820 + (924 * t)) + 3).toNat) ((c : Int) + 1) W) else d_X6_belongs_r120_c3d_115 K54 K63 f (p : Int) d ((sBl E g d kn (p : Int) (360 * so + 12 * t.toNat + c)).1 : Int) (sBl E g d kn (p : Int) (360 * so + 12 * t.toNat + c)).2.2.2 (so : Int) t T (E.1 ((18820 + (924 * t)) + 3).toNat) ((c : Int) + 1) W) := (if_neg T0).trans (if_neg (by omega))
    rw [st, k0, k1]
    by_cases n0 : E.1 (((18820 + (924 * t)) + 4) + (10 * (c : Int))).toNat = 1
    · rw [n0, if_neg (show ¬ (1 : Int) = 0 from by decide), if_neg (show ¬ (1 : Int) = 0 from by decide), if_pos (show (1 : Int) - 1 = 0 from by decide), ← gk, ← k3]
      by_cases n1 : j_iand (j_ishr (sBl E g d kn (p : Int) (360 * so + 12 * t.toNat + c)).2.2.2 (sBg E.1 ((360 * so + 12 * t.toNat + c : Nat) : Int))) 1 = 0
      · rw [if_pos n1]
        by_cases n2 : sHd E.1 d kn t (c : Int) fun w => sQu E g d kn w (p : Int)
        · have hb := pk.mpr ⟨n0, n2⟩
          have l6 := lt6 hb n1
          have e1 : sBl E g d kn (p : Int) (360 * so + 12 * t.toNat + (c + 1)) = _ := bl_y hb n1
          rw [if_neg (by omega), hz.1, tv_t n2, if_neg (show ¬ (1 : Int) = 0 from by decide)]
          have y := ih (c + 1) f (vu (vu (d_X0_holdsFor_r98d t (c : Int) (p : Int) W).2 121 (6 * 3 + (sBl E g d kn (p : Int) (360 * so + 12 * t.toNat + c)).1) (sBg E.1 ((360 * so + 12 * t.toNat + c : Nat) : Int))) 122 (6 * 3 + (sBl E g d kn (p : Int) (360 * so + 12 * t.toNat + c)).1) (((360 * so + 12 * t.toNat + c : Nat) : Int) % 360)) (by omega) (by omega) (by rw [e1]; exact pBw_a (pBw_h h hz.2.1 hz.2.2))
          rw [e1, show c + 1 + q = c + (q + 1) from by omega, show ((c + 1 : Nat) : Int) = (c : Int) + 1 from by omega] at y
          rw [show (18 + ((sBl E g d kn (p : Int) (360 * so + 12 * t.toNat + c)).1 : Int)).toNat = 6 * 3 + (sBl E g d kn (p : Int) (360 * so + 12 * t.toNat + c)).1 from by omega]
          exact y
        · have ne : ¬ (sBh E g d kn (p : Int) ((360 * so + 12 * t.toNat + c : Nat) : Int) ∧ j_iand (j_ishr (sBl E g d kn (p : Int) (360 * so + 12 * t.toNat + c)).2.2.2 (sBg E.1 ((360 * so + 12 * t.toNat + c : Nat) : Int))) 1 = 0) := fun y => n2 (pk.mp y.1).2
          by_cases n3 : 6 ≤ ((sBl E g d kn (p : Int) (360 * so + 12 * t.toNat + c)).1 : Int)
          · rw [if_pos n3]; exact go W ne h
          · rw [if_neg n3, hz.1, tv_f n2, if_pos rfl]; exact go _ ne (pBw_h h hz.2.1 hz.2.2)
      · rw [if_neg n1]; exact go W (fun y => n1 y.2) h
    · rw [if_neg (show ¬ (if E.1 (((18820 + (924 * t)) + 4) + (10 * (c : Int))).toNat = 0 then 8 else E.1 (((18820 + (924 * t)) + 4) + (10 * (c : Int))).toNat - 1) = 0 from by
        by_cases q : E.1 (((18820 + (924 * t)) + 4) + (10 * (c : Int))).toNat = 0
        · rw [if_pos q]; decide
        · rw [if_neg q]; omega)]
      exact go W (fun y => n0 (pk.mp y.1).1) h
theorem b63_3 {so p : Nat} {X : jW} (K54 : Int → Int → Int → Int → Int → jW → (Int × jW)) (Q : pV X E g d kn) (I : pIq E g) (hdd : 0 ≤ d ∧ d ≤ 146399) (hp : p < sNl E) (ep : g p = (p : Int)) (Ik : pIk E.1) (Il : pIl E.1) (I1 : pI1 E.1) (O : qOk fun w => sQu E g d kn w (p : Int)) (hso : so ≤ 1) : ∀ (q t f : Nat) (W : jW), (t : Int) + (q : Int) = E.1 4 → q < f → pBw X W 3 (sBl E g d kn (p : Int) (360 * so + 12 * t)) → ∃ V : jW, d_X6_belongs_r120_c3d_63 K54 f (p : Int) d ((sBl E g d kn (p : Int) (360 * so + 12 * t)).1 : Int) (sBl E g d kn (p : Int) (360 * so + 12 * t)).2.2.2 (so : Int) (t : Int) W = K54 (p : Int) d ((sBl E g d kn (p : Int) (360 * so + 360)).1 : Int) (sBl E g d kn (p : Int) (360 * so + 360)).2.2.2 ((so : Int) + 1) V ∧ pBw X V 3 (sBl E g d kn (p : Int) (360 * so + 360)) := by
  have b30 := Il.2.1
  intro q
  induction q with
  | zero =>
    intro t f W e hf h
    obtain ⟨f, rfl⟩ : ∃ q, f = q + 1 := ⟨f - 1, by omega⟩
    have c32 : W.1 32 18 = E.1 4 := (pTc_Qy (zQy h.1) Q.2.1).1
    have e1 : sBl E g d kn (p : Int) (360 * so + 360) = sBl E g d kn (p : Int) (360 * so + 12 * t) := bl_u (by omega) (fun j j1 j2 y => by
      have y2 := y.1.2
      omega)
    rw [e1]
    exact ⟨W, if_pos (by omega), h⟩
  | succ q ih =>
    intro t f W e hf h
    obtain ⟨f, rfl⟩ : ∃ q, f = q + 1 := ⟨f - 1, by omega⟩
    have c32 : W.1 32 18 = E.1 4 := (pTc_Qy (zQy h.1) Q.2.1).1
    obtain ⟨T, hd, eT, Qe, _⟩ := Q.2.1.2 (t : Int) (by omega) (by omega)
    have QW := pTe_Qy (zQy h.1) Qe
    have T0 : ¬ T = 0 := by have := Qe.1; omega
    have eW : W.2.2.1 66 (t : Int).toNat = some T := ((zQy h.1).2.1 66 _ (by omega)).trans eT
    have J12 := Il.2.2 (t : Int) (by omega) (by omega)
    have st : d_X6_belongs_r120_c3d_63 K54 (f + 1) (p : Int) d ((sBl E g d kn (p : Int) (360 * so + 12 * t)).1 : Int) (sBl E g d kn (p : Int) (360 * so + 12 * t)).2.2.2 (so : Int) (t : Int) W = (if E.1 ((18820 + (924 * (t : Int))) + 0).toNat = (so : Int) then d_X6_belongs_r120_c3d_115 K54 (fun l1 l2 l5 l6 l7 l8 W => d_X6_belongs_r120_c3d_63 K54 f l1 l2 l5 l6 l7 l8 W) 13 (p : Int) d ((sBl E g d kn (p : Int) (360 * so + 12 * t)).1 : Int) (sBl E g d kn (p : Int) (360 * so + 12 * t)).2.2.2 (so : Int) (t : Int) T (E.1 ((18820 + (924 * (t : Int))) + 3).toNat) 0 W else d_X6_belongs_r120_c3d_101 K54 (fun l1 l2 l5 l6 l7 l8 W => d_X6_belongs_r120_c3d_63 K54 f l1 l2 l5 l6 l7 l8 W) (p : Int) d ((sBl E g d kn (p : Int) (360 * so + 12 * t)).1 : Int) (sBl E g d kn (p : Int) (360 * so + 12 * t)).2.2.2 (so : Int) (t : Int) T W) := by
      refine (if_neg (by omega)).trans ((if_neg (by omega)).trans ?_)
      rw [eW, if_neg (show ¬ (some T).isNone = true from fun y => Bool.noConfusion y), show (some T).getD 0 = T from rfl, QW.2.2.1, QW.2.2.2.2.2.1]
      rfl
    rw [st, Int.add_zero]
    by_cases n0 : E.1 (18820 + (924 * (t : Int))).toNat = (so : Int)
    · rw [if_pos n0]
      obtain ⟨V, v1, v2⟩ := b115_3 K54 (fun l1 l2 l5 l6 l7 l8 W => d_X6_belongs_r120_c3d_63 K54 f l1 l2 l5 l6 l7 l8 W) Q I hdd hp ep Ik Il I1 O ⟨by omega, by omega⟩ Qe hso n0 (E.1 ((18820 + (924 * (t : Int))) + 3).toNat).toNat 0 13 W (by omega) (by omega) h
      rw [show (t : Int).toNat = t from by omega, Nat.zero_add] at v1 v2
      have e1 : sBl E g d kn (p : Int) (360 * so + 12 * (t + 1)) = sBl E g d kn (p : Int) (360 * so + 12 * t + (E.1 ((18820 + (924 * (t : Int))) + 3).toNat).toNat) := bl_u (by omega) (fun j j1 j2 y => by
        have y2 := y.2.1.2
        rw [show (j : Int) % 360 / 12 = (t : Int) from by omega] at y2
        omega)
      obtain ⟨V2, w1, w2⟩ := ih (t + 1) f V (by omega) (by omega) (by rw [e1]; exact v2)
      rw [e1, show ((t + 1 : Nat) : Int) = (t : Int) + 1 from by omega] at w1
      exact ⟨V2, v1.trans w1, w2⟩
    · rw [if_neg n0]
      have e1 : sBl E g d kn (p : Int) (360 * so + 12 * (t + 1)) = sBl E g d kn (p : Int) (360 * so + 12 * t) := bl_u (by omega) (fun j j1 j2 y => by
        have y2 := y.2.2.1
        rw [show (j : Int) % 360 / 12 = (t : Int) from by omega, show (j : Int) / 360 = (so : Int) from by omega] at y2
        exact n0 y2)
      obtain ⟨V2, w1, w2⟩ := ih (t + 1) f W (by omega) (by omega) (by rw [e1]; exact h)
      rw [e1, show ((t + 1 : Nat) : Int) = (t : Int) + 1 from by omega] at w1
      refine ⟨V2, Eq.trans ?_ w1, w2⟩
      unfold d_X6_belongs_r120_c3d_101 d_X6_belongs_r120_c3d_200110
      rw [if_neg T0, if_neg T0]
      exact (if_neg T0).trans (if_pos (by decide))
theorem b54_3 {p : Nat} {X W : jW} (Q : pV X E g d kn) (I : pIq E g) (hdd : 0 ≤ d ∧ d ≤ 146399) (hp : p < sNl E) (ep : g p = (p : Int)) (Ik : pIk E.1) (Il : pIl E.1) (I1 : pI1 E.1) (O : qOk fun w => sQu E g d kn w (p : Int)) (z : pZ X W) (e120 : W.1 120 = X.1 120) (e1 : ∀ i : Nat, i < 6 * 3 → W.1 121 i = X.1 121 i ∧ W.1 122 i = X.1 122 i) : ∃ V : jW, d_X6_belongs_r120_c3d_54 3 (p : Int) d 0 0 0 W = d_X6_belongs_r120_c3d_238 7 (p : Int) d ((sBl E g d kn (p : Int) 720).1 : Int) (sBl E g d kn (p : Int) 720).2.2.2 0 V ∧ pBw X V 3 (sBl E g d kn (p : Int) 720) := by
  have b30 := Il
  have h0 : pBw X W 3 (sBl E g d kn (p : Int) (360 * 0 + 12 * 0)) := ⟨z, e120, e1, fun i hi => absurd hi (Nat.not_lt_zero i)⟩
  obtain ⟨V, v1, v2⟩ := b63_3 (so := 0) (fun l1 l2 l5 l6 l7 W => d_X6_belongs_r120_c3d_54 2 l1 l2 l5 l6 l7 W) Q I hdd hp ep Ik Il I1 O (by decide) (E.1 4).toNat 0 31 W (by have := Il.1; omega) (by have := Il.2.1; omega) h0
  obtain ⟨V2, w1, w2⟩ := b63_3 (so := 1) (fun l1 l2 l5 l6 l7 W => d_X6_belongs_r120_c3d_54 1 l1 l2 l5 l6 l7 W) Q I hdd hp ep Ik Il I1 O (by decide) (E.1 4).toNat 0 31 V (by have := Il.1; omega) (by have := Il.2.1; omega) v2
  refine ⟨V2, ?_, w2⟩
  have s1 : d_X6_belongs_r120_c3d_54 3 (p : Int) d 0 0 0 W = d_X6_belongs_r120_c3d_63 (fun l1 l2 l5 l6 l7 W => d_X6_belongs_r120_c3d_54 2 l1 l2 l5 l6 l7 W) 31 (p : Int) d 0 0 0 0 W := if_neg (by decide)
  have s2 : d_X6_belongs_r120_c3d_54 2 (p : Int) d ((sBl E g d kn (p : Int) (360 * 0 + 360)).1 : Int) (sBl E g d kn (p : Int) (360 * 0 + 360)).2.2.2 (((0 : Nat) : Int) + 1) V = d_X6_belongs_r120_c3d_63 (fun l1 l2 l5 l6 l7 W => d_X6_belongs_r120_c3d_54 1 l1 l2 l5 l6 l7 W) 31 (p : Int) d ((sBl E g d kn (p : Int) (360 * 1 + 12 * 0)).1 : Int) (sBl E g d kn (p : Int) (360 * 1 + 12 * 0)).2.2.2 ((1 : Nat) : Int) ((0 : Nat) : Int) V := if_neg (by decide)
  have s3 : d_X6_belongs_r120_c3d_54 1 (p : Int) d ((sBl E g d kn (p : Int) (360 * 1 + 360)).1 : Int) (sBl E g d kn (p : Int) (360 * 1 + 360)).2.2.2 (((1 : Nat) : Int) + 1) V2 = d_X6_belongs_r120_c3d_238 7 (p : Int) d ((sBl E g d kn (p : Int) 720).1 : Int) (sBl E g d kn (p : Int) 720).2.2.2 0 V2 := if_pos (by decide)
  exact s1.trans (v1.trans (s2.trans (w1.trans s3)))
theorem bw_3 {W : jW} {p : Nat} (P : pXs W E g) (hp : p < sNl E) (ep : g p = (p : Int)) : d_X6_byWedding_r120_c3d (p : Int) d W = d_X6_byWedding_r120_c3d_103 d (sMo E g (p : Int) 4 d) W := by
  have h6 := xs_6 P
  have key := @ch_f (Int × Int) (Int × jW) g (sNl E) (p : Int) h6 (fun m => W.1 83 m) (xs_n P (by omega)) (fun r m n a => d_X6_byWedding_r120_c3d_12 r d a.1 a.2 m n W) (wdf E d) (fun a => d_X6_byWedding_r120_c3d_103 d a.2 W) (fun r n a => if_pos rfl) (fun r m n a hm hz hn => by
    obtain ⟨l1, l2, l3⟩ := @xs_l W E g P m hm
    change W.1 80 m = sDy E m at l2
    refine (if_neg (show ¬ (m : Int) = -1 from by omega)).trans ((if_neg (show ¬ (600 : Int) ≤ (n : Int) from by omega)).trans ?_)
    rw [show ((m : Int)).toNat = m from by omega, l1, l2]
    show (if sCo E m = 4 then (if d < sDy E m then d_X6_byWedding_r120_c3d_12 r d a.1 a.2 (W.1 83 ((m : Int)).toNat) ((n : Int) + 1) W else if sDy E m < a.1 then d_X6_byWedding_r120_c3d_12 r d a.1 a.2 (W.1 83 ((m : Int)).toNat) ((n : Int) + 1) W else d_X6_byWedding_r120_c3d_12 r d (sDy E m) (m : Int) (W.1 83 ((m : Int)).toNat) ((n : Int) + 1) W) else d_X6_byWedding_r120_c3d_12 r d a.1 a.2 (W.1 83 ((m : Int)).toNat) ((n : Int) + 1) W) = d_X6_byWedding_r120_c3d_12 r d (wdf E d a m).1 (wdf E d a m).2 (W.1 83 m) ((n : Int) + 1) W
    rw [show ((m : Int)).toNat = m from by omega]
    unfold wdf
    by_cases q1 : sCo E m = 4
    · rw [if_pos q1]
      by_cases q2 : d < sDy E m
      · rw [if_pos q2, if_neg (fun y => by omega)]
      · rw [if_neg q2]
        by_cases q3 : sDy E m < a.1
        · rw [if_pos q3, if_neg (fun y => by omega)]
        · rw [if_neg q3, if_pos ⟨q1, by omega, by omega⟩]
    · rw [if_neg q1, if_neg (fun y => q1 y.1)]) (sNl E) 0 601 0 (-1, -1) rfl (by omega) (by omega)
  rw [xs_f P hp ep, show ((0 : Nat) : Int) = 0 from rfl, wd_f P.2.2.2.2.2.2.2 (sNl E) 0 (-1) (-1) (by omega) (Or.inl ⟨rfl, rfl⟩)] at key
  exact key
theorem bn_3 {W : jW} {m : Nat} (P : pXs W E g) (N : pNe W E) (h3 : m % 3 = 1) (hm : m < sNl E) : d_X6_byWedding_r120_c3d_103 d (m : Int) W = d_X6_belongs_r120_c4d (sNa E g (m - 1)) d W := by
  have h6 := xs_6 P
  have nl : W.1 33 3 = E.1 0 := P.2.2.1
  have b0 := P.2.1
  have g1 : W.1 82 ((m : Int) - 1).toNat = g (m - 1) := by rw [show ((m : Int) - 1).toNat = m - 1 from by omega]; exact P.2.2.2.2.1 (m - 1) (by omega)
  have q0 := N (m - 1) 0 (by omega) (by decide)
  have q1 := N (m - 1) 1 (by omega) (by decide)
  rw [show 2 * (m - 1) + 0 = ((((m : Int) - 1) * 2) + 0).toNat from by omega] at q0
  rw [show 2 * (m - 1) + 1 = ((((m : Int) - 1) * 2) + 1).toNat from by omega] at q1
  have n4 : ¬ W.1 33 3 ≤ ((m : Int) - 1) / 3 := by unfold sNl at hm; omega
  unfold d_X6_byWedding_r120_c3d_103 d_X6_byWedding_r120_c3d_138
  rw [if_neg (show ¬ (m : Int) = -1 from by omega), if_neg (show ¬ (((m : Int) - 1) * 2) + 0 < 0 from by omega)]
  by_cases a : 0 ≤ W.1 76 ((((m : Int) - 1) * 2) + 0).toNat
  · rw [if_pos a, if_neg (show ¬ (m : Int) - 1 < 0 from by omega), if_neg n4, g1]
    rw [show sNa E g (m - 1) = g (m - 1) from if_neg (by rw [tv_t (Or.inl (q0.mp a))]; decide)]
  · rw [if_neg a, if_neg (show ¬ (((m : Int) - 1) * 2) + 1 < 0 from by omega)]
    by_cases b : W.1 76 ((((m : Int) - 1) * 2) + 1).toNat < 0
    · rw [if_pos b]
      rw [show sNa E g (m - 1) = -1 from if_pos (tv_f (fun y => y.elim (fun y => a (q0.mpr y)) (fun y => by have := q1.mpr y; omega)))]
    · rw [if_neg b, if_neg (show ¬ (m : Int) - 1 < 0 from by omega), if_neg n4, g1]
      rw [show sNa E g (m - 1) = g (m - 1) from if_neg (by rw [tv_t (Or.inr (q1.mp (by omega)))]; decide)]
theorem bp_3 {W : jW} {m p : Nat} (P : pXs W E g) (N : pNe W E) (hb : d_X7_birthOf_r78d (p : Int) W = (m : Int)) (h3 : m % 3 = 0) (hm : m + 2 < sNl E) : d_X6_byParents_r120_c3d (p : Int) W = if (d_X6_belongs_r120_c4d (sNa E g (m + 1)) (sDy E m) W).1 = -1 then d_X6_belongs_r120_c4d (sNa E g (m + 2)) (sDy E m) (d_X6_belongs_r120_c4d (sNa E g (m + 1)) (sDy E m) W).2 else d_X6_belongs_r120_c4d (sNa E g (m + 1)) (sDy E m) W := by
  have h6 := xs_6 P
  have nl : W.1 33 3 = E.1 0 := P.2.2.1
  have b0 := P.2.1
  have l2 := (@xs_l W E g P m (by omega)).2.1
  change W.1 80 m = sDy E m at l2
  have g1 : W.1 82 ((m : Int) + 1).toNat = g (m + 1) := by rw [show ((m : Int) + 1).toNat = m + 1 from by omega]; exact P.2.2.2.2.1 (m + 1) (by omega)
  have g2 : W.1 82 ((m : Int) + 2).toNat = g (m + 2) := by rw [show ((m : Int) + 2).toNat = m + 2 from by omega]; exact P.2.2.2.2.1 (m + 2) (by omega)
  have p0 := N (m + 1) 0 (by omega) (by decide)
  have p1 := N (m + 1) 1 (by omega) (by decide)
  have q0 := N (m + 2) 0 (by omega) (by decide)
  have q1 := N (m + 2) 1 (by omega) (by decide)
  rw [show 2 * (m + 1) + 0 = ((((m : Int) + 1) * 2) + 0).toNat from by omega] at p0
  rw [show 2 * (m + 1) + 1 = ((((m : Int) + 1) * 2) + 1).toNat from by omega] at p1
  rw [show 2 * (m + 2) + 0 = ((((m : Int) + 2) * 2) + 0).toNat from by omega] at q0
  rw [show 2 * (m + 2) + 1 = ((((m : Int) + 2) * 2) + 1).toNat from by omega] at q1
  have n1 : ¬ W.1 33 3 ≤ ((m : Int) + 1) / 3 := by unfold sNl at hm; omega
  have n2 : ¬ W.1 33 3 ≤ ((m : Int) + 2) / 3 := by unfold sNl at hm; omega
  have o1 : ¬ 600 ≤ (m : Int) + 1 := by omega
  have o2 : ¬ 600 ≤ (m : Int) + 2 := by omega
  have r0 : ¬ 1200 ≤ (((m : Int) + 1) * 2) + 0 := by omega
  have r1 : ¬ 1200 ≤ (((m : Int) + 1) * 2) + 1 := by omega
  have s0 : ¬ 1200 ≤ (((m : Int) + 2) * 2) + 0 := by omega
  have s1 : ¬ 1200 ≤ (((m : Int) + 2) * 2) + 1 := by omega
  have second : ∀ Z : Int × jW, (if 0 ≤ W.1 76 ((((m : Int) + 2) * 2) + 0).toNat then d_X6_belongs_r120_c4d (g (m + 2)) (sDy E m) Z.2 else if W.1 76 ((((m : Int) + 2) * 2) + 1).toNat < 0 then d_X6_belongs_r120_c4d (-1) (sDy E m) Z.2 else d_X6_belongs_r120_c4d (g (m + 2)) (sDy E m) Z.2) = d_X6_belongs_r120_c4d (sNa E g (m + 2)) (sDy E m) Z.2 := fun Z => by
    by_cases a : 0 ≤ W.1 76 ((((m : Int) + 2) * 2) + 0).toNat
    · rw [if_pos a, show sNa E g (m + 2) = g (m + 2) from if_neg (by rw [tv_t (Or.inl (q0.mp a))]; decide)]
    · rw [if_neg a]
      by_cases b : W.1 76 ((((m : Int) + 2) * 2) + 1).toNat < 0
      · rw [if_pos b, show sNa E g (m + 2) = -1 from if_pos (tv_f (fun y => y.elim (fun y => a (q0.mpr y)) (fun y => by have := q1.mpr y; omega)))]
      · rw [if_neg b, show sNa E g (m + 2) = g (m + 2) from if_neg (by rw [tv_t (Or.inr (q1.mp (by omega)))]; decide)]
  unfold d_X6_byParents_r120_c3d d_X6_byParents_r120_c3d_84
  rw [hb, if_neg (show ¬ (m : Int) = -1 from by omega), show ((m : Int)).toNat = m from by omega, l2, g1, g2]
  simp only [if_neg r0, if_neg r1, if_neg s0, if_neg s1, if_neg o1, if_neg o2, if_neg n1, if_neg n2]
  by_cases a : 0 ≤ W.1 76 ((((m : Int) + 1) * 2) + 0).toNat
  · rw [if_pos a, show sNa E g (m + 1) = g (m + 1) from if_neg (by rw [tv_t (Or.inl (p0.mp a))]; decide)]
    by_cases z : (d_X6_belongs_r120_c4d (g (m + 1)) (sDy E m) W).1 = -1
    · rw [if_pos z, if_pos z]; exact second _
    · rw [if_neg z, if_neg z]
  · rw [if_neg a]
    by_cases b : W.1 76 ((((m : Int) + 1) * 2) + 1).toNat < 0
    · rw [if_pos b, show sNa E g (m + 1) = -1 from if_pos (tv_f (fun y => y.elim (fun y => a (p0.mpr y)) (fun y => by have := p1.mpr y; omega)))]
      by_cases z : (d_X6_belongs_r120_c4d (-1) (sDy E m) W).1 = -1
      · rw [if_pos z, if_pos z]; exact second _
      · rw [if_neg z, if_neg z]
    · rw [if_neg b, show sNa E g (m + 1) = g (m + 1) from if_neg (by rw [tv_t (Or.inr (p1.mp (by omega)))]; decide)]
      by_cases z : (d_X6_belongs_r120_c4d (g (m + 1)) (sDy E m) W).1 = -1
      · rw [if_pos z, if_pos z]; exact second _
      · rw [if_neg z, if_neg z]
theorem by_3 {re : Int → Int → Int} (H : pBel d_X6_belongs_r120_c4d E kn re 4) (I : pIq E (sGs E kn).1) {W : jW} {p : Nat} {gr : Int} (hp : p < sNl E) (ep : (sGs E kn).1 p = (p : Int)) (hdd : 0 ≤ d ∧ d ≤ 146399) (P : pBx W E kn) (hg : 0 ≤ gr ∧ gr ≤ 5) : (d_X6_parishBy_r120_c3d gr (p : Int) d W).1 = sVal E (sGs E kn).1 kn (sBv E (sGs E kn).1 kn re) (p : Int) d gr ∧ pBx (d_X6_parishBy_r120_c3d gr (p : Int) d W).2 E kn ∧ pQy W (d_X6_parishBy_r120_c3d gr (p : Int) d W).2 ∧ ∀ i : Nat, i < 6 * 4 → (d_X6_parishBy_r120_c3d gr (p : Int) d W).2.1 121 i = W.1 121 i ∧ (d_X6_parishBy_r120_c3d gr (p : Int) d W).2.1 122 i = W.1 122 i := by
  have Px := P.1.1
  have T5 := P.1.2.1
  have Ir := Px.2.2.2.2.2.2.2
  have G := Px.1
  unfold d_X6_parishBy_r120_c3d sVal
  rcases (show gr = 0 ∨ gr = 1 ∨ gr = 2 ∨ gr = 3 ∨ gr = 4 ∨ gr = 5 from by omega) with rfl | rfl | rfl | rfl | rfl | rfl
  · simp only [show ((0 : Int) = 1) = False from by decide, show ((0 : Int) = 2) = False from by decide, show ((0 : Int) = 3) = False from by decide, show ((0 : Int) = 4) = False from by decide, show ((0 : Int) = 5) = False from by decide, if_false]
    exact ⟨xbb Px T5 I.1 P.2.2 hp ep, P, pQy_r, fun _ _ => ⟨trivial, trivial⟩⟩
  · simp only [show ((1 : Int) = 4) = False from by decide, show ((1 : Int) = 5) = False from by decide, if_false, if_true]
    exact ⟨xbl (gr := 1) (d := d) (co := 2) Px T5 I.1 P.2.2 (by decide) (by decide), P, pQy_r, fun _ _ => ⟨trivial, trivial⟩⟩
  · simp only [show ((2 : Int) = 1) = False from by decide, show ((2 : Int) = 4) = False from by decide, show ((2 : Int) = 5) = False from by decide, if_false, if_true]
    exact ⟨xbl (gr := 2) (d := d) (co := 1) Px T5 I.1 P.2.2 (by decide) (by decide), P, pQy_r, fun _ _ => ⟨trivial, trivial⟩⟩
  · simp only [show ((3 : Int) = 1) = False from by decide, show ((3 : Int) = 2) = False from by decide, show ((3 : Int) = 4) = False from by decide, show ((3 : Int) = 5) = False from by decide, if_false, if_true]
    exact ⟨xbl (gr := 3) (d := d) (co := 2) Px T5 I.1 P.2.2 (by decide) (by decide), P, pQy_r, fun _ _ => ⟨trivial, trivial⟩⟩
  · simp only [show ((4 : Int) = 1) = False from by decide, show ((4 : Int) = 2) = False from by decide, show ((4 : Int) = 3) = False from by decide, if_false, if_true]
    rw [bw_3 Px hp ep]
    by_cases z : sMo E (sGs E kn).1 (p : Int) 4 d = -1
    · rw [if_pos z, z]
      exact ⟨rfl, P, pQy_r, fun _ _ => ⟨rfl, rfl⟩⟩
    · obtain ⟨m, m1, m2, m3⟩ := mo_4 Ir z
      rw [if_neg z, m1, bn_3 Px P.2.1 m2 m3, show ((m : Int)).toNat = m from by omega]
      have h := H (sNa E (sGs E kn).1 (m - 1)) d W (na_s G (by omega)) (fun y => absurd y (by decide)) hdd P
      exact ⟨h.1, h.2.1, h.2.2.1, h.2.2.2.1⟩
  · simp only [show ((5 : Int) = 1) = False from by decide, show ((5 : Int) = 2) = False from by decide, show ((5 : Int) = 3) = False from by decide, show ((5 : Int) = 4) = False from by decide, if_false, if_true]
    have bi := xbi Px I.2.2.2 hp ep
    by_cases z : sMo E (sGs E kn).1 (p : Int) 0 146399 = -1
    · rw [if_pos z]
      have e : d_X6_byParents_r120_c3d (p : Int) W = (-1, W) := by
        unfold d_X6_byParents_r120_c3d
        rw [bi, if_pos z]
        rfl
      rw [e]
      exact ⟨rfl, P, pQy_r, fun _ _ => ⟨rfl, rfl⟩⟩
    · obtain ⟨m, m1, m2, m3, m4, m5⟩ := mo_0 Ir z
      rw [if_neg z, bp_3 Px P.2.1 (bi.trans m1) m2 m3, m1, show ((m : Int)).toNat = m from by omega]
      have h := H (sNa E (sGs E kn).1 (m + 1)) (sDy E m) W (na_s G (by omega)) (fun y => absurd y (by decide)) ⟨m4, m5⟩ P
      by_cases z2 : (d_X6_belongs_r120_c4d (sNa E (sGs E kn).1 (m + 1)) (sDy E m) W).1 = -1
      · rw [if_pos z2, if_pos (h.1.symm.trans z2)]
        have h2 := H (sNa E (sGs E kn).1 (m + 2)) (sDy E m) _ (na_s G (by omega)) (fun y => absurd y (by decide)) ⟨m4, m5⟩ h.2.1
        exact ⟨h2.1, h2.2.1, pQy_t h.2.2.1 h2.2.2.1, fun i hi => ⟨(h2.2.2.2.1 i hi).1.trans (h.2.2.2.1 i hi).1, (h2.2.2.2.1 i hi).2.trans (h.2.2.2.1 i hi).2⟩⟩
      · rw [if_neg z2, if_neg (fun y => z2 (h.1.trans y))]
        exact ⟨h.1, h.2.1, h.2.2.1, h.2.2.2.1⟩
theorem b238_3 {re : Int → Int → Int} (H : pBel d_X6_belongs_r120_c4d E kn re 4) (I : pIq E (sGs E kn).1) {p n : Nat} {bs : Int} {gr cl : Nat → Int} (hp : p < sNl E) (ep : (sGs E kn).1 p = (p : Int)) (hdd : 0 ≤ d ∧ d ≤ 146399) (n6 : n ≤ 6) (hg : ∀ i : Nat, i < n → 0 ≤ gr i ∧ gr i ≤ 5) : ∀ (c i f : Nat) (W : jW), i + c = n → c < f → pBx W E kn → (∀ j : Nat, j < n → W.1 121 (6 * 3 + j) = gr j ∧ W.1 122 (6 * 3 + j) = cl j) → ∃ V : jW, d_X6_belongs_r120_c3d_238 f (p : Int) d (n : Int) bs (i : Int) W = ((sFs (sVal E (sGs E kn).1 kn (sBv E (sGs E kn).1 kn re) (p : Int) d) gr cl c i).1, V) ∧ pBx V E kn ∧ pQy W V ∧ (∀ i : Nat, i < 6 * 3 → V.1 121 i = W.1 121 i ∧ V.1 122 i = W.1 122 i) ∧ V.1 120 6 = (sFs (sVal E (sGs E kn).1 kn (sBv E (sGs E kn).1 kn re) (p : Int) d) gr cl c i).2 ∧ V.1 120 7 = if (sFs (sVal E (sGs E kn).1 kn (sBv E (sGs E kn).1 kn re) (p : Int) d) gr cl c i).1 = -1 then bs else 0 := by
  have up : ∀ (W : jW) (a b : Int), pBx W E kn → pBx (vu (vu W 120 6 a) 120 7 b) E kn := fun W a b P => pBx_Q P (pVk_u (pVk_u P.1 (by decide)) (by decide)) (pQy_u (pQy_u pQy_r (by decide)) (by decide)) ((vu_n (by decide)).trans (vu_n (by decide)))
  have uq : ∀ (W : jW) (a b : Int), pQy W (vu (vu W 120 6 a) 120 7 b) := fun W a b => pQy_u (pQy_u pQy_r (by decide)) (by decide)
  intro c
  induction c with
  | zero =>
    intro i f W e hf P h
    obtain ⟨f, rfl⟩ : ∃ q, f = q + 1 := ⟨f - 1, by omega⟩
    refine ⟨vu (vu W 120 6 (-1)) 120 7 bs, if_pos (by omega), up W _ _ P, uq W _ _, fun i hi => ⟨(vu_n (by omega)).trans (vu_n (by omega)), (vu_n (by omega)).trans (vu_n (by omega))⟩, (vu_n (by decide)).trans (vu_e rfl), ?_⟩
    rw [if_pos (show (sFs (sVal E (sGs E kn).1 kn (sBv E (sGs E kn).1 kn re) (p : Int) d) gr cl 0 i).1 = -1 from rfl)]
    exact vu_e rfl
  | succ c ih =>
    intro i f W e hf P h
    obtain ⟨f, rfl⟩ : ∃ q, f = q + 1 := ⟨f - 1, by omega⟩
    have hi := h i (by omega)
    have q := by_3 H I hp ep hdd P (hg i (by omega))
    have st : d_X6_belongs_r120_c3d_238 (f + 1) (p : Int) d (n : Int) bs (i : Int) W = (if (d_X6_parishBy_r120_c3d (gr i) (p : Int) d W).1 = -1 then d_X6_belongs_r120_c3d_238 f (p : Int) d (n : Int) bs ((i : Int) + 1) (d_X6_parishBy_r120_c3d (gr i) (p : Int) d W).2 else ((d_X6_parishBy_r120_c3d (gr i) (p : Int) d W).1, vu (vu (d_X6_parishBy_r120_c3d (gr i) (p : Int) d W).2 120 6 ((d_X6_parishBy_r120_c3d (gr i) (p : Int) d W).2.1 122 (18 + (i : Int)).toNat)) 120 7 0)) := by
      refine (if_neg (by omega)).trans ?_
      rw [show W.1 121 (18 + (i : Int)).toNat = gr i from by rw [show (18 + (i : Int)).toNat = 6 * 3 + i from by omega]; exact hi.1]
    rw [st, show (18 + (i : Int)).toNat = 6 * 3 + i from by omega]
    generalize d_X6_parishBy_r120_c3d (gr i) (p : Int) d W = Z at *
    have z2 : Z.2.1 122 (6 * 3 + i) = cl i := (q.2.2.2 _ (by omega)).2.trans hi.2
    by_cases z : Z.1 = -1
    · have sf : sFs (sVal E (sGs E kn).1 kn (sBv E (sGs E kn).1 kn re) (p : Int) d) gr cl (c + 1) i = sFs (sVal E (sGs E kn).1 kn (sBv E (sGs E kn).1 kn re) (p : Int) d) gr cl c (i + 1) := if_pos (q.1.symm.trans z)
      rw [if_pos z, sf]
      obtain ⟨V, v1, v2, v3, v4, v5⟩ := ih (i + 1) f Z.2 (by omega) (by omega) q.2.1 (fun j hj => ⟨(q.2.2.2 _ (by omega)).1.trans (h j hj).1, (q.2.2.2 _ (by omega)).2.trans (h j hj).2⟩)
      rw [show ((i + 1 : Nat) : Int) = (i : Int) + 1 from by omega] at v1
      exact ⟨V, v1, v2, pQy_t q.2.2.1 v3, fun j hj => ⟨(v4 j hj).1.trans (q.2.2.2 j (by omega)).1, (v4 j hj).2.trans (q.2.2.2 j (by omega)).2⟩, v5⟩
    · have sf : sFs (sVal E (sGs E kn).1 kn (sBv E (sGs E kn).1 kn re) (p : Int) d) gr cl (c + 1) i = (sVal E (sGs E kn).1 kn (sBv E (sGs E kn).1 kn re) (p : Int) d (gr i), cl i) := if_neg (fun y => z (q.1.trans y))
      rw [if_neg z, sf, z2, q.1]
      refine ⟨_, rfl, up _ _ _ q.2.1, pQy_t q.2.2.1 (uq _ _ _), fun j hj => ⟨((vu_n (by omega)).trans (vu_n (by omega))).trans (q.2.2.2 j (by omega)).1, ((vu_n (by omega)).trans (vu_n (by omega))).trans (q.2.2.2 j (by omega)).2⟩, (vu_n (by decide)).trans (vu_e rfl), ?_⟩
      rw [if_neg (fun y => z (q.1.trans y))]
      exact vu_e rfl
theorem bz_3 {re : Int → Int → Int} (H : pBel d_X6_belongs_r120_c4d E kn re 4) (I : pIq E (sGs E kn).1) (Ik : pIk E.1) (Il : pIl E.1) (I1 : pI1 E.1) (O : ∀ d : Int, 0 ≤ d ∧ d ≤ 146399 → ∀ p : Nat, p < sNl E → (sGs E kn).1 p = (p : Int) → qOk fun w => sQu E (sGs E kn).1 d kn w (p : Int)) : pBel d_X6_belongs_r120_c3d E kn (sBv E (sGs E kn).1 kn re) 3 := by
  intro s d X hs hJ hdd P
  have u0 : pVk (vu (vu X 120 6 (-1)) 120 7 0) E kn := pVk_u (pVk_u P.1 (by decide)) (by decide)
  have uq : pQy X (vu (vu X 120 6 (-1)) 120 7 0) := pQy_u (pQy_u pQy_r (by decide)) (by decide)
  have u5 : (vu (vu X 120 6 (-1)) 120 7 0).1 120 5 = X.1 120 5 := (vu_n (by decide)).trans (vu_n (by decide))
  rcases hs with rfl | ⟨p, hp, rfl, ep⟩
  · have e : d_X6_belongs_r120_c3d (-1) d X = (-1, vu (vu X 120 6 (-1)) 120 7 0) := if_pos rfl
    rw [e]
    exact ⟨(if_pos rfl).symm, pBx_Q P u0 uq u5, uq, fun i hi => ⟨(vu_n (by omega)).trans (vu_n (by omega)), (vu_n (by omega)).trans (vu_n (by omega))⟩, fun y => absurd rfl y⟩
  · have e : d_X6_belongs_r120_c3d (p : Int) d X = d_X6_belongs_r120_c3d_54 3 (p : Int) d 0 0 0 (d_X0_readHouses_r98d d kn (d_X0_readLaws_r98d d kn (vu (vu X 120 6 (-1)) 120 7 0))) := by
      unfold d_X6_belongs_r120_c3d
      rw [if_neg (show ¬ (p : Int) = -1 from by omega), P.2.2]
    rw [e]
    obtain ⟨l1, l2, l3, l4, l5, l6, l7⟩ := xtl (d := d) u0 Il Ik
    generalize hW1 : d_X0_readLaws_r98d d kn (vu (vu X 120 6 (-1)) 120 7 0) = W1 at *
    obtain ⟨h1, h2, h3, h4⟩ := xth (d := d) l2 I.2.1 l1
    generalize hW2 : d_X0_readHouses_r98d d kn W1 = W2 at *
    have y2 : pQy X W2 := pQy_t uq (pQy_t l5 h3)
    have s121 : W2.1 121 = X.1 121 := ((h4 121 (by decide)).1.trans (l6 121 (by decide))).trans ((vu_c (by decide)).trans (vu_c (by decide)))
    have s122 : W2.1 122 = X.1 122 := ((h4 122 (by decide)).1.trans (l6 122 (by decide))).trans ((vu_c (by decide)).trans (vu_c (by decide)))
    have s120 : W2.1 120 = (vu (vu X 120 6 (-1)) 120 7 0).1 120 := (h4 120 (by decide)).1.trans (l6 120 (by decide))
    obtain ⟨V, v1, v2⟩ := b54_3 h1 I hdd hp ep Ik Il I1 (O d hdd p hp ep) pZ_r rfl (fun _ _ => ⟨rfl, rfl⟩)
    rw [v1]
    have PV : pBx V E kn := pBx_Q P (pVk_Z h2 v2.1) (pQy_t y2 (zQy v2.1)) (by rw [v2.2.1, s120]; exact u5)
    obtain ⟨Z, z1, z2, z3, z4, z5, z6⟩ := b238_3 H I hp ep hdd (bl_6 I1 720) (bl_c I1 720).2 (sBl E (sGs E kn).1 d kn (p : Int) 720).1 0 7 V (by omega) (by have := bl_6 (E := E) (g := (sGs E kn).1) (d := d) (kn := kn) (s := (p : Int)) I1 720; omega) PV v2.2.2.2 (bs := (sBl E (sGs E kn).1 d kn (p : Int) 720).2.2.2)
    rw [show ((0 : Nat) : Int) = 0 from rfl] at z1
    rw [z1]
    refine ⟨(if_neg (show ¬ (p : Int) = -1 from by omega)).symm, z2, pQy_t (pQy_t y2 (zQy v2.1)) z3, fun i hi => ?_, fun _ => ⟨z5, z6⟩⟩
    exact ⟨(z4 i hi).1.trans ((v2.2.2.1 i hi).1.trans (by rw [s121])), (z4 i hi).2.trans ((v2.2.2.1 i hi).2.trans (by rw [s122]))⟩
theorem b115_2 {t : Int} {T hd so p : Nat} {X : jW} (K54 : Int → Int → Int → Int → Int → jW → (Int × jW)) (K63 : Int → Int → Int → Int → Int → Int → jW → (Int × jW)) (Q : pV X E g d kn) (I : pIq E g) (hdd : 0 ≤ d ∧ d ≤ 146399) (hp : p < sNl E) (ep : g p = (p : Int)) (Ik : pIk E.1) (Il : pIl E.1) (I1 : pI1 E.1) (O : qOk fun w => sQu E g d kn w (p : Int)) (ht : 0 ≤ t ∧ t < E.1 4) (Qe : pTe X E.1 t T hd) (hso : so ≤ 1) (es : E.1 (18820 + (924 * t)).toNat = (so : Int)) : ∀ (q c f : Nat) (W : jW), (c : Int) + (q : Int) = E.1 ((18820 + (924 * t)) + 3).toNat → q < f → pBw X W 2 (sBl E g d kn (p : Int) (360 * so + 12 * t.toNat + c)) → ∃ V : jW, d_X6_belongs_r120_c2d_115 K54 K63 f (p : Int) d ((sBl E g d kn (p : Int) (360 * so + 12 * t.toNat + c)).1 : Int) (sBl E g d kn (p : Int) (360 * so + 12 * t.toNat + c)).2.2.2 (so : Int) t T (E.1 ((18820 + (924 * t)) + 3).toNat) (c : Int) W = K63 (p : Int) d ((sBl E g d kn (p : Int) (360 * so + 12 * t.toNat + (c + q))).1 : Int) (sBl E g d kn (p : Int) (360 * so + 12 * t.toNat + (c + q))).2.2.2 (so : Int) (t + 1) V ∧ pBw X V 2 (sBl E g d kn (p : Int) (360 * so + 12 * t.toNat + (c + q))) := by
  have b30 := Il.2.1
  have J12 := (Il.2.2 t ht.1 ht.2).2.1
  have T0 : ¬ T = 0 := by have := Qe.1; omega
  intro q
  induction q with
  | zero =>
    intro c f W e hf h
    obtain ⟨f, rfl⟩ : ∃ q, f = q + 1 := ⟨f - 1, by omega⟩
    exact ⟨W, (if_neg T0).trans (if_pos (by omega)), h⟩
  | succ q ih =>
    intro c f W e hf h
    obtain ⟨f, rfl⟩ : ∃ q, f = q + 1 := ⟨f - 1, by omega⟩
    have QW := pTe_Qy (zQy h.1) Qe
    have hc : (0 : Int) ≤ (c : Int) ∧ (c : Int) < E.1 ((18820 + (924 * t)) + 3).toNat := by omega
    have H := QW.2.2.2.2.2.2.2 (c : Int) hc.1 hc.2
    have k0 := (he_e QW hc.1 hc.2 (show (0 : Int) ≤ 0 ∧ (0 : Int) < 6 from by decide)).trans H.1
    have k1 := (he_e QW hc.1 hc.2 (show (0 : Int) ≤ 1 ∧ (1 : Int) < 6 from by decide)).trans H.2.1
    have kt : ((360 * so + 12 * t.toNat + c : Nat) : Int) % 360 / 12 = t := by omega
    have kc : ((360 * so + 12 * t.toNat + c : Nat) : Int) % 12 = (c : Int) := by omega
    have ks : ((360 * so + 12 * t.toNat + c : Nat) : Int) / 360 = (so : Int) := by omega
    have k3 : ((360 * so + 12 * t.toNat + c : Nat) : Int) % 360 = t * 12 + (c : Int) := by omega
    have gk : sBg E.1 ((360 * so + 12 * t.toNat + c : Nat) : Int) = E.1 ((((18820 + (924 * t)) + 4) + (10 * (c : Int))) + 1).toNat := by
      unfold sBg
      rw [kt, kc]
    have pk : sBh E g d kn (p : Int) ((360 * so + 12 * t.toNat + c : Nat) : Int) ↔ E.1 (((18820 + (924 * t)) + 4) + (10 * (c : Int))).toNat = 1 ∧ sHd E.1 d kn t (c : Int) fun w => sQu E g d kn w (p : Int) := by
      unfold sBh
      rw [kt, kc, ks]
      exact ⟨fun y => y.2.2.2, fun y => ⟨⟨by omega, by omega⟩, ⟨by omega, by omega⟩, es, y⟩⟩
    have hz := xhz (t := t) (c := (c : Int)) Q I hdd hp ep Ik Il O ht hc h.1
    have lt6 := fun a b => bl_l (E := E) (g := g) (d := d) (kn := kn) (s := (p : Int)) (k := 360 * so + 12 * t.toNat + c) I1 a b
    have go : ∀ W1 : jW, ¬ (sBh E g d kn (p : Int) ((360 * so + 12 * t.toNat + c : Nat) : Int) ∧ j_iand (j_ishr (sBl E g d kn (p : Int) (360 * so + 12 * t.toNat + c)).2.2.2 (sBg E.1 ((360 * so + 12 * t.toNat + c : Nat) : Int))) 1 = 0) → pBw X W1 2 (sBl E g d kn (p : Int) (360 * so + 12 * t.toNat + c)) → ∃ V : jW, d_X6_belongs_r120_c2d_115 K54 K63 f (p : Int) d ((sBl E g d kn (p : Int) (360 * so + 12 * t.toNat + c)).1 : Int) (sBl E g d kn (p : Int) (360 * so + 12 * t.toNat + c)).2.2.2 (so : Int) t T (E.1 ((18820 + (924 * t)) + 3).toNat) ((c : Int) + 1) W1 = K63 (p : Int) d ((sBl E g d kn (p : Int) (360 * so + 12 * t.toNat + (c + (q + 1)))).1 : Int) (sBl E g d kn (p : Int) (360 * so + 12 * t.toNat + (c + (q + 1)))).2.2.2 (so : Int) (t + 1) V ∧ pBw X V 2 (sBl E g d kn (p : Int) (360 * so + 12 * t.toNat + (c + (q + 1)))) := fun W1 ne hw => by
      have e1 : sBl E g d kn (p : Int) (360 * so + 12 * t.toNat + (c + 1)) = sBl E g d kn (p : Int) (360 * so + 12 * t.toNat + c) := bl_n ne
      have y := ih (c + 1) f W1 (by omega) (by omega) (by rw [e1]; exact hw)
      rw [e1, show c + 1 + q = c + (q + 1) from by omega, show ((c + 1 : Nat) : Int) = (c : Int) + 1 from by omega] at y
      exact y
    have st : d_X6_belongs_r120_c2d_115 K54 K63 (f + 1) (p : Int) d ((sBl E g d kn (p : Int) (360 * so + 12 * t.toNat + c)).1 : Int) (sBl E g d kn (p : Int) (360 * so + 12 * t.toNat + c)).2.2.2 (so : Int) t T (E.1 ((18820 + (924 * t)) + 3).toNat) (c : Int) W = (if d_head T (c : Int) 0 W = 0 then (if j_iand (j_ishr (sBl E g d kn (p : Int) (360 * so + 12 * t.toNat + c)).2.2.2 (d_head T (c : Int) 1 W)) 1 = 0 then (if 6 ≤ ((sBl E g d kn (p : Int) (360 * so + 12 * t.toNat + c)).1 : Int) then d_X6_belongs_r120_c2d_115 K54 K63 f (p : Int) d ((sBl E g d kn (p : Int) (360 * so + 12 * t.toNat + c)).1 : Int) (sBl E g d kn (p : Int) (360 * so + 12 * t.toNat + c)).2.2.2 (so : Int) t T (E.1 ((18820 + (924 * t)) + 3).toNat) ((c : Int) + 1) W else if (d_X0_holdsFor_r98d t (c : Int) (p : Int) W).1 = 0 then d_X6_belongs_r120_c2d_115 K54 K63 f (p : Int) d ((sBl E g d kn (p : Int) (360 * so + 12 * t.toNat + c)).1 : Int) (sBl E g d kn (p : Int) (360 * so + 12 * t.toNat + c)).2.2.2 (so : Int) t T (E.1 ((18820 + (924 * t)) + 3).toNat) ((c : Int) + 1) (d_X0_holdsFor_r98d t (c : Int) (p : Int) W).2 else d_X6_belongs_r120_c2d_115 K54 K63 f (p : Int) d (((sBl E g d kn (p : Int) (360 * so + 12 * t.toNat + c)).1 : Int) + 1) (j_ior (sBl E g d kn (p : Int) (360 * so + 12 * t.toNat + c)).2.2.2 (j_ishl 1 (d_head T (c : Int) 1 W))) (so : Int) t T (E.1 ((18820 + (924 * t)) + 3).toNat) ((c : Int) + 1) (vu (vu (d_X0_holdsFor_r98d t (c : Int) (p : Int) W).2 121 (12 + ((sBl E g d kn (p : Int) (360 * so + 12 * t.toNat + c)).1 : Int)).toNat (d_head T (c : Int) 1 W)) 122 (12 + ((sBl E g d kn (p : Int) (360 * so + 12 * t.toNat + c)).1 : Int)).toNat (t * 12 + (c : Int)))) else d_X6_belongs_r120_c2d_115 K54 K63 f (p : Int) d ((sBl E g d kn (p : Int) (360 * so + 12 * t.toNat + c)).1 : Int) (sBl E g d kn (p : Int) (360 * so + 12 * t.toNat + c)).2.2.2 (so : Int) t T (E.1 ((18820 + (924 * t)) + 3).toNat) ((c : Int) + 1) W) else d_X6_belongs_r120_c2d_115 K54 K63 f (p : Int) d ((sBl E g d kn (p : Int) (360 * so + 12 * t.toNat + c)).1 : Int) (sBl E g d kn (p : Int) (360 * so + 12 * t.toNat + c)).2.2.2 (so : Int) t T (E.1 ((18820 + (924 * t)) + 3).toNat) ((c : Int) + 1) W) := (if_neg T0).trans (if_neg (by omega))
    rw [st, k0, k1]
    by_cases n0 : E.1 (((18820 + (924 * t)) + 4) + (10 * (c : Int))).toNat = 1
    · rw [n0, if_neg (show ¬ (1 : Int) = 0 from by decide), if_neg (show ¬ (1 : Int) = 0 from by decide), if_pos (show (1 : Int) - 1 = 0 from by decide), ← gk, ← k3]
      by_cases n1 : j_iand (j_ishr (sBl E g d kn (p : Int) (360 * so + 12 * t.toNat + c)).2.2.2 (sBg E.1 ((360 * so + 12 * t.toNat + c : Nat) : Int))) 1 = 0
      · rw [if_pos n1]
        by_cases n2 : sHd E.1 d kn t (c : Int) fun w => sQu E g d kn w (p : Int)
        · have hb := pk.mpr ⟨n0, n2⟩
          have l6 := lt6 hb n1
          have e1 : sBl E g d kn (p : Int) (360 * so + 12 * t.toNat + (c + 1)) = _ := bl_y hb n1
          rw [if_neg (by omega), hz.1, tv_t n2, if_neg (show ¬ (1 : Int) = 0 from by decide)]
          have y := ih (c + 1) f (vu (vu (d_X0_holdsFor_r98d t (c : Int) (p : Int) W).2 121 (6 * 2 + (sBl E g d kn (p : Int) (360 * so + 12 * t.toNat + c)).1) (sBg E.1 ((360 * so + 12 * t.toNat + c : Nat) : Int))) 122 (6 * 2 + (sBl E g d kn (p : Int) (360 * so + 12 * t.toNat + c)).1) (((360 * so + 12 * t.toNat + c : Nat) : Int) % 360)) (by omega) (by omega) (by rw [e1]; exact pBw_a (pBw_h h hz.2.1 hz.2.2))
          rw [e1, show c + 1 + q = c + (q + 1) from by omega, show ((c + 1 : Nat) : Int) = (c : Int) + 1 from by omega] at y
          rw [show (12 + ((sBl E g d kn (p : Int) (360 * so + 12 * t.toNat + c)).1 : Int)).toNat = 6 * 2 + (sBl E g d kn (p : Int) (360 * so + 12 * t.toNat + c)).1 from by omega]
          exact y
        · have ne : ¬ (sBh E g d kn (p : Int) ((360 * so + 12 * t.toNat + c : Nat) : Int) ∧ j_iand (j_ishr (sBl E g d kn (p : Int) (360 * so + 12 * t.toNat + c)).2.2.2 (sBg E.1 ((360 * so + 12 * t.toNat + c : Nat) : Int))) 1 = 0) := fun y => n2 (pk.mp y.1).2
          by_cases n3 : 6 ≤ ((sBl E g d kn (p : Int) (360 * so + 12 * t.toNat + c)).1 : Int)
          · rw [if_pos n3]; exact go W ne h
          · rw [if_neg n3, hz.1, tv_f n2, if_pos rfl]; exact go _ ne (pBw_h h hz.2.1 hz.2.2)
      · rw [if_neg n1]; exact go W (fun y => n1 y.2) h
    · rw [if_neg (show ¬ (if E.1 (((18820 + (924 * t)) + 4) + (10 * (c : Int))).toNat = 0 then 8 else E.1 (((18820 + (924 * t)) + 4) + (10 * (c : Int))).toNat - 1) = 0 from by
        by_cases q : E.1 (((18820 + (924 * t)) + 4) + (10 * (c : Int))).toNat = 0
        · rw [if_pos q]; decide
        · rw [if_neg q]; omega)]
      exact go W (fun y => n0 (pk.mp y.1).1) h
theorem b63_2 {so p : Nat} {X : jW} (K54 : Int → Int → Int → Int → Int → jW → (Int × jW)) (Q : pV X E g d kn) (I : pIq E g) (hdd : 0 ≤ d ∧ d ≤ 146399) (hp : p < sNl E) (ep : g p = (p : Int)) (Ik : pIk E.1) (Il : pIl E.1) (I1 : pI1 E.1) (O : qOk fun w => sQu E g d kn w (p : Int)) (hso : so ≤ 1) : ∀ (q t f : Nat) (W : jW), (t : Int) + (q : Int) = E.1 4 → q < f → pBw X W 2 (sBl E g d kn (p : Int) (360 * so + 12 * t)) → ∃ V : jW, d_X6_belongs_r120_c2d_63 K54 f (p : Int) d ((sBl E g d kn (p : Int) (360 * so + 12 * t)).1 : Int) (sBl E g d kn (p : Int) (360 * so + 12 * t)).2.2.2 (so : Int) (t : Int) W = K54 (p : Int) d ((sBl E g d kn (p : Int) (360 * so + 360)).1 : Int) (sBl E g d kn (p : Int) (360 * so + 360)).2.2.2 ((so : Int) + 1) V ∧ pBw X V 2 (sBl E g d kn (p : Int) (360 * so + 360)) := by
  have b30 := Il.2.1
  intro q
  induction q with
  | zero =>
    intro t f W e hf h
    obtain ⟨f, rfl⟩ : ∃ q, f = q + 1 := ⟨f - 1, by omega⟩
    have c32 : W.1 32 18 = E.1 4 := (pTc_Qy (zQy h.1) Q.2.1).1
    have e1 : sBl E g d kn (p : Int) (360 * so + 360) = sBl E g d kn (p : Int) (360 * so + 12 * t) := bl_u (by omega) (fun j j1 j2 y => by
      have y2 := y.1.2
      omega)
    rw [e1]
    exact ⟨W, if_pos (by omega), h⟩
  | succ q ih =>
    intro t f W e hf h
    obtain ⟨f, rfl⟩ : ∃ q, f = q + 1 := ⟨f - 1, by omega⟩
    have c32 : W.1 32 18 = E.1 4 := (pTc_Qy (zQy h.1) Q.2.1).1
    obtain ⟨T, hd, eT, Qe, _⟩ := Q.2.1.2 (t : Int) (by omega) (by omega)
    have QW := pTe_Qy (zQy h.1) Qe
    have T0 : ¬ T = 0 := by have := Qe.1; omega
    have eW : W.2.2.1 66 (t : Int).toNat = some T := ((zQy h.1).2.1 66 _ (by omega)).trans eT
    have J12 := Il.2.2 (t : Int) (by omega) (by omega)
    have st : d_X6_belongs_r120_c2d_63 K54 (f + 1) (p : Int) d ((sBl E g d kn (p : Int) (360 * so + 12 * t)).1 : Int) (sBl E g d kn (p : Int) (360 * so + 12 * t)).2.2.2 (so : Int) (t : Int) W = (if E.1 ((18820 + (924 * (t : Int))) + 0).toNat = (so : Int) then d_X6_belongs_r120_c2d_115 K54 (fun l1 l2 l5 l6 l7 l8 W => d_X6_belongs_r120_c2d_63 K54 f l1 l2 l5 l6 l7 l8 W) 13 (p : Int) d ((sBl E g d kn (p : Int) (360 * so + 12 * t)).1 : Int) (sBl E g d kn (p : Int) (360 * so + 12 * t)).2.2.2 (so : Int) (t : Int) T (E.1 ((18820 + (924 * (t : Int))) + 3).toNat) 0 W else d_X6_belongs_r120_c2d_101 K54 (fun l1 l2 l5 l6 l7 l8 W => d_X6_belongs_r120_c2d_63 K54 f l1 l2 l5 l6 l7 l8 W) (p : Int) d ((sBl E g d kn (p : Int) (360 * so + 12 * t)).1 : Int) (sBl E g d kn (p : Int) (360 * so + 12 * t)).2.2.2 (so : Int) (t : Int) T W) := by
      refine (if_neg (by omega)).trans ((if_neg (by omega)).trans ?_)
      rw [eW, if_neg (show ¬ (some T).isNone = true from fun y => Bool.noConfusion y), show (some T).getD 0 = T from rfl, QW.2.2.1, QW.2.2.2.2.2.1]
      rfl
    rw [st, Int.add_zero]
    by_cases n0 : E.1 (18820 + (924 * (t : Int))).toNat = (so : Int)
    · rw [if_pos n0]
      obtain ⟨V, v1, v2⟩ := b115_2 K54 (fun l1 l2 l5 l6 l7 l8 W => d_X6_belongs_r120_c2d_63 K54 f l1 l2 l5 l6 l7 l8 W) Q I hdd hp ep Ik Il I1 O ⟨by omega, by omega⟩ Qe hso n0 (E.1 ((18820 + (924 * (t : Int))) + 3).toNat).toNat 0 13 W (by omega) (by omega) h
      rw [show (t : Int).toNat = t from by omega, Nat.zero_add] at v1 v2
      have e1 : sBl E g d kn (p : Int) (360 * so + 12 * (t + 1)) = sBl E g d kn (p : Int) (360 * so + 12 * t + (E.1 ((18820 + (924 * (t : Int))) + 3).toNat).toNat) := bl_u (by omega) (fun j j1 j2 y => by
        have y2 := y.2.1.2
        rw [show (j : Int) % 360 / 12 = (t : Int) from by omega] at y2
        omega)
      obtain ⟨V2, w1, w2⟩ := ih (t + 1) f V (by omega) (by omega) (by rw [e1]; exact v2)
      rw [e1, show ((t + 1 : Nat) : Int) = (t : Int) + 1 from by omega] at w1
      exact ⟨V2, v1.trans w1, w2⟩
    · rw [if_neg n0]
      have e1 : sBl E g d kn (p : Int) (360 * so + 12 * (t + 1)) = sBl E g d kn (p : Int) (360 * so + 12 * t) := bl_u (by omega) (fun j j1 j2 y => by
        have y2 := y.2.2.1
        rw [show (j : Int) % 360 / 12 = (t : Int) from by omega, show (j : Int) / 360 = (so : Int) from by omega] at y2
        exact n0 y2)
      obtain ⟨V2, w1, w2⟩ := ih (t + 1) f W (by omega) (by omega) (by rw [e1]; exact h)
      rw [e1, show ((t + 1 : Nat) : Int) = (t : Int) + 1 from by omega] at w1
      refine ⟨V2, Eq.trans ?_ w1, w2⟩
      unfold d_X6_belongs_r120_c2d_101 d_X6_belongs_r120_c2d_200110
      rw [if_neg T0, if_neg T0]
      exact (if_neg T0).trans (if_pos (by decide))
theorem b54_2 {p : Nat} {X W : jW} (Q : pV X E g d kn) (I : pIq E g) (hdd : 0 ≤ d ∧ d ≤ 146399) (hp : p < sNl E) (ep : g p = (p : Int)) (Ik : pIk E.1) (Il : pIl E.1) (I1 : pI1 E.1) (O : qOk fun w => sQu E g d kn w (p : Int)) (z : pZ X W) (e120 : W.1 120 = X.1 120) (e1 : ∀ i : Nat, i < 6 * 2 → W.1 121 i = X.1 121 i ∧ W.1 122 i = X.1 122 i) : ∃ V : jW, d_X6_belongs_r120_c2d_54 3 (p : Int) d 0 0 0 W = d_X6_belongs_r120_c2d_238 7 (p : Int) d ((sBl E g d kn (p : Int) 720).1 : Int) (sBl E g d kn (p : Int) 720).2.2.2 0 V ∧ pBw X V 2 (sBl E g d kn (p : Int) 720) := by
  have b30 := Il
  have h0 : pBw X W 2 (sBl E g d kn (p : Int) (360 * 0 + 12 * 0)) := ⟨z, e120, e1, fun i hi => absurd hi (Nat.not_lt_zero i)⟩
  obtain ⟨V, v1, v2⟩ := b63_2 (so := 0) (fun l1 l2 l5 l6 l7 W => d_X6_belongs_r120_c2d_54 2 l1 l2 l5 l6 l7 W) Q I hdd hp ep Ik Il I1 O (by decide) (E.1 4).toNat 0 31 W (by have := Il.1; omega) (by have := Il.2.1; omega) h0
  obtain ⟨V2, w1, w2⟩ := b63_2 (so := 1) (fun l1 l2 l5 l6 l7 W => d_X6_belongs_r120_c2d_54 1 l1 l2 l5 l6 l7 W) Q I hdd hp ep Ik Il I1 O (by decide) (E.1 4).toNat 0 31 V (by have := Il.1; omega) (by have := Il.2.1; omega) v2
  refine ⟨V2, ?_, w2⟩
  have s1 : d_X6_belongs_r120_c2d_54 3 (p : Int) d 0 0 0 W = d_X6_belongs_r120_c2d_63 (fun l1 l2 l5 l6 l7 W => d_X6_belongs_r120_c2d_54 2 l1 l2 l5 l6 l7 W) 31 (p : Int) d 0 0 0 0 W := if_neg (by decide)
  have s2 : d_X6_belongs_r120_c2d_54 2 (p : Int) d ((sBl E g d kn (p : Int) (360 * 0 + 360)).1 : Int) (sBl E g d kn (p : Int) (360 * 0 + 360)).2.2.2 (((0 : Nat) : Int) + 1) V = d_X6_belongs_r120_c2d_63 (fun l1 l2 l5 l6 l7 W => d_X6_belongs_r120_c2d_54 1 l1 l2 l5 l6 l7 W) 31 (p : Int) d ((sBl E g d kn (p : Int) (360 * 1 + 12 * 0)).1 : Int) (sBl E g d kn (p : Int) (360 * 1 + 12 * 0)).2.2.2 ((1 : Nat) : Int) ((0 : Nat) : Int) V := if_neg (by decide)
  have s3 : d_X6_belongs_r120_c2d_54 1 (p : Int) d ((sBl E g d kn (p : Int) (360 * 1 + 360)).1 : Int) (sBl E g d kn (p : Int) (360 * 1 + 360)).2.2.2 (((1 : Nat) : Int) + 1) V2 = d_X6_belongs_r120_c2d_238 7 (p : Int) d ((sBl E g d kn (p : Int) 720).1 : Int) (sBl E g d kn (p : Int) 720).2.2.2 0 V2 := if_pos (by decide)
  exact s1.trans (v1.trans (s2.trans (w1.trans s3)))
theorem bw_2 {W : jW} {p : Nat} (P : pXs W E g) (hp : p < sNl E) (ep : g p = (p : Int)) : d_X6_byWedding_r120_c2d (p : Int) d W = d_X6_byWedding_r120_c2d_103 d (sMo E g (p : Int) 4 d) W := by
  have h6 := xs_6 P
  have key := @ch_f (Int × Int) (Int × jW) g (sNl E) (p : Int) h6 (fun m => W.1 83 m) (xs_n P (by omega)) (fun r m n a => d_X6_byWedding_r120_c2d_12 r d a.1 a.2 m n W) (wdf E d) (fun a => d_X6_byWedding_r120_c2d_103 d a.2 W) (fun r n a => if_pos rfl) (fun r m n a hm hz hn => by
    obtain ⟨l1, l2, l3⟩ := @xs_l W E g P m hm
    change W.1 80 m = sDy E m at l2
    refine (if_neg (show ¬ (m : Int) = -1 from by omega)).trans ((if_neg (show ¬ (600 : Int) ≤ (n : Int) from by omega)).trans ?_)
    rw [show ((m : Int)).toNat = m from by omega, l1, l2]
    show (if sCo E m = 4 then (if d < sDy E m then d_X6_byWedding_r120_c2d_12 r d a.1 a.2 (W.1 83 ((m : Int)).toNat) ((n : Int) + 1) W else if sDy E m < a.1 then d_X6_byWedding_r120_c2d_12 r d a.1 a.2 (W.1 83 ((m : Int)).toNat) ((n : Int) + 1) W else d_X6_byWedding_r120_c2d_12 r d (sDy E m) (m : Int) (W.1 83 ((m : Int)).toNat) ((n : Int) + 1) W) else d_X6_byWedding_r120_c2d_12 r d a.1 a.2 (W.1 83 ((m : Int)).toNat) ((n : Int) + 1) W) = d_X6_byWedding_r120_c2d_12 r d (wdf E d a m).1 (wdf E d a m).2 (W.1 83 m) ((n : Int) + 1) W
    rw [show ((m : Int)).toNat = m from by omega]
    unfold wdf
    by_cases q1 : sCo E m = 4
    · rw [if_pos q1]
      by_cases q2 : d < sDy E m
      · rw [if_pos q2, if_neg (fun y => by omega)]
      · rw [if_neg q2]
        by_cases q3 : sDy E m < a.1
        · rw [if_pos q3, if_neg (fun y => by omega)]
        · rw [if_neg q3, if_pos ⟨q1, by omega, by omega⟩]
    · rw [if_neg q1, if_neg (fun y => q1 y.1)]) (sNl E) 0 601 0 (-1, -1) rfl (by omega) (by omega)
  rw [xs_f P hp ep, show ((0 : Nat) : Int) = 0 from rfl, wd_f P.2.2.2.2.2.2.2 (sNl E) 0 (-1) (-1) (by omega) (Or.inl ⟨rfl, rfl⟩)] at key
  exact key
theorem bn_2 {W : jW} {m : Nat} (P : pXs W E g) (N : pNe W E) (h3 : m % 3 = 1) (hm : m < sNl E) : d_X6_byWedding_r120_c2d_103 d (m : Int) W = d_X6_belongs_r120_c3d (sNa E g (m - 1)) d W := by
  have h6 := xs_6 P
  have nl : W.1 33 3 = E.1 0 := P.2.2.1
  have b0 := P.2.1
  have g1 : W.1 82 ((m : Int) - 1).toNat = g (m - 1) := by rw [show ((m : Int) - 1).toNat = m - 1 from by omega]; exact P.2.2.2.2.1 (m - 1) (by omega)
  have q0 := N (m - 1) 0 (by omega) (by decide)
  have q1 := N (m - 1) 1 (by omega) (by decide)
  rw [show 2 * (m - 1) + 0 = ((((m : Int) - 1) * 2) + 0).toNat from by omega] at q0
  rw [show 2 * (m - 1) + 1 = ((((m : Int) - 1) * 2) + 1).toNat from by omega] at q1
  have n4 : ¬ W.1 33 3 ≤ ((m : Int) - 1) / 3 := by unfold sNl at hm; omega
  unfold d_X6_byWedding_r120_c2d_103 d_X6_byWedding_r120_c2d_138
  rw [if_neg (show ¬ (m : Int) = -1 from by omega), if_neg (show ¬ (((m : Int) - 1) * 2) + 0 < 0 from by omega)]
  by_cases a : 0 ≤ W.1 76 ((((m : Int) - 1) * 2) + 0).toNat
  · rw [if_pos a, if_neg (show ¬ (m : Int) - 1 < 0 from by omega), if_neg n4, g1]
    rw [show sNa E g (m - 1) = g (m - 1) from if_neg (by rw [tv_t (Or.inl (q0.mp a))]; decide)]
  · rw [if_neg a, if_neg (show ¬ (((m : Int) - 1) * 2) + 1 < 0 from by omega)]
    by_cases b : W.1 76 ((((m : Int) - 1) * 2) + 1).toNat < 0
    · rw [if_pos b]
      rw [show sNa E g (m - 1) = -1 from if_pos (tv_f (fun y => y.elim (fun y => a (q0.mpr y)) (fun y => by have := q1.mpr y; omega)))]
    · rw [if_neg b, if_neg (show ¬ (m : Int) - 1 < 0 from by omega), if_neg n4, g1]
      rw [show sNa E g (m - 1) = g (m - 1) from if_neg (by rw [tv_t (Or.inr (q1.mp (by omega)))]; decide)]
theorem bp_2 {W : jW} {m p : Nat} (P : pXs W E g) (N : pNe W E) (hb : d_X7_birthOf_r78d (p : Int) W = (m : Int)) (h3 : m % 3 = 0) (hm : m + 2 < sNl E) : d_X6_byParents_r120_c2d (p : Int) W = if (d_X6_belongs_r120_c3d (sNa E g (m + 1)) (sDy E m) W).1 = -1 then d_X6_belongs_r120_c3d (sNa E g (m + 2)) (sDy E m) (d_X6_belongs_r120_c3d (sNa E g (m + 1)) (sDy E m) W).2 else d_X6_belongs_r120_c3d (sNa E g (m + 1)) (sDy E m) W := by
  have h6 := xs_6 P
  have nl : W.1 33 3 = E.1 0 := P.2.2.1
  have b0 := P.2.1
  have l2 := (@xs_l W E g P m (by omega)).2.1
  change W.1 80 m = sDy E m at l2
  have g1 : W.1 82 ((m : Int) + 1).toNat = g (m + 1) := by rw [show ((m : Int) + 1).toNat = m + 1 from by omega]; exact P.2.2.2.2.1 (m + 1) (by omega)
  have g2 : W.1 82 ((m : Int) + 2).toNat = g (m + 2) := by rw [show ((m : Int) + 2).toNat = m + 2 from by omega]; exact P.2.2.2.2.1 (m + 2) (by omega)
  have p0 := N (m + 1) 0 (by omega) (by decide)
  have p1 := N (m + 1) 1 (by omega) (by decide)
  have q0 := N (m + 2) 0 (by omega) (by decide)
  have q1 := N (m + 2) 1 (by omega) (by decide)
  rw [show 2 * (m + 1) + 0 = ((((m : Int) + 1) * 2) + 0).toNat from by omega] at p0
  rw [show 2 * (m + 1) + 1 = ((((m : Int) + 1) * 2) + 1).toNat from by omega] at p1
  rw [show 2 * (m + 2) + 0 = ((((m : Int) + 2) * 2) + 0).toNat from by omega] at q0
  rw [show 2 * (m + 2) + 1 = ((((m : Int) + 2) * 2) + 1).toNat from by omega] at q1
  have n1 : ¬ W.1 33 3 ≤ ((m : Int) + 1) / 3 := by unfold sNl at hm; omega
  have n2 : ¬ W.1 33 3 ≤ ((m : Int) + 2) / 3 := by unfold sNl at hm; omega
  have o1 : ¬ 600 ≤ (m : Int) + 1 := by omega
  have o2 : ¬ 600 ≤ (m : Int) + 2 := by omega
  have r0 : ¬ 1200 ≤ (((m : Int) + 1) * 2) + 0 := by omega
  have r1 : ¬ 1200 ≤ (((m : Int) + 1) * 2) + 1 := by omega
  have s0 : ¬ 1200 ≤ (((m : Int) + 2) * 2) + 0 := by omega
  have s1 : ¬ 1200 ≤ (((m : Int) + 2) * 2) + 1 := by omega
  have second : ∀ Z : Int × jW, (if 0 ≤ W.1 76 ((((m : Int) + 2) * 2) + 0).toNat then d_X6_belongs_r120_c3d (g (m + 2)) (sDy E m) Z.2 else if W.1 76 ((((m : Int) + 2) * 2) + 1).toNat < 0 then d_X6_belongs_r120_c3d (-1) (sDy E m) Z.2 else d_X6_belongs_r120_c3d (g (m + 2)) (sDy E m) Z.2) = d_X6_belongs_r120_c3d (sNa E g (m + 2)) (sDy E m) Z.2 := fun Z => by
    by_cases a : 0 ≤ W.1 76 ((((m : Int) + 2) * 2) + 0).toNat
    · rw [if_pos a, show sNa E g (m + 2) = g (m + 2) from if_neg (by rw [tv_t (Or.inl (q0.mp a))]; decide)]
    · rw [if_neg a]
      by_cases b : W.1 76 ((((m : Int) + 2) * 2) + 1).toNat < 0
      · rw [if_pos b, show sNa E g (m + 2) = -1 from if_pos (tv_f (fun y => y.elim (fun y => a (q0.mpr y)) (fun y => by have := q1.mpr y; omega)))]
      · rw [if_neg b, show sNa E g (m + 2) = g (m + 2) from if_neg (by rw [tv_t (Or.inr (q1.mp (by omega)))]; decide)]
  unfold d_X6_byParents_r120_c2d d_X6_byParents_r120_c2d_84
  rw [hb, if_neg (show ¬ (m : Int) = -1 from by omega), show ((m : Int)).toNat = m from by omega, l2, g1, g2]
  simp only [if_neg r0, if_neg r1, if_neg s0, if_neg s1, if_neg o1, if_neg o2, if_neg n1, if_neg n2]
  by_cases a : 0 ≤ W.1 76 ((((m : Int) + 1) * 2) + 0).toNat
  · rw [if_pos a, show sNa E g (m + 1) = g (m + 1) from if_neg (by rw [tv_t (Or.inl (p0.mp a))]; decide)]
    by_cases z : (d_X6_belongs_r120_c3d (g (m + 1)) (sDy E m) W).1 = -1
    · rw [if_pos z, if_pos z]; exact second _
    · rw [if_neg z, if_neg z]
  · rw [if_neg a]
    by_cases b : W.1 76 ((((m : Int) + 1) * 2) + 1).toNat < 0
    · rw [if_pos b, show sNa E g (m + 1) = -1 from if_pos (tv_f (fun y => y.elim (fun y => a (p0.mpr y)) (fun y => by have := p1.mpr y; omega)))]
      by_cases z : (d_X6_belongs_r120_c3d (-1) (sDy E m) W).1 = -1
      · rw [if_pos z, if_pos z]; exact second _
      · rw [if_neg z, if_neg z]
    · rw [if_neg b, show sNa E g (m + 1) = g (m + 1) from if_neg (by rw [tv_t (Or.inr (p1.mp (by omega)))]; decide)]
      by_cases z : (d_X6_belongs_r120_c3d (g (m + 1)) (sDy E m) W).1 = -1
      · rw [if_pos z, if_pos z]; exact second _
      · rw [if_neg z, if_neg z]
theorem by_2 {re : Int → Int → Int} (H : pBel d_X6_belongs_r120_c3d E kn re 3) (I : pIq E (sGs E kn).1) {W : jW} {p : Nat} {gr : Int} (hp : p < sNl E) (ep : (sGs E kn).1 p = (p : Int)) (hdd : 0 ≤ d ∧ d ≤ 146399) (P : pBx W E kn) (hg : 0 ≤ gr ∧ gr ≤ 5) : (d_X6_parishBy_r120_c2d gr (p : Int) d W).1 = sVal E (sGs E kn).1 kn (sBv E (sGs E kn).1 kn re) (p : Int) d gr ∧ pBx (d_X6_parishBy_r120_c2d gr (p : Int) d W).2 E kn ∧ pQy W (d_X6_parishBy_r120_c2d gr (p : Int) d W).2 ∧ ∀ i : Nat, i < 6 * 3 → (d_X6_parishBy_r120_c2d gr (p : Int) d W).2.1 121 i = W.1 121 i ∧ (d_X6_parishBy_r120_c2d gr (p : Int) d W).2.1 122 i = W.1 122 i := by
  have Px := P.1.1
  have T5 := P.1.2.1
  have Ir := Px.2.2.2.2.2.2.2
  have G := Px.1
  unfold d_X6_parishBy_r120_c2d sVal
  rcases (show gr = 0 ∨ gr = 1 ∨ gr = 2 ∨ gr = 3 ∨ gr = 4 ∨ gr = 5 from by omega) with rfl | rfl | rfl | rfl | rfl | rfl
  · simp only [show ((0 : Int) = 1) = False from by decide, show ((0 : Int) = 2) = False from by decide, show ((0 : Int) = 3) = False from by decide, show ((0 : Int) = 4) = False from by decide, show ((0 : Int) = 5) = False from by decide, if_false]
    exact ⟨xbb Px T5 I.1 P.2.2 hp ep, P, pQy_r, fun _ _ => ⟨trivial, trivial⟩⟩
  · simp only [show ((1 : Int) = 4) = False from by decide, show ((1 : Int) = 5) = False from by decide, if_false, if_true]
    exact ⟨xbl (gr := 1) (d := d) (co := 2) Px T5 I.1 P.2.2 (by decide) (by decide), P, pQy_r, fun _ _ => ⟨trivial, trivial⟩⟩
  · simp only [show ((2 : Int) = 1) = False from by decide, show ((2 : Int) = 4) = False from by decide, show ((2 : Int) = 5) = False from by decide, if_false, if_true]
    exact ⟨xbl (gr := 2) (d := d) (co := 1) Px T5 I.1 P.2.2 (by decide) (by decide), P, pQy_r, fun _ _ => ⟨trivial, trivial⟩⟩
  · simp only [show ((3 : Int) = 1) = False from by decide, show ((3 : Int) = 2) = False from by decide, show ((3 : Int) = 4) = False from by decide, show ((3 : Int) = 5) = False from by decide, if_false, if_true]
    exact ⟨xbl (gr := 3) (d := d) (co := 2) Px T5 I.1 P.2.2 (by decide) (by decide), P, pQy_r, fun _ _ => ⟨trivial, trivial⟩⟩
  · simp only [show ((4 : Int) = 1) = False from by decide, show ((4 : Int) = 2) = False from by decide, show ((4 : Int) = 3) = False from by decide, if_false, if_true]
    rw [bw_2 Px hp ep]
    by_cases z : sMo E (sGs E kn).1 (p : Int) 4 d = -1
    · rw [if_pos z, z]
      exact ⟨rfl, P, pQy_r, fun _ _ => ⟨rfl, rfl⟩⟩
    · obtain ⟨m, m1, m2, m3⟩ := mo_4 Ir z
      rw [if_neg z, m1, bn_2 Px P.2.1 m2 m3, show ((m : Int)).toNat = m from by omega]
      have h := H (sNa E (sGs E kn).1 (m - 1)) d W (na_s G (by omega)) (fun y => absurd y (by decide)) hdd P
      exact ⟨h.1, h.2.1, h.2.2.1, h.2.2.2.1⟩
  · simp only [show ((5 : Int) = 1) = False from by decide, show ((5 : Int) = 2) = False from by decide, show ((5 : Int) = 3) = False from by decide, show ((5 : Int) = 4) = False from by decide, if_false, if_true]
    have bi := xbi Px I.2.2.2 hp ep
    by_cases z : sMo E (sGs E kn).1 (p : Int) 0 146399 = -1
    · rw [if_pos z]
      have e : d_X6_byParents_r120_c2d (p : Int) W = (-1, W) := by
        unfold d_X6_byParents_r120_c2d
        rw [bi, if_pos z]
        rfl
      rw [e]
      exact ⟨rfl, P, pQy_r, fun _ _ => ⟨rfl, rfl⟩⟩
    · obtain ⟨m, m1, m2, m3, m4, m5⟩ := mo_0 Ir z
      rw [if_neg z, bp_2 Px P.2.1 (bi.trans m1) m2 m3, m1, show ((m : Int)).toNat = m from by omega]
      have h := H (sNa E (sGs E kn).1 (m + 1)) (sDy E m) W (na_s G (by omega)) (fun y => absurd y (by decide)) ⟨m4, m5⟩ P
      by_cases z2 : (d_X6_belongs_r120_c3d (sNa E (sGs E kn).1 (m + 1)) (sDy E m) W).1 = -1
      · rw [if_pos z2, if_pos (h.1.symm.trans z2)]
        have h2 := H (sNa E (sGs E kn).1 (m + 2)) (sDy E m) _ (na_s G (by omega)) (fun y => absurd y (by decide)) ⟨m4, m5⟩ h.2.1
        exact ⟨h2.1, h2.2.1, pQy_t h.2.2.1 h2.2.2.1, fun i hi => ⟨(h2.2.2.2.1 i hi).1.trans (h.2.2.2.1 i hi).1, (h2.2.2.2.1 i hi).2.trans (h.2.2.2.1 i hi).2⟩⟩
      · rw [if_neg z2, if_neg (fun y => z2 (h.1.trans y))]
        exact ⟨h.1, h.2.1, h.2.2.1, h.2.2.2.1⟩
theorem b238_2 {re : Int → Int → Int} (H : pBel d_X6_belongs_r120_c3d E kn re 3) (I : pIq E (sGs E kn).1) {p n : Nat} {bs : Int} {gr cl : Nat → Int} (hp : p < sNl E) (ep : (sGs E kn).1 p = (p : Int)) (hdd : 0 ≤ d ∧ d ≤ 146399) (n6 : n ≤ 6) (hg : ∀ i : Nat, i < n → 0 ≤ gr i ∧ gr i ≤ 5) : ∀ (c i f : Nat) (W : jW), i + c = n → c < f → pBx W E kn → (∀ j : Nat, j < n → W.1 121 (6 * 2 + j) = gr j ∧ W.1 122 (6 * 2 + j) = cl j) → ∃ V : jW, d_X6_belongs_r120_c2d_238 f (p : Int) d (n : Int) bs (i : Int) W = ((sFs (sVal E (sGs E kn).1 kn (sBv E (sGs E kn).1 kn re) (p : Int) d) gr cl c i).1, V) ∧ pBx V E kn ∧ pQy W V ∧ (∀ i : Nat, i < 6 * 2 → V.1 121 i = W.1 121 i ∧ V.1 122 i = W.1 122 i) ∧ V.1 120 6 = (sFs (sVal E (sGs E kn).1 kn (sBv E (sGs E kn).1 kn re) (p : Int) d) gr cl c i).2 ∧ V.1 120 7 = if (sFs (sVal E (sGs E kn).1 kn (sBv E (sGs E kn).1 kn re) (p : Int) d) gr cl c i).1 = -1 then bs else 0 := by
  have up : ∀ (W : jW) (a b : Int), pBx W E kn → pBx (vu (vu W 120 6 a) 120 7 b) E kn := fun W a b P => pBx_Q P (pVk_u (pVk_u P.1 (by decide)) (by decide)) (pQy_u (pQy_u pQy_r (by decide)) (by decide)) ((vu_n (by decide)).trans (vu_n (by decide)))
  have uq : ∀ (W : jW) (a b : Int), pQy W (vu (vu W 120 6 a) 120 7 b) := fun W a b => pQy_u (pQy_u pQy_r (by decide)) (by decide)
  intro c
  induction c with
  | zero =>
    intro i f W e hf P h
    obtain ⟨f, rfl⟩ : ∃ q, f = q + 1 := ⟨f - 1, by omega⟩
    refine ⟨vu (vu W 120 6 (-1)) 120 7 bs, if_pos (by omega), up W _ _ P, uq W _ _, fun i hi => ⟨(vu_n (by omega)).trans (vu_n (by omega)), (vu_n (by omega)).trans (vu_n (by omega))⟩, (vu_n (by decide)).trans (vu_e rfl), ?_⟩
    rw [if_pos (show (sFs (sVal E (sGs E kn).1 kn (sBv E (sGs E kn).1 kn re) (p : Int) d) gr cl 0 i).1 = -1 from rfl)]
    exact vu_e rfl
  | succ c ih =>
    intro i f W e hf P h
    obtain ⟨f, rfl⟩ : ∃ q, f = q + 1 := ⟨f - 1, by omega⟩
    have hi := h i (by omega)
    have q := by_2 H I hp ep hdd P (hg i (by omega))
    have st : d_X6_belongs_r120_c2d_238 (f + 1) (p : Int) d (n : Int) bs (i : Int) W = (if (d_X6_parishBy_r120_c2d (gr i) (p : Int) d W).1 = -1 then d_X6_belongs_r120_c2d_238 f (p : Int) d (n : Int) bs ((i : Int) + 1) (d_X6_parishBy_r120_c2d (gr i) (p : Int) d W).2 else ((d_X6_parishBy_r120_c2d (gr i) (p : Int) d W).1, vu (vu (d_X6_parishBy_r120_c2d (gr i) (p : Int) d W).2 120 6 ((d_X6_parishBy_r120_c2d (gr i) (p : Int) d W).2.1 122 (12 + (i : Int)).toNat)) 120 7 0)) := by
      refine (if_neg (by omega)).trans ?_
      rw [show W.1 121 (12 + (i : Int)).toNat = gr i from by rw [show (12 + (i : Int)).toNat = 6 * 2 + i from by omega]; exact hi.1]
    rw [st, show (12 + (i : Int)).toNat = 6 * 2 + i from by omega]
    generalize d_X6_parishBy_r120_c2d (gr i) (p : Int) d W = Z at *
    have z2 : Z.2.1 122 (6 * 2 + i) = cl i := (q.2.2.2 _ (by omega)).2.trans hi.2
    by_cases z : Z.1 = -1
    · have sf : sFs (sVal E (sGs E kn).1 kn (sBv E (sGs E kn).1 kn re) (p : Int) d) gr cl (c + 1) i = sFs (sVal E (sGs E kn).1 kn (sBv E (sGs E kn).1 kn re) (p : Int) d) gr cl c (i + 1) := if_pos (q.1.symm.trans z)
      rw [if_pos z, sf]
      obtain ⟨V, v1, v2, v3, v4, v5⟩ := ih (i + 1) f Z.2 (by omega) (by omega) q.2.1 (fun j hj => ⟨(q.2.2.2 _ (by omega)).1.trans (h j hj).1, (q.2.2.2 _ (by omega)).2.trans (h j hj).2⟩)
      rw [show ((i + 1 : Nat) : Int) = (i : Int) + 1 from by omega] at v1
      exact ⟨V, v1, v2, pQy_t q.2.2.1 v3, fun j hj => ⟨(v4 j hj).1.trans (q.2.2.2 j (by omega)).1, (v4 j hj).2.trans (q.2.2.2 j (by omega)).2⟩, v5⟩
    · have sf : sFs (sVal E (sGs E kn).1 kn (sBv E (sGs E kn).1 kn re) (p : Int) d) gr cl (c + 1) i = (sVal E (sGs E kn).1 kn (sBv E (sGs E kn).1 kn re) (p : Int) d (gr i), cl i) := if_neg (fun y => z (q.1.trans y))
      rw [if_neg z, sf, z2, q.1]
      refine ⟨_, rfl, up _ _ _ q.2.1, pQy_t q.2.2.1 (uq _ _ _), fun j hj => ⟨((vu_n (by omega)).trans (vu_n (by omega))).trans (q.2.2.2 j (by omega)).1, ((vu_n (by omega)).trans (vu_n (by omega))).trans (q.2.2.2 j (by omega)).2⟩, (vu_n (by decide)).trans (vu_e rfl), ?_⟩
      rw [if_neg (fun y => z (q.1.trans y))]
      exact vu_e rfl
theorem bz_2 {re : Int → Int → Int} (H : pBel d_X6_belongs_r120_c3d E kn re 3) (I : pIq E (sGs E kn).1) (Ik : pIk E.1) (Il : pIl E.1) (I1 : pI1 E.1) (O : ∀ d : Int, 0 ≤ d ∧ d ≤ 146399 → ∀ p : Nat, p < sNl E → (sGs E kn).1 p = (p : Int) → qOk fun w => sQu E (sGs E kn).1 d kn w (p : Int)) : pBel d_X6_belongs_r120_c2d E kn (sBv E (sGs E kn).1 kn re) 2 := by
  intro s d X hs hJ hdd P
  have u0 : pVk (vu (vu X 120 6 (-1)) 120 7 0) E kn := pVk_u (pVk_u P.1 (by decide)) (by decide)
  have uq : pQy X (vu (vu X 120 6 (-1)) 120 7 0) := pQy_u (pQy_u pQy_r (by decide)) (by decide)
  have u5 : (vu (vu X 120 6 (-1)) 120 7 0).1 120 5 = X.1 120 5 := (vu_n (by decide)).trans (vu_n (by decide))
  rcases hs with rfl | ⟨p, hp, rfl, ep⟩
  · have e : d_X6_belongs_r120_c2d (-1) d X = (-1, vu (vu X 120 6 (-1)) 120 7 0) := if_pos rfl
    rw [e]
    exact ⟨(if_pos rfl).symm, pBx_Q P u0 uq u5, uq, fun i hi => ⟨(vu_n (by omega)).trans (vu_n (by omega)), (vu_n (by omega)).trans (vu_n (by omega))⟩, fun y => absurd rfl y⟩
  · have e : d_X6_belongs_r120_c2d (p : Int) d X = d_X6_belongs_r120_c2d_54 3 (p : Int) d 0 0 0 (d_X0_readHouses_r98d d kn (d_X0_readLaws_r98d d kn (vu (vu X 120 6 (-1)) 120 7 0))) := by
      unfold d_X6_belongs_r120_c2d
      rw [if_neg (show ¬ (p : Int) = -1 from by omega), P.2.2]
    rw [e]
    obtain ⟨l1, l2, l3, l4, l5, l6, l7⟩ := xtl (d := d) u0 Il Ik
    generalize hW1 : d_X0_readLaws_r98d d kn (vu (vu X 120 6 (-1)) 120 7 0) = W1 at *
    obtain ⟨h1, h2, h3, h4⟩ := xth (d := d) l2 I.2.1 l1
    generalize hW2 : d_X0_readHouses_r98d d kn W1 = W2 at *
    have y2 : pQy X W2 := pQy_t uq (pQy_t l5 h3)
    have s121 : W2.1 121 = X.1 121 := ((h4 121 (by decide)).1.trans (l6 121 (by decide))).trans ((vu_c (by decide)).trans (vu_c (by decide)))
    have s122 : W2.1 122 = X.1 122 := ((h4 122 (by decide)).1.trans (l6 122 (by decide))).trans ((vu_c (by decide)).trans (vu_c (by decide)))
    have s120 : W2.1 120 = (vu (vu X 120 6 (-1)) 120 7 0).1 120 := (h4 120 (by decide)).1.trans (l6 120 (by decide))
    obtain ⟨V, v1, v2⟩ := b54_2 h1 I hdd hp ep Ik Il I1 (O d hdd p hp ep) pZ_r rfl (fun _ _ => ⟨rfl, rfl⟩)
    rw [v1]
    have PV : pBx V E kn := pBx_Q P (pVk_Z h2 v2.1) (pQy_t y2 (zQy v2.1)) (by rw [v2.2.1, s120]; exact u5)
    obtain ⟨Z, z1, z2, z3, z4, z5, z6⟩ := b238_2 H I hp ep hdd (bl_6 I1 720) (bl_c I1 720).2 (sBl E (sGs E kn).1 d kn (p : Int) 720).1 0 7 V (by omega) (by have := bl_6 (E := E) (g := (sGs E kn).1) (d := d) (kn := kn) (s := (p : Int)) I1 720; omega) PV v2.2.2.2 (bs := (sBl E (sGs E kn).1 d kn (p : Int) 720).2.2.2)
    rw [show ((0 : Nat) : Int) = 0 from rfl] at z1
    rw [z1]
    refine ⟨(if_neg (show ¬ (p : Int) = -1 from by omega)).symm, z2, pQy_t (pQy_t y2 (zQy v2.1)) z3, fun i hi => ?_, fun _ => ⟨z5, z6⟩⟩
    exact ⟨(z4 i hi).1.trans ((v2.2.2.1 i hi).1.trans (by rw [s121])), (z4 i hi).2.trans ((v2.2.2.1 i hi).2.trans (by rw [s122]))⟩
theorem b115_1 {t : Int} {T hd so p : Nat} {X : jW} (K54 : Int → Int → Int → Int → Int → jW → (Int × jW)) (K63 : Int → Int → Int → Int → Int → Int → jW → (Int × jW)) (Q : pV X E g d kn) (I : pIq E g) (hdd : 0 ≤ d ∧ d ≤ 146399) (hp : p < sNl E) (ep : g p = (p : Int)) (Ik : pIk E.1) (Il : pIl E.1) (I1 : pI1 E.1) (O : qOk fun w => sQu E g d kn w (p : Int)) (ht : 0 ≤ t ∧ t < E.1 4) (Qe : pTe X E.1 t T hd) (hso : so ≤ 1) (es : E.1 (18820 + (924 * t)).toNat = (so : Int)) : ∀ (q c f : Nat) (W : jW), (c : Int) + (q : Int) = E.1 ((18820 + (924 * t)) + 3).toNat → q < f → pBw X W 1 (sBl E g d kn (p : Int) (360 * so + 12 * t.toNat + c)) → ∃ V : jW, d_X6_belongs_r120_c1d_115 K54 K63 f (p : Int) d ((sBl E g d kn (p : Int) (360 * so + 12 * t.toNat + c)).1 : Int) (sBl E g d kn (p : Int) (360 * so + 12 * t.toNat + c)).2.2.2 (so : Int) t T (E.1 ((18820 + (924 * t)) + 3).toNat) (c : Int) W = K63 (p : Int) d ((sBl E g d kn (p : Int) (360 * so + 12 * t.toNat + (c + q))).1 : Int) (sBl E g d kn (p : Int) (360 * so + 12 * t.toNat + (c + q))).2.2.2 (so : Int) (t + 1) V ∧ pBw X V 1 (sBl E g d kn (p : Int) (360 * so + 12 * t.toNat + (c + q))) := by
  have b30 := Il.2.1
  have J12 := (Il.2.2 t ht.1 ht.2).2.1
  have T0 : ¬ T = 0 := by have := Qe.1; omega
  intro q
  induction q with
  | zero =>
    intro c f W e hf h
    obtain ⟨f, rfl⟩ : ∃ q, f = q + 1 := ⟨f - 1, by omega⟩
    exact ⟨W, (if_neg T0).trans (if_pos (by omega)), h⟩
  | succ q ih =>
    intro c f W e hf h
    obtain ⟨f, rfl⟩ : ∃ q, f = q + 1 := ⟨f - 1, by omega⟩
    have QW := pTe_Qy (zQy h.1) Qe
    have hc : (0 : Int) ≤ (c : Int) ∧ (c : Int) < E.1 ((18820 + (924 * t)) + 3).toNat := by omega
    have H := QW.2.2.2.2.2.2.2 (c : Int) hc.1 hc.2
    have k0 := (he_e QW hc.1 hc.2 (show (0 : Int) ≤ 0 ∧ (0 : Int) < 6 from by decide)).trans H.1
    have k1 := (he_e QW hc.1 hc.2 (show (0 : Int) ≤ 1 ∧ (1 : Int) < 6 from by decide)).trans H.2.1
    have kt : ((360 * so + 12 * t.toNat + c : Nat) : Int) % 360 / 12 = t := by omega
    have kc : ((360 * so + 12 * t.toNat + c : Nat) : Int) % 12 = (c : Int) := by omega
    have ks : ((360 * so + 12 * t.toNat + c : Nat) : Int) / 360 = (so : Int) := by omega
    have k3 : ((360 * so + 12 * t.toNat + c : Nat) : Int) % 360 = t * 12 + (c : Int) := by omega
    have gk : sBg E.1 ((360 * so + 12 * t.toNat + c : Nat) : Int) = E.1 ((((18820 + (924 * t)) + 4) + (10 * (c : Int))) + 1).toNat := by
      unfold sBg
      rw [kt, kc]
    have pk : sBh E g d kn (p : Int) ((360 * so + 12 * t.toNat + c : Nat) : Int) ↔ E.1 (((18820 + (924 * t)) + 4) + (10 * (c : Int))).toNat = 1 ∧ sHd E.1 d kn t (c : Int) fun w => sQu E g d kn w (p : Int) := by
      unfold sBh
      rw [kt, kc, ks]
      exact ⟨fun y => y.2.2.2, fun y => ⟨⟨by omega, by omega⟩, ⟨by omega, by omega⟩, es, y⟩⟩
    have hz := xhz (t := t) (c := (c : Int)) Q I hdd hp ep Ik Il O ht hc h.1
    have lt6 := fun a b => bl_l (E := E) (g := g) (d := d) (kn := kn) (s := (p : Int)) (k := 360 * so + 12 * t.toNat + c) I1 a b
    have go : ∀ W1 : jW, ¬ (sBh E g d kn (p : Int) ((360 * so + 12 * t.toNat + c : Nat) : Int) ∧ j_iand (j_ishr (sBl E g d kn (p : Int) (360 * so + 12 * t.toNat + c)).2.2.2 (sBg E.1 ((360 * so + 12 * t.toNat + c : Nat) : Int))) 1 = 0) → pBw X W1 1 (sBl E g d kn (p : Int) (360 * so + 12 * t.toNat + c)) → ∃ V : jW, d_X6_belongs_r120_c1d_115 K54 K63 f (p : Int) d ((sBl E g d kn (p : Int) (360 * so + 12 * t.toNat + c)).1 : Int) (sBl E g d kn (p : Int) (360 * so + 12 * t.toNat + c)).2.2.2 (so : Int) t T (E.1 ((18820 + (924 * t)) + 3).toNat) ((c : Int) + 1) W1 = K63 (p : Int) d ((sBl E g d kn (p : Int) (360 * so + 12 * t.toNat + (c + (q + 1)))).1 : Int) (sBl E g d kn (p : Int) (360 * so + 12 * t.toNat + (c + (q + 1)))).2.2.2 (so : Int) (t + 1) V ∧ pBw X V 1 (sBl E g d kn (p : Int) (360 * so + 12 * t.toNat + (c + (q + 1)))) := fun W1 ne hw => by
      have e1 : sBl E g d kn (p : Int) (360 * so + 12 * t.toNat + (c + 1)) = sBl E g d kn (p : Int) (360 * so + 12 * t.toNat + c) := bl_n ne
      have y := ih (c + 1) f W1 (by omega) (by omega) (by rw [e1]; exact hw)
      rw [e1, show c + 1 + q = c + (q + 1) from by omega, show ((c + 1 : Nat) : Int) = (c : Int) + 1 from by omega] at y
      exact y
    have st : d_X6_belongs_r120_c1d_115 K54 K63 (f + 1) (p : Int) d ((sBl E g d kn (p : Int) (360 * so + 12 * t.toNat + c)).1 : Int) (sBl E g d kn (p : Int) (360 * so + 12 * t.toNat + c)).2.2.2 (so : Int) t T (E.1 ((18820 + (924 * t)) + 3).toNat) (c : Int) W = (if d_head T (c : Int) 0 W = 0 then (if j_iand (j_ishr (sBl E g d kn (p : Int) (360 * so + 12 * t.toNat + c)).2.2.2 (d_head T (c : Int) 1 W)) 1 = 0 then (if 6 ≤ ((sBl E g d kn (p : Int) (360 * so + 12 * t.toNat + c)).1 : Int) then d_X6_belongs_r120_c1d_115 K54 K63 f (p : Int) d ((sBl E g d kn (p : Int) (360 * so + 12 * t.toNat + c)).1 : Int) (sBl E g d kn (p : Int) (360 * so + 12 * t.toNat + c)).2.2.2 (so : Int) t T (E.1 ((18820 + (924 * t)) + 3).toNat) ((c : Int) + 1) W else if (d_X0_holdsFor_r98d t (c : Int) (p : Int) W).1 = 0 then d_X6_belongs_r120_c1d_115 K54 K63 f (p : Int) d ((sBl E g d kn (p : Int) (360 * so + 12 * t.toNat + c)).1 : Int) (sBl E g d kn (p : Int) (360 * so + 12 * t.toNat + c)).2.2.2 (so : Int) t T (E.1 ((18820 + (924 * t)) + 3).toNat) ((c : Int) + 1) (d_X0_holdsFor_r98d t (c : Int) (p : Int) W).2 else d_X6_belongs_r120_c1d_115 K54 K63 f (p : Int) d (((sBl E g d kn (p : Int) (360 * so + 12 * t.toNat + c)).1 : Int) + 1) (j_ior (sBl E g d kn (p : Int) (360 * so + 12 * t.toNat + c)).2.2.2 (j_ishl 1 (d_head T (c : Int) 1 W))) (so : Int) t T (E.1 ((18820 + (924 * t)) + 3).toNat) ((c : Int) + 1) (vu (vu (d_X0_holdsFor_r98d t (c : Int) (p : Int) W).2 121 (6 + ((sBl E g d kn (p : Int) (360 * so + 12 * t.toNat + c)).1 : Int)).toNat (d_head T (c : Int) 1 W)) 122 (6 + ((sBl E g d kn (p : Int) (360 * so + 12 * t.toNat + c)).1 : Int)).toNat (t * 12 + (c : Int)))) else d_X6_belongs_r120_c1d_115 K54 K63 f (p : Int) d ((sBl E g d kn (p : Int) (360 * so + 12 * t.toNat + c)).1 : Int) (sBl E g d kn (p : Int) (360 * so + 12 * t.toNat + c)).2.2.2 (so : Int) t T (E.1 ((18820 + (924 * t)) + 3).toNat) ((c : Int) + 1) W) else d_X6_belongs_r120_c1d_115 K54 K63 f (p : Int) d ((sBl E g d kn (p : Int) (360 * so + 12 * t.toNat + c)).1 : Int) (sBl E g d kn (p : Int) (360 * so + 12 * t.toNat + c)).2.2.2 (so : Int) t T (E.1 ((18820 + (924 * t)) + 3).toNat) ((c : Int) + 1) W) := (if_neg T0).trans (if_neg (by omega))
    rw [st, k0, k1]
    by_cases n0 : E.1 (((18820 + (924 * t)) + 4) + (10 * (c : Int))).toNat = 1
    · rw [n0, if_neg (show ¬ (1 : Int) = 0 from by decide), if_neg (show ¬ (1 : Int) = 0 from by decide), if_pos (show (1 : Int) - 1 = 0 from by decide), ← gk, ← k3]
      by_cases n1 : j_iand (j_ishr (sBl E g d kn (p : Int) (360 * so + 12 * t.toNat + c)).2.2.2 (sBg E.1 ((360 * so + 12 * t.toNat + c : Nat) : Int))) 1 = 0
      · rw [if_pos n1]
        by_cases n2 : sHd E.1 d kn t (c : Int) fun w => sQu E g d kn w (p : Int)
        · have hb := pk.mpr ⟨n0, n2⟩
          have l6 := lt6 hb n1
          have e1 : sBl E g d kn (p : Int) (360 * so + 12 * t.toNat + (c + 1)) = _ := bl_y hb n1
          rw [if_neg (by omega), hz.1, tv_t n2, if_neg (show ¬ (1 : Int) = 0 from by decide)]
          have y := ih (c + 1) f (vu (vu (d_X0_holdsFor_r98d t (c : Int) (p : Int) W).2 121 (6 * 1 + (sBl E g d kn (p : Int) (360 * so + 12 * t.toNat + c)).1) (sBg E.1 ((360 * so + 12 * t.toNat + c : Nat) : Int))) 122 (6 * 1 + (sBl E g d kn (p : Int) (360 * so + 12 * t.toNat + c)).1) (((360 * so + 12 * t.toNat + c : Nat) : Int) % 360)) (by omega) (by omega) (by rw [e1]; exact pBw_a (pBw_h h hz.2.1 hz.2.2))
          rw [e1, show c + 1 + q = c + (q + 1) from by omega, show ((c + 1 : Nat) : Int) = (c : Int) + 1 from by omega] at y
          rw [show (6 + ((sBl E g d kn (p : Int) (360 * so + 12 * t.toNat + c)).1 : Int)).toNat = 6 * 1 + (sBl E g d kn (p : Int) (360 * so + 12 * t.toNat + c)).1 from by omega]
          exact y
        · have ne : ¬ (sBh E g d kn (p : Int) ((360 * so + 12 * t.toNat + c : Nat) : Int) ∧ j_iand (j_ishr (sBl E g d kn (p : Int) (360 * so + 12 * t.toNat + c)).2.2.2 (sBg E.1 ((360 * so + 12 * t.toNat + c : Nat) : Int))) 1 = 0) := fun y => n2 (pk.mp y.1).2
          by_cases n3 : 6 ≤ ((sBl E g d kn (p : Int) (360 * so + 12 * t.toNat + c)).1 : Int)
          · rw [if_pos n3]; exact go W ne h
          · rw [if_neg n3, hz.1, tv_f n2, if_pos rfl]; exact go _ ne (pBw_h h hz.2.1 hz.2.2)
      · rw [if_neg n1]; exact go W (fun y => n1 y.2) h
    · rw [if_neg (show ¬ (if E.1 (((18820 + (924 * t)) + 4) + (10 * (c : Int))).toNat = 0 then 8 else E.1 (((18820 + (924 * t)) + 4) + (10 * (c : Int))).toNat - 1) = 0 from by
        by_cases q : E.1 (((18820 + (924 * t)) + 4) + (10 * (c : Int))).toNat = 0
        · rw [if_pos q]; decide
        · rw [if_neg q]; omega)]
      exact go W (fun y => n0 (pk.mp y.1).1) h
theorem b63_1 {so p : Nat} {X : jW} (K54 : Int → Int → Int → Int → Int → jW → (Int × jW)) (Q : pV X E g d kn) (I : pIq E g) (hdd : 0 ≤ d ∧ d ≤ 146399) (hp : p < sNl E) (ep : g p = (p : Int)) (Ik : pIk E.1) (Il : pIl E.1) (I1 : pI1 E.1) (O : qOk fun w => sQu E g d kn w (p : Int)) (hso : so ≤ 1) : ∀ (q t f : Nat) (W : jW), (t : Int) + (q : Int) = E.1 4 → q < f → pBw X W 1 (sBl E g d kn (p : Int) (360 * so + 12 * t)) → ∃ V : jW, d_X6_belongs_r120_c1d_63 K54 f (p : Int) d ((sBl E g d kn (p : Int) (360 * so + 12 * t)).1 : Int) (sBl E g d kn (p : Int) (360 * so + 12 * t)).2.2.2 (so : Int) (t : Int) W = K54 (p : Int) d ((sBl E g d kn (p : Int) (360 * so + 360)).1 : Int) (sBl E g d kn (p : Int) (360 * so + 360)).2.2.2 ((so : Int) + 1) V ∧ pBw X V 1 (sBl E g d kn (p : Int) (360 * so + 360)) := by
  have b30 := Il.2.1
  intro q
  induction q with
  | zero =>
    intro t f W e hf h
    obtain ⟨f, rfl⟩ : ∃ q, f = q + 1 := ⟨f - 1, by omega⟩
    have c32 : W.1 32 18 = E.1 4 := (pTc_Qy (zQy h.1) Q.2.1).1
    have e1 : sBl E g d kn (p : Int) (360 * so + 360) = sBl E g d kn (p : Int) (360 * so + 12 * t) := bl_u (by omega) (fun j j1 j2 y => by
      have y2 := y.1.2
      omega)
    rw [e1]
    exact ⟨W, if_pos (by omega), h⟩
  | succ q ih =>
    intro t f W e hf h
    obtain ⟨f, rfl⟩ : ∃ q, f = q + 1 := ⟨f - 1, by omega⟩
    have c32 : W.1 32 18 = E.1 4 := (pTc_Qy (zQy h.1) Q.2.1).1
    obtain ⟨T, hd, eT, Qe, _⟩ := Q.2.1.2 (t : Int) (by omega) (by omega)
    have QW := pTe_Qy (zQy h.1) Qe
    have T0 : ¬ T = 0 := by have := Qe.1; omega
    have eW : W.2.2.1 66 (t : Int).toNat = some T := ((zQy h.1).2.1 66 _ (by omega)).trans eT
    have J12 := Il.2.2 (t : Int) (by omega) (by omega)
    have st : d_X6_belongs_r120_c1d_63 K54 (f + 1) (p : Int) d ((sBl E g d kn (p : Int) (360 * so + 12 * t)).1 : Int) (sBl E g d kn (p : Int) (360 * so + 12 * t)).2.2.2 (so : Int) (t : Int) W = (if E.1 ((18820 + (924 * (t : Int))) + 0).toNat = (so : Int) then d_X6_belongs_r120_c1d_115 K54 (fun l1 l2 l5 l6 l7 l8 W => d_X6_belongs_r120_c1d_63 K54 f l1 l2 l5 l6 l7 l8 W) 13 (p : Int) d ((sBl E g d kn (p : Int) (360 * so + 12 * t)).1 : Int) (sBl E g d kn (p : Int) (360 * so + 12 * t)).2.2.2 (so : Int) (t : Int) T (E.1 ((18820 + (924 * (t : Int))) + 3).toNat) 0 W else d_X6_belongs_r120_c1d_101 K54 (fun l1 l2 l5 l6 l7 l8 W => d_X6_belongs_r120_c1d_63 K54 f l1 l2 l5 l6 l7 l8 W) (p : Int) d ((sBl E g d kn (p : Int) (360 * so + 12 * t)).1 : Int) (sBl E g d kn (p : Int) (360 * so + 12 * t)).2.2.2 (so : Int) (t : Int) T W) := by
      refine (if_neg (by omega)).trans ((if_neg (by omega)).trans ?_)
      rw [eW, if_neg (show ¬ (some T).isNone = true from fun y => Bool.noConfusion y), show (some T).getD 0 = T from rfl, QW.2.2.1, QW.2.2.2.2.2.1]
      rfl
    rw [st, Int.add_zero]
    by_cases n0 : E.1 (18820 + (924 * (t : Int))).toNat = (so : Int)
    · rw [if_pos n0]
      obtain ⟨V, v1, v2⟩ := b115_1 K54 (fun l1 l2 l5 l6 l7 l8 W => d_X6_belongs_r120_c1d_63 K54 f l1 l2 l5 l6 l7 l8 W) Q I hdd hp ep Ik Il I1 O ⟨by omega, by omega⟩ Qe hso n0 (E.1 ((18820 + (924 * (t : Int))) + 3).toNat).toNat 0 13 W (by omega) (by omega) h
      rw [show (t : Int).toNat = t from by omega, Nat.zero_add] at v1 v2
      have e1 : sBl E g d kn (p : Int) (360 * so + 12 * (t + 1)) = sBl E g d kn (p : Int) (360 * so + 12 * t + (E.1 ((18820 + (924 * (t : Int))) + 3).toNat).toNat) := bl_u (by omega) (fun j j1 j2 y => by
        have y2 := y.2.1.2
        rw [show (j : Int) % 360 / 12 = (t : Int) from by omega] at y2
        omega)
      obtain ⟨V2, w1, w2⟩ := ih (t + 1) f V (by omega) (by omega) (by rw [e1]; exact v2)
      rw [e1, show ((t + 1 : Nat) : Int) = (t : Int) + 1 from by omega] at w1
      exact ⟨V2, v1.trans w1, w2⟩
    · rw [if_neg n0]
      have e1 : sBl E g d kn (p : Int) (360 * so + 12 * (t + 1)) = sBl E g d kn (p : Int) (360 * so + 12 * t) := bl_u (by omega) (fun j j1 j2 y => by
        have y2 := y.2.2.1
        rw [show (j : Int) % 360 / 12 = (t : Int) from by omega, show (j : Int) / 360 = (so : Int) from by omega] at y2
        exact n0 y2)
      obtain ⟨V2, w1, w2⟩ := ih (t + 1) f W (by omega) (by omega) (by rw [e1]; exact h)
      rw [e1, show ((t + 1 : Nat) : Int) = (t : Int) + 1 from by omega] at w1
      refine ⟨V2, Eq.trans ?_ w1, w2⟩
      unfold d_X6_belongs_r120_c1d_101 d_X6_belongs_r120_c1d_200110
      rw [if_neg T0, if_neg T0]
      exact (if_neg T0).trans (if_pos (by decide))
theorem b54_1 {p : Nat} {X W : jW} (Q : pV X E g d kn) (I : pIq E g) (hdd : 0 ≤ d ∧ d ≤ 146399) (hp : p < sNl E) (ep : g p = (p : Int)) (Ik : pIk E.1) (Il : pIl E.1) (I1 : pI1 E.1) (O : qOk fun w => sQu E g d kn w (p : Int)) (z : pZ X W) (e120 : W.1 120 = X.1 120) (e1 : ∀ i : Nat, i < 6 * 1 → W.1 121 i = X.1 121 i ∧ W.1 122 i = X.1 122 i) : ∃ V : jW, d_X6_belongs_r120_c1d_54 3 (p : Int) d 0 0 0 W = d_X6_belongs_r120_c1d_238 7 (p : Int) d ((sBl E g d kn (p : Int) 720).1 : Int) (sBl E g d kn (p : Int) 720).2.2.2 0 V ∧ pBw X V 1 (sBl E g d kn (p : Int) 720) := by
  have b30 := Il
  have h0 : pBw X W 1 (sBl E g d kn (p : Int) (360 * 0 + 12 * 0)) := ⟨z, e120, e1, fun i hi => absurd hi (Nat.not_lt_zero i)⟩
  obtain ⟨V, v1, v2⟩ := b63_1 (so := 0) (fun l1 l2 l5 l6 l7 W => d_X6_belongs_r120_c1d_54 2 l1 l2 l5 l6 l7 W) Q I hdd hp ep Ik Il I1 O (by decide) (E.1 4).toNat 0 31 W (by have := Il.1; omega) (by have := Il.2.1; omega) h0
  obtain ⟨V2, w1, w2⟩ := b63_1 (so := 1) (fun l1 l2 l5 l6 l7 W => d_X6_belongs_r120_c1d_54 1 l1 l2 l5 l6 l7 W) Q I hdd hp ep Ik Il I1 O (by decide) (E.1 4).toNat 0 31 V (by have := Il.1; omega) (by have := Il.2.1; omega) v2
  refine ⟨V2, ?_, w2⟩
  have s1 : d_X6_belongs_r120_c1d_54 3 (p : Int) d 0 0 0 W = d_X6_belongs_r120_c1d_63 (fun l1 l2 l5 l6 l7 W => d_X6_belongs_r120_c1d_54 2 l1 l2 l5 l6 l7 W) 31 (p : Int) d 0 0 0 0 W := if_neg (by decide)
  have s2 : d_X6_belongs_r120_c1d_54 2 (p : Int) d ((sBl E g d kn (p : Int) (360 * 0 + 360)).1 : Int) (sBl E g d kn (p : Int) (360 * 0 + 360)).2.2.2 (((0 : Nat) : Int) + 1) V = d_X6_belongs_r120_c1d_63 (fun l1 l2 l5 l6 l7 W => d_X6_belongs_r120_c1d_54 1 l1 l2 l5 l6 l7 W) 31 (p : Int) d ((sBl E g d kn (p : Int) (360 * 1 + 12 * 0)).1 : Int) (sBl E g d kn (p : Int) (360 * 1 + 12 * 0)).2.2.2 ((1 : Nat) : Int) ((0 : Nat) : Int) V := if_neg (by decide)
  have s3 : d_X6_belongs_r120_c1d_54 1 (p : Int) d ((sBl E g d kn (p : Int) (360 * 1 + 360)).1 : Int) (sBl E g d kn (p : Int) (360 * 1 + 360)).2.2.2 (((1 : Nat) : Int) + 1) V2 = d_X6_belongs_r120_c1d_238 7 (p : Int) d ((sBl E g d kn (p : Int) 720).1 : Int) (sBl E g d kn (p : Int) 720).2.2.2 0 V2 := if_pos (by decide)
  exact s1.trans (v1.trans (s2.trans (w1.trans s3)))
theorem bw_1 {W : jW} {p : Nat} (P : pXs W E g) (hp : p < sNl E) (ep : g p = (p : Int)) : d_X6_byWedding_r120_c1d (p : Int) d W = d_X6_byWedding_r120_c1d_103 d (sMo E g (p : Int) 4 d) W := by
  have h6 := xs_6 P
  have key := @ch_f (Int × Int) (Int × jW) g (sNl E) (p : Int) h6 (fun m => W.1 83 m) (xs_n P (by omega)) (fun r m n a => d_X6_byWedding_r120_c1d_12 r d a.1 a.2 m n W) (wdf E d) (fun a => d_X6_byWedding_r120_c1d_103 d a.2 W) (fun r n a => if_pos rfl) (fun r m n a hm hz hn => by
    obtain ⟨l1, l2, l3⟩ := @xs_l W E g P m hm
    change W.1 80 m = sDy E m at l2
    refine (if_neg (show ¬ (m : Int) = -1 from by omega)).trans ((if_neg (show ¬ (600 : Int) ≤ (n : Int) from by omega)).trans ?_)
    rw [show ((m : Int)).toNat = m from by omega, l1, l2]
    show (if sCo E m = 4 then (if d < sDy E m then d_X6_byWedding_r120_c1d_12 r d a.1 a.2 (W.1 83 ((m : Int)).toNat) ((n : Int) + 1) W else if sDy E m < a.1 then d_X6_byWedding_r120_c1d_12 r d a.1 a.2 (W.1 83 ((m : Int)).toNat) ((n : Int) + 1) W else d_X6_byWedding_r120_c1d_12 r d (sDy E m) (m : Int) (W.1 83 ((m : Int)).toNat) ((n : Int) + 1) W) else d_X6_byWedding_r120_c1d_12 r d a.1 a.2 (W.1 83 ((m : Int)).toNat) ((n : Int) + 1) W) = d_X6_byWedding_r120_c1d_12 r d (wdf E d a m).1 (wdf E d a m).2 (W.1 83 m) ((n : Int) + 1) W
    rw [show ((m : Int)).toNat = m from by omega]
    unfold wdf
    by_cases q1 : sCo E m = 4
    · rw [if_pos q1]
      by_cases q2 : d < sDy E m
      · rw [if_pos q2, if_neg (fun y => by omega)]
      · rw [if_neg q2]
        by_cases q3 : sDy E m < a.1
        · rw [if_pos q3, if_neg (fun y => by omega)]
        · rw [if_neg q3, if_pos ⟨q1, by omega, by omega⟩]
    · rw [if_neg q1, if_neg (fun y => q1 y.1)]) (sNl E) 0 601 0 (-1, -1) rfl (by omega) (by omega)
  rw [xs_f P hp ep, show ((0 : Nat) : Int) = 0 from rfl, wd_f P.2.2.2.2.2.2.2 (sNl E) 0 (-1) (-1) (by omega) (Or.inl ⟨rfl, rfl⟩)] at key
  exact key
theorem bn_1 {W : jW} {m : Nat} (P : pXs W E g) (N : pNe W E) (h3 : m % 3 = 1) (hm : m < sNl E) : d_X6_byWedding_r120_c1d_103 d (m : Int) W = d_X6_belongs_r120_c2d (sNa E g (m - 1)) d W := by
  have h6 := xs_6 P
  have nl : W.1 33 3 = E.1 0 := P.2.2.1
  have b0 := P.2.1
  have g1 : W.1 82 ((m : Int) - 1).toNat = g (m - 1) := by rw [show ((m : Int) - 1).toNat = m - 1 from by omega]; exact P.2.2.2.2.1 (m - 1) (by omega)
  have q0 := N (m - 1) 0 (by omega) (by decide)
  have q1 := N (m - 1) 1 (by omega) (by decide)
  rw [show 2 * (m - 1) + 0 = ((((m : Int) - 1) * 2) + 0).toNat from by omega] at q0
  rw [show 2 * (m - 1) + 1 = ((((m : Int) - 1) * 2) + 1).toNat from by omega] at q1
  have n4 : ¬ W.1 33 3 ≤ ((m : Int) - 1) / 3 := by unfold sNl at hm; omega
  unfold d_X6_byWedding_r120_c1d_103 d_X6_byWedding_r120_c1d_138
  rw [if_neg (show ¬ (m : Int) = -1 from by omega), if_neg (show ¬ (((m : Int) - 1) * 2) + 0 < 0 from by omega)]
  by_cases a : 0 ≤ W.1 76 ((((m : Int) - 1) * 2) + 0).toNat
  · rw [if_pos a, if_neg (show ¬ (m : Int) - 1 < 0 from by omega), if_neg n4, g1]
    rw [show sNa E g (m - 1) = g (m - 1) from if_neg (by rw [tv_t (Or.inl (q0.mp a))]; decide)]
  · rw [if_neg a, if_neg (show ¬ (((m : Int) - 1) * 2) + 1 < 0 from by omega)]
    by_cases b : W.1 76 ((((m : Int) - 1) * 2) + 1).toNat < 0
    · rw [if_pos b]
      rw [show sNa E g (m - 1) = -1 from if_pos (tv_f (fun y => y.elim (fun y => a (q0.mpr y)) (fun y => by have := q1.mpr y; omega)))]
    · rw [if_neg b, if_neg (show ¬ (m : Int) - 1 < 0 from by omega), if_neg n4, g1]
      rw [show sNa E g (m - 1) = g (m - 1) from if_neg (by rw [tv_t (Or.inr (q1.mp (by omega)))]; decide)]
theorem bp_1 {W : jW} {m p : Nat} (P : pXs W E g) (N : pNe W E) (hb : d_X7_birthOf_r78d (p : Int) W = (m : Int)) (h3 : m % 3 = 0) (hm : m + 2 < sNl E) : d_X6_byParents_r120_c1d (p : Int) W = if (d_X6_belongs_r120_c2d (sNa E g (m + 1)) (sDy E m) W).1 = -1 then d_X6_belongs_r120_c2d (sNa E g (m + 2)) (sDy E m) (d_X6_belongs_r120_c2d (sNa E g (m + 1)) (sDy E m) W).2 else d_X6_belongs_r120_c2d (sNa E g (m + 1)) (sDy E m) W := by
  have h6 := xs_6 P
  have nl : W.1 33 3 = E.1 0 := P.2.2.1
  have b0 := P.2.1
  have l2 := (@xs_l W E g P m (by omega)).2.1
  change W.1 80 m = sDy E m at l2
  have g1 : W.1 82 ((m : Int) + 1).toNat = g (m + 1) := by rw [show ((m : Int) + 1).toNat = m + 1 from by omega]; exact P.2.2.2.2.1 (m + 1) (by omega)
  have g2 : W.1 82 ((m : Int) + 2).toNat = g (m + 2) := by rw [show ((m : Int) + 2).toNat = m + 2 from by omega]; exact P.2.2.2.2.1 (m + 2) (by omega)
  have p0 := N (m + 1) 0 (by omega) (by decide)
  have p1 := N (m + 1) 1 (by omega) (by decide)
  have q0 := N (m + 2) 0 (by omega) (by decide)
  have q1 := N (m + 2) 1 (by omega) (by decide)
  rw [show 2 * (m + 1) + 0 = ((((m : Int) + 1) * 2) + 0).toNat from by omega] at p0
  rw [show 2 * (m + 1) + 1 = ((((m : Int) + 1) * 2) + 1).toNat from by omega] at p1
  rw [show 2 * (m + 2) + 0 = ((((m : Int) + 2) * 2) + 0).toNat from by omega] at q0
  rw [show 2 * (m + 2) + 1 = ((((m : Int) + 2) * 2) + 1).toNat from by omega] at q1
  have n1 : ¬ W.1 33 3 ≤ ((m : Int) + 1) / 3 := by unfold sNl at hm; omega
  have n2 : ¬ W.1 33 3 ≤ ((m : Int) + 2) / 3 := by unfold sNl at hm; omega
  have o1 : ¬ 600 ≤ (m : Int) + 1 := by omega
  have o2 : ¬ 600 ≤ (m : Int) + 2 := by omega
  have r0 : ¬ 1200 ≤ (((m : Int) + 1) * 2) + 0 := by omega
  have r1 : ¬ 1200 ≤ (((m : Int) + 1) * 2) + 1 := by omega
  have s0 : ¬ 1200 ≤ (((m : Int) + 2) * 2) + 0 := by omega
  have s1 : ¬ 1200 ≤ (((m : Int) + 2) * 2) + 1 := by omega
  have second : ∀ Z : Int × jW, (if 0 ≤ W.1 76 ((((m : Int) + 2) * 2) + 0).toNat then d_X6_belongs_r120_c2d (g (m + 2)) (sDy E m) Z.2 else if W.1 76 ((((m : Int) + 2) * 2) + 1).toNat < 0 then d_X6_belongs_r120_c2d (-1) (sDy E m) Z.2 else d_X6_belongs_r120_c2d (g (m + 2)) (sDy E m) Z.2) = d_X6_belongs_r120_c2d (sNa E g (m + 2)) (sDy E m) Z.2 := fun Z => by
    by_cases a : 0 ≤ W.1 76 ((((m : Int) + 2) * 2) + 0).toNat
    · rw [if_pos a, show sNa E g (m + 2) = g (m + 2) from if_neg (by rw [tv_t (Or.inl (q0.mp a))]; decide)]
    · rw [if_neg a]
      by_cases b : W.1 76 ((((m : Int) + 2) * 2) + 1).toNat < 0
      · rw [if_pos b, show sNa E g (m + 2) = -1 from if_pos (tv_f (fun y => y.elim (fun y => a (q0.mpr y)) (fun y => by have := q1.mpr y; omega)))]
      · rw [if_neg b, show sNa E g (m + 2) = g (m + 2) from if_neg (by rw [tv_t (Or.inr (q1.mp (by omega)))]; decide)]
  unfold d_X6_byParents_r120_c1d d_X6_byParents_r120_c1d_84
  rw [hb, if_neg (show ¬ (m : Int) = -1 from by omega), show ((m : Int)).toNat = m from by omega, l2, g1, g2]
  simp only [if_neg r0, if_neg r1, if_neg s0, if_neg s1, if_neg o1, if_neg o2, if_neg n1, if_neg n2]
  by_cases a : 0 ≤ W.1 76 ((((m : Int) + 1) * 2) + 0).toNat
  · rw [if_pos a, show sNa E g (m + 1) = g (m + 1) from if_neg (by rw [tv_t (Or.inl (p0.mp a))]; decide)]
    by_cases z : (d_X6_belongs_r120_c2d (g (m + 1)) (sDy E m) W).1 = -1
    · rw [if_pos z, if_pos z]; exact second _
    · rw [if_neg z, if_neg z]
  · rw [if_neg a]
    by_cases b : W.1 76 ((((m : Int) + 1) * 2) + 1).toNat < 0
    · rw [if_pos b, show sNa E g (m + 1) = -1 from if_pos (tv_f (fun y => y.elim (fun y => a (p0.mpr y)) (fun y => by have := p1.mpr y; omega)))]
      by_cases z : (d_X6_belongs_r120_c2d (-1) (sDy E m) W).1 = -1
      · rw [if_pos z, if_pos z]; exact second _
      · rw [if_neg z, if_neg z]
    · rw [if_neg b, show sNa E g (m + 1) = g (m + 1) from if_neg (by rw [tv_t (Or.inr (p1.mp (by omega)))]; decide)]
      by_cases z : (d_X6_belongs_r120_c2d (g (m + 1)) (sDy E m) W).1 = -1
      · rw [if_pos z, if_pos z]; exact second _
      · rw [if_neg z, if_neg z]
theorem by_1 {re : Int → Int → Int} (H : pBel d_X6_belongs_r120_c2d E kn re 2) (I : pIq E (sGs E kn).1) {W : jW} {p : Nat} {gr : Int} (hp : p < sNl E) (ep : (sGs E kn).1 p = (p : Int)) (hdd : 0 ≤ d ∧ d ≤ 146399) (P : pBx W E kn) (hg : 0 ≤ gr ∧ gr ≤ 5) : (d_X6_parishBy_r120_c1d gr (p : Int) d W).1 = sVal E (sGs E kn).1 kn (sBv E (sGs E kn).1 kn re) (p : Int) d gr ∧ pBx (d_X6_parishBy_r120_c1d gr (p : Int) d W).2 E kn ∧ pQy W (d_X6_parishBy_r120_c1d gr (p : Int) d W).2 ∧ ∀ i : Nat, i < 6 * 2 → (d_X6_parishBy_r120_c1d gr (p : Int) d W).2.1 121 i = W.1 121 i ∧ (d_X6_parishBy_r120_c1d gr (p : Int) d W).2.1 122 i = W.1 122 i := by
  have Px := P.1.1
  have T5 := P.1.2.1
  have Ir := Px.2.2.2.2.2.2.2
  have G := Px.1
  unfold d_X6_parishBy_r120_c1d sVal
  rcases (show gr = 0 ∨ gr = 1 ∨ gr = 2 ∨ gr = 3 ∨ gr = 4 ∨ gr = 5 from by omega) with rfl | rfl | rfl | rfl | rfl | rfl
  · simp only [show ((0 : Int) = 1) = False from by decide, show ((0 : Int) = 2) = False from by decide, show ((0 : Int) = 3) = False from by decide, show ((0 : Int) = 4) = False from by decide, show ((0 : Int) = 5) = False from by decide, if_false]
    exact ⟨xbb Px T5 I.1 P.2.2 hp ep, P, pQy_r, fun _ _ => ⟨trivial, trivial⟩⟩
  · simp only [show ((1 : Int) = 4) = False from by decide, show ((1 : Int) = 5) = False from by decide, if_false, if_true]
    exact ⟨xbl (gr := 1) (d := d) (co := 2) Px T5 I.1 P.2.2 (by decide) (by decide), P, pQy_r, fun _ _ => ⟨trivial, trivial⟩⟩
  · simp only [show ((2 : Int) = 1) = False from by decide, show ((2 : Int) = 4) = False from by decide, show ((2 : Int) = 5) = False from by decide, if_false, if_true]
    exact ⟨xbl (gr := 2) (d := d) (co := 1) Px T5 I.1 P.2.2 (by decide) (by decide), P, pQy_r, fun _ _ => ⟨trivial, trivial⟩⟩
  · simp only [show ((3 : Int) = 1) = False from by decide, show ((3 : Int) = 2) = False from by decide, show ((3 : Int) = 4) = False from by decide, show ((3 : Int) = 5) = False from by decide, if_false, if_true]
    exact ⟨xbl (gr := 3) (d := d) (co := 2) Px T5 I.1 P.2.2 (by decide) (by decide), P, pQy_r, fun _ _ => ⟨trivial, trivial⟩⟩
  · simp only [show ((4 : Int) = 1) = False from by decide, show ((4 : Int) = 2) = False from by decide, show ((4 : Int) = 3) = False from by decide, if_false, if_true]
    rw [bw_1 Px hp ep]
    by_cases z : sMo E (sGs E kn).1 (p : Int) 4 d = -1
    · rw [if_pos z, z]
      exact ⟨rfl, P, pQy_r, fun _ _ => ⟨rfl, rfl⟩⟩
    · obtain ⟨m, m1, m2, m3⟩ := mo_4 Ir z
      rw [if_neg z, m1, bn_1 Px P.2.1 m2 m3, show ((m : Int)).toNat = m from by omega]
      have h := H (sNa E (sGs E kn).1 (m - 1)) d W (na_s G (by omega)) (fun y => absurd y (by decide)) hdd P
      exact ⟨h.1, h.2.1, h.2.2.1, h.2.2.2.1⟩
  · simp only [show ((5 : Int) = 1) = False from by decide, show ((5 : Int) = 2) = False from by decide, show ((5 : Int) = 3) = False from by decide, show ((5 : Int) = 4) = False from by decide, if_false, if_true]
    have bi := xbi Px I.2.2.2 hp ep
    by_cases z : sMo E (sGs E kn).1 (p : Int) 0 146399 = -1
    · rw [if_pos z]
      have e : d_X6_byParents_r120_c1d (p : Int) W = (-1, W) := by
        unfold d_X6_byParents_r120_c1d
        rw [bi, if_pos z]
        rfl
      rw [e]
      exact ⟨rfl, P, pQy_r, fun _ _ => ⟨rfl, rfl⟩⟩
    · obtain ⟨m, m1, m2, m3, m4, m5⟩ := mo_0 Ir z
      rw [if_neg z, bp_1 Px P.2.1 (bi.trans m1) m2 m3, m1, show ((m : Int)).toNat = m from by omega]
      have h := H (sNa E (sGs E kn).1 (m + 1)) (sDy E m) W (na_s G (by omega)) (fun y => absurd y (by decide)) ⟨m4, m5⟩ P
      by_cases z2 : (d_X6_belongs_r120_c2d (sNa E (sGs E kn).1 (m + 1)) (sDy E m) W).1 = -1
      · rw [if_pos z2, if_pos (h.1.symm.trans z2)]
        have h2 := H (sNa E (sGs E kn).1 (m + 2)) (sDy E m) _ (na_s G (by omega)) (fun y => absurd y (by decide)) ⟨m4, m5⟩ h.2.1
        exact ⟨h2.1, h2.2.1, pQy_t h.2.2.1 h2.2.2.1, fun i hi => ⟨(h2.2.2.2.1 i hi).1.trans (h.2.2.2.1 i hi).1, (h2.2.2.2.1 i hi).2.trans (h.2.2.2.1 i hi).2⟩⟩
      · rw [if_neg z2, if_neg (fun y => z2 (h.1.trans y))]
        exact ⟨h.1, h.2.1, h.2.2.1, h.2.2.2.1⟩
theorem b238_1 {re : Int → Int → Int} (H : pBel d_X6_belongs_r120_c2d E kn re 2) (I : pIq E (sGs E kn).1) {p n : Nat} {bs : Int} {gr cl : Nat → Int} (hp : p < sNl E) (ep : (sGs E kn).1 p = (p : Int)) (hdd : 0 ≤ d ∧ d ≤ 146399) (n6 : n ≤ 6) (hg : ∀ i : Nat, i < n → 0 ≤ gr i ∧ gr i ≤ 5) : ∀ (c i f : Nat) (W : jW), i + c = n → c < f → pBx W E kn → (∀ j : Nat, j < n → W.1 121 (6 * 1 + j) = gr j ∧ W.1 122 (6 * 1 + j) = cl j) → ∃ V : jW, d_X6_belongs_r120_c1d_238 f (p : Int) d (n : Int) bs (i : Int) W = ((sFs (sVal E (sGs E kn).1 kn (sBv E (sGs E kn).1 kn re) (p : Int) d) gr cl c i).1, V) ∧ pBx V E kn ∧ pQy W V ∧ (∀ i : Nat, i < 6 * 1 → V.1 121 i = W.1 121 i ∧ V.1 122 i = W.1 122 i) ∧ V.1 120 6 = (sFs (sVal E (sGs E kn).1 kn (sBv E (sGs E kn).1 kn re) (p : Int) d) gr cl c i).2 ∧ V.1 120 7 = if (sFs (sVal E (sGs E kn).1 kn (sBv E (sGs E kn).1 kn re) (p : Int) d) gr cl c i).1 = -1 then bs else 0 := by
  have up : ∀ (W : jW) (a b : Int), pBx W E kn → pBx (vu (vu W 120 6 a) 120 7 b) E kn := fun W a b P => pBx_Q P (pVk_u (pVk_u P.1 (by decide)) (by decide)) (pQy_u (pQy_u pQy_r (by decide)) (by decide)) ((vu_n (by decide)).trans (vu_n (by decide)))
  have uq : ∀ (W : jW) (a b : Int), pQy W (vu (vu W 120 6 a) 120 7 b) := fun W a b => pQy_u (pQy_u pQy_r (by decide)) (by decide)
  intro c
  induction c with
  | zero =>
    intro i f W e hf P h
    obtain ⟨f, rfl⟩ : ∃ q, f = q + 1 := ⟨f - 1, by omega⟩
    refine ⟨vu (vu W 120 6 (-1)) 120 7 bs, if_pos (by omega), up W _ _ P, uq W _ _, fun i hi => ⟨(vu_n (by omega)).trans (vu_n (by omega)), (vu_n (by omega)).trans (vu_n (by omega))⟩, (vu_n (by decide)).trans (vu_e rfl), ?_⟩
    rw [if_pos (show (sFs (sVal E (sGs E kn).1 kn (sBv E (sGs E kn).1 kn re) (p : Int) d) gr cl 0 i).1 = -1 from rfl)]
    exact vu_e rfl
  | succ c ih =>
    intro i f W e hf P h
    obtain ⟨f, rfl⟩ : ∃ q, f = q + 1 := ⟨f - 1, by omega⟩
    have hi := h i (by omega)
    have q := by_1 H I hp ep hdd P (hg i (by omega))
    have st : d_X6_belongs_r120_c1d_238 (f + 1) (p : Int) d (n : Int) bs (i : Int) W = (if (d_X6_parishBy_r120_c1d (gr i) (p : Int) d W).1 = -1 then d_X6_belongs_r120_c1d_238 f (p : Int) d (n : Int) bs ((i : Int) + 1) (d_X6_parishBy_r120_c1d (gr i) (p : Int) d W).2 else ((d_X6_parishBy_r120_c1d (gr i) (p : Int) d W).1, vu (vu (d_X6_parishBy_r120_c1d (gr i) (p : Int) d W).2 120 6 ((d_X6_parishBy_r120_c1d (gr i) (p : Int) d W).2.1 122 (6 + (i : Int)).toNat)) 120 7 0)) := by
      refine (if_neg (by omega)).trans ?_
      rw [show W.1 121 (6 + (i : Int)).toNat = gr i from by rw [show (6 + (i : Int)).toNat = 6 * 1 + i from by omega]; exact hi.1]
    rw [st, show (6 + (i : Int)).toNat = 6 * 1 + i from by omega]
    generalize d_X6_parishBy_r120_c1d (gr i) (p : Int) d W = Z at *
    have z2 : Z.2.1 122 (6 * 1 + i) = cl i := (q.2.2.2 _ (by omega)).2.trans hi.2
    by_cases z : Z.1 = -1
    · have sf : sFs (sVal E (sGs E kn).1 kn (sBv E (sGs E kn).1 kn re) (p : Int) d) gr cl (c + 1) i = sFs (sVal E (sGs E kn).1 kn (sBv E (sGs E kn).1 kn re) (p : Int) d) gr cl c (i + 1) := if_pos (q.1.symm.trans z)
      rw [if_pos z, sf]
      obtain ⟨V, v1, v2, v3, v4, v5⟩ := ih (i + 1) f Z.2 (by omega) (by omega) q.2.1 (fun j hj => ⟨(q.2.2.2 _ (by omega)).1.trans (h j hj).1, (q.2.2.2 _ (by omega)).2.trans (h j hj).2⟩)
      rw [show ((i + 1 : Nat) : Int) = (i : Int) + 1 from by omega] at v1
      exact ⟨V, v1, v2, pQy_t q.2.2.1 v3, fun j hj => ⟨(v4 j hj).1.trans (q.2.2.2 j (by omega)).1, (v4 j hj).2.trans (q.2.2.2 j (by omega)).2⟩, v5⟩
    · have sf : sFs (sVal E (sGs E kn).1 kn (sBv E (sGs E kn).1 kn re) (p : Int) d) gr cl (c + 1) i = (sVal E (sGs E kn).1 kn (sBv E (sGs E kn).1 kn re) (p : Int) d (gr i), cl i) := if_neg (fun y => z (q.1.trans y))
      rw [if_neg z, sf, z2, q.1]
      refine ⟨_, rfl, up _ _ _ q.2.1, pQy_t q.2.2.1 (uq _ _ _), fun j hj => ⟨((vu_n (by omega)).trans (vu_n (by omega))).trans (q.2.2.2 j (by omega)).1, ((vu_n (by omega)).trans (vu_n (by omega))).trans (q.2.2.2 j (by omega)).2⟩, (vu_n (by decide)).trans (vu_e rfl), ?_⟩
      rw [if_neg (fun y => z (q.1.trans y))]
      exact vu_e rfl
theorem bz_1 {re : Int → Int → Int} (H : pBel d_X6_belongs_r120_c2d E kn re 2) (I : pIq E (sGs E kn).1) (Ik : pIk E.1) (Il : pIl E.1) (I1 : pI1 E.1) (O : ∀ d : Int, 0 ≤ d ∧ d ≤ 146399 → ∀ p : Nat, p < sNl E → (sGs E kn).1 p = (p : Int) → qOk fun w => sQu E (sGs E kn).1 d kn w (p : Int)) : pBel d_X6_belongs_r120_c1d E kn (sBv E (sGs E kn).1 kn re) 1 := by
  intro s d X hs hJ hdd P
  have u0 : pVk (vu (vu X 120 6 (-1)) 120 7 0) E kn := pVk_u (pVk_u P.1 (by decide)) (by decide)
  have uq : pQy X (vu (vu X 120 6 (-1)) 120 7 0) := pQy_u (pQy_u pQy_r (by decide)) (by decide)
  have u5 : (vu (vu X 120 6 (-1)) 120 7 0).1 120 5 = X.1 120 5 := (vu_n (by decide)).trans (vu_n (by decide))
  rcases hs with rfl | ⟨p, hp, rfl, ep⟩
  · have e : d_X6_belongs_r120_c1d (-1) d X = (-1, vu (vu X 120 6 (-1)) 120 7 0) := if_pos rfl
    rw [e]
    exact ⟨(if_pos rfl).symm, pBx_Q P u0 uq u5, uq, fun i hi => ⟨(vu_n (by omega)).trans (vu_n (by omega)), (vu_n (by omega)).trans (vu_n (by omega))⟩, fun y => absurd rfl y⟩
  · have e : d_X6_belongs_r120_c1d (p : Int) d X = d_X6_belongs_r120_c1d_54 3 (p : Int) d 0 0 0 (d_X0_readHouses_r98d d kn (d_X0_readLaws_r98d d kn (vu (vu X 120 6 (-1)) 120 7 0))) := by
      unfold d_X6_belongs_r120_c1d
      rw [if_neg (show ¬ (p : Int) = -1 from by omega), P.2.2]
    rw [e]
    obtain ⟨l1, l2, l3, l4, l5, l6, l7⟩ := xtl (d := d) u0 Il Ik
    generalize hW1 : d_X0_readLaws_r98d d kn (vu (vu X 120 6 (-1)) 120 7 0) = W1 at *
    obtain ⟨h1, h2, h3, h4⟩ := xth (d := d) l2 I.2.1 l1
    generalize hW2 : d_X0_readHouses_r98d d kn W1 = W2 at *
    have y2 : pQy X W2 := pQy_t uq (pQy_t l5 h3)
    have s121 : W2.1 121 = X.1 121 := ((h4 121 (by decide)).1.trans (l6 121 (by decide))).trans ((vu_c (by decide)).trans (vu_c (by decide)))
    have s122 : W2.1 122 = X.1 122 := ((h4 122 (by decide)).1.trans (l6 122 (by decide))).trans ((vu_c (by decide)).trans (vu_c (by decide)))
    have s120 : W2.1 120 = (vu (vu X 120 6 (-1)) 120 7 0).1 120 := (h4 120 (by decide)).1.trans (l6 120 (by decide))
    obtain ⟨V, v1, v2⟩ := b54_1 h1 I hdd hp ep Ik Il I1 (O d hdd p hp ep) pZ_r rfl (fun _ _ => ⟨rfl, rfl⟩)
    rw [v1]
    have PV : pBx V E kn := pBx_Q P (pVk_Z h2 v2.1) (pQy_t y2 (zQy v2.1)) (by rw [v2.2.1, s120]; exact u5)
    obtain ⟨Z, z1, z2, z3, z4, z5, z6⟩ := b238_1 H I hp ep hdd (bl_6 I1 720) (bl_c I1 720).2 (sBl E (sGs E kn).1 d kn (p : Int) 720).1 0 7 V (by omega) (by have := bl_6 (E := E) (g := (sGs E kn).1) (d := d) (kn := kn) (s := (p : Int)) I1 720; omega) PV v2.2.2.2 (bs := (sBl E (sGs E kn).1 d kn (p : Int) 720).2.2.2)
    rw [show ((0 : Nat) : Int) = 0 from rfl] at z1
    rw [z1]
    refine ⟨(if_neg (show ¬ (p : Int) = -1 from by omega)).symm, z2, pQy_t (pQy_t y2 (zQy v2.1)) z3, fun i hi => ?_, fun _ => ⟨z5, z6⟩⟩
    exact ⟨(z4 i hi).1.trans ((v2.2.2.1 i hi).1.trans (by rw [s121])), (z4 i hi).2.trans ((v2.2.2.1 i hi).2.trans (by rw [s122]))⟩
theorem b115_0 {t : Int} {T hd so p : Nat} {X : jW} (K54 : Int → Int → Int → Int → Int → jW → (Int × jW)) (K63 : Int → Int → Int → Int → Int → Int → jW → (Int × jW)) (Q : pV X E g d kn) (I : pIq E g) (hdd : 0 ≤ d ∧ d ≤ 146399) (hp : p < sNl E) (ep : g p = (p : Int)) (Ik : pIk E.1) (Il : pIl E.1) (I1 : pI1 E.1) (O : qOk fun w => sQu E g d kn w (p : Int)) (ht : 0 ≤ t ∧ t < E.1 4) (Qe : pTe X E.1 t T hd) (hso : so ≤ 1) (es : E.1 (18820 + (924 * t)).toNat = (so : Int)) : ∀ (q c f : Nat) (W : jW), (c : Int) + (q : Int) = E.1 ((18820 + (924 * t)) + 3).toNat → q < f → pBw X W 0 (sBl E g d kn (p : Int) (360 * so + 12 * t.toNat + c)) → ∃ V : jW, d_X6_belongs_r120_c0d_115 K54 K63 f (p : Int) d ((sBl E g d kn (p : Int) (360 * so + 12 * t.toNat + c)).1 : Int) (sBl E g d kn (p : Int) (360 * so + 12 * t.toNat + c)).2.2.2 (so : Int) t T (E.1 ((18820 + (924 * t)) + 3).toNat) (c : Int) W = K63 (p : Int) d ((sBl E g d kn (p : Int) (360 * so + 12 * t.toNat + (c + q))).1 : Int) (sBl E g d kn (p : Int) (360 * so + 12 * t.toNat + (c + q))).2.2.2 (so : Int) (t + 1) V ∧ pBw X V 0 (sBl E g d kn (p : Int) (360 * so + 12 * t.toNat + (c + q))) := by
  have b30 := Il.2.1
  have J12 := (Il.2.2 t ht.1 ht.2).2.1
  have T0 : ¬ T = 0 := by have := Qe.1; omega
  intro q
  induction q with
  | zero =>
    intro c f W e hf h
    obtain ⟨f, rfl⟩ : ∃ q, f = q + 1 := ⟨f - 1, by omega⟩
    exact ⟨W, (if_neg T0).trans (if_pos (by omega)), h⟩
  | succ q ih =>
    intro c f W e hf h
    obtain ⟨f, rfl⟩ : ∃ q, f = q + 1 := ⟨f - 1, by omega⟩
    have QW := pTe_Qy (zQy h.1) Qe
    have hc : (0 : Int) ≤ (c : Int) ∧ (c : Int) < E.1 ((18820 + (924 * t)) + 3).toNat := by omega
    have H := QW.2.2.2.2.2.2.2 (c : Int) hc.1 hc.2
    have k0 := (he_e QW hc.1 hc.2 (show (0 : Int) ≤ 0 ∧ (0 : Int) < 6 from by decide)).trans H.1
    have k1 := (he_e QW hc.1 hc.2 (show (0 : Int) ≤ 1 ∧ (1 : Int) < 6 from by decide)).trans H.2.1
    have kt : ((360 * so + 12 * t.toNat + c : Nat) : Int) % 360 / 12 = t := by omega
    have kc : ((360 * so + 12 * t.toNat + c : Nat) : Int) % 12 = (c : Int) := by omega
    have ks : ((360 * so + 12 * t.toNat + c : Nat) : Int) / 360 = (so : Int) := by omega
    have k3 : ((360 * so + 12 * t.toNat + c : Nat) : Int) % 360 = t * 12 + (c : Int) := by omega
    have gk : sBg E.1 ((360 * so + 12 * t.toNat + c : Nat) : Int) = E.1 ((((18820 + (924 * t)) + 4) + (10 * (c : Int))) + 1).toNat := by
      unfold sBg
      rw [kt, kc]
    have pk : sBh E g d kn (p : Int) ((360 * so + 12 * t.toNat + c : Nat) : Int) ↔ E.1 (((18820 + (924 * t)) + 4) + (10 * (c : Int))).toNat = 1 ∧ sHd E.1 d kn t (c : Int) fun w => sQu E g d kn w (p : Int) := by
      unfold sBh
      rw [kt, kc, ks]
      exact ⟨fun y => y.2.2.2, fun y => ⟨⟨by omega, by omega⟩, ⟨by omega, by omega⟩, es, y⟩⟩
    have hz := xhz (t := t) (c := (c : Int)) Q I hdd hp ep Ik Il O ht hc h.1
    have lt6 := fun a b => bl_l (E := E) (g := g) (d := d) (kn := kn) (s := (p : Int)) (k := 360 * so + 12 * t.toNat + c) I1 a b
    have go : ∀ W1 : jW, ¬ (sBh E g d kn (p : Int) ((360 * so + 12 * t.toNat + c : Nat) : Int) ∧ j_iand (j_ishr (sBl E g d kn (p : Int) (360 * so + 12 * t.toNat + c)).2.2.2 (sBg E.1 ((360 * so + 12 * t.toNat + c : Nat) : Int))) 1 = 0) → pBw X W1 0 (sBl E g d kn (p : Int) (360 * so + 12 * t.toNat + c)) → ∃ V : jW, d_X6_belongs_r120_c0d_115 K54 K63 f (p : Int) d ((sBl E g d kn (p : Int) (360 * so + 12 * t.toNat + c)).1 : Int) (sBl E g d kn (p : Int) (360 * so + 12 * t.toNat + c)).2.2.2 (so : Int) t T (E.1 ((18820 + (924 * t)) + 3).toNat) ((c : Int) + 1) W1 = K63 (p : Int) d ((sBl E g d kn (p : Int) (360 * so + 12 * t.toNat + (c + (q + 1)))).1 : Int) (sBl E g d kn (p : Int) (360 * so + 12 * t.toNat + (c + (q + 1)))).2.2.2 (so : Int) (t + 1) V ∧ pBw X V 0 (sBl E g d kn (p : Int) (360 * so + 12 * t.toNat + (c + (q + 1)))) := fun W1 ne hw => by
      have e1 : sBl E g d kn (p : Int) (360 * so + 12 * t.toNat + (c + 1)) = sBl E g d kn (p : Int) (360 * so + 12 * t.toNat + c) := bl_n ne
      have y := ih (c + 1) f W1 (by omega) (by omega) (by rw [e1]; exact hw)
      rw [e1, show c + 1 + q = c + (q + 1) from by omega, show ((c + 1 : Nat) : Int) = (c : Int) + 1 from by omega] at y
      exact y
    have st : d_X6_belongs_r120_c0d_115 K54 K63 (f + 1) (p : Int) d ((sBl E g d kn (p : Int) (360 * so + 12 * t.toNat + c)).1 : Int) (sBl E g d kn (p : Int) (360 * so + 12 * t.toNat + c)).2.2.2 (so : Int) t T (E.1 ((18820 + (924 * t)) + 3).toNat) (c : Int) W = (if d_head T (c : Int) 0 W = 0 then (if j_iand (j_ishr (sBl E g d kn (p : Int) (360 * so + 12 * t.toNat + c)).2.2.2 (d_head T (c : Int) 1 W)) 1 = 0 then (if 6 ≤ ((sBl E g d kn (p : Int) (360 * so + 12 * t.toNat + c)).1 : Int) then d_X6_belongs_r120_c0d_115 K54 K63 f (p : Int) d ((sBl E g d kn (p : Int) (360 * so + 12 * t.toNat + c)).1 : Int) (sBl E g d kn (p : Int) (360 * so + 12 * t.toNat + c)).2.2.2 (so : Int) t T (E.1 ((18820 + (924 * t)) + 3).toNat) ((c : Int) + 1) W else if (d_X0_holdsFor_r98d t (c : Int) (p : Int) W).1 = 0 then d_X6_belongs_r120_c0d_115 K54 K63 f (p : Int) d ((sBl E g d kn (p : Int) (360 * so + 12 * t.toNat + c)).1 : Int) (sBl E g d kn (p : Int) (360 * so + 12 * t.toNat + c)).2.2.2 (so : Int) t T (E.1 ((18820 + (924 * t)) + 3).toNat) ((c : Int) + 1) (d_X0_holdsFor_r98d t (c : Int) (p : Int) W).2 else d_X6_belongs_r120_c0d_115 K54 K63 f (p : Int) d (((sBl E g d kn (p : Int) (360 * so + 12 * t.toNat + c)).1 : Int) + 1) (j_ior (sBl E g d kn (p : Int) (360 * so + 12 * t.toNat + c)).2.2.2 (j_ishl 1 (d_head T (c : Int) 1 W))) (so : Int) t T (E.1 ((18820 + (924 * t)) + 3).toNat) ((c : Int) + 1) (vu (vu (d_X0_holdsFor_r98d t (c : Int) (p : Int) W).2 121 (0 + ((sBl E g d kn (p : Int) (360 * so + 12 * t.toNat + c)).1 : Int)).toNat (d_head T (c : Int) 1 W)) 122 (0 + ((sBl E g d kn (p : Int) (360 * so + 12 * t.toNat + c)).1 : Int)).toNat (t * 12 + (c : Int)))) else d_X6_belongs_r120_c0d_115 K54 K63 f (p : Int) d ((sBl E g d kn (p : Int) (360 * so + 12 * t.toNat + c)).1 : Int) (sBl E g d kn (p : Int) (360 * so + 12 * t.toNat + c)).2.2.2 (so : Int) t T (E.1 ((18820 + (924 * t)) + 3).toNat) ((c : Int) + 1) W) else d_X6_belongs_r120_c0d_115 K54 K63 f (p : Int) d ((sBl E g d kn (p : Int) (360 * so + 12 * t.toNat + c)).1 : Int) (sBl E g d kn (p : Int) (360 * so + 12 * t.toNat + c)).2.2.2 (so : Int) t T (E.1 ((18820 + (924 * t)) + 3).toNat) ((c : Int) + 1) W) := (if_neg T0).trans (if_neg (by omega))
    rw [st, k0, k1]
    by_cases n0 : E.1 (((18820 + (924 * t)) + 4) + (10 * (c : Int))).toNat = 1
    · rw [n0, if_neg (show ¬ (1 : Int) = 0 from by decide), if_neg (show ¬ (1 : Int) = 0 from by decide), if_pos (show (1 : Int) - 1 = 0 from by decide), ← gk, ← k3]
      by_cases n1 : j_iand (j_ishr (sBl E g d kn (p : Int) (360 * so + 12 * t.toNat + c)).2.2.2 (sBg E.1 ((360 * so + 12 * t.toNat + c : Nat) : Int))) 1 = 0
      · rw [if_pos n1]
        by_cases n2 : sHd E.1 d kn t (c : Int) fun w => sQu E g d kn w (p : Int)
        · have hb := pk.mpr ⟨n0, n2⟩
          have l6 := lt6 hb n1
          have e1 : sBl E g d kn (p : Int) (360 * so + 12 * t.toNat + (c + 1)) = _ := bl_y hb n1
          rw [if_neg (by omega), hz.1, tv_t n2, if_neg (show ¬ (1 : Int) = 0 from by decide)]
          have y := ih (c + 1) f (vu (vu (d_X0_holdsFor_r98d t (c : Int) (p : Int) W).2 121 (6 * 0 + (sBl E g d kn (p : Int) (360 * so + 12 * t.toNat + c)).1) (sBg E.1 ((360 * so + 12 * t.toNat + c : Nat) : Int))) 122 (6 * 0 + (sBl E g d kn (p : Int) (360 * so + 12 * t.toNat + c)).1) (((360 * so + 12 * t.toNat + c : Nat) : Int) % 360)) (by omega) (by omega) (by rw [e1]; exact pBw_a (pBw_h h hz.2.1 hz.2.2))
          rw [e1, show c + 1 + q = c + (q + 1) from by omega, show ((c + 1 : Nat) : Int) = (c : Int) + 1 from by omega] at y
          rw [show (0 + ((sBl E g d kn (p : Int) (360 * so + 12 * t.toNat + c)).1 : Int)).toNat = 6 * 0 + (sBl E g d kn (p : Int) (360 * so + 12 * t.toNat + c)).1 from by omega]
          exact y
        · have ne : ¬ (sBh E g d kn (p : Int) ((360 * so + 12 * t.toNat + c : Nat) : Int) ∧ j_iand (j_ishr (sBl E g d kn (p : Int) (360 * so + 12 * t.toNat + c)).2.2.2 (sBg E.1 ((360 * so + 12 * t.toNat + c : Nat) : Int))) 1 = 0) := fun y => n2 (pk.mp y.1).2
          by_cases n3 : 6 ≤ ((sBl E g d kn (p : Int) (360 * so + 12 * t.toNat + c)).1 : Int)
          · rw [if_pos n3]; exact go W ne h
          · rw [if_neg n3, hz.1, tv_f n2, if_pos rfl]; exact go _ ne (pBw_h h hz.2.1 hz.2.2)
      · rw [if_neg n1]; exact go W (fun y => n1 y.2) h
    · rw [if_neg (show ¬ (if E.1 (((18820 + (924 * t)) + 4) + (10 * (c : Int))).toNat = 0 then 8 else E.1 (((18820 + (924 * t)) + 4) + (10 * (c : Int))).toNat - 1) = 0 from by
        by_cases q : E.1 (((18820 + (924 * t)) + 4) + (10 * (c : Int))).toNat = 0
        · rw [if_pos q]; decide
        · rw [if_neg q]; omega)]
      exact go W (fun y => n0 (pk.mp y.1).1) h
theorem b63_0 {so p : Nat} {X : jW} (K54 : Int → Int → Int → Int → Int → jW → (Int × jW)) (Q : pV X E g d kn) (I : pIq E g) (hdd : 0 ≤ d ∧ d ≤ 146399) (hp : p < sNl E) (ep : g p = (p : Int)) (Ik : pIk E.1) (Il : pIl E.1) (I1 : pI1 E.1) (O : qOk fun w => sQu E g d kn w (p : Int)) (hso : so ≤ 1) : ∀ (q t f : Nat) (W : jW), (t : Int) + (q : Int) = E.1 4 → q < f → pBw X W 0 (sBl E g d kn (p : Int) (360 * so + 12 * t)) → ∃ V : jW, d_X6_belongs_r120_c0d_63 K54 f (p : Int) d ((sBl E g d kn (p : Int) (360 * so + 12 * t)).1 : Int) (sBl E g d kn (p : Int) (360 * so + 12 * t)).2.2.2 (so : Int) (t : Int) W = K54 (p : Int) d ((sBl E g d kn (p : Int) (360 * so + 360)).1 : Int) (sBl E g d kn (p : Int) (360 * so + 360)).2.2.2 ((so : Int) + 1) V ∧ pBw X V 0 (sBl E g d kn (p : Int) (360 * so + 360)) := by
  have b30 := Il.2.1
  intro q
  induction q with
  | zero =>
    intro t f W e hf h
    obtain ⟨f, rfl⟩ : ∃ q, f = q + 1 := ⟨f - 1, by omega⟩
    have c32 : W.1 32 18 = E.1 4 := (pTc_Qy (zQy h.1) Q.2.1).1
    have e1 : sBl E g d kn (p : Int) (360 * so + 360) = sBl E g d kn (p : Int) (360 * so + 12 * t) := bl_u (by omega) (fun j j1 j2 y => by
      have y2 := y.1.2
      omega)
    rw [e1]
    exact ⟨W, if_pos (by omega), h⟩
  | succ q ih =>
    intro t f W e hf h
    obtain ⟨f, rfl⟩ : ∃ q, f = q + 1 := ⟨f - 1, by omega⟩
    have c32 : W.1 32 18 = E.1 4 := (pTc_Qy (zQy h.1) Q.2.1).1
    obtain ⟨T, hd, eT, Qe, _⟩ := Q.2.1.2 (t : Int) (by omega) (by omega)
    have QW := pTe_Qy (zQy h.1) Qe
    have T0 : ¬ T = 0 := by have := Qe.1; omega
    have eW : W.2.2.1 66 (t : Int).toNat = some T := ((zQy h.1).2.1 66 _ (by omega)).trans eT
    have J12 := Il.2.2 (t : Int) (by omega) (by omega)
    have st : d_X6_belongs_r120_c0d_63 K54 (f + 1) (p : Int) d ((sBl E g d kn (p : Int) (360 * so + 12 * t)).1 : Int) (sBl E g d kn (p : Int) (360 * so + 12 * t)).2.2.2 (so : Int) (t : Int) W = (if E.1 ((18820 + (924 * (t : Int))) + 0).toNat = (so : Int) then d_X6_belongs_r120_c0d_115 K54 (fun l1 l2 l5 l6 l7 l8 W => d_X6_belongs_r120_c0d_63 K54 f l1 l2 l5 l6 l7 l8 W) 13 (p : Int) d ((sBl E g d kn (p : Int) (360 * so + 12 * t)).1 : Int) (sBl E g d kn (p : Int) (360 * so + 12 * t)).2.2.2 (so : Int) (t : Int) T (E.1 ((18820 + (924 * (t : Int))) + 3).toNat) 0 W else d_X6_belongs_r120_c0d_101 K54 (fun l1 l2 l5 l6 l7 l8 W => d_X6_belongs_r120_c0d_63 K54 f l1 l2 l5 l6 l7 l8 W) (p : Int) d ((sBl E g d kn (p : Int) (360 * so + 12 * t)).1 : Int) (sBl E g d kn (p : Int) (360 * so + 12 * t)).2.2.2 (so : Int) (t : Int) T W) := by
      refine (if_neg (by omega)).trans ((if_neg (by omega)).trans ?_)
      rw [eW, if_neg (show ¬ (some T).isNone = true from fun y => Bool.noConfusion y), show (some T).getD 0 = T from rfl, QW.2.2.1, QW.2.2.2.2.2.1]
      rfl
    rw [st, Int.add_zero]
    by_cases n0 : E.1 (18820 + (924 * (t : Int))).toNat = (so : Int)
    · rw [if_pos n0]
      obtain ⟨V, v1, v2⟩ := b115_0 K54 (fun l1 l2 l5 l6 l7 l8 W => d_X6_belongs_r120_c0d_63 K54 f l1 l2 l5 l6 l7 l8 W) Q I hdd hp ep Ik Il I1 O ⟨by omega, by omega⟩ Qe hso n0 (E.1 ((18820 + (924 * (t : Int))) + 3).toNat).toNat 0 13 W (by omega) (by omega) h
      rw [show (t : Int).toNat = t from by omega, Nat.zero_add] at v1 v2
      have e1 : sBl E g d kn (p : Int) (360 * so + 12 * (t + 1)) = sBl E g d kn (p : Int) (360 * so + 12 * t + (E.1 ((18820 + (924 * (t : Int))) + 3).toNat).toNat) := bl_u (by omega) (fun j j1 j2 y => by
        have y2 := y.2.1.2
        rw [show (j : Int) % 360 / 12 = (t : Int) from by omega] at y2
        omega)
      obtain ⟨V2, w1, w2⟩ := ih (t + 1) f V (by omega) (by omega) (by rw [e1]; exact v2)
      rw [e1, show ((t + 1 : Nat) : Int) = (t : Int) + 1 from by omega] at w1
      exact ⟨V2, v1.trans w1, w2⟩
    · rw [if_neg n0]
      have e1 : sBl E g d kn (p : Int) (360 * so + 12 * (t + 1)) = sBl E g d kn (p : Int) (360 * so + 12 * t) := bl_u (by omega) (fun j j1 j2 y => by
        have y2 := y.2.2.1
        rw [show (j : Int) % 360 / 12 = (t : Int) from by omega, show (j : Int) / 360 = (so : Int) from by omega] at y2
        exact n0 y2)
      obtain ⟨V2, w1, w2⟩ := ih (t + 1) f W (by omega) (by omega) (by rw [e1]; exact h)
      rw [e1, show ((t + 1 : Nat) : Int) = (t : Int) + 1 from by omega] at w1
      refine ⟨V2, Eq.trans ?_ w1, w2⟩
      unfold d_X6_belongs_r120_c0d_101 d_X6_belongs_r120_c0d_200110
      rw [if_neg T0, if_neg T0]
      exact (if_neg T0).trans (if_pos (by decide))
theorem b54_0 {p : Nat} {X W : jW} (Q : pV X E g d kn) (I : pIq E g) (hdd : 0 ≤ d ∧ d ≤ 146399) (hp : p < sNl E) (ep : g p = (p : Int)) (Ik : pIk E.1) (Il : pIl E.1) (I1 : pI1 E.1) (O : qOk fun w => sQu E g d kn w (p : Int)) (z : pZ X W) (e120 : W.1 120 = X.1 120) (e1 : ∀ i : Nat, i < 6 * 0 → W.1 121 i = X.1 121 i ∧ W.1 122 i = X.1 122 i) : ∃ V : jW, d_X6_belongs_r120_c0d_54 3 (p : Int) d 0 0 0 W = d_X6_belongs_r120_c0d_238 7 (p : Int) d ((sBl E g d kn (p : Int) 720).1 : Int) (sBl E g d kn (p : Int) 720).2.2.2 0 V ∧ pBw X V 0 (sBl E g d kn (p : Int) 720) := by
  have b30 := Il
  have h0 : pBw X W 0 (sBl E g d kn (p : Int) (360 * 0 + 12 * 0)) := ⟨z, e120, e1, fun i hi => absurd hi (Nat.not_lt_zero i)⟩
  obtain ⟨V, v1, v2⟩ := b63_0 (so := 0) (fun l1 l2 l5 l6 l7 W => d_X6_belongs_r120_c0d_54 2 l1 l2 l5 l6 l7 W) Q I hdd hp ep Ik Il I1 O (by decide) (E.1 4).toNat 0 31 W (by have := Il.1; omega) (by have := Il.2.1; omega) h0
  obtain ⟨V2, w1, w2⟩ := b63_0 (so := 1) (fun l1 l2 l5 l6 l7 W => d_X6_belongs_r120_c0d_54 1 l1 l2 l5 l6 l7 W) Q I hdd hp ep Ik Il I1 O (by decide) (E.1 4).toNat 0 31 V (by have := Il.1; omega) (by have := Il.2.1; omega) v2
  refine ⟨V2, ?_, w2⟩
  have s1 : d_X6_belongs_r120_c0d_54 3 (p : Int) d 0 0 0 W = d_X6_belongs_r120_c0d_63 (fun l1 l2 l5 l6 l7 W => d_X6_belongs_r120_c0d_54 2 l1 l2 l5 l6 l7 W) 31 (p : Int) d 0 0 0 0 W := if_neg (by decide)
  have s2 : d_X6_belongs_r120_c0d_54 2 (p : Int) d ((sBl E g d kn (p : Int) (360 * 0 + 360)).1 : Int) (sBl E g d kn (p : Int) (360 * 0 + 360)).2.2.2 (((0 : Nat) : Int) + 1) V = d_X6_belongs_r120_c0d_63 (fun l1 l2 l5 l6 l7 W => d_X6_belongs_r120_c0d_54 1 l1 l2 l5 l6 l7 W) 31 (p : Int) d ((sBl E g d kn (p : Int) (360 * 1 + 12 * 0)).1 : Int) (sBl E g d kn (p : Int) (360 * 1 + 12 * 0)).2.2.2 ((1 : Nat) : Int) ((0 : Nat) : Int) V := if_neg (by decide)
  have s3 : d_X6_belongs_r120_c0d_54 1 (p : Int) d ((sBl E g d kn (p : Int) (360 * 1 + 360)).1 : Int) (sBl E g d kn (p : Int) (360 * 1 + 360)).2.2.2 (((1 : Nat) : Int) + 1) V2 = d_X6_belongs_r120_c0d_238 7 (p : Int) d ((sBl E g d kn (p : Int) 720).1 : Int) (sBl E g d kn (p : Int) 720).2.2.2 0 V2 := if_pos (by decide)
  exact s1.trans (v1.trans (s2.trans (w1.trans s3)))
theorem bw_0 {W : jW} {p : Nat} (P : pXs W E g) (hp : p < sNl E) (ep : g p = (p : Int)) : d_X6_byWedding_r120_c0d (p : Int) d W = d_X6_byWedding_r120_c0d_103 d (sMo E g (p : Int) 4 d) W := by
  have h6 := xs_6 P
  have key := @ch_f (Int × Int) (Int × jW) g (sNl E) (p : Int) h6 (fun m => W.1 83 m) (xs_n P (by omega)) (fun r m n a => d_X6_byWedding_r120_c0d_12 r d a.1 a.2 m n W) (wdf E d) (fun a => d_X6_byWedding_r120_c0d_103 d a.2 W) (fun r n a => if_pos rfl) (fun r m n a hm hz hn => by
    obtain ⟨l1, l2, l3⟩ := @xs_l W E g P m hm
    change W.1 80 m = sDy E m at l2
    refine (if_neg (show ¬ (m : Int) = -1 from by omega)).trans ((if_neg (show ¬ (600 : Int) ≤ (n : Int) from by omega)).trans ?_)
    rw [show ((m : Int)).toNat = m from by omega, l1, l2]
    show (if sCo E m = 4 then (if d < sDy E m then d_X6_byWedding_r120_c0d_12 r d a.1 a.2 (W.1 83 ((m : Int)).toNat) ((n : Int) + 1) W else if sDy E m < a.1 then d_X6_byWedding_r120_c0d_12 r d a.1 a.2 (W.1 83 ((m : Int)).toNat) ((n : Int) + 1) W else d_X6_byWedding_r120_c0d_12 r d (sDy E m) (m : Int) (W.1 83 ((m : Int)).toNat) ((n : Int) + 1) W) else d_X6_byWedding_r120_c0d_12 r d a.1 a.2 (W.1 83 ((m : Int)).toNat) ((n : Int) + 1) W) = d_X6_byWedding_r120_c0d_12 r d (wdf E d a m).1 (wdf E d a m).2 (W.1 83 m) ((n : Int) + 1) W
    rw [show ((m : Int)).toNat = m from by omega]
    unfold wdf
    by_cases q1 : sCo E m = 4
    · rw [if_pos q1]
      by_cases q2 : d < sDy E m
      · rw [if_pos q2, if_neg (fun y => by omega)]
      · rw [if_neg q2]
        by_cases q3 : sDy E m < a.1
        · rw [if_pos q3, if_neg (fun y => by omega)]
        · rw [if_neg q3, if_pos ⟨q1, by omega, by omega⟩]
    · rw [if_neg q1, if_neg (fun y => q1 y.1)]) (sNl E) 0 601 0 (-1, -1) rfl (by omega) (by omega)
  rw [xs_f P hp ep, show ((0 : Nat) : Int) = 0 from rfl, wd_f P.2.2.2.2.2.2.2 (sNl E) 0 (-1) (-1) (by omega) (Or.inl ⟨rfl, rfl⟩)] at key
  exact key
theorem bn_0 {W : jW} {m : Nat} (P : pXs W E g) (N : pNe W E) (h3 : m % 3 = 1) (hm : m < sNl E) : d_X6_byWedding_r120_c0d_103 d (m : Int) W = d_X6_belongs_r120_c1d (sNa E g (m - 1)) d W := by
  have h6 := xs_6 P
  have nl : W.1 33 3 = E.1 0 := P.2.2.1
  have b0 := P.2.1
  have g1 : W.1 82 ((m : Int) - 1).toNat = g (m - 1) := by rw [show ((m : Int) - 1).toNat = m - 1 from by omega]; exact P.2.2.2.2.1 (m - 1) (by omega)
  have q0 := N (m - 1) 0 (by omega) (by decide)
  have q1 := N (m - 1) 1 (by omega) (by decide)
  rw [show 2 * (m - 1) + 0 = ((((m : Int) - 1) * 2) + 0).toNat from by omega] at q0
  rw [show 2 * (m - 1) + 1 = ((((m : Int) - 1) * 2) + 1).toNat from by omega] at q1
  have n4 : ¬ W.1 33 3 ≤ ((m : Int) - 1) / 3 := by unfold sNl at hm; omega
  unfold d_X6_byWedding_r120_c0d_103 d_X6_byWedding_r120_c0d_138
  rw [if_neg (show ¬ (m : Int) = -1 from by omega), if_neg (show ¬ (((m : Int) - 1) * 2) + 0 < 0 from by omega)]
  by_cases a : 0 ≤ W.1 76 ((((m : Int) - 1) * 2) + 0).toNat
  · rw [if_pos a, if_neg (show ¬ (m : Int) - 1 < 0 from by omega), if_neg n4, g1]
    rw [show sNa E g (m - 1) = g (m - 1) from if_neg (by rw [tv_t (Or.inl (q0.mp a))]; decide)]
  · rw [if_neg a, if_neg (show ¬ (((m : Int) - 1) * 2) + 1 < 0 from by omega)]
    by_cases b : W.1 76 ((((m : Int) - 1) * 2) + 1).toNat < 0
    · rw [if_pos b]
      rw [show sNa E g (m - 1) = -1 from if_pos (tv_f (fun y => y.elim (fun y => a (q0.mpr y)) (fun y => by have := q1.mpr y; omega)))]
    · rw [if_neg b, if_neg (show ¬ (m : Int) - 1 < 0 from by omega), if_neg n4, g1]
      rw [show sNa E g (m - 1) = g (m - 1) from if_neg (by rw [tv_t (Or.inr (q1.mp (by omega)))]; decide)]
theorem bp_0 {W : jW} {m p : Nat} (P : pXs W E g) (N : pNe W E) (hb : d_X7_birthOf_r78d (p : Int) W = (m : Int)) (h3 : m % 3 = 0) (hm : m + 2 < sNl E) : d_X6_byParents_r120_c0d (p : Int) W = if (d_X6_belongs_r120_c1d (sNa E g (m + 1)) (sDy E m) W).1 = -1 then d_X6_belongs_r120_c1d (sNa E g (m + 2)) (sDy E m) (d_X6_belongs_r120_c1d (sNa E g (m + 1)) (sDy E m) W).2 else d_X6_belongs_r120_c1d (sNa E g (m + 1)) (sDy E m) W := by
  have h6 := xs_6 P
  have nl : W.1 33 3 = E.1 0 := P.2.2.1
  have b0 := P.2.1
  have l2 := (@xs_l W E g P m (by omega)).2.1
  change W.1 80 m = sDy E m at l2
  have g1 : W.1 82 ((m : Int) + 1).toNat = g (m + 1) := by rw [show ((m : Int) + 1).toNat = m + 1 from by omega]; exact P.2.2.2.2.1 (m + 1) (by omega)
  have g2 : W.1 82 ((m : Int) + 2).toNat = g (m + 2) := by rw [show ((m : Int) + 2).toNat = m + 2 from by omega]; exact P.2.2.2.2.1 (m + 2) (by omega)
  have p0 := N (m + 1) 0 (by omega) (by decide)
  have p1 := N (m + 1) 1 (by omega) (by decide)
  have q0 := N (m + 2) 0 (by omega) (by decide)
  have q1 := N (m + 2) 1 (by omega) (by decide)
  rw [show 2 * (m + 1) + 0 = ((((m : Int) + 1) * 2) + 0).toNat from by omega] at p0
  rw [show 2 * (m + 1) + 1 = ((((m : Int) + 1) * 2) + 1).toNat from by omega] at p1
  rw [show 2 * (m + 2) + 0 = ((((m : Int) + 2) * 2) + 0).toNat from by omega] at q0
  rw [show 2 * (m + 2) + 1 = ((((m : Int) + 2) * 2) + 1).toNat from by omega] at q1
  have n1 : ¬ W.1 33 3 ≤ ((m : Int) + 1) / 3 := by unfold sNl at hm; omega
  have n2 : ¬ W.1 33 3 ≤ ((m : Int) + 2) / 3 := by unfold sNl at hm; omega
  have o1 : ¬ 600 ≤ (m : Int) + 1 := by omega
  have o2 : ¬ 600 ≤ (m : Int) + 2 := by omega
  have r0 : ¬ 1200 ≤ (((m : Int) + 1) * 2) + 0 := by omega
  have r1 : ¬ 1200 ≤ (((m : Int) + 1) * 2) + 1 := by omega
  have s0 : ¬ 1200 ≤ (((m : Int) + 2) * 2) + 0 := by omega
  have s1 : ¬ 1200 ≤ (((m : Int) + 2) * 2) + 1 := by omega
  have second : ∀ Z : Int × jW, (if 0 ≤ W.1 76 ((((m : Int) + 2) * 2) + 0).toNat then d_X6_belongs_r120_c1d (g (m + 2)) (sDy E m) Z.2 else if W.1 76 ((((m : Int) + 2) * 2) + 1).toNat < 0 then d_X6_belongs_r120_c1d (-1) (sDy E m) Z.2 else d_X6_belongs_r120_c1d (g (m + 2)) (sDy E m) Z.2) = d_X6_belongs_r120_c1d (sNa E g (m + 2)) (sDy E m) Z.2 := fun Z => by
    by_cases a : 0 ≤ W.1 76 ((((m : Int) + 2) * 2) + 0).toNat
    · rw [if_pos a, show sNa E g (m + 2) = g (m + 2) from if_neg (by rw [tv_t (Or.inl (q0.mp a))]; decide)]
    · rw [if_neg a]
      by_cases b : W.1 76 ((((m : Int) + 2) * 2) + 1).toNat < 0
      · rw [if_pos b, show sNa E g (m + 2) = -1 from if_pos (tv_f (fun y => y.elim (fun y => a (q0.mpr y)) (fun y => by have := q1.mpr y; omega)))]
      · rw [if_neg b, show sNa E g (m + 2) = g (m + 2) from if_neg (by rw [tv_t (Or.inr (q1.mp (by omega)))]; decide)]
  unfold d_X6_byParents_r120_c0d d_X6_byParents_r120_c0d_84
  rw [hb, if_neg (show ¬ (m : Int) = -1 from by omega), show ((m : Int)).toNat = m from by omega, l2, g1, g2]
  simp only [if_neg r0, if_neg r1, if_neg s0, if_neg s1, if_neg o1, if_neg o2, if_neg n1, if_neg n2]
  by_cases a : 0 ≤ W.1 76 ((((m : Int) + 1) * 2) + 0).toNat
  · rw [if_pos a, show sNa E g (m + 1) = g (m + 1) from if_neg (by rw [tv_t (Or.inl (p0.mp a))]; decide)]
    by_cases z : (d_X6_belongs_r120_c1d (g (m + 1)) (sDy E m) W).1 = -1
    · rw [if_pos z, if_pos z]; exact second _
    · rw [if_neg z, if_neg z]
  · rw [if_neg a]
    by_cases b : W.1 76 ((((m : Int) + 1) * 2) + 1).toNat < 0
    · rw [if_pos b, show sNa E g (m + 1) = -1 from if_pos (tv_f (fun y => y.elim (fun y => a (p0.mpr y)) (fun y => by have := p1.mpr y; omega)))]
      by_cases z : (d_X6_belongs_r120_c1d (-1) (sDy E m) W).1 = -1
      · rw [if_pos z, if_pos z]; exact second _
      · rw [if_neg z, if_neg z]
    · rw [if_neg b, show sNa E g (m + 1) = g (m + 1) from if_neg (by rw [tv_t (Or.inr (p1.mp (by omega)))]; decide)]
      by_cases z : (d_X6_belongs_r120_c1d (g (m + 1)) (sDy E m) W).1 = -1
      · rw [if_pos z, if_pos z]; exact second _
      · rw [if_neg z, if_neg z]
theorem by_0 {re : Int → Int → Int} (H : pBel d_X6_belongs_r120_c1d E kn re 1) (I : pIq E (sGs E kn).1) {W : jW} {p : Nat} {gr : Int} (hp : p < sNl E) (ep : (sGs E kn).1 p = (p : Int)) (hdd : 0 ≤ d ∧ d ≤ 146399) (P : pBx W E kn) (hg : 0 ≤ gr ∧ gr ≤ 5) : (d_X6_parishBy_r120_c0d gr (p : Int) d W).1 = sVal E (sGs E kn).1 kn (sBv E (sGs E kn).1 kn re) (p : Int) d gr ∧ pBx (d_X6_parishBy_r120_c0d gr (p : Int) d W).2 E kn ∧ pQy W (d_X6_parishBy_r120_c0d gr (p : Int) d W).2 ∧ ∀ i : Nat, i < 6 * 1 → (d_X6_parishBy_r120_c0d gr (p : Int) d W).2.1 121 i = W.1 121 i ∧ (d_X6_parishBy_r120_c0d gr (p : Int) d W).2.1 122 i = W.1 122 i := by
  have Px := P.1.1
  have T5 := P.1.2.1
  have Ir := Px.2.2.2.2.2.2.2
  have G := Px.1
  unfold d_X6_parishBy_r120_c0d sVal
  rcases (show gr = 0 ∨ gr = 1 ∨ gr = 2 ∨ gr = 3 ∨ gr = 4 ∨ gr = 5 from by omega) with rfl | rfl | rfl | rfl | rfl | rfl
  · simp only [show ((0 : Int) = 1) = False from by decide, show ((0 : Int) = 2) = False from by decide, show ((0 : Int) = 3) = False from by decide, show ((0 : Int) = 4) = False from by decide, show ((0 : Int) = 5) = False from by decide, if_false]
    exact ⟨xbb Px T5 I.1 P.2.2 hp ep, P, pQy_r, fun _ _ => ⟨trivial, trivial⟩⟩
  · simp only [show ((1 : Int) = 4) = False from by decide, show ((1 : Int) = 5) = False from by decide, if_false, if_true]
    exact ⟨xbl (gr := 1) (d := d) (co := 2) Px T5 I.1 P.2.2 (by decide) (by decide), P, pQy_r, fun _ _ => ⟨trivial, trivial⟩⟩
  · simp only [show ((2 : Int) = 1) = False from by decide, show ((2 : Int) = 4) = False from by decide, show ((2 : Int) = 5) = False from by decide, if_false, if_true]
    exact ⟨xbl (gr := 2) (d := d) (co := 1) Px T5 I.1 P.2.2 (by decide) (by decide), P, pQy_r, fun _ _ => ⟨trivial, trivial⟩⟩
  · simp only [show ((3 : Int) = 1) = False from by decide, show ((3 : Int) = 2) = False from by decide, show ((3 : Int) = 4) = False from by decide, show ((3 : Int) = 5) = False from by decide, if_false, if_true]
    exact ⟨xbl (gr := 3) (d := d) (co := 2) Px T5 I.1 P.2.2 (by decide) (by decide), P, pQy_r, fun _ _ => ⟨trivial, trivial⟩⟩
  · simp only [show ((4 : Int) = 1) = False from by decide, show ((4 : Int) = 2) = False from by decide, show ((4 : Int) = 3) = False from by decide, if_false, if_true]
    rw [bw_0 Px hp ep]
    by_cases z : sMo E (sGs E kn).1 (p : Int) 4 d = -1
    · rw [if_pos z, z]
      exact ⟨rfl, P, pQy_r, fun _ _ => ⟨rfl, rfl⟩⟩
    · obtain ⟨m, m1, m2, m3⟩ := mo_4 Ir z
      rw [if_neg z, m1, bn_0 Px P.2.1 m2 m3, show ((m : Int)).toNat = m from by omega]
      have h := H (sNa E (sGs E kn).1 (m - 1)) d W (na_s G (by omega)) (fun y => absurd y (by decide)) hdd P
      exact ⟨h.1, h.2.1, h.2.2.1, h.2.2.2.1⟩
  · simp only [show ((5 : Int) = 1) = False from by decide, show ((5 : Int) = 2) = False from by decide, show ((5 : Int) = 3) = False from by decide, show ((5 : Int) = 4) = False from by decide, if_false, if_true]
    have bi := xbi Px I.2.2.2 hp ep
    by_cases z : sMo E (sGs E kn).1 (p : Int) 0 146399 = -1
    · rw [if_pos z]
      have e : d_X6_byParents_r120_c0d (p : Int) W = (-1, W) := by
        unfold d_X6_byParents_r120_c0d
        rw [bi, if_pos z]
        rfl
      rw [e]
      exact ⟨rfl, P, pQy_r, fun _ _ => ⟨rfl, rfl⟩⟩
    · obtain ⟨m, m1, m2, m3, m4, m5⟩ := mo_0 Ir z
      rw [if_neg z, bp_0 Px P.2.1 (bi.trans m1) m2 m3, m1, show ((m : Int)).toNat = m from by omega]
      have h := H (sNa E (sGs E kn).1 (m + 1)) (sDy E m) W (na_s G (by omega)) (fun y => absurd y (by decide)) ⟨m4, m5⟩ P
      by_cases z2 : (d_X6_belongs_r120_c1d (sNa E (sGs E kn).1 (m + 1)) (sDy E m) W).1 = -1
      · rw [if_pos z2, if_pos (h.1.symm.trans z2)]
        have h2 := H (sNa E (sGs E kn).1 (m + 2)) (sDy E m) _ (na_s G (by omega)) (fun y => absurd y (by decide)) ⟨m4, m5⟩ h.2.1
        exact ⟨h2.1, h2.2.1, pQy_t h.2.2.1 h2.2.2.1, fun i hi => ⟨(h2.2.2.2.1 i hi).1.trans (h.2.2.2.1 i hi).1, (h2.2.2.2.1 i hi).2.trans (h.2.2.2.1 i hi).2⟩⟩
      · rw [if_neg z2, if_neg (fun y => z2 (h.1.trans y))]
        exact ⟨h.1, h.2.1, h.2.2.1, h.2.2.2.1⟩
theorem b238_0 {re : Int → Int → Int} (H : pBel d_X6_belongs_r120_c1d E kn re 1) (I : pIq E (sGs E kn).1) {p n : Nat} {bs : Int} {gr cl : Nat → Int} (hp : p < sNl E) (ep : (sGs E kn).1 p = (p : Int)) (hdd : 0 ≤ d ∧ d ≤ 146399) (n6 : n ≤ 6) (hg : ∀ i : Nat, i < n → 0 ≤ gr i ∧ gr i ≤ 5) : ∀ (c i f : Nat) (W : jW), i + c = n → c < f → pBx W E kn → (∀ j : Nat, j < n → W.1 121 (6 * 0 + j) = gr j ∧ W.1 122 (6 * 0 + j) = cl j) → ∃ V : jW, d_X6_belongs_r120_c0d_238 f (p : Int) d (n : Int) bs (i : Int) W = ((sFs (sVal E (sGs E kn).1 kn (sBv E (sGs E kn).1 kn re) (p : Int) d) gr cl c i).1, V) ∧ pBx V E kn ∧ pQy W V ∧ (∀ i : Nat, i < 6 * 0 → V.1 121 i = W.1 121 i ∧ V.1 122 i = W.1 122 i) ∧ V.1 120 6 = (sFs (sVal E (sGs E kn).1 kn (sBv E (sGs E kn).1 kn re) (p : Int) d) gr cl c i).2 ∧ V.1 120 7 = if (sFs (sVal E (sGs E kn).1 kn (sBv E (sGs E kn).1 kn re) (p : Int) d) gr cl c i).1 = -1 then bs else 0 := by
  have up : ∀ (W : jW) (a b : Int), pBx W E kn → pBx (vu (vu W 120 6 a) 120 7 b) E kn := fun W a b P => pBx_Q P (pVk_u (pVk_u P.1 (by decide)) (by decide)) (pQy_u (pQy_u pQy_r (by decide)) (by decide)) ((vu_n (by decide)).trans (vu_n (by decide)))
  have uq : ∀ (W : jW) (a b : Int), pQy W (vu (vu W 120 6 a) 120 7 b) := fun W a b => pQy_u (pQy_u pQy_r (by decide)) (by decide)
  intro c
  induction c with
  | zero =>
    intro i f W e hf P h
    obtain ⟨f, rfl⟩ : ∃ q, f = q + 1 := ⟨f - 1, by omega⟩
    refine ⟨vu (vu W 120 6 (-1)) 120 7 bs, if_pos (by omega), up W _ _ P, uq W _ _, fun i hi => ⟨(vu_n (by omega)).trans (vu_n (by omega)), (vu_n (by omega)).trans (vu_n (by omega))⟩, (vu_n (by decide)).trans (vu_e rfl), ?_⟩
    rw [if_pos (show (sFs (sVal E (sGs E kn).1 kn (sBv E (sGs E kn).1 kn re) (p : Int) d) gr cl 0 i).1 = -1 from rfl)]
    exact vu_e rfl
  | succ c ih =>
    intro i f W e hf P h
    obtain ⟨f, rfl⟩ : ∃ q, f = q + 1 := ⟨f - 1, by omega⟩
    have hi := h i (by omega)
    have q := by_0 H I hp ep hdd P (hg i (by omega))
    have st : d_X6_belongs_r120_c0d_238 (f + 1) (p : Int) d (n : Int) bs (i : Int) W = (if (d_X6_parishBy_r120_c0d (gr i) (p : Int) d W).1 = -1 then d_X6_belongs_r120_c0d_238 f (p : Int) d (n : Int) bs ((i : Int) + 1) (d_X6_parishBy_r120_c0d (gr i) (p : Int) d W).2 else ((d_X6_parishBy_r120_c0d (gr i) (p : Int) d W).1, vu (vu (d_X6_parishBy_r120_c0d (gr i) (p : Int) d W).2 120 6 ((d_X6_parishBy_r120_c0d (gr i) (p : Int) d W).2.1 122 (0 + (i : Int)).toNat)) 120 7 0)) := by
      refine (if_neg (by omega)).trans ?_
      rw [show W.1 121 (0 + (i : Int)).toNat = gr i from by rw [show (0 + (i : Int)).toNat = 6 * 0 + i from by omega]; exact hi.1]
    rw [st, show (0 + (i : Int)).toNat = 6 * 0 + i from by omega]
    generalize d_X6_parishBy_r120_c0d (gr i) (p : Int) d W = Z at *
    have z2 : Z.2.1 122 (6 * 0 + i) = cl i := (q.2.2.2 _ (by omega)).2.trans hi.2
    by_cases z : Z.1 = -1
    · have sf : sFs (sVal E (sGs E kn).1 kn (sBv E (sGs E kn).1 kn re) (p : Int) d) gr cl (c + 1) i = sFs (sVal E (sGs E kn).1 kn (sBv E (sGs E kn).1 kn re) (p : Int) d) gr cl c (i + 1) := if_pos (q.1.symm.trans z)
      rw [if_pos z, sf]
      obtain ⟨V, v1, v2, v3, v4, v5⟩ := ih (i + 1) f Z.2 (by omega) (by omega) q.2.1 (fun j hj => ⟨(q.2.2.2 _ (by omega)).1.trans (h j hj).1, (q.2.2.2 _ (by omega)).2.trans (h j hj).2⟩)
      rw [show ((i + 1 : Nat) : Int) = (i : Int) + 1 from by omega] at v1
      exact ⟨V, v1, v2, pQy_t q.2.2.1 v3, fun j hj => ⟨(v4 j hj).1.trans (q.2.2.2 j (by omega)).1, (v4 j hj).2.trans (q.2.2.2 j (by omega)).2⟩, v5⟩
    · have sf : sFs (sVal E (sGs E kn).1 kn (sBv E (sGs E kn).1 kn re) (p : Int) d) gr cl (c + 1) i = (sVal E (sGs E kn).1 kn (sBv E (sGs E kn).1 kn re) (p : Int) d (gr i), cl i) := if_neg (fun y => z (q.1.trans y))
      rw [if_neg z, sf, z2, q.1]
      refine ⟨_, rfl, up _ _ _ q.2.1, pQy_t q.2.2.1 (uq _ _ _), fun j hj => ⟨((vu_n (by omega)).trans (vu_n (by omega))).trans (q.2.2.2 j (by omega)).1, ((vu_n (by omega)).trans (vu_n (by omega))).trans (q.2.2.2 j (by omega)).2⟩, (vu_n (by decide)).trans (vu_e rfl), ?_⟩
      rw [if_neg (fun y => z (q.1.trans y))]
      exact vu_e rfl
theorem bz_0 {re : Int → Int → Int} (H : pBel d_X6_belongs_r120_c1d E kn re 1) (I : pIq E (sGs E kn).1) (Ik : pIk E.1) (Il : pIl E.1) (I1 : pI1 E.1) (O : ∀ d : Int, 0 ≤ d ∧ d ≤ 146399 → ∀ p : Nat, p < sNl E → (sGs E kn).1 p = (p : Int) → qOk fun w => sQu E (sGs E kn).1 d kn w (p : Int)) : pBel d_X6_belongs_r120_c0d E kn (sBv E (sGs E kn).1 kn re) 0 := by
  intro s d X hs hJ hdd P
  have u0 : pVk (vu (vu X 120 6 (-1)) 120 7 0) E kn := pVk_u (pVk_u P.1 (by decide)) (by decide)
  have uq : pQy X (vu (vu X 120 6 (-1)) 120 7 0) := pQy_u (pQy_u pQy_r (by decide)) (by decide)
  have u5 : (vu (vu X 120 6 (-1)) 120 7 0).1 120 5 = X.1 120 5 := (vu_n (by decide)).trans (vu_n (by decide))
  rcases hs with rfl | ⟨p, hp, rfl, ep⟩
  · exact absurd rfl (hJ rfl)
  · have e : d_X6_belongs_r120_c0d (p : Int) d X = d_X6_belongs_r120_c0d_54 3 (p : Int) d 0 0 0 (d_X0_readHouses_r98d d kn (d_X0_readLaws_r98d d kn (vu (vu X 120 6 (-1)) 120 7 0))) := by
      unfold d_X6_belongs_r120_c0d
      rw [P.2.2]
    rw [e]
    obtain ⟨l1, l2, l3, l4, l5, l6, l7⟩ := xtl (d := d) u0 Il Ik
    generalize hW1 : d_X0_readLaws_r98d d kn (vu (vu X 120 6 (-1)) 120 7 0) = W1 at *
    obtain ⟨h1, h2, h3, h4⟩ := xth (d := d) l2 I.2.1 l1
    generalize hW2 : d_X0_readHouses_r98d d kn W1 = W2 at *
    have y2 : pQy X W2 := pQy_t uq (pQy_t l5 h3)
    have s121 : W2.1 121 = X.1 121 := ((h4 121 (by decide)).1.trans (l6 121 (by decide))).trans ((vu_c (by decide)).trans (vu_c (by decide)))
    have s122 : W2.1 122 = X.1 122 := ((h4 122 (by decide)).1.trans (l6 122 (by decide))).trans ((vu_c (by decide)).trans (vu_c (by decide)))
    have s120 : W2.1 120 = (vu (vu X 120 6 (-1)) 120 7 0).1 120 := (h4 120 (by decide)).1.trans (l6 120 (by decide))
    obtain ⟨V, v1, v2⟩ := b54_0 h1 I hdd hp ep Ik Il I1 (O d hdd p hp ep) pZ_r rfl (fun _ _ => ⟨rfl, rfl⟩)
    rw [v1]
    have PV : pBx V E kn := pBx_Q P (pVk_Z h2 v2.1) (pQy_t y2 (zQy v2.1)) (by rw [v2.2.1, s120]; exact u5)
    obtain ⟨Z, z1, z2, z3, z4, z5, z6⟩ := b238_0 H I hp ep hdd (bl_6 I1 720) (bl_c I1 720).2 (sBl E (sGs E kn).1 d kn (p : Int) 720).1 0 7 V (by omega) (by have := bl_6 (E := E) (g := (sGs E kn).1) (d := d) (kn := kn) (s := (p : Int)) I1 720; omega) PV v2.2.2.2 (bs := (sBl E (sGs E kn).1 d kn (p : Int) 720).2.2.2)
    rw [show ((0 : Nat) : Int) = 0 from rfl] at z1
    rw [z1]
    refine ⟨(if_neg (show ¬ (p : Int) = -1 from by omega)).symm, z2, pQy_t (pQy_t y2 (zQy v2.1)) z3, fun i hi => ?_, fun _ => ⟨z5, z6⟩⟩
    exact ⟨(z4 i hi).1.trans ((v2.2.2.1 i hi).1.trans (by rw [s121])), (z4 i hi).2.trans ((v2.2.2.1 i hi).2.trans (by rw [s122]))⟩
end
