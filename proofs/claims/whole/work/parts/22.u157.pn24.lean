/-! pure: back of the class as a function; frames of the calls with tails; their steps of the law -/
theorem cdV_S {A : Nat} {X : jW} : bkS A X (cdV A X) := by
  have c32 : ∀ j : Nat, (cdV A X).1 32 j = if j = 18 then X.1 A 18 else X.1 32 j := fun j => rfl
  refine ⟨⟨fun f hf => ⟨?_, fun j hj => ?_⟩, fun j hj => if_pos ⟨rfl, hj⟩, fun j hj => if_pos ⟨rfl, hj⟩, (c32 18).trans (if_pos rfl)⟩, fun j hj => (c32 j).trans (if_neg hj), fun c hc => funext fun j => (if_neg (by omega)).trans (if_neg (by omega)), fun c hc => funext fun j => if_neg (fun z => hc z.1), fun j hj => if_neg (by omega), fun c hc => funext fun j => if_neg (fun z => hc z.1), fun j hj => if_neg (by omega), rfl⟩
  · refine (if_neg (show ¬ 32 + 1 + 2 * f = 32 from by omega)).trans ((if_pos (show 33 ≤ 32 + 1 + 2 * f ∧ 32 + 1 + 2 * f ≤ 64 from by omega)).trans ((if_pos (show (32 + 1 + 2 * f) % 2 = 1 from by omega)).trans ((if_pos (c := (3 : Nat) = 3) rfl).trans ?_)))
    rw [show A + (32 + 1 + 2 * f - 32) = A + 1 + 2 * f from by omega]
  · have e1 : (32 + 2 + 2 * f - 34) / 2 = f := by omega
    have e2 : A + (32 + 2 + 2 * f - 33) = A + 1 + 2 * f := by omega
    have e3 : A + (32 + 2 + 2 * f - 32) = A + 2 + 2 * f := by omega
    refine (if_neg (show ¬ 32 + 2 + 2 * f = 32 from by omega)).trans ((if_pos (show 33 ≤ 32 + 2 + 2 * f ∧ 32 + 2 + 2 * f ≤ 64 from by omega)).trans ((if_neg (show ¬ (32 + 2 + 2 * f) % 2 = 1 from by omega)).trans ?_))
    rw [e1, e2, e3]
    exact if_pos (by omega)
theorem lrL_F : ∀ (c l : Nat) (W : jW), pF [(75, 0), (76, 0), (77, 0), (79, 0), (80, 0), (81, 0)] W (lrL c l W) := by
  intro c
  induction c with
  | zero => intro l W; exact pF_r
  | succ c ih =>
    intro l W
    exact pF_t (pF_t (pF_m (by decide) (fr_d_X5_learn_r70d (l : Int) W)) (pF_m (by decide) (fr_d_X7_learn_r78d (l : Int) _))) (ih (l + 1) _)
theorem bk43_e : ∀ (c l r : Nat) (W : jW), W.1 33 3 = ((l + c : Nat) : Int) → c < r → d_X11_back_r31d_43 r (l : Int) W = (0, vu (vu (vu (vu (vu (lrL c l W) 68 1 0) 87 3 0) 87 13 0) 31 12 0) 32 19 (j_iadd (W.1 32 19) 1)) := by
  intro c
  induction c with
  | zero =>
    intro l r W hl hr
    obtain ⟨r, rfl⟩ : ∃ q, r = q + 1 := ⟨r - 1, by omega⟩
    rw [d_X11_back_r31d_43.eq_2, if_pos (by omega)]
    rfl
  | succ c ih =>
    intro l r W hl hr
    obtain ⟨r, rfl⟩ : ∃ q, r = q + 1 := ⟨r - 1, by omega⟩
    have F := pF_t (pF_m (m := [(75, 0), (76, 0), (77, 0), (79, 0), (80, 0), (81, 0)]) (by decide) (fr_d_X5_learn_r70d (l : Int) W)) (pF_m (by decide) (fr_d_X7_learn_r78d (l : Int) _))
    rw [d_X11_back_r31d_43.eq_2, if_neg (by omega), show (l : Int) + 1 = ((l + 1 : Nat) : Int) from by omega, ih (l + 1) r _ (by rw [F.1 33 3 rfl]; omega) (by omega), F.1 32 19 rfl]
    rfl
theorem bk_X {k : Int} {X : jW} (hA : 0 ≤ k ∧ k ≤ 3 → ∀ A : Nat, X.2.2.1 67 k.toNat = some A → 0 ≤ X.1 (A + 1) 3 ∧ X.1 (A + 1) 3 ≤ 200) : bkX k X (d_X11_back_r31d k X) ∧ eCl X (d_X11_back_r31d k X).2 := by
  unfold bkX d_X11_back_r31d
  by_cases c : 0 ≤ k ∧ k ≤ 3
  · rw [if_pos c]
    cases q : X.2.2.1 67 k.toNat with
    | none =>
      rw [if_pos (show (none : Option Nat).isNone = true from rfl)]
      exact ⟨Or.inr ⟨c, Or.inl ⟨rfl, rfl⟩⟩, fun b h1 h2 => ⟨vu_c (by omega), rfl⟩⟩
    | some A =>
      rw [if_neg (show ¬ (some A : Option Nat).isNone = true from Bool.false_ne_true)]
      obtain ⟨a1, a2⟩ := hA c A q
      have S := cdV_S (A := A) (X := X)
      show (_ ∨ (_ ∧ (_ ∨ ∃ (A1 : Nat) (Z : jW), some A = some A1 ∧ bkS A1 X Z ∧ d_X11_back_r31d_43 201 ((0 : Nat) : Int) (cdV A X) = _))) ∧ eCl X (d_X11_back_r31d_43 201 ((0 : Nat) : Int) (cdV A X)).2
      generalize cdV A X = Z at *
      have e3 : Z.1 33 3 = X.1 (A + 1) 3 := by
        have := (S.1.1 0 (by decide)).1
        exact this
      have e19 : Z.1 32 19 = X.1 32 19 := S.2.1 19 (by decide)
      rw [bk43_e (Z.1 33 3).toNat 0 201 Z (by omega) (by omega), e19]
      refine ⟨Or.inr ⟨c, Or.inr ⟨A, Z, rfl, S, rfl⟩⟩, fun b h1 h2 => ?_⟩
      have F := lrL_F (Z.1 33 3).toNat 0 Z
      have n : ∀ j : Nat, pc [(75, 0), (76, 0), (77, 0), (79, 0), (80, 0), (81, 0)] b j = false := fun j => lxl_n (by decide) h1
      refine ⟨(vu_c (by omega)).trans ((vu_c (by omega)).trans ((vu_c (by omega)).trans ((vu_c (by omega)).trans ((vu_c (by omega)).trans ?_)))), ?_⟩
      · exact (funext fun j => F.1 b j (n j)).trans (S.2.2.1 b (by omega))
      · exact (funext fun j => F.2.1 b j (n j)).trans (S.2.2.2.1 b (by omega))
  · rw [if_neg c]
    exact ⟨Or.inl ⟨c, rfl⟩, fun b h1 h2 => ⟨vu_c (by omega), rfl⟩⟩
/-! what the reference leaves of the class's cells -/
theorem eRf_F {l : List (Nat × Nat)} {X Y : jW} (F : pF l X Y) (a : lml l = true) : eRf X Y := ⟨fun c h => ⟨funext fun k => F.1 c k (lml_n a h), funext fun k => F.2.1 c k (lml_n a h), funext fun k => F.2.2.1 c k (lml_n a h)⟩, F.2.2.2⟩
theorem sp_R {a : Int} {M : jW} {m : Int × jW} (h : spO a M m) : eRf M m.2 := by
  have F := sr_F M
  have F2 := eRf_F F rfl
  rcases h with ⟨_, rfl⟩ | ⟨_, ⟨_, rfl⟩ | ⟨_, _, h⟩⟩
  · exact ⟨fun c hc => ⟨(vu_c (by omega)).trans ((vu_c (by omega)).trans (vu_c (by omega))), rfl, rfl⟩, rfl⟩
  · exact ⟨fun c hc => ⟨(vu_c (by omega)).trans ((vu_c (by omega)).trans (F2.1 c hc).1), (F2.1 c hc).2.1, (F2.1 c hc).2.2⟩, F2.2⟩
  · have e := h.2.2.1
    exact ⟨fun c hc => ⟨(h.2.1 c (by omega) (by omega) (by omega) (by omega)).trans (F2.1 c hc).1, by rw [e]; exact (F2.1 c hc).2.1, by rw [e]; exact (F2.1 c hc).2.2⟩, by rw [e]; exact F2.2⟩
theorem tx_R {a1 a2 a3 : Int} {M : jW} {m : Int × jW} (h : txM a1 a2 a3 M m) : eRf M m.2 := by
  have F := mtr_F M
  have F2 := eRf_F F rfl
  rcases h with ⟨_, rfl⟩ | ⟨_, ⟨_, rfl⟩ | ⟨_, ⟨_, rfl⟩ | ⟨_, _, h⟩⟩⟩
  · exact ⟨fun c hc => ⟨(vu_c (by omega)).trans ((vu_c (by omega)).trans (vu_c (by omega))), rfl, rfl⟩, rfl⟩
  · exact ⟨fun c hc => ⟨(vu_c (by omega)).trans ((vu_c (by omega)).trans (vu_c (by omega))), rfl, rfl⟩, rfl⟩
  · exact ⟨fun c hc => ⟨(vu_c (by omega)).trans ((vu_c (by omega)).trans (F2.1 c hc).1), (F2.1 c hc).2.1, (F2.1 c hc).2.2⟩, F2.2⟩
  · have e := h.2.2.1
    exact ⟨fun c hc => ⟨(h.2.1 c (by omega) (by omega)).trans (F2.1 c hc).1, by rw [e]; exact (F2.1 c hc).2.1, by rw [e]; exact (F2.1 c hc).2.2⟩, by rw [e]; exact F2.2⟩
theorem im_R {k : Int} {M : jW} : eRf M (d_X12_image_r125d k M).2 := by
  unfold d_X12_image_r125d
  by_cases c : 0 ≤ k ∧ k ≤ 3
  · rw [if_pos c]
    show eRf M (d_X12_image_r125d_56 1601 k ((0 : Nat) : Int) (imC k.toNat (vu M 125 0 0))).2
    obtain ⟨V, v1, v2, v3, v4, v5, v6⟩ := im56_e (k := k) c.1 1600 0 1601 (imC k.toNat (vu M 125 0 0)) (by omega) (by omega)
    rw [v1, told_p (by decide)]
    refine ⟨fun b hb => ⟨(vu_c (by omega)).trans ((vu_c (by omega)).trans ?_), (v3 b (by omega)).trans rfl, by show V.2.2.1 b = M.2.2.1 b; rw [v4]; rfl⟩, by show V.2.2.2 = M.2.2.2; rw [v4]; rfl⟩
    rw [v2]
    exact funext fun j => (if_neg (by omega)).trans (vu_n (by omega))
  · rw [if_neg c, told_n (by decide)]
    exact ⟨fun b hb => ⟨(vu_c (by omega)).trans (vu_c (by omega)), rfl, rfl⟩, rfl⟩
theorem bk_R {k : Int} {M : jW} : eRf M (d_X12_back_r125d k M).2 := by
  unfold d_X12_back_r125d
  by_cases c : 0 ≤ k ∧ k ≤ 3
  · rw [if_pos c]
    by_cases z : M.1 128 k.toNat = 0
    · rw [if_pos z, told_n (by decide)]
      exact ⟨fun b hb => ⟨(vu_c (by omega)).trans (vu_c (by omega)), rfl, rfl⟩, rfl⟩
    rw [if_neg z]
    show eRf M (d_X12_back_r125d_72 1601 k ((0 : Nat) : Int) (bkC k.toNat (vu M 125 0 0))).2
    obtain ⟨V, v1, v2, v3, v4, v5, v6⟩ := bk72_e (k := k) c.1 1600 0 1601 (bkC k.toNat (vu M 125 0 0)) (by omega) (by omega)
    rw [v1, told_p (by decide)]
    refine ⟨fun b hb => ⟨(vu_c (by omega)).trans ((vu_c (by omega)).trans ((vu_c (by omega)).trans ?_)), (v3 b (by omega)).trans rfl, by show V.2.2.1 b = M.2.2.1 b; rw [v4]; rfl⟩, by show V.2.2.2 = M.2.2.2; rw [v4]; rfl⟩
    rw [v2]
    exact funext fun j => (if_neg (by omega)).trans (vu_n (by omega))
  · rw [if_neg c, told_n (by decide)]
    exact ⟨fun b hb => ⟨(vu_c (by omega)).trans (vu_c (by omega)), rfl, rfl⟩, rfl⟩
section
variable {v : Int} {W X M : jW}
theorem pR_tp (H : pR v X M) : (pTp X M ∧ (pS4 X ∧ pWs X)) ∧ (0 ≤ M.1 126 4 ∧ M.1 126 4 ≤ 30) ∧ 0 ≤ M.1 126 16 := by
  obtain ⟨E, t, w, wm, S, H⟩ := H
  have bb := rb_b H.1
  have e := cm_126 H.1.2.1
  rw [e]
  exact ⟨⟨H.1.2.2.2.2.2.2.2.2.2.2.1.1, H.1.2.2.2.2.1⟩, bb.2.2.2.2.1, by omega⟩
theorem h_spell (a : Int) (H : pR v W W) (hv : v < 2147483646) : (d_X11_spell_r31d a W).1 = (d_X12_spell_r125d a (d_X11_spell_r31d a W).2).1 ∧ pR (v + 1) (d_X12_spell_r125d a (d_X11_spell_r31d a W).2).2 (d_X12_spell_r125d a (d_X11_spell_r31d a W).2).2 := by
  have P := pR_cl H (fr_d_X11_spell_r31d a W) rfl
  have o := sp_O (a := a) (pR_tp P).1.1
  exact g_spell a H hv o (sp_R o)
theorem h_text (a1 a2 a3 : Int) {x : Int × jW} (H : pR v W W) (hv : v < 2147483646) (hx : txX a1 a2 a3 W x) (e1 : eCl W x.2) : x.1 = (d_X12_text_r125d a1 a2 a3 x.2).1 ∧ pR (v + 1) (d_X12_text_r125d a1 a2 a3 x.2).2 (d_X12_text_r125d a1 a2 a3 x.2).2 := by
  have P := pR_tp (pR_m H e1)
  have o := tx_M (a1 := a1) (a2 := a2) (a3 := a3) P.1.1 P.1.2 P.2.1 P.2.2
  exact g_text a1 a2 a3 H hv hx e1 o (tx_R o)
theorem h_image (k : Int) {x : Int × jW} (H : pR v W W) (hv : v < 2147483646) (hx : imX k W x) (e1 : eCl W x.2) : x.1 = (d_X12_image_r125d k x.2).1 ∧ pR (v + 1) (d_X12_image_r125d k x.2).2 (d_X12_image_r125d k x.2).2 := g_image k H hv hx e1 im_M im_R
theorem h_back (k : Int) (H : pR v W W) (hv : v < 2147483646) (hA : 0 ≤ k ∧ k ≤ 3 → ∀ A : Nat, W.2.2.1 67 k.toNat = some A → 0 ≤ W.1 (A + 1) 3 ∧ W.1 (A + 1) 3 ≤ 200) : (d_X11_back_r31d k W).1 = (d_X12_back_r125d k (d_X11_back_r31d k W).2).1 ∧ pR (v + 1) (d_X12_back_r125d k (d_X11_back_r31d k W).2).2 (d_X12_back_r125d k (d_X11_back_r31d k W).2).2 := g_back k H hv (bk_X hA).1 (bk_X hA).2 bk_M bk_R
end
