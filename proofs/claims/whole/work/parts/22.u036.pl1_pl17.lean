section jG33
/-! pure: LAWS in force, the reference's -/
theorem sU_e {s : Nat → Int} {k i : Nat} {x : Int} (h : i = k) : sU s k x i = x := if_pos h
theorem sU_n {s : Nat → Int} {k i : Nat} {x : Int} (h : i ≠ k) : sU s k x i = s i := if_neg h
theorem lC_c {r : Nat → Int} {t : Int} (ht : 0 ≤ t ∧ t < 30) (h12 : r ((18820 + (924 * t)) + 3).toNat ≤ 12) : ∀ (n : Nat) (c : Int) (s s' : Nat → Int), 0 ≤ c → (∀ i, i < 360 → s i = s' i) → ∀ i, i < 360 → lC r t n c s i = lC r t n c s' i := by
  intro n
  induction n with
  | zero => intro c s s' _ h; exact h
  | succ n ih =>
    intro c s s' hc h i hi
    show (if r ((18820 + (924 * t)) + 3).toNat ≤ c then s else lC r t n (c + 1) (if r (((18820 + (924 * t)) + 4) + (10 * c)).toNat = 0 ∧ s ((12 * t) + c).toNat = 0 ∧ r ((((18820 + (924 * t)) + 4) + (10 * c)) + 2).toNat < t then sU s ((12 * (r ((((18820 + (924 * t)) + 4) + (10 * c)) + 2).toNat)) + (r ((((18820 + (924 * t)) + 4) + (10 * c)) + 3).toNat)).toNat 1 else s)) i = (if r ((18820 + (924 * t)) + 3).toNat ≤ c then s' else lC r t n (c + 1) (if r (((18820 + (924 * t)) + 4) + (10 * c)).toNat = 0 ∧ s' ((12 * t) + c).toNat = 0 ∧ r ((((18820 + (924 * t)) + 4) + (10 * c)) + 2).toNat < t then sU s' ((12 * (r ((((18820 + (924 * t)) + 4) + (10 * c)) + 2).toNat)) + (r ((((18820 + (924 * t)) + 4) + (10 * c)) + 3).toNat)).toNat 1 else s')) i
    by_cases z : r ((18820 + (924 * t)) + 3).toNat ≤ c
    · rw [if_pos z, if_pos z]
      exact h i hi
    · rw [if_neg z, if_neg z, h ((12 * t) + c).toNat (by omega)]
      refine ih (c + 1) _ _ (by omega) (fun j hj => ?_) i hi
      by_cases a : r (((18820 + (924 * t)) + 4) + (10 * c)).toNat = 0 ∧ s' ((12 * t) + c).toNat = 0 ∧ r ((((18820 + (924 * t)) + 4) + (10 * c)) + 2).toNat < t
      · rw [if_pos a, if_pos a]
        unfold sU
        rw [h j hj]
      · rw [if_neg a, if_neg a]
        exact h j hj
theorem lT_c {r : Nat → Int} {d kn : Int} (I : pIl r) : ∀ (n : Nat) (t : Int) (s s' : Nat → Int), t < r 4 → (∀ i, i < 360 → s i = s' i) → ∀ i, i < 360 → lT r d kn n t s i = lT r d kn n t s' i := by
  intro n
  induction n with
  | zero => intro t s s' _ h; exact h
  | succ n ih =>
    intro t s s' ht h i hi
    show (if t < 0 then s else lT r d kn n (t + (-1)) (if tv (sLo r d kn t) = 0 then s else lC r t 13 0 s)) i = (if t < 0 then s' else lT r d kn n (t + (-1)) (if tv (sLo r d kn t) = 0 then s' else lC r t 13 0 s')) i
    by_cases z : t < 0
    · rw [if_pos z, if_pos z]
      exact h i hi
    · rw [if_neg z, if_neg z]
      refine ih (t + (-1)) _ _ (by omega) (fun j hj => ?_) i hi
      by_cases a : tv (sLo r d kn t) = 0
      · rw [if_pos a, if_pos a]
        exact h j hj
      · rw [if_neg a, if_neg a]
        have b := I.1
        have b' := I.2.1
        exact lC_c ⟨by omega, by omega⟩ (I.2.2 t (by omega) ht).2.1 13 0 s s' (by omega) h j hj
theorem mf45 {W : jW} {d : Int} (I : pIl (W.1 126)) : ∀ (n : Nat) (t : Int) (s o : Nat → Int), t < W.1 126 4 → t < n → ∃ o', d_X12_findForce_r125d_45 n d t (v2 W s o) = v2 W (lT (W.1 126) d (W.1 125 28) n t s) o' ∧ ∀ i : Nat, o' i = if (i : Int) ≤ t then tv (sLo (W.1 126) d (W.1 125 28) i) else o i := by
  intro n
  induction n with
  | zero =>
    intro t s o h1 h2
    exact ⟨o, rfl, fun i => by rw [if_neg (by omega)]⟩
  | succ n ih =>
    intro t s o h1 h2
    by_cases z : t < 0
    · refine ⟨o, ?_, fun i => by rw [if_neg (by omega)]⟩
      show (if t < 0 then v2 W s o else _) = v2 W (if t < 0 then s else _) o
      rw [if_pos z, if_pos z]
    · have J := I.2.2 t (by omega) h1
      have e : d_X12_findForce_r125d_45 (n + 1) d t (v2 W s o) = d_X12_findForce_r125d_45 n d (t + (-1)) (v2 W (if tv (sLo (W.1 126) d (W.1 125 28) t) = 0 then s else lC (W.1 126) t 13 0 s) (sU o t.toNat (tv (sLo (W.1 126) d (W.1 125 28) t)))) := by
        show (if t < 0 then v2 W s o else if W.1 125 28 < W.1 126 ((18820 + (924 * t)) + 2).toNat then d_X12_findForce_r125d_95 (fun l1 l2 W => d_X12_findForce_r125d_45 n l1 l2 W) 13 d t (18820 + (924 * t)) 0 (vu (v2 W s o) 153 t.toNat 0) else if d < W.1 126 ((18820 + (924 * t)) + 1).toNat then d_X12_findForce_r125d_95 (fun l1 l2 W => d_X12_findForce_r125d_45 n l1 l2 W) 13 d t (18820 + (924 * t)) 0 (vu (v2 W s o) 153 t.toNat 0) else d_X12_findForce_r125d_95 (fun l1 l2 W => d_X12_findForce_r125d_45 n l1 l2 W) 13 d t (18820 + (924 * t)) 0 (vu (v2 W s o) 153 t.toNat 1)) = _
        have k0 : d_X12_findForce_r125d_95 (fun l1 l2 W => d_X12_findForce_r125d_45 n l1 l2 W) 13 d t (18820 + (924 * t)) 0 (v2 W s (sU o t.toNat 0)) = d_X12_findForce_r125d_45 n d (t + (-1)) (v2 W s (sU o t.toNat 0)) := by
          rw [mf95 _ 12 0 s, sU_e rfl, if_pos rfl]
        have k1 : d_X12_findForce_r125d_95 (fun l1 l2 W => d_X12_findForce_r125d_45 n l1 l2 W) 13 d t (18820 + (924 * t)) 0 (v2 W s (sU o t.toNat 1)) = d_X12_findForce_r125d_45 n d (t + (-1)) (v2 W (lC (W.1 126) t 13 0 s) (sU o t.toNat 1)) := by
          rw [mf95 _ 12 0 s, sU_e rfl, if_neg (by decide), if_pos ⟨by omega, by omega, J.2.1⟩]
        rw [if_neg z, v2_v, v2_v, k0, k1]
        by_cases a : sLo (W.1 126) d (W.1 125 28) t
        · have a' := a
          unfold sLo at a'
          rw [tv_t a, if_neg (by omega), if_neg (by omega), if_neg (by decide)]
        · have a' := a
          unfold sLo at a'
          rw [tv_f a, if_pos rfl]
          by_cases b : W.1 125 28 < W.1 126 ((18820 + (924 * t)) + 2).toNat
          · rw [if_pos b]
          · rw [if_neg b, if_pos (by omega)]
      obtain ⟨o', e', f⟩ := ih (t + (-1)) (if tv (sLo (W.1 126) d (W.1 125 28) t) = 0 then s else lC (W.1 126) t 13 0 s) (sU o t.toNat (tv (sLo (W.1 126) d (W.1 125 28) t))) (by omega) (by omega)
      refine ⟨o', ?_, fun i => ?_⟩
      · rw [e, e']
        show v2 W (lT (W.1 126) d (W.1 125 28) n (t + (-1)) _) o' = v2 W (if t < 0 then s else lT (W.1 126) d (W.1 125 28) n (t + (-1)) _) o'
        rw [if_neg z]
      · rw [f i]
        by_cases a : (i : Int) ≤ t + (-1)
        · rw [if_pos a, if_pos (by omega)]
        · rw [if_neg a]
          by_cases b : (i : Int) ≤ t
          · have q : (i : Int) = t := by omega
            rw [if_pos b, sU_e (by omega), q]
          · rw [if_neg b, sU_n (by omega)]
theorem mf16 {W : jW} {d : Int} : ∀ (n : Nat) (k : Int) (s o : Nat → Int), 0 ≤ k → k ≤ 360 → 360 < n + k.toNat → ∃ s', d_X12_findForce_r125d_16 n d k (v2 W s o) = d_X12_findForce_r125d_45 31 d (W.1 126 4 - 1) (v2 W s' o) ∧ ∀ i : Nat, s' i = if k ≤ (i : Int) ∧ i < 360 then 0 else s i := by
  intro n
  induction n with
  | zero => intro k s o h1 h2 h3; omega
  | succ n ih =>
    intro k s o h1 h2 h3
    by_cases z : 360 ≤ k
    · refine ⟨s, ?_, fun i => by rw [if_neg (by omega)]⟩
      show (if 360 ≤ k then d_X12_findForce_r125d_45 31 d (W.1 126 4 - 1) (v2 W s o) else _) = _
      rw [if_pos z]
    · obtain ⟨s', e', f⟩ := ih (k + 1) (sU s k.toNat 0) o (by omega) (by omega) (by omega)
      refine ⟨s', ?_, fun i => ?_⟩
      · show (if 360 ≤ k then _ else d_X12_findForce_r125d_16 n d (k + 1) (vu (v2 W s o) 152 k.toNat 0)) = _
        rw [if_neg z, v2_u, e']
      · rw [f i]
        by_cases a : k + 1 ≤ (i : Int) ∧ i < 360
        · rw [if_pos a, if_pos (by omega)]
        · rw [if_neg a]
          by_cases b : k ≤ (i : Int) ∧ i < 360
          · rw [if_pos b, sU_e (by omega)]
          · rw [if_neg b, sU_n (by omega)]
/-- what the reference has found of the LAWS stands for this DAY -/
def pMf (M : jW) (r : Nat → Int) (d kn : Int) : Prop := (∀ i : Nat, i < 360 → M.1 152 i = sLs r d kn i) ∧ ∀ t : Nat, (t : Int) < r 4 → M.1 153 t = tv (sLo r d kn t)
/-- .. if it is kept -/
def pKf (M : jW) (r : Nat → Int) (kn : Int) : Prop := M.1 125 57 ≠ -1 → pMf M r (M.1 125 57) kn
theorem mff {M : jW} {d : Int} (I : pIl (M.1 126)) (hd : d ≠ -1) (K : pKf M (M.1 126) (M.1 125 28)) : pMf (d_X12_findForce_r125d d M) (M.1 126) d (M.1 125 28) ∧ pKf (d_X12_findForce_r125d d M) (M.1 126) (M.1 125 28) ∧ (∀ a, a ≠ 152 → a ≠ 153 → a ≠ 125 → (d_X12_findForce_r125d d M).1 a = M.1 a) ∧ (∀ i, i ≠ 57 → (d_X12_findForce_r125d d M).1 125 i = M.1 125 i) ∧ (d_X12_findForce_r125d d M).2 = M.2 := by
  by_cases c : M.1 125 57 = d
  · have e : d_X12_findForce_r125d d M = M := by
      unfold d_X12_findForce_r125d
      rw [if_pos c]
    rw [e]
    have k := K (by rw [c]; exact hd)
    rw [c] at k
    exact ⟨k, K, fun a _ _ _ => rfl, fun i _ => rfl, rfl⟩
  · have b := I.1
    have b' := I.2.1
    obtain ⟨s', e1, f1⟩ := @mf16 (vu M 125 57 d) d 361 0 (M.1 152) (M.1 153) (by omega) (by omega) (by decide)
    obtain ⟨o', e2, f2⟩ := @mf45 (vu M 125 57 d) d I 31 (M.1 126 4 - 1) s' (M.1 153) (by show M.1 126 4 - 1 < M.1 126 4; omega) (by omega)
    have e : d_X12_findForce_r125d d M = v2 (vu M 125 57 d) (lT (M.1 126) d (M.1 125 28) 31 (M.1 126 4 - 1) s') o' := by
      unfold d_X12_findForce_r125d
      rw [if_neg c]
      have q : vu M 125 57 d = v2 (vu M 125 57 d) (M.1 152) (M.1 153) := (@v2_e (vu M 125 57 d)).symm
      exact (congrArg (d_X12_findForce_r125d_16 361 d 0) q).trans (e1.trans e2)
    have p : pMf (d_X12_findForce_r125d d M) (M.1 126) d (M.1 125 28) := by
      rw [e]
      refine ⟨fun i hi => ?_, fun t ht => ?_⟩
      · exact lT_c I 31 (M.1 126 4 - 1) s' (fun _ => 0) (by omega) (fun j hj => by rw [f1 j, if_pos ⟨by omega, hj⟩]) i hi
      · show o' t = _
        rw [f2 t, if_pos (by omega)]
        rfl
    refine ⟨p, fun _ => ?_, fun a h1 h2 h3 => ?_, fun i hi => ?_, ?_⟩
    · have q : (d_X12_findForce_r125d d M).1 125 57 = d := by rw [e]; rfl
      rw [q]
      exact p
    · rw [e, v2_o h1 h2, vu_c h3]
    · rw [e, v2_o (by decide) (by decide), vu_n (fun z => hi z.2)]
    · rw [e]
      rfl
end jG33

section jG34
/-! pure: LAWS in force, the class's -/
def pHe (h r : Nat → Int) (t c : Int) : Prop := h (c * 6 + 0).toNat = (if r (((18820 + (924 * t)) + 4) + (10 * c)).toNat = 0 then 8 else r (((18820 + (924 * t)) + 4) + (10 * c)).toNat - 1) ∧ h (c * 6 + 1).toNat = (if r (((18820 + (924 * t)) + 4) + (10 * c)).toNat = 0 then r ((((18820 + (924 * t)) + 4) + (10 * c)) + 2).toNat else r ((((18820 + (924 * t)) + 4) + (10 * c)) + 1).toNat) ∧ h (c * 6 + 2).toNat = (if r (((18820 + (924 * t)) + 4) + (10 * c)).toNat = 0 then r ((((18820 + (924 * t)) + 4) + (10 * c)) + 3).toNat else r ((((18820 + (924 * t)) + 4) + (10 * c)) + 2).toNat)
/-- a TEXT of the class is one of the reference, but for its code -/
def pTe (X : jW) (r : Nat → Int) (t : Int) (T hd : Nat) : Prop := 174 ≤ T ∧ 174 ≤ hd ∧ X.1 T 0 = r ((18820 + (924 * t)) + 0).toNat ∧ X.1 T 1 = r ((18820 + (924 * t)) + 1).toNat ∧ X.1 T 2 = r ((18820 + (924 * t)) + 2).toNat ∧ X.1 T 3 = r ((18820 + (924 * t)) + 3).toNat ∧ X.2.2.1 T 4 = some hd ∧ ∀ c : Int, 0 ≤ c → c < r ((18820 + (924 * t)) + 3).toNat → pHe (X.1 hd) r t c
def pTh (X : jW) (r : Nat → Int) : Prop := X.1 32 18 = r 4 ∧ ∀ t : Int, 0 ≤ t → t < r 4 → ∃ T hd : Nat, X.2.2.1 66 t.toNat = some T ∧ pTe X r t T hd
/-- ranges of kinds -/
def pIk (r : Nat → Int) : Prop := ∀ t : Int, 0 ≤ t → t < r 4 → ∀ c : Int, 0 ≤ c → c < r ((18820 + (924 * t)) + 3).toNat → 0 ≤ r (((18820 + (924 * t)) + 4) + (10 * c)).toNat ∧ r (((18820 + (924 * t)) + 4) + (10 * c)).toNat ≤ 8
theorem pTe_f {X X' : jW} {r : Nat → Int} {t : Int} {T hd : Nat} (h : ∀ a, 174 ≤ a → X'.1 a = X.1 a) (h2 : X'.2 = X.2) (P : pTe X r t T hd) : pTe X' r t T hd := by
  obtain ⟨a, b, p0, p1, p2, p3, p4, p5⟩ := P
  refine ⟨a, b, ?_, ?_, ?_, ?_, ?_, fun c hc hc' => ?_⟩
  · rw [h T a]; exact p0
  · rw [h T a]; exact p1
  · rw [h T a]; exact p2
  · rw [h T a]; exact p3
  · rw [h2]; exact p4
  · rw [h hd b]; exact p5 c hc hc'
theorem he_e {X : jW} {r : Nat → Int} {t : Int} {T hd : Nat} (P : pTe X r t T hd) {c y : Int} (hc : 0 ≤ c) (hc' : c < r ((18820 + (924 * t)) + 3).toNat) (hy : 0 ≤ y ∧ y < 6) : d_head T c y X = X.1 hd (c * 6 + y).toNat := by
  unfold d_head
  rw [P.2.2.2.2.2.1, P.2.2.2.2.2.2.1, if_neg (by omega), if_neg (by omega), if_neg (by omega), if_pos hy.2]
  rfl
def sB (r s b : Nat → Int) : Prop := ∀ t c : Nat, (t : Int) < r 4 → c < 12 → (bt (b t) c = true ↔ s (12 * t + c) ≠ 0)
theorem xs2 {r : Nat → Int} {t : Int} {T hd : Nat} (I : pIl r) (Ik : pIk r) (ht : 0 ≤ t ∧ t < r 4) : ∀ (n : Nat) (c : Int) (X : jW) (s : Nat → Int), pTe X r t T hd → X.1 32 18 = r 4 → (∀ c : Nat, (c : Int) < r ((18820 + (924 * t)) + 3).toNat → (bt (X.1 99 t.toNat) c = true ↔ s (12 * t.toNat + c) = 0)) → sB r s (X.1 100) → 0 ≤ c → 13 ≤ n + c.toNat → sB r (lC r t n c s) ((d_X0_strikeBy_r98d_2 n t T c X).1 100) ∧ (∀ a, a ≠ 100 → (d_X0_strikeBy_r98d_2 n t T c X).1 a = X.1 a) ∧ (d_X0_strikeBy_r98d_2 n t T c X).2 = X.2 := by
  have J := I.2.2 t ht.1 ht.2
  intro n
  induction n with
  | zero => intro c X s P h18 hF S hc hn; exact ⟨S, fun _ _ => rfl, rfl⟩
  | succ n ih =>
    intro c X s P h18 hF S hc hn
    by_cases z : r ((18820 + (924 * t)) + 3).toNat ≤ c
    · have e : d_X0_strikeBy_r98d_2 (n + 1) t T c X = X := by
        show (if X.1 T 3 ≤ c then X else _) = X
        rw [P.2.2.2.2.2.1, if_pos z]
      have e2 : lC r t (n + 1) c s = s := by
        show (if r ((18820 + (924 * t)) + 3).toNat ≤ c then s else _) = s
        rw [if_pos z]
      rw [e, e2]
      exact ⟨S, fun _ _ => rfl, rfl⟩
    · have H := P.2.2.2.2.2.2.2 c hc (by omega)
      have k0 := he_e P hc (by omega) (show (0 : Int) ≤ 0 ∧ (0 : Int) < 6 from by decide)
      have k1 := he_e P hc (by omega) (show (0 : Int) ≤ 1 ∧ (1 : Int) < 6 from by decide)
      have k2 := he_e P hc (by omega) (show (0 : Int) ≤ 2 ∧ (2 : Int) < 6 from by decide)
      rw [H.1] at k0
      rw [H.2.1] at k1
      rw [H.2.2] at k2
      have kk := Ik t ht.1 ht.2 c hc (by omega)
      have e : d_X0_strikeBy_r98d_2 (n + 1) t T c X = d_X0_strikeBy_r98d_2 n t T (c + 1) (if d_head T c 0 X = 8 then (if X.1 32 18 ≤ t then X else if j_iand (j_ishr (X.1 99 t.toNat) c) 1 = 1 then (if d_head T c 1 X < 0 then X else if t ≤ d_head T c 1 X then X else vu X 100 (d_head T c 1 X).toNat (j_ior (X.1 100 (d_head T c 1 X).toNat) (j_ishl 1 (d_head T c 2 X)))) else X) else X) := by
        show (if X.1 T 3 ≤ c then X else _) = _
        rw [if_neg (by rw [P.2.2.2.2.2.1]; exact z)]
        repeat' split
        all_goals rfl
      have e2 : lC r t (n + 1) c s = lC r t n (c + 1) (if r (((18820 + (924 * t)) + 4) + (10 * c)).toNat = 0 ∧ s ((12 * t) + c).toNat = 0 ∧ r ((((18820 + (924 * t)) + 4) + (10 * c)) + 2).toNat < t then sU s ((12 * (r ((((18820 + (924 * t)) + 4) + (10 * c)) + 2).toNat)) + (r ((((18820 + (924 * t)) + 4) + (10 * c)) + 3).toNat)).toNat 1 else s) := by
        show (if r ((18820 + (924 * t)) + 3).toNat ≤ c then s else _) = _
        rw [if_neg z]
      have cn : ((c.toNat : Nat) : Int) = c := by omega
      have f1 := hF c.toNat (by omega)
      have f2 := @bt_g (X.1 99 t.toNat) c.toNat (by omega)
      rw [cn] at f2
      have f3 : 12 * t.toNat + c.toNat = ((12 * t) + c).toNat := by omega
      rw [f3] at f1
      have g : j_iand (j_ishr (X.1 99 t.toNat) c) 1 = 1 ↔ s ((12 * t) + c).toNat = 0 := f2.trans f1
      rw [e, e2]
      by_cases a : r (((18820 + (924 * t)) + 4) + (10 * c)).toNat = 0 ∧ s ((12 * t) + c).toNat = 0 ∧ r ((((18820 + (924 * t)) + 4) + (10 * c)) + 2).toNat < t
      · have R := J.2.2 c hc (by omega) a.1
        rw [if_pos a.1] at k0 k1 k2
        rw [if_pos a, if_pos k0, if_neg (by omega), if_pos (g.mpr a.2.1), k1, k2, if_neg (by omega), if_neg (by omega)]
        generalize hq : r ((((18820 + (924 * t)) + 4) + (10 * c)) + 2).toNat = q at *
        generalize hp : r ((((18820 + (924 * t)) + 4) + (10 * c)) + 3).toNat = p at *
        have o := ih (c + 1) (vu X 100 q.toNat (j_ior (X.1 100 q.toNat) (j_ishl 1 p))) (sU s (12 * q + p).toNat 1) (pTe_f (fun a h => vu_c (by omega)) rfl P) h18 (fun c' hc' => by
          rw [sU_n (by omega)]
          exact hF c' hc') (fun t' c' h1 h2 => by
            have w := S t' c' h1 h2
            by_cases u : t' = q.toNat
            · rw [vu_e u, bt_or, ← u, show p = ((p.toNat : Nat) : Int) from by omega, bt_l (by omega) h2]
              by_cases u2 : p.toNat = c'
              · rw [sU_e (by omega)]
                simp [u2]
              · rw [sU_n (by omega), ← w]
                simp [u2]
            · rw [vu_n (fun z => u z.2), sU_n (by omega)]
              exact w) (by omega) (by omega)
        exact ⟨o.1, fun a h => (o.2.1 a h).trans (vu_c h), o.2.2⟩
      · rw [if_neg a]
        have q : (if d_head T c 0 X = 8 then (if X.1 32 18 ≤ t then X else if j_iand (j_ishr (X.1 99 t.toNat) c) 1 = 1 then (if d_head T c 1 X < 0 then X else if t ≤ d_head T c 1 X then X else vu X 100 (d_head T c 1 X).toNat (j_ior (X.1 100 (d_head T c 1 X).toNat) (j_ishl 1 (d_head T c 2 X)))) else X) else X) = X := by
          by_cases a1 : d_head T c 0 X = 8
          · rw [if_pos a1]
            have a2 : r (((18820 + (924 * t)) + 4) + (10 * c)).toNat = 0 := by
              apply Classical.byContradiction
              intro n0
              rw [if_neg n0] at k0
              omega
            rw [if_neg (by omega)]
            by_cases a3 : j_iand (j_ishr (X.1 99 t.toNat) c) 1 = 1
            · rw [if_pos a3]
              have a4 := g.mp a3
              rw [if_pos a2] at k1
              have a5 : ¬ r ((((18820 + (924 * t)) + 4) + (10 * c)) + 2).toNat < t := fun y => a ⟨a2, a4, y⟩
              have R := J.2.2 c hc (by omega) a2
              rw [k1, if_neg (by omega), if_pos (by omega)]
            · rw [if_neg a3]
          · rw [if_neg a1]
        rw [q]
        exact ih (c + 1) X s P h18 hF S (by omega) (by omega)
theorem lC_k {r : Nat → Int} {t : Int} (I : pIl r) (ht : 0 ≤ t ∧ t < r 4) : ∀ (n : Nat) (c : Int) (s : Nat → Int) (i : Nat), 0 ≤ c → 12 * t ≤ i → lC r t n c s i = s i := by
  have J := I.2.2 t ht.1 ht.2
  intro n
  induction n with
  | zero => intro c s i _ _; rfl
  | succ n ih =>
    intro c s i hc hi
    show (if r ((18820 + (924 * t)) + 3).toNat ≤ c then s else lC r t n (c + 1) (if r (((18820 + (924 * t)) + 4) + (10 * c)).toNat = 0 ∧ s ((12 * t) + c).toNat = 0 ∧ r ((((18820 + (924 * t)) + 4) + (10 * c)) + 2).toNat < t then sU s ((12 * (r ((((18820 + (924 * t)) + 4) + (10 * c)) + 2).toNat)) + (r ((((18820 + (924 * t)) + 4) + (10 * c)) + 3).toNat)).toNat 1 else s)) i = s i
    by_cases z : r ((18820 + (924 * t)) + 3).toNat ≤ c
    · rw [if_pos z]
    · rw [if_neg z, ih (c + 1) _ i (by omega) hi]
      by_cases a : r (((18820 + (924 * t)) + 4) + (10 * c)).toNat = 0 ∧ s ((12 * t) + c).toNat = 0 ∧ r ((((18820 + (924 * t)) + 4) + (10 * c)) + 2).toNat < t
      · have R := J.2.2 c hc (by omega) a.1
        rw [if_pos a, sU_n (by omega)]
      · rw [if_neg a]
theorem lT_k {r : Nat → Int} {d kn : Int} (I : pIl r) : ∀ (n : Nat) (t : Int) (s : Nat → Int) (i : Nat), t < r 4 → 12 * t ≤ i → lT r d kn n t s i = s i := by
  intro n
  induction n with
  | zero => intro t s i _ _; rfl
  | succ n ih =>
    intro t s i ht hi
    show (if t < 0 then s else lT r d kn n (t + (-1)) (if tv (sLo r d kn t) = 0 then s else lC r t 13 0 s)) i = s i
    by_cases z : t < 0
    · rw [if_pos z]
    · rw [if_neg z, ih (t + (-1)) _ i (by omega) (by omega)]
      by_cases a : tv (sLo r d kn t) = 0
      · rw [if_pos a]
      · rw [if_neg a]
        exact lC_k I ⟨by omega, ht⟩ 13 0 s i (by omega) hi
end jG34

section jG35
/-! pure: LAWS read, the class's -/
/-- what the class has read of the LAWS stands for this DAY -/
def pXl (X : jW) (r : Nat → Int) (d kn : Int) : Prop := ∀ t c : Nat, (t : Int) < r 4 → c < 12 → (bt (X.1 99 t) c = true ↔ sLo r d kn t ∧ (c : Int) < r ((18820 + (924 * (t : Int))) + 3).toNat ∧ sLs r d kn (12 * t + c) = 0)
theorem xr85 {r : Nat → Int} {d kn : Int} (I : pIl r) (Ik : pIk r) : ∀ (n : Nat) (t : Int) (X : jW) (s : Nat → Int), pTh X r → X.1 98 10 = d → X.1 98 11 = kn → sB r s (X.1 100) → (∀ u : Nat, (u : Int) ≤ t → X.1 99 u = 0) → t < r 4 → t < n → (∀ u c : Nat, (u : Int) ≤ t → c < 12 → (bt ((d_X0_readLaws_r98d_85 n t X).1 99 u) c = true ↔ sLo r d kn u ∧ (c : Int) < r ((18820 + (924 * (u : Int))) + 3).toNat ∧ lT r d kn n t s (12 * u + c) = 0)) ∧ (∀ u : Nat, t < (u : Int) → (d_X0_readLaws_r98d_85 n t X).1 99 u = X.1 99 u) ∧ (∀ a, a ≠ 99 → a ≠ 100 → (d_X0_readLaws_r98d_85 n t X).1 a = X.1 a) ∧ (d_X0_readLaws_r98d_85 n t X).2 = X.2 := by
  intro n
  induction n with
  | zero =>
    intro t X s P h10 h11 S Z ht hn
    exact ⟨fun u c h _ => by omega, fun _ _ => rfl, fun _ _ _ => rfl, rfl⟩
  | succ n ih =>
    intro t X s P h10 h11 S Z ht hn
    by_cases z : t < 0
    · have e : d_X0_readLaws_r98d_85 (n + 1) t X = X := by
        show (if t < 0 then X else _) = X
        rw [if_pos z]
      rw [e]
      exact ⟨fun u c h _ => by omega, fun _ _ => rfl, fun _ _ _ => rfl, rfl⟩
    · obtain ⟨T, hd, eT, Q⟩ := P.2 t (by omega) ht
      have J := I.2.2 t (by omega) ht
      have tn : ((t.toNat : Nat) : Int) = t := by omega
      have e : d_X0_readLaws_r98d_85 (n + 1) t X = d_X0_readLaws_r98d_85 n (t + (-1)) (if kn < r ((18820 + (924 * t)) + 2).toNat then X else if d < r ((18820 + (924 * t)) + 1).toNat then X else d_X0_strikeBy_r98d_2 13 t T 0 (vu X 99 t.toNat (j_iand (j_isub (j_ishl 1 (r ((18820 + (924 * t)) + 3).toNat)) 1) (j_ixor (X.1 100 t.toNat) (-1))))) := by
        show (if t < 0 then X else if X.1 32 18 ≤ t then _ else if (X.2.2.1 66 t.toNat).isNone = true then _ else if X.1 98 11 < X.1 ((X.2.2.1 66 t.toNat).getD 0) 2 then d_X0_readLaws_r98d_85 n (t + (-1)) X else if X.1 98 10 < X.1 ((X.2.2.1 66 t.toNat).getD 0) 1 then d_X0_readLaws_r98d_85 n (t + (-1)) X else d_X0_readLaws_r98d_85 n (t + (-1)) (d_X0_strikeBy_r98d_2 13 t ((X.2.2.1 66 t.toNat).getD 0) 0 (vu X 99 t.toNat (j_iand (j_isub (j_ishl 1 (X.1 ((X.2.2.1 66 t.toNat).getD 0) 3)) 1) (j_ixor (X.1 100 t.toNat) (-1)))))) = _
        rw [if_neg z, if_neg (by rw [P.1]; omega), eT, if_neg (show ¬ (some T).isNone = true from fun y => Bool.noConfusion y), show (some T).getD 0 = T from rfl, h10, h11, Q.2.2.2.1, Q.2.2.2.2.1, Q.2.2.2.2.2.1]
        by_cases a : kn < r ((18820 + (924 * t)) + 2).toNat
        · rw [if_pos a, if_pos a]
        · rw [if_neg a, if_neg a]
          by_cases b : d < r ((18820 + (924 * t)) + 1).toNat
          · rw [if_pos b, if_pos b]
          · rw [if_neg b, if_neg b]
      have e2 : lT r d kn (n + 1) t s = lT r d kn n (t + (-1)) (if tv (sLo r d kn t) = 0 then s else lC r t 13 0 s) := by
        show (if t < 0 then s else _) = _
        rw [if_neg z]
      by_cases a : sLo r d kn t
      · have a' := a
        unfold sLo at a'
        rw [if_neg (by omega), if_neg (by omega)] at e
        rw [tv_t a, if_neg (by decide)] at e2
        have b99 : ∀ c : Nat, c < 12 → (bt (j_iand (j_isub (j_ishl 1 (r ((18820 + (924 * t)) + 3).toNat)) 1) (j_ixor (X.1 100 t.toNat) (-1))) c = true ↔ (c : Int) < r ((18820 + (924 * t)) + 3).toNat ∧ s (12 * t.toNat + c) = 0) := fun c hc => by
          have w := S t.toNat c (by omega) hc
          have m := @bt_m (r ((18820 + (924 * t)) + 3).toNat).toNat c (by omega) hc
          rw [show (((r ((18820 + (924 * t)) + 3).toNat).toNat : Nat) : Int) = r ((18820 + (924 * t)) + 3).toNat from by omega] at m
          rw [bt_and, bt_xor, bt_n hc, m]
          have w' : bt (X.1 100 t.toNat) c = false ↔ s (12 * t.toNat + c) = 0 := by
            constructor
            · intro y
              apply Classical.byContradiction
              intro y2
              rw [w.mpr y2] at y
              exact absurd y (by decide)
            · intro y
              cases y2 : bt (X.1 100 t.toNat) c
              · rfl
              · exact absurd y (w.mp y2)
          cases y : bt (X.1 100 t.toNat) c
          · have y' := w'.mp y
            simp only [Bool.false_xor, Bool.and_true, decide_eq_true_eq]
            constructor
            · intro y3
              exact ⟨by omega, y'⟩
            · intro y3
              omega
          · simp only [Bool.xor_self, Bool.and_false]
            constructor
            · intro y3
              exact absurd y3 (by decide)
            · intro y3
              exact absurd y3.2 (w.mp y)
        have V := @xs2 r t T hd I Ik ⟨by omega, ht⟩ 13 0 (vu X 99 t.toNat (j_iand (j_isub (j_ishl 1 (r ((18820 + (924 * t)) + 3).toNat)) 1) (j_ixor (X.1 100 t.toNat) (-1)))) s (pTe_f (fun a h => vu_c (by omega)) rfl Q) P.1 (fun c hc => by
          rw [vu_e rfl, b99 c (by omega)]
          exact ⟨fun y => y.2, fun y => ⟨hc, y⟩⟩) S (by omega) (by omega)
        rw [e, e2]
        generalize hY : d_X0_strikeBy_r98d_2 13 t T 0 (vu X 99 t.toNat (j_iand (j_isub (j_ishl 1 (r ((18820 + (924 * t)) + 3).toNat)) 1) (j_ixor (X.1 100 t.toNat) (-1)))) = Y at *
        have fr : ∀ a, a ≠ 99 → a ≠ 100 → Y.1 a = X.1 a := fun a h1 h2 => (V.2.1 a h2).trans (vu_c h1)
        have f2 : Y.2 = X.2 := V.2.2
        have f99 : Y.1 99 = (vu X 99 t.toNat (j_iand (j_isub (j_ishl 1 (r ((18820 + (924 * t)) + 3).toNat)) 1) (j_ixor (X.1 100 t.toNat) (-1)))).1 99 := V.2.1 99 (by decide)
        have R := ih (t + (-1)) Y (lC r t 13 0 s) ⟨by rw [fr 32 (by decide) (by decide)]; exact P.1, fun t' h hx9 => by
          obtain ⟨T', hd', eT', Q'⟩ := P.2 t' h hx9
          exact ⟨T', hd', by rw [f2]; exact eT', pTe_f (fun a h => fr a (by omega) (by omega)) f2 Q'⟩⟩ (by rw [fr 98 (by decide) (by decide)]; exact h10) (by rw [fr 98 (by decide) (by decide)]; exact h11) V.1 (fun u hu => by
            rw [f99, vu_n (fun y => absurd y.2 (by omega))]
            exact Z u (by omega)) (by omega) (by omega)
        refine ⟨fun u c hu hc => ?_, fun u hu => ?_, fun a h1 h2 => (R.2.2.1 a h1 h2).trans (fr a h1 h2), R.2.2.2.trans f2⟩
        · by_cases q : (u : Int) ≤ t + (-1)
          · exact R.1 u c q hc
          · have ut : u = t.toNat := by omega
            subst ut
            rw [R.2.1 t.toNat (by omega), f99, vu_e rfl, b99 c hc, tn, lT_k I n (t + (-1)) _ _ (by omega) (by omega), lC_k I ⟨by omega, ht⟩ 13 0 s _ (by omega) (by omega)]
            exact ⟨fun y => ⟨a, y.1, y.2⟩, fun y => ⟨y.2.1, y.2.2⟩⟩
        · rw [R.2.1 u (by omega), f99, vu_n (fun y => absurd y.2 (by omega))]
      · have a' := a
        unfold sLo at a'
        have e3 : (if kn < r ((18820 + (924 * t)) + 2).toNat then X else if d < r ((18820 + (924 * t)) + 1).toNat then X else d_X0_strikeBy_r98d_2 13 t T 0 (vu X 99 t.toNat (j_iand (j_isub (j_ishl 1 (r ((18820 + (924 * t)) + 3).toNat)) 1) (j_ixor (X.1 100 t.toNat) (-1))))) = X := by
          by_cases b : kn < r ((18820 + (924 * t)) + 2).toNat
          · rw [if_pos b]
          · rw [if_neg b, if_pos (by omega)]
        rw [e3] at e
        rw [tv_f a, if_pos rfl] at e2
        rw [e, e2]
        have R := ih (t + (-1)) X s P h10 h11 S (fun u hu => Z u (by omega)) (by omega) (by omega)
        refine ⟨fun u c hu hc => ?_, fun u hu => ?_, R.2.2.1, R.2.2.2⟩
        · by_cases q : (u : Int) ≤ t + (-1)
          · exact R.1 u c q hc
          · have ut : u = t.toNat := by omega
            subst ut
            rw [R.2.1 t.toNat (by omega), Z t.toNat (by omega), bt_0, tn]
            exact ⟨fun y => absurd y (by decide), fun y => absurd y.1 a⟩
        · exact R.2.1 u (by omega)
theorem xr52 {m : Int} (hm : m ≤ 30) : ∀ (n : Nat) (k : Int) (X : jW), 0 ≤ k → k ≤ m → m < n + k → ∃ Y : jW, d_X0_readLaws_r98d_52 n m k X = d_X0_readLaws_r98d_85 31 (m - 1) Y ∧ (∀ u : Nat, Y.1 99 u = if k ≤ (u : Int) ∧ (u : Int) < m then 0 else X.1 99 u) ∧ (∀ u : Nat, Y.1 100 u = if k ≤ (u : Int) ∧ (u : Int) < m then 0 else X.1 100 u) ∧ (∀ a, a ≠ 99 → a ≠ 100 → Y.1 a = X.1 a) ∧ Y.2 = X.2 := by
  intro n
  induction n with
  | zero => intro k X h1 h2 h3; omega
  | succ n ih =>
    intro k X h1 h2 h3
    by_cases z : m ≤ k
    · refine ⟨X, ?_, fun u => by rw [if_neg (by omega)], fun u => by rw [if_neg (by omega)], fun _ _ _ => rfl, rfl⟩
      show (if m ≤ k then d_X0_readLaws_r98d_85 31 (m - 1) X else _) = _
      rw [if_pos z]
    · obtain ⟨Y, e, f, g, h, i⟩ := ih (k + 1) (vu (vu X 100 k.toNat 0) 99 k.toNat 0) (by omega) (by omega) (by omega)
      refine ⟨Y, ?_, fun u => ?_, fun u => ?_, fun a p q => ?_, i⟩
      · show (if m ≤ k then _ else d_X0_readLaws_r98d_52 n m (k + 1) (vu (vu X 100 k.toNat 0) 99 k.toNat 0)) = _
        rw [if_neg z, e]
      · rw [f u]
        by_cases a : k + 1 ≤ (u : Int) ∧ (u : Int) < m
        · rw [if_pos a, if_pos (by omega)]
        · rw [if_neg a]
          by_cases b : k ≤ (u : Int) ∧ (u : Int) < m
          · rw [if_pos b, vu_e (by omega)]
          · rw [if_neg b, vu_n (fun y => absurd y.2 (by omega)), vu_c (by decide)]
      · rw [g u]
        by_cases a : k + 1 ≤ (u : Int) ∧ (u : Int) < m
        · rw [if_pos a, if_pos (by omega)]
        · rw [if_neg a, vu_c (by decide)]
          by_cases b : k ≤ (u : Int) ∧ (u : Int) < m
          · rw [if_pos b, vu_e (by omega)]
          · rw [if_neg b, vu_n (fun y => absurd y.2 (by omega))]
      · rw [h a p q, vu_c p, vu_c q]
/-- LAWS kept: as long as nothing new was told -/
def pKl (X : jW) (r : Nat → Int) : Prop := X.1 101 2 = X.1 32 19 → pXl X r (X.1 101 0) (X.1 101 1)
theorem xrl {X : jW} {r : Nat → Int} {d kn : Int} (P : pTh X r) (I : pIl r) (Ik : pIk r) (K : pKl X r) : pXl (d_X0_readLaws_r98d d kn X) r d kn ∧ pKl (d_X0_readLaws_r98d d kn X) r ∧ (d_X0_readLaws_r98d d kn X).1 98 10 = d ∧ (d_X0_readLaws_r98d d kn X).1 98 11 = kn ∧ (∀ a, a ≠ 98 → a ≠ 99 → a ≠ 100 → a ≠ 101 → (d_X0_readLaws_r98d d kn X).1 a = X.1 a) ∧ (∀ i, i ≠ 10 → i ≠ 11 → (d_X0_readLaws_r98d d kn X).1 98 i = X.1 98 i) ∧ (d_X0_readLaws_r98d d kn X).2 = X.2 := by
  have b := I.1
  have b' := I.2.1
  generalize hV : (vu (vu (vu (vu (vu X 98 10 d) 98 11 kn) 101 0 d) 101 1 kn) 101 2 (X.1 32 19)) = V
  have vo : ∀ a, a ≠ 98 → a ≠ 101 → V.1 a = X.1 a := fun a h1 h2 => by
    rw [← hV, vu_c h2, vu_c h2, vu_c h2, vu_c h1, vu_c h1]
  have v10 : V.1 98 10 = d := by rw [← hV]; rfl
  have v11 : V.1 98 11 = kn := by rw [← hV]; rfl
  have k0 : V.1 101 0 = d := by rw [← hV]; rfl
  have k1 : V.1 101 1 = kn := by rw [← hV]; rfl
  have k2 : V.1 101 2 = X.1 32 19 := by rw [← hV]; rfl
  have vi : ∀ i, i ≠ 10 → i ≠ 11 → V.1 98 i = X.1 98 i := fun i h1 h2 => by
    rw [← hV, vu_c (by decide), vu_c (by decide), vu_c (by decide), vu_n (fun y => h2 y.2), vu_n (fun y => h1 y.2)]
  have v2' : V.2 = X.2 := by rw [← hV]; rfl
  by_cases c : X.1 101 0 = d ∧ X.1 101 1 = kn ∧ X.1 101 2 = X.1 32 19
  · have e : d_X0_readLaws_r98d d kn X = V := by
      unfold d_X0_readLaws_r98d
      rw [if_pos c.1, if_pos c.2.1, if_pos c.2.2, hV]
    rw [e]
    have q := K c.2.2
    rw [c.1, c.2.1] at q
    have q' : pXl V r d kn := fun t u h hx9 => by
      rw [vo 99 (by decide) (by decide)]
      exact q t u h hx9
    refine ⟨q', fun _ => by rw [k0, k1]; exact q', v10, v11, fun a h1 _ _ h4 => vo a h1 h4, vi, v2'⟩
  · have e : d_X0_readLaws_r98d d kn X = d_X0_readLaws_r98d_52 31 (min 30 (X.1 32 18)) 0 V := by
      unfold d_X0_readLaws_r98d
      rw [hV]
      by_cases c0 : X.1 101 0 = d
      · rw [if_pos c0]
        by_cases c1 : X.1 101 1 = kn
        · rw [if_pos c1, if_neg (fun y => c ⟨c0, c1, y⟩)]
        · rw [if_neg c1]
      · rw [if_neg c0]
    rw [P.1, show min 30 (r 4) = r 4 from by omega] at e
    obtain ⟨Y, f, y99, y100, yo, y2⟩ := @xr52 (r 4) b' 31 0 V (by omega) b (by omega)
    have fo : ∀ a, a ≠ 98 → a ≠ 101 → a ≠ 99 → a ≠ 100 → Y.1 a = X.1 a := fun a h1 h2 h3 h4 => (yo a h3 h4).trans (vo a h1 h2)
    have f2 : Y.2 = X.2 := y2.trans v2'
    have R := @xr85 r d kn I Ik 31 (r 4 - 1) Y (fun _ => 0) ⟨by rw [fo 32 (by decide) (by decide) (by decide) (by decide)]; exact P.1, fun t' h hx9 => by
      obtain ⟨T', hd', eT', Q'⟩ := P.2 t' h hx9
      exact ⟨T', hd', by rw [f2]; exact eT', pTe_f (fun a h => fo a (by omega) (by omega) (by omega) (by omega)) f2 Q'⟩⟩ (by rw [yo 98 (by decide) (by decide)]; exact v10) (by rw [yo 98 (by decide) (by decide)]; exact v11) (fun u c hu hc => by
        rw [y100 u, if_pos ⟨by omega, hu⟩, bt_0]
        exact ⟨fun y => absurd y (by decide), fun y => absurd rfl y⟩) (fun u hu => by rw [y99 u, if_pos ⟨by omega, by omega⟩]) (by omega) (by omega)
    rw [e, f]
    have q : pXl (d_X0_readLaws_r98d_85 31 (r 4 - 1) Y) r d kn := fun t c h hx9 => R.1 t c (by omega) hx9
    have o : ∀ a, a ≠ 99 → a ≠ 100 → (d_X0_readLaws_r98d_85 31 (r 4 - 1) Y).1 a = V.1 a := fun a h1 h2 => (R.2.2.1 a h1 h2).trans (yo a h1 h2)
    refine ⟨q, fun _ => ?_, ?_, ?_, fun a h1 h2 h3 h4 => (o a h2 h3).trans (vo a h1 h4), fun i h1 h2 => ?_, R.2.2.2.trans f2⟩
    · rw [o 101 (by decide) (by decide), k0, k1]
      exact q
    · rw [o 98 (by decide) (by decide), v10]
    · rw [o 98 (by decide) (by decide), v11]
    · rw [o 98 (by decide) (by decide), vi i h1 h2]
end jG35

section jG36
/-! pure: SUMS and TESTS worked out, the class's and the reference's, as functions of their code -/
def jW0 : jW := (fun _ _ => 0, fun _ _ => 0, fun _ _ => none, fun _ => (0, 0), 0)
def cmb (g x y : Int) : Int := d_X0_combined g x y jW0
theorem cmb_e {g x y : Int} {W : jW} : d_X0_combined g x y W = cmb g x y := rfl
def xE (cd : Nat → Int) (L : Int) (q : Int → Int) : Nat → Int → Int → Int → (Nat → Int) → Int
  | 0, _, _, _, _ => 0
  | f + 1, at', top, n, st =>
    if L ≤ n then -2000000000000 else if at' < 0 then -2000000000000 else if L ≤ at' then -2000000000000 else if 100 ≤ top then -2000000000000 else
    if cd at'.toNat = 1 then xE cd L q f (at' + 2) (top + 1) (n + 1) (sU st top.toNat (if L ≤ at' + 1 then 0 else cd (at' + 1).toNat)) else
    if cd at'.toNat = 2 then xE cd L q f (at' + 2) (top + 1) (n + 1) (sU st top.toNat (q (if L ≤ at' + 1 then 0 else cd (at' + 1).toNat))) else
    if 1 ≤ top then (
      if cd at'.toNat = 0 then st (top - 1).toNat else
      if cd at'.toNat = 10 then xE cd L q f (at' + 1) top (n + 1) (sU st (top - 1).toNat (j_lsub 1 (st (top - 1).toNat))) else
      if cd at'.toNat = 11 then (if st (top - 1).toNat = 1 then xE cd L q f (if L ≤ at' + 1 then 0 else cd (at' + 1).toNat) top (n + 1) st else xE cd L q f (at' + 2) (top - 1) (n + 1) st) else
      if cd at'.toNat = 12 then (if st (top - 1).toNat = 0 then xE cd L q f (if L ≤ at' + 1 then 0 else cd (at' + 1).toNat) top (n + 1) st else xE cd L q f (at' + 2) (top - 1) (n + 1) st) else
      if 2 ≤ top then (if cmb (cd at'.toNat) (st (top - 2).toNat) (st (top - 1).toNat) = -2000000000000 then -2000000000000 else xE cd L q f (at' + 1) (top + (-1)) (n + 1) (sU st ((top + (-1)) - 1).toNat (cmb (cd at'.toNat) (st (top - 2).toNat) (st (top - 1).toNat)))) else -2000000000000)
    else -2000000000000
theorem vL_e {W : jW} {a k : Nat} {x : Int} : (vuL W a k x).2.1 a = sU (W.2.1 a) k x := funext fun j => by
  show (if a = a ∧ j = k then x else W.2.1 a j) = if j = k then x else W.2.1 a j
  by_cases c : j = k
  · rw [if_pos ⟨rfl, c⟩, if_pos c]
  · rw [if_neg (fun y => c y.2), if_neg c]
theorem w74 {K : Int → Nat → Int → Int → Int → jW → (Int × jW)} {p : Int} {c : Nat} {at' top n g m : Int} {W : jW} : d_X0_workOut_r98d_74 K p c at' top n g m W = if g = 1 then K p c (at' + 2) (top + 1) (n + 1) (vuL W 106 top.toNat m) else if g = 2 then K p c (at' + 2) (top + 1) (n + 1) (vuL (d_X0_quantity_r98d m p W).2 106 top.toNat (d_X0_quantity_r98d m p W).1) else if 1 ≤ top then (if g = 0 then (W.2.1 106 (top - 1).toNat, W) else if g = 10 then K p c (at' + 1) top (n + 1) (vuL W 106 (top - 1).toNat (j_lsub 1 (W.2.1 106 (top - 1).toNat))) else if g = 11 then (if W.2.1 106 (top - 1).toNat = 1 then K p c m top (n + 1) W else K p c (at' + 2) (top - 1) (n + 1) W) else if g = 12 then (if W.2.1 106 (top - 1).toNat = 0 then K p c m top (n + 1) W else K p c (at' + 2) (top - 1) (n + 1) W) else if 2 ≤ top then (if cmb g (W.2.1 106 (top - 2).toNat) (W.2.1 106 (top - 1).toNat) = -2000000000000 then (-2000000000000, W) else K p c (at' + 1) (top + (-1)) (n + 1) (vuL W 106 ((top + (-1)) - 1).toNat (cmb g (W.2.1 106 (top - 2).toNat) (W.2.1 106 (top - 1).toNat)))) else (-2000000000000, W)) else (-2000000000000, W) := by
  show (if g = 1 then (if g = 1 then K p c (at' + 2) (top + 1) (n + 1) (vuL W 106 top.toNat m) else _) else if g = 2 then (if g = 1 then _ else K p c (at' + 2) (top + 1) (n + 1) (vuL (d_X0_quantity_r98d m p W).2 106 top.toNat (d_X0_quantity_r98d m p W).1)) else if 1 ≤ top then (if g = 0 then (W.2.1 106 (top - 1).toNat, W) else if g = 10 then K p c (at' + 1) top (n + 1) (vuL W 106 (top - 1).toNat (j_lsub 1 (W.2.1 106 (top - 1).toNat))) else if g = 11 then (if g = 11 then (if W.2.1 106 (top - 1).toNat = 1 then K p c m top (n + 1) W else K p c (at' + 2) (top - 1) (n + 1) W) else _) else if g = 12 then (if g = 11 then _ else (if W.2.1 106 (top - 1).toNat = 0 then K p c m top (n + 1) W else K p c (at' + 2) (top - 1) (n + 1) W)) else if 2 ≤ top then (if cmb g (W.2.1 106 (top - 2).toNat) (W.2.1 106 (top - 1).toNat) = -2000000000000 then (-2000000000000, W) else K p c (at' + 1) (top + (-1)) (n + 1) (vuL W 106 ((top + (-1)) - 1).toNat (cmb g (W.2.1 106 (top - 2).toNat) (W.2.1 106 (top - 1).toNat)))) else (-2000000000000, W)) else (-2000000000000, W)) = _
  by_cases g1 : g = 1
  · rw [if_pos g1, if_pos g1, if_pos g1]
  · rw [if_neg g1, if_neg g1, if_neg g1]
    by_cases g2 : g = 2
    · rw [if_pos g2, if_pos g2]
    · rw [if_neg g2, if_neg g2]
      by_cases h1 : 1 ≤ top
      · rw [if_pos h1, if_pos h1]
        by_cases g0 : g = 0
        · rw [if_pos g0, if_pos g0]
        · rw [if_neg g0, if_neg g0]
          by_cases g10 : g = 10
          · rw [if_pos g10, if_pos g10]
          · rw [if_neg g10, if_neg g10]
            by_cases g11 : g = 11
            · rw [if_pos g11, if_pos g11, if_pos g11]
            · rw [if_neg g11, if_neg g11, if_neg g11]
      · rw [if_neg h1, if_neg h1]
theorem xwk {Inv : jW → Prop} {p : Int} {c : Nat} {cd : Nat → Int} {L : Int} {q : Int → Int} (hq : ∀ W w, Inv W → (d_X0_quantity_r98d w p W).1 = q w ∧ Inv (d_X0_quantity_r98d w p W).2 ∧ (d_X0_quantity_r98d w p W).2.2.1 106 = W.2.1 106) (hc : ∀ W, Inv W → W.1 c = cd ∧ (((W.2.2.2.1 c).2 : Nat) : Int) = L) (hv : ∀ W k x, Inv W → Inv (vuL W 106 k x)) : ∀ (f : Nat) (at' top n : Int) (W : jW), Inv W → (d_X0_workOut_r98d_15 f p c at' top n W).1 = xE cd L q f at' top n (W.2.1 106) ∧ Inv (d_X0_workOut_r98d_15 f p c at' top n W).2 := by
  intro f
  induction f with
  | zero => intro at' top n W h; exact ⟨rfl, h⟩
  | succ f ih =>
    intro at' top n W h
    have e : d_X0_workOut_r98d_15 (f + 1) p c at' top n W = if L ≤ n then (-2000000000000, W) else if at' < 0 then (-2000000000000, W) else if L ≤ at' then (-2000000000000, W) else if 100 ≤ top then (-2000000000000, W) else d_X0_workOut_r98d_74 (fun l3 l4 l5 l6 l7 W => d_X0_workOut_r98d_15 f l3 l4 l5 l6 l7 W) p c at' top n (cd at'.toNat) (if L ≤ at' + 1 then 0 else cd (at' + 1).toNat) W := by
      show (if (((W.2.2.2.1 c).2 : Nat) : Int) ≤ n then (-2000000000000, W) else if at' < 0 then (-2000000000000, W) else if (((W.2.2.2.1 c).2 : Nat) : Int) ≤ at' then (-2000000000000, W) else if 100 ≤ top then (-2000000000000, W) else if (((W.2.2.2.1 c).2 : Nat) : Int) ≤ at' + 1 then d_X0_workOut_r98d_74 (fun l3 l4 l5 l6 l7 W => d_X0_workOut_r98d_15 f l3 l4 l5 l6 l7 W) p c at' top n (W.1 c at'.toNat) 0 W else d_X0_workOut_r98d_74 (fun l3 l4 l5 l6 l7 W => d_X0_workOut_r98d_15 f l3 l4 l5 l6 l7 W) p c at' top n (W.1 c at'.toNat) (W.1 c (at' + 1).toNat) W) = _
      rw [(hc W h).1, (hc W h).2]
      by_cases z : L ≤ at' + 1
      · rw [if_pos z, if_pos z]
      · rw [if_neg z, if_neg z]
    rw [e, w74]
    show _ = (if L ≤ n then -2000000000000 else if at' < 0 then -2000000000000 else if L ≤ at' then -2000000000000 else if 100 ≤ top then -2000000000000 else if cd at'.toNat = 1 then _ else _) ∧ _
    by_cases z1 : L ≤ n
    · rw [if_pos z1, if_pos z1]; exact ⟨rfl, h⟩
    rw [if_neg z1, if_neg z1]
    by_cases z2 : at' < 0
    · rw [if_pos z2, if_pos z2]; exact ⟨rfl, h⟩
    rw [if_neg z2, if_neg z2]
    by_cases z3 : L ≤ at'
    · rw [if_pos z3, if_pos z3]; exact ⟨rfl, h⟩
    rw [if_neg z3, if_neg z3]
    by_cases z4 : 100 ≤ top
    · rw [if_pos z4, if_pos z4]; exact ⟨rfl, h⟩
    rw [if_neg z4, if_neg z4]
    generalize (if L ≤ at' + 1 then 0 else cd (at' + 1).toNat) = m
    generalize cd at'.toNat = g
    by_cases g1 : g = 1
    · rw [if_pos g1, if_pos g1]
      have o := ih (at' + 2) (top + 1) (n + 1) (vuL W 106 top.toNat m) (hv _ _ _ h)
      rw [vL_e] at o
      exact o
    rw [if_neg g1, if_neg g1]
    by_cases g2 : g = 2
    · rw [if_pos g2, if_pos g2]
      have k := hq W m h
      have o := ih (at' + 2) (top + 1) (n + 1) (vuL (d_X0_quantity_r98d m p W).2 106 top.toNat (d_X0_quantity_r98d m p W).1) (hv _ _ _ k.2.1)
      rw [vL_e, k.2.2, k.1] at o
      rw [k.1]
      exact o
    rw [if_neg g2, if_neg g2]
    by_cases h1 : 1 ≤ top
    · rw [if_pos h1, if_pos h1]
      by_cases g0 : g = 0
      · rw [if_pos g0, if_pos g0]; exact ⟨rfl, h⟩
      rw [if_neg g0, if_neg g0]
      by_cases g10 : g = 10
      · rw [if_pos g10, if_pos g10]
        have o := ih (at' + 1) top (n + 1) (vuL W 106 (top - 1).toNat (j_lsub 1 (W.2.1 106 (top - 1).toNat))) (hv _ _ _ h)
        rw [vL_e] at o
        exact o
      rw [if_neg g10, if_neg g10]
      by_cases g11 : g = 11
      · rw [if_pos g11, if_pos g11]
        by_cases y : W.2.1 106 (top - 1).toNat = 1
        · rw [if_pos y, if_pos y]; exact ih _ _ _ W h
        · rw [if_neg y, if_neg y]; exact ih _ _ _ W h
      rw [if_neg g11, if_neg g11]
      by_cases g12 : g = 12
      · rw [if_pos g12, if_pos g12]
        by_cases y : W.2.1 106 (top - 1).toNat = 0
        · rw [if_pos y, if_pos y]; exact ih _ _ _ W h
        · rw [if_neg y, if_neg y]; exact ih _ _ _ W h
      rw [if_neg g12, if_neg g12]
      by_cases h2 : 2 ≤ top
      · rw [if_pos h2, if_pos h2]
        by_cases y : cmb g (W.2.1 106 (top - 2).toNat) (W.2.1 106 (top - 1).toNat) = -2000000000000
        · rw [if_pos y, if_pos y]; exact ⟨rfl, h⟩
        · rw [if_neg y, if_neg y]
          have o := ih (at' + 1) (top + (-1)) (n + 1) (vuL W 106 ((top + (-1)) - 1).toNat (cmb g (W.2.1 106 (top - 2).toNat) (W.2.1 106 (top - 1).toNat))) (hv _ _ _ h)
          rw [vL_e] at o
          exact o
      · rw [if_neg h2, if_neg h2]; exact ⟨rfl, h⟩
    · rw [if_neg h1, if_neg h1]; exact ⟨rfl, h⟩
end jG36

section jG37
/-! pure: SUMS and TESTS worked out at the reference -/
def rkm (a b : Int) : Int := if a = 0 then j_lmul a b else if j_ldiv 1000000000000 (if 0 ≤ a then a else j_lneg a) < b then 1000000000001 else if j_lneg b ≤ j_ldiv 1000000000000 (if 0 ≤ a then a else j_lneg a) then j_lmul a b else 1000000000001
def rkv (o a b : Int) : Int := if o = 9 ∧ b = 0 then 0 else if o = 6 then j_ladd a b else if o = 7 then j_lsub a b else if o = 8 then rkm a b else if o = 9 then j_ldiv a b else if o = 10 then (if b ≤ a then 0 else 1) else if o = 11 then (if a ≤ b then 0 else 1) else if a = b then 1 else 0
theorem rk20 {o a b : Int} {W : jW} : d_X12_reckon_r125d_20 o a b W = ((if o = 6 then j_ladd a b else if o = 7 then j_lsub a b else if o = 8 then rkm a b else if o = 9 then j_ldiv a b else if o = 10 then (if b ≤ a then 0 else 1) else if o = 11 then (if a ≤ b then 0 else 1) else if a = b then 1 else 0), W) := by
  unfold d_X12_reckon_r125d_20
  by_cases o6 : o = 6
  · rw [if_pos o6, if_pos o6]
  rw [if_neg o6, if_neg o6]
  by_cases o7 : o = 7
  · rw [if_pos o7, if_pos o7]
  rw [if_neg o7, if_neg o7]
  by_cases o8 : o = 8
  · rw [if_pos o8, if_pos o8]
    unfold rkm
    by_cases a0 : a = 0
    · rw [if_pos a0, if_pos a0]; rfl
    rw [if_neg a0, if_neg a0]
    by_cases a1 : 0 ≤ a
    · rw [if_pos a1, if_pos a1]
      unfold d_X12_reckon_r125d_93
      by_cases c : j_ldiv 1000000000000 a < b
      · rw [if_pos c, if_pos c]; rfl
      rw [if_neg c, if_neg c, if_pos a1]
      unfold d_X12_reckon_r125d_116
      by_cases c2 : j_lneg b ≤ j_ldiv 1000000000000 a
      · rw [if_pos c2, if_pos c2]; rfl
      · rw [if_neg c2, if_neg c2]; rfl
    · rw [if_neg a1, if_neg a1]
      unfold d_X12_reckon_r125d_93
      by_cases c : j_ldiv 1000000000000 (j_lneg a) < b
      · rw [if_pos c, if_pos c]; rfl
      rw [if_neg c, if_neg c, if_neg a1]
      unfold d_X12_reckon_r125d_116
      by_cases c2 : j_lneg b ≤ j_ldiv 1000000000000 (j_lneg a)
      · rw [if_pos c2, if_pos c2]; rfl
      · rw [if_neg c2, if_neg c2]; rfl
  rw [if_neg o8, if_neg o8]
  by_cases o9 : o = 9
  · rw [if_pos o9, if_pos o9]
  rw [if_neg o9, if_neg o9]
  by_cases o10 : o = 10
  · rw [if_pos o10, if_pos o10]
    by_cases c : b ≤ a
    · rw [if_pos c, if_pos c]; rfl
    · rw [if_neg c, if_neg c]; rfl
  rw [if_neg o10, if_neg o10]
  by_cases o11 : o = 11
  · rw [if_pos o11, if_pos o11]
    by_cases c : a ≤ b
    · rw [if_pos c, if_pos c]; rfl
    · rw [if_neg c, if_neg c]; rfl
  rw [if_neg o11, if_neg o11]
  by_cases c : a = b
  · rw [if_pos c, if_pos c]; rfl
  · rw [if_neg c, if_neg c]; rfl
theorem rk_el {o a b : Int} {W : jW} : d_X12_reckon_r125d o a b W = (rkv o a b, if o = 9 ∧ b = 0 then vu W 125 61 1 else W) := by
  unfold d_X12_reckon_r125d rkv
  rw [rk20]
  by_cases o9 : o = 9
  · rw [if_pos o9]
    by_cases b0 : b = 0
    · rw [if_pos b0, if_pos ⟨o9, b0⟩, if_pos ⟨o9, b0⟩]
    · rw [if_neg b0, if_neg (c := o = 9 ∧ b = 0) (fun y => b0 y.2), if_neg (c := o = 9 ∧ b = 0) (fun y => b0 y.2)]
  · rw [if_neg o9, if_neg (c := o = 9 ∧ b = 0) (fun y => o9 y.1), if_neg (c := o = 9 ∧ b = 0) (fun y => o9 y.1)]
def mEf (bk top : Int) (st : Nat → Int) : Int × Int := (bk, if top ≤ 0 then 0 else st 0)
def mE (r : Nat → Int) (t last v0 : Int) (q : Int → Int) : Nat → Int → Int → Int → (Nat → Int) → Int × Int
  | 0, _, _, bk, _ => (bk, v0)
  | f + 1, top, k, bk, st =>
    if last ≤ k then mEf bk top st else if bk = 0 then (
    if r (((18820 + (924 * t)) + 124) + (2 * k)).toNat = 0 then mE r t last v0 q f (top + 1) (k + 1) bk (sU st top.toNat (r ((((18820 + (924 * t)) + 124) + (2 * k)) + 1).toNat)) else
    if 6 ≤ r (((18820 + (924 * t)) + 124) + (2 * k)).toNat then (
      if 12 < r (((18820 + (924 * t)) + 124) + (2 * k)).toNat then (
        if 18 ≤ r (((18820 + (924 * t)) + 124) + (2 * k)).toNat then (
          if r (((18820 + (924 * t)) + 124) + (2 * k)).toNat = 18 then mE r t last v0 q f top (k + 1) bk (sU st (top - 1).toNat (j_lsub 1 (st (top - 1).toNat)))
          else if st (top - 1).toNat = (if r (((18820 + (924 * t)) + 124) + (2 * k)).toNat = 19 then 0 else 1) then mE r t last v0 q f top (r ((((18820 + (924 * t)) + 124) + (2 * k)) + 1).toNat) bk st else mE r t last v0 q f (top + (-1)) (k + 1) bk st)
        else mE r t last v0 q f (top + 1) (k + 1) bk (sU st top.toNat (q ((r (((18820 + (924 * t)) + 124) + (2 * k)).toNat - 13) + 5))))
      else mE r t last v0 q f (top + (-1)) (k + 1) (if r (((18820 + (924 * t)) + 124) + (2 * k)).toNat = 9 ∧ st (top + (-1)).toNat = 0 then 1 else if (-1000000000000) ≤ rkv (r (((18820 + (924 * t)) + 124) + (2 * k)).toNat) (st ((top + (-1)) - 1).toNat) (st (top + (-1)).toNat) ∧ rkv (r (((18820 + (924 * t)) + 124) + (2 * k)).toNat) (st ((top + (-1)) - 1).toNat) (st (top + (-1)).toNat) ≤ 1000000000000 then 0 else 1) (sU st ((top + (-1)) - 1).toNat (rkv (r (((18820 + (924 * t)) + 124) + (2 * k)).toNat) (st ((top + (-1)) - 1).toNat) (st (top + (-1)).toNat))))
    else mE r t last v0 q f (top + 1) (k + 1) bk (sU st top.toNat (q (j_isub (r (((18820 + (924 * t)) + 124) + (2 * k)).toNat) 1))))
    else mEf bk top st
def pG (Inv : jW → Prop) (V : jW) (z : Int × Int) : Prop := (V.1 125 61, V.2.1 125 62) = z ∧ Inv V
theorem mrn {Inv : jW → Prop} {t last s d v0 : Int} {r : Nat → Int} {q : Int → Int} (hq : ∀ W w, Inv W → (d_X12_fact2_r125d s d w W).1 = q w ∧ Inv (d_X12_fact2_r125d s d w W).2 ∧ (d_X12_fact2_r125d s d w W).2.2.1 154 = W.2.1 154 ∧ (d_X12_fact2_r125d s d w W).2.2.1 125 62 = W.2.1 125 62 ∧ (d_X12_fact2_r125d s d w W).2.1 125 61 = W.1 125 61) (hr : ∀ W, Inv W → W.1 126 = r) (hv : ∀ W k x, Inv W → Inv (vuL W 154 k x)) (hb : ∀ W x, Inv W → Inv (vu W 125 61 x)) (hz : ∀ W x, Inv W → Inv (vuL W 125 62 x)) : ∀ (f : Nat) (top k : Int) (W : jW), Inv W → W.2.1 125 62 = v0 → pG Inv (d_X12_run_r125d_11 f t last s d top k W) (mE r t last v0 q f top k (W.1 125 61) (W.2.1 154)) := by
  intro f
  induction f with
  | zero =>
    intro top k W h h0
    refine ⟨?_, h⟩
    show (W.1 125 61, W.2.1 125 62) = (W.1 125 61, v0)
    rw [h0]
  | succ f ih =>
    intro top k W h h0
    have fin : pG Inv (d_X12_run_r125d_304 top W) (mEf (W.1 125 61) top (W.2.1 154)) := by
      unfold d_X12_run_r125d_304 mEf
      by_cases c : top ≤ 0
      · rw [if_pos c, if_pos c]; exact ⟨rfl, hz _ _ h⟩
      · rw [if_neg c, if_neg c]; exact ⟨rfl, hz _ _ h⟩
    have e := hr W h
    show pG Inv (if last ≤ k then d_X12_run_r125d_304 top W else if W.1 125 61 = 0 then _ else d_X12_run_r125d_304 top W) (if last ≤ k then mEf (W.1 125 61) top (W.2.1 154) else if W.1 125 61 = 0 then _ else mEf (W.1 125 61) top (W.2.1 154))
    by_cases z1 : last ≤ k
    · rw [if_pos z1, if_pos z1]; exact fin
    rw [if_neg z1, if_neg z1]
    by_cases z2 : W.1 125 61 = 0
    · rw [if_pos z2, if_pos z2, e]
      generalize r (((18820 + (924 * t)) + 124) + (2 * k)).toNat = o
      generalize r ((((18820 + (924 * t)) + 124) + (2 * k)) + 1).toNat = a
      by_cases o0 : o = 0
      · rw [if_pos o0, if_pos o0]
        have y := ih (top + 1) (k + 1) (vuL W 154 top.toNat a) (hv _ _ _ h) h0
        rw [vL_e] at y
        exact y
      rw [if_neg o0, if_neg o0]
      by_cases o6 : 6 ≤ o
      · rw [if_pos o6, if_pos o6]
        by_cases o12 : 12 < o
        · rw [if_pos o12, if_pos o12]
          by_cases o18 : 18 ≤ o
          · rw [if_pos o18, if_pos o18]
            by_cases e18 : o = 18
            · rw [if_pos e18, if_pos e18]
              have y := ih top (k + 1) (vuL W 154 (top - 1).toNat (j_lsub 1 (W.2.1 154 (top - 1).toNat))) (hv _ _ _ h) h0
              rw [vL_e] at y
              exact y
            rw [if_neg e18, if_neg e18]
            by_cases e19 : o = 19
            · rw [if_pos e19, if_pos e19]
              unfold d_X12_run_r125d_5000287
              by_cases u : W.2.1 154 (top - 1).toNat = 0
              · rw [if_pos u, if_pos u]; exact ih top a W h h0
              · rw [if_neg u, if_neg u]; exact ih (top + (-1)) (k + 1) W h h0
            · rw [if_neg e19, if_neg e19]
              unfold d_X12_run_r125d_5000287
              by_cases u : W.2.1 154 (top - 1).toNat = 1
              · rw [if_pos u, if_pos u]; exact ih top a W h h0
              · rw [if_neg u, if_neg u]; exact ih (top + (-1)) (k + 1) W h h0
          · rw [if_neg o18, if_neg o18]
            have g := hq W (o - 13 + 5) h
            have y := ih (top + 1) (k + 1) (vuL (d_X12_fact2_r125d s d (o - 13 + 5) W).2 154 top.toNat (d_X12_fact2_r125d s d (o - 13 + 5) W).1) (hv _ _ _ g.2.1) (by
              show (d_X12_fact2_r125d s d (o - 13 + 5) W).2.2.1 125 62 = v0
              rw [g.2.2.2.1]; exact h0)
            rw [vL_e, g.2.2.1, g.1] at y
            rw [g.1]
            refine ⟨y.1.trans ?_, y.2⟩
            show mE r t last v0 q f (top + 1) (k + 1) ((d_X12_fact2_r125d s d (o - 13 + 5) W).2.1 125 61) _ = _
            rw [g.2.2.2.2]
        · rw [if_neg o12, if_neg o12, rk_el]
          show pG Inv (if (if o = 9 ∧ W.2.1 154 (top + (-1)).toNat = 0 then vu W 125 61 1 else W).1 125 61 = 0 then _ else _) _
          generalize hv' : rkv o (W.2.1 154 ((top + (-1)) - 1).toNat) (W.2.1 154 (top + (-1)).toNat) = v
          by_cases u : o = 9 ∧ W.2.1 154 (top + (-1)).toNat = 0
          · rw [if_pos u, if_pos u, if_neg (show ¬ (vu W 125 61 1).1 125 61 = 0 from fun z => absurd (show (1 : Int) = 0 from z) (by decide))]
            have y := ih (top + (-1)) (k + 1) (vu (vuL (vu W 125 61 1) 154 ((top + (-1)) - 1).toNat v) 125 61 1) (hb _ _ (hv _ _ _ (hb _ _ h))) h0
            refine ⟨y.1.trans ?_, y.2⟩
            exact congrArg (fun z => mE r t last v0 q f (top + (-1)) (k + 1) 1 z) vL_e
          · rw [if_neg u, if_neg u, if_pos z2]
            have vl : (vuL W 154 ((top + (-1)) - 1).toNat v).2.1 154 ((top + (-1)) - 1).toNat = v := if_pos ⟨rfl, rfl⟩
            rw [vl]
            by_cases w : (-1000000000000) ≤ v ∧ v ≤ 1000000000000
            · rw [if_pos w, if_pos w]
              have y := ih (top + (-1)) (k + 1) (vu (vuL W 154 ((top + (-1)) - 1).toNat v) 125 61 0) (hb _ _ (hv _ _ _ h)) h0
              refine ⟨y.1.trans ?_, y.2⟩
              exact congrArg (fun z => mE r t last v0 q f (top + (-1)) (k + 1) 0 z) vL_e
            · rw [if_neg w, if_neg w]
              have y := ih (top + (-1)) (k + 1) (vu (vuL W 154 ((top + (-1)) - 1).toNat v) 125 61 1) (hb _ _ (hv _ _ _ h)) h0
              refine ⟨y.1.trans ?_, y.2⟩
              exact congrArg (fun z => mE r t last v0 q f (top + (-1)) (k + 1) 1 z) vL_e
      · rw [if_neg o6, if_neg o6]
        have g := hq W (j_isub o 1) h
        have y := ih (top + 1) (k + 1) (vuL (d_X12_fact2_r125d s d (j_isub o 1) W).2 154 top.toNat (d_X12_fact2_r125d s d (j_isub o 1) W).1) (hv _ _ _ g.2.1) (by
          show (d_X12_fact2_r125d s d (j_isub o 1) W).2.2.1 125 62 = v0
          rw [g.2.2.2.1]; exact h0)
        rw [vL_e, g.2.2.1, g.1] at y
        rw [g.1]
        refine ⟨y.1.trans ?_, y.2⟩
        show mE r t last v0 q f (top + 1) (k + 1) ((d_X12_fact2_r125d s d (j_isub o 1) W).2.1 125 61) _ = _
        rw [g.2.2.2.2]
    · rw [if_neg z2, if_neg z2]; exact fin
end jG37

section jG38
/-! pure: CLAUSES that hold: what they rest on -/
theorem pc_n {l : List (Nat × Nat)} {c k : Nat} (e : (l.any fun q => Nat.beq q.1 c) = false) : pc l c k = false := by
  unfold pc
  rw [List.any_eq_false] at e ⊢
  intro q hq z
  rw [Bool.and_eq_true] at z
  exact e q hq z.1
theorem fwx_b {c : Nat} (h : 174 ≤ c) : (fw_X0_weigh_r98d.any fun q => Nat.beq q.1 c) = false := by
  have b : ∀ n : Nat, n < 174 → Nat.beq n c = false := fun n hn => by
    cases e : Nat.beq n c
    · rfl
    · have := Nat.eq_of_beq_eq_true e
      omega
  unfold fw_X0_weigh_r98d
  simp only [List.any_cons, List.any_nil, b 85 (by decide), b 98 (by decide), b 106 (by decide), Bool.or_self]
theorem pXq_F {X W : jW} {E : pE} {g : Nat → Int} {d kn : Int} (h : pF fw_X0_weigh_r98d X W) (Q : pXq X E g d kn) : pXq W E g d kn := by
  obtain ⟨⟨a1, a2, a3, a4, a5, a6, a7, a8⟩, ⟨b1, b2⟩, c1, c2, t1, t2, t3⟩ := Q
  refine ⟨⟨a1, a2, ?_, ?_, ?_, ?_, ?_, a8⟩, ⟨?_, ?_⟩, ?_, ?_, ?_, t2, ?_⟩
  · rw [pF_c h rfl]; exact a3
  · rw [pF_c h rfl]; exact a4
  · rw [pF_c h rfl]; exact a5
  · rw [pF_c h rfl]; exact a6
  · intro m hm
    unfold pSl
    rw [pF_c h (c := 79) rfl, pF_c h (c := 80) rfl, pF_c h (c := 81) rfl]
    exact a7 m hm
  · rw [pF_c h rfl]; exact b1
  · intro q hq
    rw [pF_c h (c := 102) rfl, pF_c h (c := 103) rfl]
    exact b2 q hq
  · rw [h.1 98 10 rfl]; exact c1
  · rw [h.1 98 11 rfl]; exact c2
  · rw [pF_c h rfl]; exact t1
  · intro i c hi hc
    rw [pF_c h rfl]; exact t3 i c hi hc
theorem pMs_F {M W : jW} {E : pE} {g : Nat → Int} (h : pF fw_X12_findCount_r125d M W) (Q : pMs M E g) : pMs W E g := by
  obtain ⟨a1, a2, a3, a4, a5, a6, a7⟩ := Q
  refine ⟨?_, a2, a3, a4, a5, a6, ?_⟩
  · rw [← a1]
    unfold eOf
    rw [pF_c h (c := 126) rfl, pF_c h (c := 132) rfl, pF_c h (c := 133) rfl, pF_c h (c := 134) rfl, h.1 125 27 rfl]
  · rw [pF_c h rfl]; exact a7
def qOk (q : Int → Int) : Prop := ∀ w : Int, 0 ≤ w → w ≤ 9 → (-1000000000000 ≤ q w ∧ q w ≤ 1000000000000) ∧ (5 ≤ w → q w = 0 ∨ q w = 1)
/-- a SUM or a TEST of the class comes to what the reference's does -/
def pEx (cd : Nat → Int) (L : Int) (r : Nat → Int) (t fr first last : Int) (ts : Prop) : Prop := ∀ q, qOk q → ∀ (st st' : Nat → Int) (v0 : Int), ((mE r t last v0 q 4294967296 0 first 0 st').1 = 0 ∧ xE cd L q 1201 fr 0 0 st = (mE r t last v0 q 4294967296 0 first 0 st').2 ∧ (-2000000000000 < xE cd L q 1201 fr 0 0 st ∧ xE cd L q 1201 fr 0 0 st ≤ 1000000000000) ∧ (ts → xE cd L q 1201 fr 0 0 st = 0 ∨ xE cd L q 1201 fr 0 0 st = 1)) ∨ ((mE r t last v0 q 4294967296 0 first 0 st').1 ≠ 0 ∧ xE cd L q 1201 fr 0 0 st = -2000000000000)
def sEv (r : Nat → Int) (t first last : Int) (q : Int → Int) : Int × Int := mE r t last 0 q 4294967296 0 first 0 (fun _ => 0)
theorem pEx_m {cd : Nat → Int} {L : Int} {r : Nat → Int} {t fr first last : Int} {ts : Prop} {q : Int → Int} (P : pEx cd L r t fr first last ts) (hq : qOk q) (st' : Nat → Int) (v0 : Int) : ((mE r t last v0 q 4294967296 0 first 0 st').1 = 0 ↔ (sEv r t first last q).1 = 0) ∧ ((sEv r t first last q).1 = 0 → (mE r t last v0 q 4294967296 0 first 0 st').2 = (sEv r t first last q).2) := by
  unfold sEv
  generalize h4 : (4294967296 : Nat) = N at *
  have a := P q hq (fun _ => 0) st' v0
  have b := P q hq (fun _ => 0) (fun _ => 0) 0
  rw [h4] at a b
  generalize xE cd L q 1201 fr 0 0 (fun _ => 0) = x at a b
  generalize mE r t last v0 q N 0 first 0 st' = m at *
  generalize mE r t last 0 q N 0 first 0 (fun _ => 0) = k at *
  rcases a with ⟨a1, a2, a3, _⟩ | ⟨a1, a2⟩
  · rcases b with ⟨b1, b2, b3, _⟩ | ⟨b1, b2⟩
    · exact ⟨⟨fun _ => b1, fun _ => a1⟩, fun _ => by rw [← a2, ← b2]⟩
    · exfalso; omega
  · rcases b with ⟨b1, b2, b3, _⟩ | ⟨b1, b2⟩
    · exfalso; omega
    · exact ⟨⟨fun z => absurd z a1, fun z => absurd z b1⟩, fun z => absurd z b1⟩
theorem pEx_x {cd : Nat → Int} {L : Int} {r : Nat → Int} {t fr first last : Int} {ts : Prop} {q : Int → Int} (P : pEx cd L r t fr first last ts) (hq : qOk q) (st : Nat → Int) : ((sEv r t first last q).1 = 0 ∧ xE cd L q 1201 fr 0 0 st = (sEv r t first last q).2 ∧ xE cd L q 1201 fr 0 0 st ≠ -2000000000000 ∧ (ts → xE cd L q 1201 fr 0 0 st = 0 ∨ xE cd L q 1201 fr 0 0 st = 1)) ∨ ((sEv r t first last q).1 ≠ 0 ∧ xE cd L q 1201 fr 0 0 st = -2000000000000) := by
  rcases P q hq st (fun _ => 0) 0 with ⟨a1, a2, a3, a4⟩ | h
  · exact Or.inl ⟨a1, a2, by omega, a4⟩
  · exact Or.inr h
theorem pEx_b {cd : Nat → Int} {L : Int} {r : Nat → Int} {t fr first last : Int} {ts : Prop} {q : Int → Int} (P : pEx cd L r t fr first last ts) (hq : qOk q) (h : (sEv r t first last q).1 = 0) : -2000000000000 < (sEv r t first last q).2 ∧ (sEv r t first last q).2 ≤ 1000000000000 := by
  rcases P q hq (fun _ => 0) (fun _ => 0) 0 with ⟨a1, a2, a3, a4⟩ | h2
  · have e : xE cd L q 1201 fr 0 0 (fun _ => 0) = (sEv r t first last q).2 := a2
    rw [← e]; exact a3
  · exact absurd h h2.1
/-- the code of one SUM or TEST of a CLAUSE; y its column in the class's head, a and b the reference's ends -/
def pCc (h cd : Nat → Int) (L : Int) (r : Nat → Int) (t c y a b : Int) (ts : Prop) : Prop := (h (c * 6 + y).toNat = -1 ↔ b ≤ a) ∧ (h (c * 6 + y).toNat ≠ -1 → pEx cd L r t (h (c * 6 + y).toNat) a b ts)
def pCo (X : jW) (r : Nat → Int) (t : Int) (T hd : Nat) : Prop := ∃ cd : Nat, 174 ≤ cd ∧ X.2.2.1 T 5 = some cd ∧ ∀ c : Int, 0 ≤ c → c < r ((18820 + (924 * t)) + 3).toNat → r (((18820 + (924 * t)) + 4) + (10 * c)).toNat ≠ 0 →
  pCc (X.1 hd) (X.1 cd) (((X.2.2.2.1 cd).2 : Nat) : Int) r t c 3 (r ((((18820 + (924 * t)) + 4) + (10 * c)) + 4).toNat) (r ((((18820 + (924 * t)) + 4) + (10 * c)) + 5).toNat) False ∧
  pCc (X.1 hd) (X.1 cd) (((X.2.2.2.1 cd).2 : Nat) : Int) r t c 4 (r ((((18820 + (924 * t)) + 4) + (10 * c)) + 6).toNat) (r ((((18820 + (924 * t)) + 4) + (10 * c)) + 7).toNat) True ∧
  pCc (X.1 hd) (X.1 cd) (((X.2.2.2.1 cd).2 : Nat) : Int) r t c 5 (r ((((18820 + (924 * t)) + 4) + (10 * c)) + 8).toNat) (r ((((18820 + (924 * t)) + 4) + (10 * c)) + 9).toNat) True
/-- TEXTS of the class and of the reference, with their code -/
def pTc (X : jW) (r : Nat → Int) : Prop := X.1 32 18 = r 4 ∧ ∀ t : Int, 0 ≤ t → t < r 4 → ∃ T hd : Nat, X.2.2.1 66 t.toNat = some T ∧ pTe X r t T hd ∧ pCo X r t T hd
theorem pTc_h {X : jW} {r : Nat → Int} (P : pTc X r) : pTh X r := ⟨P.1, fun t h hx9 => by
  obtain ⟨T, hd, e, Q, _⟩ := P.2 t h hx9
  exact ⟨T, hd, e, Q⟩⟩
theorem pCo_F {X W : jW} {r : Nat → Int} {t : Int} {T hd : Nat} (hT : 174 ≤ T) (hh : 174 ≤ hd) (h : pF fw_X0_weigh_r98d X W) (P : pCo X r t T hd) : pCo W r t T hd := by
  obtain ⟨cd, h1, h2, h3⟩ := P
  refine ⟨cd, h1, by rw [h.2.2.1 T 5 (pc_n (fwx_b hT))]; exact h2, ?_⟩
  rw [pF_c h (fwx_b hh), pF_c h (fwx_b h1), h.2.2.2]
  exact h3
theorem pTe_F {X W : jW} {r : Nat → Int} {t : Int} {T hd : Nat} (h : pF fw_X0_weigh_r98d X W) (P : pTe X r t T hd) : pTe W r t T hd := by
  obtain ⟨a, b, p0, p1, p2, p3, p4, p5⟩ := P
  refine ⟨a, b, ?_, ?_, ?_, ?_, ?_, fun c hc hc' => ?_⟩
  · rw [pF_c h (fwx_b a)]; exact p0
  · rw [pF_c h (fwx_b a)]; exact p1
  · rw [pF_c h (fwx_b a)]; exact p2
  · rw [pF_c h (fwx_b a)]; exact p3
  · rw [h.2.2.1 T 4 (pc_n (fwx_b a))]; exact p4
  · rw [pF_c h (fwx_b b)]; exact p5 c hc hc'
theorem pTc_F {X W : jW} {r : Nat → Int} (h : pF fw_X0_weigh_r98d X W) (P : pTc X r) : pTc W r := by
  refine ⟨by rw [pF_c h rfl]; exact P.1, fun t h1 h2 => ?_⟩
  obtain ⟨T, hd, e, Q, R⟩ := P.2 t h1 h2
  exact ⟨T, hd, by rw [h.2.2.1 66 _ (pc_n rfl)]; exact e, pTe_F h Q, pCo_F Q.1 Q.2.1 h R⟩
/-- working out at the class, from any view that differs from X by scratch alone -/
theorem xwo2 {X W : jW} {E : pE} {g : Nat → Int} {d kn : Int} {p T cd : Nat} {fr : Int} (Q : pXq X E g d kn) (I : pIq E g) (hd : 0 ≤ d ∧ d ≤ 146399) (hp : p < sNl E) (ep : g p = (p : Int)) (hT : 174 ≤ T) (hc : 174 ≤ cd) (eT : X.2.2.1 T 5 = some cd) (h : pF fw_X0_weigh_r98d X W) : (d_X0_workOut_r98d T fr (p : Int) W).1 = xE (X.1 cd) (((X.2.2.2.1 cd).2 : Nat) : Int) (fun w => sQu E g d kn w (p : Int)) 1201 fr 0 0 (W.2.1 106) ∧ pF fw_X0_weigh_r98d X (d_X0_workOut_r98d T fr (p : Int) W).2 := by
  unfold d_X0_workOut_r98d
  rw [h.2.2.1 T 5 (pc_n (fwx_b hT)), eT]
  exact xwk (Inv := pF fw_X0_weigh_r98d X) (fun V w hV => ⟨xqu (pXq_F hV Q) I hd hp ep, pF_t hV (pF_m rfl (fr_d_X0_quantity_r98d _ _ _)), funext fun k => (fr_d_X0_quantity_r98d w (p : Int) V).2.1 106 k (pc_n rfl)⟩) (fun V hV => ⟨pF_c hV (fwx_b hc), by rw [hV.2.2.2]⟩) (fun V k x hV => pF_vL hV rfl) 1201 fr 0 0 W h
theorem mru {M W : jW} {E : pE} {g : Nat → Int} {d kn t s first last : Int} (Q : pMs M E g) (I : pIq E g) (hn : M.1 125 28 = kn) (hd : 0 ≤ d ∧ d ≤ 146399) (hs : s ≠ -1) (h : pF fw_X12_findCount_r125d M W) : ((d_X12_run_r125d t first last s d W).1 125 61, (d_X12_run_r125d t first last s d W).2.1 125 62) = mE E.1 t last (W.2.1 125 62) (fun w => sQu E g d kn w s) 4294967296 0 first 0 (W.2.1 154) ∧ pF fw_X12_findCount_r125d M (d_X12_run_r125d t first last s d W) := by
  unfold d_X12_run_r125d
  exact mrn (Inv := pF fw_X12_findCount_r125d M) (r := E.1) (fun V w hV => ⟨mqu (pMs_F hV Q) ((hV.1 125 28 rfl).trans hn) I hd hs, pF_t hV (pF_m rfl (fr_d_X12_fact2_r125d _ _ _ _)), funext fun k => (fr_d_X12_fact2_r125d s d w V).2.1 154 k (pc_n rfl), (fr_d_X12_fact2_r125d s d w V).2.1 125 62 rfl, (fr_d_X12_fact2_r125d s d w V).1 125 61 rfl⟩) (fun V hV => by
    rw [← Q.1]
    exact pF_c hV rfl) (fun V k x hV => pF_vL hV rfl) (fun V x hV => pF_u hV rfl) (fun V x hV => pF_uL hV rfl) 4294967296 0 first (vu W 125 61 0) (pF_u h rfl) rfl
end jG38

section jG39
/-! pure: CLAUSES that hold, at the class and at the reference -/
theorem vL_s {W : jW} {a k : Nat} {x : Int} : (vuL W a k x).2.1 a k = x := if_pos ⟨rfl, rfl⟩
def sHd (r : Nat → Int) (d kn t c : Int) (q : Int → Int) : Prop := r (((18820 + (924 * t)) + 4) + (10 * c)).toNat ≠ 0 ∧ (sLo r d kn t ∧ sLs r d kn ((12 * t) + c).toNat = 0) ∧ (r ((((18820 + (924 * t)) + 4) + (10 * c)) + 7).toNat ≤ r ((((18820 + (924 * t)) + 4) + (10 * c)) + 6).toNat ∨ ((sEv r t (r ((((18820 + (924 * t)) + 4) + (10 * c)) + 6).toNat) (r ((((18820 + (924 * t)) + 4) + (10 * c)) + 7).toNat) q).1 = 0 ∧ (sEv r t (r ((((18820 + (924 * t)) + 4) + (10 * c)) + 6).toNat) (r ((((18820 + (924 * t)) + 4) + (10 * c)) + 7).toNat) q).2 ≠ 0)) ∧ (r ((((18820 + (924 * t)) + 4) + (10 * c)) + 9).toNat ≤ r ((((18820 + (924 * t)) + 4) + (10 * c)) + 8).toNat ∨ ((sEv r t (r ((((18820 + (924 * t)) + 4) + (10 * c)) + 8).toNat) (r ((((18820 + (924 * t)) + 4) + (10 * c)) + 9).toNat) q).1 = 0 ∧ (sEv r t (r ((((18820 + (924 * t)) + 4) + (10 * c)) + 8).toNat) (r ((((18820 + (924 * t)) + 4) + (10 * c)) + 9).toNat) q).2 = 0)) ∧ (r ((((18820 + (924 * t)) + 4) + (10 * c)) + 5).toNat ≤ r ((((18820 + (924 * t)) + 4) + (10 * c)) + 4).toNat ∨ (sEv r t (r ((((18820 + (924 * t)) + 4) + (10 * c)) + 4).toNat) (r ((((18820 + (924 * t)) + 4) + (10 * c)) + 5).toNat) q).1 = 0)
def sSm (r : Nat → Int) (t c : Int) (q : Int → Int) : Int := if r ((((18820 + (924 * t)) + 4) + (10 * c)) + 5).toNat ≤ r ((((18820 + (924 * t)) + 4) + (10 * c)) + 4).toNat then 0 else (sEv r t (r ((((18820 + (924 * t)) + 4) + (10 * c)) + 4).toNat) (r ((((18820 + (924 * t)) + 4) + (10 * c)) + 5).toNat) q).2
/-- an answer of holdsFor: whether, and then the SUM in its place; nothing but scratch has changed -/
def pAz (X : jW) (P : Prop) (v : Int) (z : Int × jW) : Prop := z.1 = tv P ∧ (P → z.2.2.1 98 12 = v) ∧ pF fw_X0_weigh_r98d X z.2
theorem pAz_0 {X W : jW} {P : Prop} {v : Int} (h : ¬ P) (f : pF fw_X0_weigh_r98d X W) : pAz X P v (0, W) := ⟨(tv_f h).symm, fun z => absurd z h, f⟩
theorem xho {X : jW} {E : pE} {g : Nat → Int} {d kn t c : Int} {p : Nat} (Q : pXq X E g d kn) (I : pIq E g) (hd : 0 ≤ d ∧ d ≤ 146399) (hp : p < sNl E) (ep : g p = (p : Int)) (P : pTc X E.1) (Ik : pIk E.1) (Il : pIl E.1) (L : pXl X E.1 d kn) (O : qOk fun w => sQu E g d kn w (p : Int)) (ht : 0 ≤ t ∧ t < E.1 4) (hc : 0 ≤ c ∧ c < E.1 ((18820 + (924 * t)) + 3).toNat) {W : jW} (h : pF fw_X0_weigh_r98d X W) : pAz X (sHd E.1 d kn t c fun w => sQu E g d kn w (p : Int)) (sSm E.1 t c fun w => sQu E g d kn w (p : Int)) (d_X0_holdsFor_r98d t c (p : Int) W) := by
  obtain ⟨T, hd', eT, Qe, cd, hcd, e5, C⟩ := P.2 t ht.1 ht.2
  have J := Il.2.2 t ht.1 ht.2
  have K := Ik t ht.1 ht.2 c hc.1 hc.2
  have H := Qe.2.2.2.2.2.2.2 c hc.1 hc.2
  have wo := fun {fr : Int} {V : jW} (hV : pF fw_X0_weigh_r98d X V) => xwo2 (fr := fr) Q I hd hp ep Qe.1 hcd e5 hV
  have he := fun {y : Int} {V : jW} (hy : 0 ≤ y ∧ y < 6) (hV : pF fw_X0_weigh_r98d X V) => (he_e (pTe_F hV Qe) hc.1 hc.2 hy).trans (congrFun (pF_c hV (fwx_b Qe.2.1)) _)
  generalize hq : (fun w => sQu E g d kn w (p : Int)) = q at *
  have hx9 : pF fw_X0_weigh_r98d X (vuL W 98 12 0) := pF_uL h rfl
  have b99 : j_iand (j_ishr (X.1 99 t.toNat) c) 1 = 1 ↔ sLo E.1 d kn t ∧ sLs E.1 d kn ((12 * t) + c).toNat = 0 := by
    have f := @bt_g (X.1 99 t.toNat) c.toNat (by omega)
    have l := L t.toNat c.toNat (by omega) (by omega)
    rw [show ((t.toNat : Nat) : Int) = t from by omega, show 12 * t.toNat + c.toNat = ((12 * t) + c).toNat from by omega] at l
    rw [show ((c.toNat : Nat) : Int) = c from by omega] at f l
    exact f.trans (l.trans ⟨fun y => ⟨y.1, y.2.2⟩, fun y => ⟨y.1, hc.2, y.2⟩⟩)
  show pAz X _ _ (if W.1 32 18 ≤ t then (0, vuL W 98 12 0) else if (W.2.2.1 66 t.toNat).isNone = true then (0, vuL W 98 12 0) else if W.1 32 18 ≤ t then (0, vuL W 98 12 0) else if j_iand (j_ishr (W.1 99 t.toNat) c) 1 = 1 then (if d_head ((W.2.2.1 66 t.toNat).getD 0) c 0 (vuL W 98 12 0) = 8 then (0, vuL W 98 12 0) else if d_head ((W.2.2.1 66 t.toNat).getD 0) c 4 (vuL W 98 12 0) = -1 then d_X0_holdsFor_r98d_71 c (p : Int) ((W.2.2.1 66 t.toNat).getD 0) (vuL W 98 12 0) else if (d_X0_workOut_r98d ((W.2.2.1 66 t.toNat).getD 0) (d_head ((W.2.2.1 66 t.toNat).getD 0) c 4 (vuL W 98 12 0)) (p : Int) (vuL W 98 12 0)).1 = 1 then d_X0_holdsFor_r98d_71 c (p : Int) ((W.2.2.1 66 t.toNat).getD 0) (d_X0_workOut_r98d ((W.2.2.1 66 t.toNat).getD 0) (d_head ((W.2.2.1 66 t.toNat).getD 0) c 4 (vuL W 98 12 0)) (p : Int) (vuL W 98 12 0)).2 else (0, (d_X0_workOut_r98d ((W.2.2.1 66 t.toNat).getD 0) (d_head ((W.2.2.1 66 t.toNat).getD 0) c 4 (vuL W 98 12 0)) (p : Int) (vuL W 98 12 0)).2)) else (0, vuL W 98 12 0))
  rw [h.2.2.1 66 _ (pc_n rfl), eT, if_neg (show ¬ (some T).isNone = true from fun y => Bool.noConfusion y), show (some T).getD 0 = T from rfl, pF_c h (c := 32) rfl, P.1, if_neg (show ¬ E.1 4 ≤ t from by omega), if_neg (show ¬ E.1 4 ≤ t from by omega), pF_c h (c := 99) rfl, he (by decide) hx9, he (by decide) hx9, H.1]
  by_cases a1 : j_iand (j_ishr (X.1 99 t.toNat) c) 1 = 1
  · rw [if_pos a1]
    have f1 := b99.mp a1
    by_cases a2 : E.1 (((18820 + (924 * t)) + 4) + (10 * c)).toNat = 0
    · rw [if_pos a2, if_pos rfl]
      exact pAz_0 (fun y => y.1 a2) hx9
    rw [if_neg a2, if_neg (show ¬ E.1 (((18820 + (924 * t)) + 4) + (10 * c)).toNat - 1 = 8 from by omega)]
    obtain ⟨C3, C4, C5⟩ := C c hc.1 hc.2 a2
    have s130 : ∀ V, pF fw_X0_weigh_r98d X V → ∀ v, V.2.1 98 12 = v → (sHd E.1 d kn t c q ↔ v ≠ -2000000000000) → (sHd E.1 d kn t c q → v = sSm E.1 t c q) → pAz X (sHd E.1 d kn t c q) (sSm E.1 t c q) (d_X0_holdsFor_r98d_130 V) := fun V hV v ev i1 i2 => by
      show pAz X _ _ (if V.2.1 98 12 = -2000000000000 then (0, V) else (1, V))
      rw [ev]
      by_cases b : v = -2000000000000
      · rw [if_pos b]
        exact pAz_0 (fun y => i1.mp y b) hV
      · rw [if_neg b]
        exact ⟨(tv_t (i1.mpr b)).symm, fun y => ev.trans (i2 y), hV⟩
    have s102 : ∀ V, pF fw_X0_weigh_r98d X V → V.2.1 98 12 = 0 → ((E.1 ((((18820 + (924 * t)) + 4) + (10 * c)) + 7).toNat ≤ E.1 ((((18820 + (924 * t)) + 4) + (10 * c)) + 6).toNat ∨ ((sEv E.1 t (E.1 ((((18820 + (924 * t)) + 4) + (10 * c)) + 6).toNat) (E.1 ((((18820 + (924 * t)) + 4) + (10 * c)) + 7).toNat) q).1 = 0 ∧ (sEv E.1 t (E.1 ((((18820 + (924 * t)) + 4) + (10 * c)) + 6).toNat) (E.1 ((((18820 + (924 * t)) + 4) + (10 * c)) + 7).toNat) q).2 ≠ 0)) ∧ (E.1 ((((18820 + (924 * t)) + 4) + (10 * c)) + 9).toNat ≤ E.1 ((((18820 + (924 * t)) + 4) + (10 * c)) + 8).toNat ∨ ((sEv E.1 t (E.1 ((((18820 + (924 * t)) + 4) + (10 * c)) + 8).toNat) (E.1 ((((18820 + (924 * t)) + 4) + (10 * c)) + 9).toNat) q).1 = 0 ∧ (sEv E.1 t (E.1 ((((18820 + (924 * t)) + 4) + (10 * c)) + 8).toNat) (E.1 ((((18820 + (924 * t)) + 4) + (10 * c)) + 9).toNat) q).2 = 0))) → pAz X (sHd E.1 d kn t c q) (sSm E.1 t c q) (d_X0_holdsFor_r98d_102 c (p : Int) T V) := fun V hV h0 g1 => by
      have wv := wo (fr := X.1 hd' (c * 6 + 3).toNat) hV
      show pAz X _ _ (if d_head T c 3 V = -1 then d_X0_holdsFor_r98d_130 V else d_X0_holdsFor_r98d_130 (vuL (d_X0_workOut_r98d T (d_head T c 3 V) (p : Int) V).2 98 12 (d_X0_workOut_r98d T (d_head T c 3 V) (p : Int) V).1))
      rw [he (by decide) hV]
      by_cases b : X.1 hd' (c * 6 + 3).toNat = -1
      · rw [if_pos b]
        have b' := C3.1.mp b
        exact s130 V hV 0 h0 ⟨fun _ => by decide, fun _ => ⟨a2, f1, g1.1, g1.2, Or.inl b'⟩⟩ (fun _ => by unfold sSm; rw [if_pos b'])
      · rw [if_neg b]
        have b' : ¬ E.1 ((((18820 + (924 * t)) + 4) + (10 * c)) + 5).toNat ≤ E.1 ((((18820 + (924 * t)) + 4) + (10 * c)) + 4).toNat := fun y => b (C3.1.mpr y)
        have x := pEx_x (C3.2 b) O (V.2.1 106)
        rw [← wv.1] at x
        refine s130 _ (pF_uL wv.2 rfl) (d_X0_workOut_r98d T (X.1 hd' (c * 6 + 3).toNat) (p : Int) V).1 vL_s ?_ ?_
        · rcases x with ⟨x1, x2, x3, _⟩ | ⟨x1, x2⟩
          · exact ⟨fun _ => x3, fun _ => ⟨a2, f1, g1.1, g1.2, Or.inr x1⟩⟩
          · exact ⟨fun y => absurd (y.2.2.2.2.resolve_left b') x1, fun y => absurd x2 y⟩
        · intro y
          rcases x with ⟨x1, x2, x3, _⟩ | ⟨x1, x2⟩
          · unfold sSm
            rw [if_neg b']
            exact x2
          · exact absurd (y.2.2.2.2.resolve_left b') x1
    have s71 : ∀ V, pF fw_X0_weigh_r98d X V → V.2.1 98 12 = 0 → (E.1 ((((18820 + (924 * t)) + 4) + (10 * c)) + 7).toNat ≤ E.1 ((((18820 + (924 * t)) + 4) + (10 * c)) + 6).toNat ∨ ((sEv E.1 t (E.1 ((((18820 + (924 * t)) + 4) + (10 * c)) + 6).toNat) (E.1 ((((18820 + (924 * t)) + 4) + (10 * c)) + 7).toNat) q).1 = 0 ∧ (sEv E.1 t (E.1 ((((18820 + (924 * t)) + 4) + (10 * c)) + 6).toNat) (E.1 ((((18820 + (924 * t)) + 4) + (10 * c)) + 7).toNat) q).2 ≠ 0)) → pAz X (sHd E.1 d kn t c q) (sSm E.1 t c q) (d_X0_holdsFor_r98d_71 c (p : Int) T V) := fun V hV h0 g1 => by
      have wv := wo (fr := X.1 hd' (c * 6 + 5).toNat) hV
      show pAz X _ _ (if d_head T c 5 V = -1 then d_X0_holdsFor_r98d_102 c (p : Int) T V else if (d_X0_workOut_r98d T (d_head T c 5 V) (p : Int) V).1 = 0 then d_X0_holdsFor_r98d_102 c (p : Int) T (d_X0_workOut_r98d T (d_head T c 5 V) (p : Int) V).2 else (0, (d_X0_workOut_r98d T (d_head T c 5 V) (p : Int) V).2))
      rw [he (by decide) hV]
      by_cases b : X.1 hd' (c * 6 + 5).toNat = -1
      · rw [if_pos b]
        exact s102 V hV h0 ⟨g1, Or.inl (C5.1.mp b)⟩
      · rw [if_neg b]
        have b' : ¬ E.1 ((((18820 + (924 * t)) + 4) + (10 * c)) + 9).toNat ≤ E.1 ((((18820 + (924 * t)) + 4) + (10 * c)) + 8).toNat := fun y => b (C5.1.mpr y)
        have x := pEx_x (C5.2 b) O (V.2.1 106)
        rw [← wv.1] at x
        by_cases b2 : (d_X0_workOut_r98d T (X.1 hd' (c * 6 + 5).toNat) (p : Int) V).1 = 0
        · rw [if_pos b2]
          rcases x with ⟨x1, x2, x3, _⟩ | ⟨x1, x2⟩
          · exact s102 _ wv.2 (((fr_d_X0_workOut_r98d _ _ _ _).2.1 98 12 rfl).trans h0) ⟨g1, Or.inr ⟨x1, x2 ▸ b2⟩⟩
          · rw [x2] at b2
            exact absurd b2 (by decide)
        · rw [if_neg b2]
          refine pAz_0 (fun y => ?_) wv.2
          have y2 := y.2.2.2.1.resolve_left b'
          rcases x with ⟨x1, x2, x3, _⟩ | ⟨x1, x2⟩
          · exact b2 (x2.trans y2.2)
          · exact x1 y2.1
    have wv := wo (fr := X.1 hd' (c * 6 + 4).toNat) hx9
    by_cases b : X.1 hd' (c * 6 + 4).toNat = -1
    · rw [if_pos b]
      exact s71 _ hx9 vL_s (Or.inl (C4.1.mp b))
    · rw [if_neg b]
      have b' : ¬ E.1 ((((18820 + (924 * t)) + 4) + (10 * c)) + 7).toNat ≤ E.1 ((((18820 + (924 * t)) + 4) + (10 * c)) + 6).toNat := fun y => b (C4.1.mpr y)
      have x := pEx_x (C4.2 b) O ((vuL W 98 12 0).2.1 106)
      rw [← wv.1] at x
      by_cases b2 : (d_X0_workOut_r98d T (X.1 hd' (c * 6 + 4).toNat) (p : Int) (vuL W 98 12 0)).1 = 1
      · rw [if_pos b2]
        rcases x with ⟨x1, x2, x3, _⟩ | ⟨x1, x2⟩
        · refine s71 _ wv.2 (((fr_d_X0_workOut_r98d _ _ _ _).2.1 98 12 rfl).trans vL_s) (Or.inr ⟨x1, fun y => ?_⟩)
          rw [b2, y] at x2
          exact absurd x2 (by decide)
        · rw [x2] at b2
          exact absurd b2 (by decide)
      · rw [if_neg b2]
        refine pAz_0 (fun y => ?_) wv.2
        have y2 := y.2.2.1.resolve_left b'
        rcases x with ⟨x1, x2, x3, x4⟩ | ⟨x1, x2⟩
        · rcases x4 trivial with x5 | x5
          · exact y2.2 (x2.symm.trans x5)
          · exact b2 x5
        · exact x1 y2.1
  · rw [if_neg a1]
    exact pAz_0 (fun y => a1 (b99.mpr y.2.1)) hx9
end jG39

section jG40
/-! pure: CLAUSES that hold, at the reference -/
def pAm (M : jW) (P : Prop) (v : Int) (z : Int × jW) : Prop := z.1 = tv P ∧ (P → z.2.2.1 125 63 = v) ∧ pF fw_X12_findCount_r125d M z.2
theorem pAm_0 {M W : jW} {P : Prop} {v : Int} (h : ¬ P) (f : pF fw_X12_findCount_r125d M W) : pAm M P v (0, W) := ⟨(tv_f h).symm, fun z => absurd z h, f⟩
/-- what is kept of the LAWS in force, from one view to another -/
theorem pKf_m {M W : jW} {r : Nat → Int} {kn : Int} (K : pKf M r kn) (h1 : W.1 152 = M.1 152) (h2 : W.1 153 = M.1 153) (h3 : W.1 125 57 = M.1 125 57) : pKf W r kn := fun y => by
  rw [h3] at y ⊢
  have k := K y
  exact ⟨fun i hi => by rw [h1]; exact k.1 i hi, fun t ht => by rw [h2]; exact k.2 t ht⟩
theorem mho {M : jW} {E : pE} {g : Nat → Int} {cd hh : Nat → Int} {L d kn t c s : Int} (Q : pMs M E g) (I : pIq E g) (hn : M.1 125 28 = kn) (hd : 0 ≤ d ∧ d ≤ 146399) (hs : s ≠ -1) (Il : pIl E.1) (O : qOk fun w => sQu E g d kn w s) (ht : 0 ≤ t ∧ t < E.1 4) (hc : 0 ≤ c ∧ c < E.1 ((18820 + (924 * t)) + 3).toNat)
  (C : E.1 (((18820 + (924 * t)) + 4) + (10 * c)).toNat ≠ 0 → pCc hh cd L E.1 t c 3 (E.1 ((((18820 + (924 * t)) + 4) + (10 * c)) + 4).toNat) (E.1 ((((18820 + (924 * t)) + 4) + (10 * c)) + 5).toNat) False ∧ pCc hh cd L E.1 t c 4 (E.1 ((((18820 + (924 * t)) + 4) + (10 * c)) + 6).toNat) (E.1 ((((18820 + (924 * t)) + 4) + (10 * c)) + 7).toNat) True ∧ pCc hh cd L E.1 t c 5 (E.1 ((((18820 + (924 * t)) + 4) + (10 * c)) + 8).toNat) (E.1 ((((18820 + (924 * t)) + 4) + (10 * c)) + 9).toNat) True)
  {W : jW} (h : pF fw_X12_findCount_r125d M W) (K : pKf W E.1 kn) : pAm M (sHd E.1 d kn t c fun w => sQu E g d kn w s) (sSm E.1 t c fun w => sQu E g d kn w s) (d_X12_holdsFor_r125d t c s d W) ∧ pKf (d_X12_holdsFor_r125d t c s d W).2 E.1 kn := by
  have r1 : ∀ {V : jW}, pF fw_X12_findCount_r125d M V → V.1 126 = E.1 := fun hV => by
    rw [← Q.1]
    exact pF_c hV rfl
  have ru := fun {first last : Int} {V : jW} (hV : pF fw_X12_findCount_r125d M V) => mru (t := t) (first := first) (last := last) Q I hn hd hs hV
  have kr : ∀ {first last : Int} {V : jW}, pKf V E.1 kn → pKf (d_X12_run_r125d t first last s d V) E.1 kn := fun {first last V} k => by
    have f := fr_d_X12_run_r125d t first last s d V
    exact pKf_m k (pF_c f rfl) (pF_c f rfl) (f.1 125 57 rfl)
  generalize hq : (fun w => sQu E g d kn w s) = q at *
  have wn : W.1 125 28 = kn := (h.1 125 28 rfl).trans hn
  have w1 := r1 h
  have F := @mff W d (by rw [w1]; exact Il) (by omega) (by rw [w1, wn]; exact K)
  rw [w1, wn] at F
  have hF : pF fw_X12_findCount_r125d M (d_X12_findForce_r125d d W) := pF_t h (pF_m rfl (fr_d_X12_findForce_r125d _ _))
  have s169 : ∀ V, pF fw_X12_findCount_r125d M V → pKf V E.1 kn → (sHd E.1 d kn t c q ↔ (E.1 ((((18820 + (924 * t)) + 4) + (10 * c)) + 5).toNat ≤ E.1 ((((18820 + (924 * t)) + 4) + (10 * c)) + 4).toNat ∨ (sEv E.1 t (E.1 ((((18820 + (924 * t)) + 4) + (10 * c)) + 4).toNat) (E.1 ((((18820 + (924 * t)) + 4) + (10 * c)) + 5).toNat) q).1 = 0)) → E.1 (((18820 + (924 * t)) + 4) + (10 * c)).toNat ≠ 0 → pAm M (sHd E.1 d kn t c q) (sSm E.1 t c q) (d_X12_holdsFor_r125d_169 t s d (((18820 + (924 * t)) + 4) + (10 * c)) V) ∧ pKf (d_X12_holdsFor_r125d_169 t s d (((18820 + (924 * t)) + 4) + (10 * c)) V).2 E.1 kn := fun V hV k i n0 => by
    have hV' : pF fw_X12_findCount_r125d M (vuL V 125 63 0) := pF_uL hV rfl
    have k' : pKf (vuL V 125 63 0) E.1 kn := k
    unfold d_X12_holdsFor_r125d_169
    rw [r1 hV]
    by_cases b : E.1 ((((18820 + (924 * t)) + 4) + (10 * c)) + 5).toNat ≤ E.1 ((((18820 + (924 * t)) + 4) + (10 * c)) + 4).toNat
    · rw [if_pos b]
      refine ⟨⟨(tv_t (i.mpr (Or.inl b))).symm, fun _ => ?_, hV'⟩, k'⟩
      unfold sSm
      rw [if_pos b]
      exact vL_s
    · rw [if_neg b]
      have C3 := (C n0).1
      have m := pEx_m (C3.2 (fun y => b (C3.1.mp y))) O ((vuL V 125 63 0).2.1 154) ((vuL V 125 63 0).2.1 125 62)
      have u := ru (first := E.1 ((((18820 + (924 * t)) + 4) + (10 * c)) + 4).toNat) (last := E.1 ((((18820 + (924 * t)) + 4) + (10 * c)) + 5).toNat) hV'
      rw [← u.1] at m
      have kk := kr (first := E.1 ((((18820 + (924 * t)) + 4) + (10 * c)) + 4).toNat) (last := E.1 ((((18820 + (924 * t)) + 4) + (10 * c)) + 5).toNat) k'
      generalize d_X12_run_r125d t (E.1 ((((18820 + (924 * t)) + 4) + (10 * c)) + 4).toNat) (E.1 ((((18820 + (924 * t)) + 4) + (10 * c)) + 5).toNat) s d (vuL V 125 63 0) = Y at *
      by_cases y : Y.1 125 61 = 0
      · rw [if_pos y]
        have y2 := m.1.mp y
        refine ⟨⟨(tv_t (i.mpr (Or.inr y2))).symm, fun _ => ?_, pF_uL u.2 rfl⟩, kk⟩
        unfold sSm
        rw [if_neg b]
        exact vL_s.trans (m.2 y2)
      · rw [if_neg y]
        refine ⟨pAm_0 (fun z => ?_) (pF_uL u.2 rfl), kk⟩
        exact y (m.1.mpr ((i.mp z).resolve_left b))
  have s100 : ∀ V, pF fw_X12_findCount_r125d M V → pKf V E.1 kn → (sHd E.1 d kn t c q ↔ ((E.1 ((((18820 + (924 * t)) + 4) + (10 * c)) + 9).toNat ≤ E.1 ((((18820 + (924 * t)) + 4) + (10 * c)) + 8).toNat ∨ ((sEv E.1 t (E.1 ((((18820 + (924 * t)) + 4) + (10 * c)) + 8).toNat) (E.1 ((((18820 + (924 * t)) + 4) + (10 * c)) + 9).toNat) q).1 = 0 ∧ (sEv E.1 t (E.1 ((((18820 + (924 * t)) + 4) + (10 * c)) + 8).toNat) (E.1 ((((18820 + (924 * t)) + 4) + (10 * c)) + 9).toNat) q).2 = 0)) ∧ (E.1 ((((18820 + (924 * t)) + 4) + (10 * c)) + 5).toNat ≤ E.1 ((((18820 + (924 * t)) + 4) + (10 * c)) + 4).toNat ∨ (sEv E.1 t (E.1 ((((18820 + (924 * t)) + 4) + (10 * c)) + 4).toNat) (E.1 ((((18820 + (924 * t)) + 4) + (10 * c)) + 5).toNat) q).1 = 0))) → E.1 (((18820 + (924 * t)) + 4) + (10 * c)).toNat ≠ 0 → pAm M (sHd E.1 d kn t c q) (sSm E.1 t c q) (d_X12_holdsFor_r125d_100 t s d (((18820 + (924 * t)) + 4) + (10 * c)) V) ∧ pKf (d_X12_holdsFor_r125d_100 t s d (((18820 + (924 * t)) + 4) + (10 * c)) V).2 E.1 kn := fun V hV k i n0 => by
    unfold d_X12_holdsFor_r125d_100
    rw [r1 hV]
    by_cases b : E.1 ((((18820 + (924 * t)) + 4) + (10 * c)) + 9).toNat ≤ E.1 ((((18820 + (924 * t)) + 4) + (10 * c)) + 8).toNat
    · rw [if_pos b]
      exact s169 V hV k (i.trans ⟨fun y => y.2, fun y => ⟨Or.inl b, y⟩⟩) n0
    · rw [if_neg b]
      have C5 := (C n0).2.2
      have m := pEx_m (C5.2 (fun y => b (C5.1.mp y))) O (V.2.1 154) (V.2.1 125 62)
      have u := ru (first := E.1 ((((18820 + (924 * t)) + 4) + (10 * c)) + 8).toNat) (last := E.1 ((((18820 + (924 * t)) + 4) + (10 * c)) + 9).toNat) hV
      rw [← u.1] at m
      have kk := kr (first := E.1 ((((18820 + (924 * t)) + 4) + (10 * c)) + 8).toNat) (last := E.1 ((((18820 + (924 * t)) + 4) + (10 * c)) + 9).toNat) k
      generalize d_X12_run_r125d t (E.1 ((((18820 + (924 * t)) + 4) + (10 * c)) + 8).toNat) (E.1 ((((18820 + (924 * t)) + 4) + (10 * c)) + 9).toNat) s d V = Y at *
      by_cases y : Y.1 125 61 = 0
      · rw [if_pos y]
        have y2 := m.1.mp y
        have y3 := m.2 y2
        by_cases z : Y.2.1 125 62 = 0
        · rw [if_pos z]
          exact s169 Y u.2 kk (i.trans ⟨fun w => w.2, fun w => ⟨Or.inr ⟨y2, y3.symm.trans z⟩, w⟩⟩) n0
        · rw [if_neg z]
          refine ⟨pAm_0 (fun w => ?_) u.2, kk⟩
          exact z (y3.trans ((i.mp w).1.resolve_left b).2)
      · rw [if_neg y]
        refine ⟨pAm_0 (fun w => ?_) u.2, kk⟩
        exact y (m.1.mpr ((i.mp w).1.resolve_left b).1)
  unfold d_X12_holdsFor_r125d
  rw [w1]
  by_cases n0 : E.1 (((18820 + (924 * t)) + 4) + (10 * c)).toNat = 0
  · rw [if_pos n0]
    exact ⟨pAm_0 (fun y => y.1 n0) h, K⟩
  rw [if_neg n0]
  have e153 : (d_X12_findForce_r125d d W).1 153 t.toNat = tv (sLo E.1 d kn t) := by
    have y := F.1.2 t.toNat (by omega)
    rw [show ((t.toNat : Nat) : Int) = t from by omega] at y
    exact y
  have J := Il.2.2 t ht.1 ht.2
  have b30 := Il.2.1
  have e152 := F.1.1 ((12 * t) + c).toNat (by omega)
  rw [e153, e152]
  have KF := F.2.1
  generalize d_X12_findForce_r125d d W = Z at *
  by_cases l1 : sLo E.1 d kn t
  · rw [tv_t l1, if_neg (by decide)]
    by_cases l2 : sLs E.1 d kn ((12 * t) + c).toNat = 0
    · rw [if_pos l2]
      have i0 : sHd E.1 d kn t c q ↔ ((E.1 ((((18820 + (924 * t)) + 4) + (10 * c)) + 7).toNat ≤ E.1 ((((18820 + (924 * t)) + 4) + (10 * c)) + 6).toNat ∨ ((sEv E.1 t (E.1 ((((18820 + (924 * t)) + 4) + (10 * c)) + 6).toNat) (E.1 ((((18820 + (924 * t)) + 4) + (10 * c)) + 7).toNat) q).1 = 0 ∧ (sEv E.1 t (E.1 ((((18820 + (924 * t)) + 4) + (10 * c)) + 6).toNat) (E.1 ((((18820 + (924 * t)) + 4) + (10 * c)) + 7).toNat) q).2 ≠ 0)) ∧ _) := ⟨fun y => y.2.2, fun y => ⟨n0, ⟨l1, l2⟩, y⟩⟩
      by_cases b : E.1 ((((18820 + (924 * t)) + 4) + (10 * c)) + 7).toNat ≤ E.1 ((((18820 + (924 * t)) + 4) + (10 * c)) + 6).toNat
      · rw [if_pos b]
        exact s100 Z hF KF (i0.trans ⟨fun y => y.2, fun y => ⟨Or.inl b, y⟩⟩) n0
      · rw [if_neg b]
        have C4 := (C n0).2.1
        have m := pEx_m (C4.2 (fun y => b (C4.1.mp y))) O (Z.2.1 154) (Z.2.1 125 62)
        have u := ru (first := E.1 ((((18820 + (924 * t)) + 4) + (10 * c)) + 6).toNat) (last := E.1 ((((18820 + (924 * t)) + 4) + (10 * c)) + 7).toNat) hF
        rw [← u.1] at m
        have kk := kr (first := E.1 ((((18820 + (924 * t)) + 4) + (10 * c)) + 6).toNat) (last := E.1 ((((18820 + (924 * t)) + 4) + (10 * c)) + 7).toNat) KF
        generalize d_X12_run_r125d t (E.1 ((((18820 + (924 * t)) + 4) + (10 * c)) + 6).toNat) (E.1 ((((18820 + (924 * t)) + 4) + (10 * c)) + 7).toNat) s d Z = Y at *
        by_cases y : Y.1 125 61 = 0
        · rw [if_pos y]
          have y2 := m.1.mp y
          have y3 := m.2 y2
          by_cases z : Y.2.1 125 62 = 0
          · rw [if_pos z]
            refine ⟨pAm_0 (fun w => ?_) u.2, kk⟩
            exact ((i0.mp w).1.resolve_left b).2 (y3.symm.trans z)
          · rw [if_neg z]
            exact s100 Y u.2 kk (i0.trans ⟨fun w => w.2, fun w => ⟨Or.inr ⟨y2, fun v => z (y3.trans v)⟩, w⟩⟩) n0
        · rw [if_neg y]
          refine ⟨pAm_0 (fun w => ?_) u.2, kk⟩
          exact y (m.1.mpr ((i0.mp w).1.resolve_left b).1)
    · rw [if_neg l2]
      exact ⟨pAm_0 (fun y => l2 y.2.1.2) hF, KF⟩
  · rw [tv_f l1, if_pos rfl]
    exact ⟨pAm_0 (fun y => l1 y.2.1.1) hF, KF⟩
end jG40

section jG41
/-! pure: the CLAUSE that COUNTS, at the reference -/
def sCk (r : Nat → Int) (d kn ki wh : Int) (q : Int → Int) (k : Int) : Prop := (0 ≤ ((k % 360) / 12) ∧ ((k % 360) / 12) ≤ (r 4 - 1)) ∧ (0 ≤ (k % 12) ∧ (k % 12) ≤ (r ((18820 + (924 * ((k % 360) / 12))) + 3).toNat - 1)) ∧ r (18820 + (924 * ((k % 360) / 12))).toNat = (k / 360) ∧ r (((18820 + (924 * ((k % 360) / 12))) + 4) + (10 * (k % 12))).toNat = ki ∧ r ((((18820 + (924 * ((k % 360) / 12))) + 4) + (10 * (k % 12))) + 1).toNat = wh ∧ sHd r d kn ((k % 360) / 12) (k % 12) q
def sSq (r : Nat → Int) (q : Int → Int) (k : Int) : Int := sSm r ((k % 360) / 12) (k % 12) q
noncomputable def cL (P : Int → Prop) : Nat → Int
  | 0 => -1
  | n + 1 => if tv (P n) = 0 then cL P n else n
noncomputable def cN (P : Int → Prop) (S : Int → Int) (v : Int) : Nat → Int
  | 0 => 0
  | n + 1 => cN P S v n + (if tv (P n) = 0 then 0 else if S n = v then 0 else 1)
def cO (o : Nat → Int) (v : Int) : Nat → Int
  | 0 => 0
  | n + 1 => cO o v n + (if o n = v then 0 else 1)
theorem cO_c {o o' : Nat → Int} {v : Int} : ∀ n : Nat, (∀ i, i < n → o i = o' i) → cO o v n = cO o' v n := by
  intro n
  induction n with
  | zero => intro _; rfl
  | succ n ih =>
    intro h
    show cO o v n + (if o n = v then 0 else 1) = cO o' v n + (if o' n = v then 0 else 1)
    rw [ih (fun i hi => h i (by omega)), h n (by omega)]
theorem cO_b {o : Nat → Int} {v : Int} : ∀ n : Nat, 0 ≤ cO o v n ∧ cO o v n ≤ n := by
  intro n
  induction n with
  | zero => exact ⟨by show (0 : Int) ≤ 0; omega, by show (0 : Int) ≤ 0; omega⟩
  | succ n ih =>
    show 0 ≤ cO o v n + (if o n = v then 0 else 1) ∧ cO o v n + (if o n = v then 0 else 1) ≤ ((n + 1 : Nat) : Int)
    by_cases c : o n = v
    · rw [if_pos c]; omega
    · rw [if_neg c]; omega
theorem cL_b {P : Int → Prop} : ∀ n : Nat, -1 ≤ cL P n ∧ cL P n < n := by
  intro n
  induction n with
  | zero => exact ⟨by show (-1 : Int) ≤ -1; omega, by show (-1 : Int) < 0; omega⟩
  | succ n ih =>
    show -1 ≤ (if tv (P n) = 0 then cL P n else n) ∧ (if tv (P n) = 0 then cL P n else n) < ((n + 1 : Nat) : Int)
    by_cases c : tv (P n) = 0
    · rw [if_pos c]; omega
    · rw [if_neg c]; omega
/-- the second loop: QUARRELS -/
theorem mc170 {M : jW} {w : Int} : ∀ (f : Nat) (n k : Nat) (W : jW), pF fw_X12_findCount_r125d M W → W.2.1 125 64 = w → W.1 125 66 = cO (W.2.1 155) w k → k ≤ n → n ≤ 360 → n < f + k → (d_X12_findCount_r125d_170 f n k W).1 125 66 = cO (W.2.1 155) w n ∧ pF fw_X12_findCount_r125d M (d_X12_findCount_r125d_170 f n k W) ∧ (∀ a i, ¬ (a = 125 ∧ i = 66) → (d_X12_findCount_r125d_170 f n k W).1 a i = W.1 a i) ∧ (d_X12_findCount_r125d_170 f n k W).2 = W.2 := by
  intro f
  induction f with
  | zero => intro n k W h h1 h2 h3 h4 h5; omega
  | succ f ih =>
    intro n k W h h1 h2 h3 h4 h5
    by_cases z : n ≤ k
    · have e : d_X12_findCount_r125d_170 (f + 1) n k W = W := by
        show (if (n : Int) ≤ (k : Int) then W else _) = W
        rw [if_pos (by omega)]
      rw [e]
      have nk : n = k := by omega
      subst nk
      exact ⟨h2, h, fun _ _ _ => rfl, rfl⟩
    · have b := @cO_b (W.2.1 155) w k
      have e : d_X12_findCount_r125d_170 (f + 1) n k W = d_X12_findCount_r125d_170 f n ((k + 1 : Nat) : Int) (vu W 125 66 (cO (W.2.1 155) w (k + 1))) := by
        show (if (n : Int) ≤ (k : Int) then W else if W.2.1 155 ((k : Int)).toNat = W.2.1 125 64 then d_X12_findCount_r125d_170 f n ((k : Int) + 1) (vu W 125 66 (W.1 125 66 + 0)) else d_X12_findCount_r125d_170 f n ((k : Int) + 1) (vu W 125 66 (j_iadd (W.1 125 66) 1))) = d_X12_findCount_r125d_170 f n ((k + 1 : Nat) : Int) (vu W 125 66 (cO (W.2.1 155) w k + (if W.2.1 155 k = w then 0 else 1)))
        rw [if_neg (by omega), h1, h2, show ((k : Int)).toNat = k from by omega, show ((k + 1 : Nat) : Int) = (k : Int) + 1 from by omega]
        by_cases c : W.2.1 155 k = w
        · rw [if_pos c, if_pos c]
        · rw [if_neg c, if_neg c, j_ia (by omega) (by omega) (by omega)]
      rw [e]
      have o := ih n (k + 1) (vu W 125 66 (cO (W.2.1 155) w (k + 1))) (pF_u h rfl) h1 (vu_e rfl) (by omega) h4 (by omega)
      refine ⟨o.1, o.2.1, fun a i hi => (o.2.2.1 a i hi).trans (vu_n hi), o.2.2.2⟩
end jG41

section jG42
/-! pure: the CLAUSE that COUNTS, at the reference: the first loop -/
noncomputable def hN (P : Int → Prop) : Nat → Nat
  | 0 => 0
  | n + 1 => hN P n + (tv (P n)).toNat
theorem hN_b {P : Int → Prop} (hx : ∀ j : Nat, j < 360 → ¬ (P (j : Int) ∧ P ((360 + j : Nat) : Int))) {k : Nat} (hk : k ≤ 720) : hN P k ≤ 360 := by
  have a : ∀ j i : Nat, hN P (j + i) ≤ hN P j + i := fun j i => by
    induction i with
    | zero => exact Nat.le_refl _
    | succ i ih =>
      have t := @tv_b (P ((j + i : Nat) : Int))
      show hN P (j + i) + (tv (P ((j + i : Nat) : Int))).toNat ≤ _
      omega
  have b : ∀ j : Nat, j ≤ 360 → hN P (360 + j) + hN P j ≤ hN P 360 + j := fun j => by
    induction j with
    | zero => intro _; show hN P 360 + 0 ≤ hN P 360 + 0; omega
    | succ j ih =>
      intro hj
      have i := ih (by omega)
      show hN P (360 + j) + (tv (P ((360 + j : Nat) : Int))).toNat + (hN P j + (tv (P (j : Int))).toNat) ≤ _
      have x := hx j (by omega)
      have t1 := @tv_b (P ((360 + j : Nat) : Int))
      have t2 := @tv_b (P (j : Int))
      by_cases c1 : P (j : Int)
      · have c2 : ¬ P ((360 + j : Nat) : Int) := fun y => x ⟨c1, y⟩
        rw [tv_f c2]
        have : (0 : Int).toNat = 0 := rfl
        omega
      · rw [tv_f c1]
        have : (0 : Int).toNat = 0 := rfl
        omega
  have z : hN P 0 = 0 := rfl
  by_cases c : k ≤ 360
  · have y := a 0 k
    rw [Nat.zero_add] at y
    omega
  · have y := b (k - 360) (by omega)
    have w := a (k - 360) (360 - (k - 360))
    rw [show 360 + (k - 360) = k from by omega] at y
    rw [show k - 360 + (360 - (k - 360)) = 360 from by omega] at w
    omega
def pCa (r : Nat → Int) : Prop := ∀ t : Int, 0 ≤ t → t < r 4 → ∃ (hh cd : Nat → Int) (L : Int), ∀ c : Int, 0 ≤ c → c < r ((18820 + (924 * t)) + 3).toNat → r (((18820 + (924 * t)) + 4) + (10 * c)).toNat ≠ 0 → pCc hh cd L r t c 3 (r ((((18820 + (924 * t)) + 4) + (10 * c)) + 4).toNat) (r ((((18820 + (924 * t)) + 4) + (10 * c)) + 5).toNat) False ∧ pCc hh cd L r t c 4 (r ((((18820 + (924 * t)) + 4) + (10 * c)) + 6).toNat) (r ((((18820 + (924 * t)) + 4) + (10 * c)) + 7).toNat) True ∧ pCc hh cd L r t c 5 (r ((((18820 + (924 * t)) + 4) + (10 * c)) + 8).toNat) (r ((((18820 + (924 * t)) + 4) + (10 * c)) + 9).toNat) True
theorem pTc_a {X : jW} {r : Nat → Int} (P : pTc X r) : pCa r := fun t h hx9 => by
  obtain ⟨T, hd, e, Q, cd, h1, h2, h3⟩ := P.2 t h hx9
  exact ⟨_, _, _, h3⟩
noncomputable def cBy (P : Int → Prop) (k : Nat) : Int := if cL P k = -1 then -1 else cL P k % 360
noncomputable def cSu (P : Int → Prop) (S : Int → Int) (k : Nat) : Int := if cL P k = -1 then 0 else S (cL P k)
theorem cL_y {P : Int → Prop} {k : Nat} (h : P k) : cL P (k + 1) = k := by
  show (if tv (P k) = 0 then cL P k else (k : Int)) = k
  rw [tv_t h, if_neg (by decide)]
theorem cL_n {P : Int → Prop} {k : Nat} (h : ¬ P k) : cL P (k + 1) = cL P k := by
  show (if tv (P k) = 0 then cL P k else (k : Int)) = _
  rw [tv_f h, if_pos rfl]
theorem cN_n {P : Int → Prop} {S : Int → Int} {v : Int} {k : Nat} (h : ¬ P k) : cN P S v (k + 1) = cN P S v k := by
  show cN P S v k + (if tv (P k) = 0 then 0 else if S k = v then 0 else 1) = _
  rw [tv_f h, if_pos rfl, Int.add_zero]
theorem cN_y {P : Int → Prop} {S : Int → Int} {v : Int} {k : Nat} (h : P k) : cN P S v (k + 1) = cN P S v k + (if S k = v then 0 else 1) := by
  show cN P S v k + (if tv (P k) = 0 then 0 else if S k = v then 0 else 1) = _
  rw [tv_t h, if_neg (by decide)]
theorem hN_n {P : Int → Prop} {k : Nat} (h : ¬ P k) : hN P (k + 1) = hN P k := by
  show hN P k + (tv (P k)).toNat = _
  rw [tv_f h]
  rfl
theorem hN_y {P : Int → Prop} {k : Nat} (h : P k) : hN P (k + 1) = hN P k + 1 := by
  show hN P k + (tv (P k)).toNat = _
  rw [tv_t h]
  rfl
theorem mc21 {M : jW} {E : pE} {g : Nat → Int} {d kn s ki wh : Int} (Q : pMs M E g) (I : pIq E g) (hn : M.1 125 28 = kn) (hd : 0 ≤ d ∧ d ≤ 146399) (hs : s ≠ -1) (Il : pIl E.1) (O : qOk fun w => sQu E g d kn w s) (C : pCa E.1) : ∀ (f k : Nat) (W : jW), pF fw_X12_findCount_r125d M W → pKf W E.1 kn → W.1 125 66 = 0 → W.1 125 65 = cBy (sCk E.1 d kn ki wh fun w => sQu E g d kn w s) k → W.2.1 125 64 = cSu (sCk E.1 d kn ki wh fun w => sQu E g d kn w s) (sSq E.1 fun w => sQu E g d kn w s) k → (∀ v, cO (W.2.1 155) v (hN (sCk E.1 d kn ki wh fun w => sQu E g d kn w s) k) = cN (sCk E.1 d kn ki wh fun w => sQu E g d kn w s) (sSq E.1 fun w => sQu E g d kn w s) v k) → k ≤ 720 → 720 < f + k → ∀ V, V = d_X12_findCount_r125d_21 f ki wh s d (hN (sCk E.1 d kn ki wh fun w => sQu E g d kn w s) k : Nat) k W → pF fw_X12_findCount_r125d M V ∧ pKf V E.1 kn ∧ V.1 125 65 = cBy (sCk E.1 d kn ki wh fun w => sQu E g d kn w s) 720 ∧ V.2.1 125 64 = cSu (sCk E.1 d kn ki wh fun w => sQu E g d kn w s) (sSq E.1 fun w => sQu E g d kn w s) 720 ∧ V.1 125 66 = cN (sCk E.1 d kn ki wh fun w => sQu E g d kn w s) (sSq E.1 fun w => sQu E g d kn w s) (cSu (sCk E.1 d kn ki wh fun w => sQu E g d kn w s) (sSq E.1 fun w => sQu E g d kn w s) 720) 720 := by
  have ho : ∀ {t c : Int}, 0 ≤ t ∧ t < E.1 4 → 0 ≤ c ∧ c < E.1 ((18820 + (924 * t)) + 3).toNat → ∀ {W : jW}, pF fw_X12_findCount_r125d M W → pKf W E.1 kn → pAm M (sHd E.1 d kn t c fun w => sQu E g d kn w s) (sSm E.1 t c fun w => sQu E g d kn w s) (d_X12_holdsFor_r125d t c s d W) ∧ pKf (d_X12_holdsFor_r125d t c s d W).2 E.1 kn := fun {t c} ht hc {W} h K => by
    obtain ⟨hh, cd, L, C'⟩ := C t ht.1 ht.2
    exact mho Q I hn hd hs Il O ht hc (C' c hc.1 hc.2) h K
  have r1 : ∀ {V : jW}, pF fw_X12_findCount_r125d M V → V.1 126 = E.1 := fun hV => by
    rw [← Q.1]
    exact pF_c hV rfl
  generalize hq : (fun w => sQu E g d kn w s) = q at *
  generalize hP : sCk E.1 d kn ki wh q = P at *
  generalize hS : sSq E.1 q = S at *
  have hx : ∀ j : Nat, j < 360 → ¬ (P (j : Int) ∧ P ((360 + j : Nat) : Int)) := fun j hj y => by
    rw [← hP] at y
    have y1 := y.1.2.2.1
    have y2 := y.2.2.2.1
    rw [show ((360 + j : Nat) : Int) % 360 = (j : Int) % 360 from by omega, show ((360 + j : Nat) : Int) / 360 = 1 from by omega] at y2
    rw [show (j : Int) / 360 = 0 from by omega] at y1
    rw [y1] at y2
    exact absurd y2 (by decide)
  intro f
  induction f with
  | zero => intro k W _ _ _ _ _ _ h1 h2; omega
  | succ f ih =>
    intro k W h K h66 h65 h64 hO hk hf V hV
    by_cases z : 720 ≤ k
    · have k7 : k = 720 := by omega
      subst k7
      have e : d_X12_findCount_r125d_21 (f + 1) ki wh s d (hN P 720 : Nat) (720 : Nat) W = d_X12_findCount_r125d_170 361 (hN P 720 : Nat) ((0 : Nat) : Int) W := rfl
      rw [hV, e]
      have b := @hN_b P hx 720 (by omega)
      have o := @mc170 M (cSu P S 720) 361 (hN P 720) 0 W h h64 h66 (by omega) b (by omega)
      refine ⟨o.2.1, pKf_m K ?_ ?_ ?_, (o.2.2.1 125 65 (by decide)).trans h65, by rw [o.2.2.2]; exact h64, o.1.trans (hO _)⟩
      · exact funext fun i => o.2.2.1 152 i (by omega)
      · exact funext fun i => o.2.2.1 153 i (by omega)
      · exact o.2.2.1 125 57 (by decide)
    · have e : d_X12_findCount_r125d_21 (f + 1) ki wh s d (hN P k : Nat) (k : Int) W = if (0 ≤ (((k : Int) % 360) / 12) ∧ (((k : Int) % 360) / 12) ≤ (E.1 4 - 1)) ∧ (0 ≤ ((k : Int) % 12) ∧ ((k : Int) % 12) ≤ (E.1 ((18820 + (924 * (((k : Int) % 360) / 12))) + 3).toNat - 1)) ∧ E.1 (18820 + (924 * (((k : Int) % 360) / 12))).toNat = ((k : Int) / 360) ∧ E.1 (((18820 + (924 * (((k : Int) % 360) / 12))) + 4) + (10 * ((k : Int) % 12))).toNat = ki ∧ E.1 ((((18820 + (924 * (((k : Int) % 360) / 12))) + 4) + (10 * ((k : Int) % 12))) + 1).toNat = wh then (if (d_X12_holdsFor_r125d (((k : Int) % 360) / 12) ((k : Int) % 12) s d W).1 = 0 then d_X12_findCount_r125d_21 f ki wh s d (hN P k : Nat) ((k : Int) + 1) (d_X12_holdsFor_r125d (((k : Int) % 360) / 12) ((k : Int) % 12) s d W).2 else d_X12_findCount_r125d_21 f ki wh s d ((hN P k : Nat) + 1) ((k : Int) + 1) (vuL (vuL (vu (d_X12_holdsFor_r125d (((k : Int) % 360) / 12) ((k : Int) % 12) s d W).2 125 65 ((12 * (((k : Int) % 360) / 12)) + ((k : Int) % 12))) 125 64 ((d_X12_holdsFor_r125d (((k : Int) % 360) / 12) ((k : Int) % 12) s d W).2.2.1 125 63)) 155 ((hN P k : Nat) : Int).toNat ((d_X12_holdsFor_r125d (((k : Int) % 360) / 12) ((k : Int) % 12) s d W).2.2.1 125 63))) else d_X12_findCount_r125d_21 f ki wh s d (hN P k : Nat) ((k : Int) + 1) W := by
        show (if 720 ≤ (k : Int) then _ else if 0 ≤ (((k : Int) % 360) / 12) ∧ (((k : Int) % 360) / 12) ≤ (W.1 126 4 - 1) then (if 0 ≤ ((k : Int) % 12) ∧ ((k : Int) % 12) ≤ (W.1 126 ((18820 + (924 * (((k : Int) % 360) / 12))) + 3).toNat - 1) then (if W.1 126 (18820 + (924 * (((k : Int) % 360) / 12))).toNat = ((k : Int) / 360) then (if W.1 126 (((18820 + (924 * (((k : Int) % 360) / 12))) + 4) + (10 * ((k : Int) % 12))).toNat = ki then (if W.1 126 ((((18820 + (924 * (((k : Int) % 360) / 12))) + 4) + (10 * ((k : Int) % 12))) + 1).toNat = wh then (if (d_X12_holdsFor_r125d (((k : Int) % 360) / 12) ((k : Int) % 12) s d W).1 = 0 then d_X12_findCount_r125d_21 f ki wh s d (hN P k : Nat) ((k : Int) + 1) (d_X12_holdsFor_r125d (((k : Int) % 360) / 12) ((k : Int) % 12) s d W).2 else d_X12_findCount_r125d_21 f ki wh s d ((hN P k : Nat) + 1) ((k : Int) + 1) (vuL (vuL (vu (d_X12_holdsFor_r125d (((k : Int) % 360) / 12) ((k : Int) % 12) s d W).2 125 65 ((12 * (((k : Int) % 360) / 12)) + ((k : Int) % 12))) 125 64 ((d_X12_holdsFor_r125d (((k : Int) % 360) / 12) ((k : Int) % 12) s d W).2.2.1 125 63)) 155 ((hN P k : Nat) : Int).toNat ((vuL (vu (d_X12_holdsFor_r125d (((k : Int) % 360) / 12) ((k : Int) % 12) s d W).2 125 65 ((12 * (((k : Int) % 360) / 12)) + ((k : Int) % 12))) 125 64 ((d_X12_holdsFor_r125d (((k : Int) % 360) / 12) ((k : Int) % 12) s d W).2.2.1 125 63)).2.1 125 63))) else d_X12_findCount_r125d_21 f ki wh s d (hN P k : Nat) ((k : Int) + 1) W) else d_X12_findCount_r125d_21 f ki wh s d (hN P k : Nat) ((k : Int) + 1) W) else d_X12_findCount_r125d_21 f ki wh s d (hN P k : Nat) ((k : Int) + 1) W) else d_X12_findCount_r125d_21 f ki wh s d (hN P k : Nat) ((k : Int) + 1) W) else d_X12_findCount_r125d_21 f ki wh s d (hN P k : Nat) ((k : Int) + 1) W) = _
        have vx : ∀ (Z : jW) (x y : Int), (vuL (vu Z 125 65 x) 125 64 y).2.1 125 63 = Z.2.1 125 63 := fun Z x y => rfl
        rw [if_neg (by omega), r1 h, vx]
        by_cases g1 : 0 ≤ (((k : Int) % 360) / 12) ∧ (((k : Int) % 360) / 12) ≤ (E.1 4 - 1)
        · rw [if_pos g1]
          by_cases g2 : 0 ≤ ((k : Int) % 12) ∧ ((k : Int) % 12) ≤ (E.1 ((18820 + (924 * (((k : Int) % 360) / 12))) + 3).toNat - 1)
          · rw [if_pos g2]
            by_cases g3 : E.1 (18820 + (924 * (((k : Int) % 360) / 12))).toNat = ((k : Int) / 360)
            · rw [if_pos g3]
              by_cases g4 : E.1 (((18820 + (924 * (((k : Int) % 360) / 12))) + 4) + (10 * ((k : Int) % 12))).toNat = ki
              · rw [if_pos g4]
                by_cases g5 : E.1 ((((18820 + (924 * (((k : Int) % 360) / 12))) + 4) + (10 * ((k : Int) % 12))) + 1).toNat = wh
                · rw [if_pos g5, if_pos (⟨g1, g2, g3, g4, g5⟩ : _ ∧ _ ∧ _ ∧ _ ∧ _)]
                · rw [if_neg g5, if_neg (fun y : _ ∧ _ ∧ _ ∧ _ ∧ _ => g5 y.2.2.2.2)]
              · rw [if_neg g4, if_neg (fun y : _ ∧ _ ∧ _ ∧ _ ∧ _ => g4 y.2.2.2.1)]
            · rw [if_neg g3, if_neg (fun y : _ ∧ _ ∧ _ ∧ _ ∧ _ => g3 y.2.2.1)]
          · rw [if_neg g2, if_neg (fun y : _ ∧ _ ∧ _ ∧ _ ∧ _ => g2 y.2.1)]
        · rw [if_neg g1, if_neg (fun y : _ ∧ _ ∧ _ ∧ _ ∧ _ => g1 y.1)]
      have kc : ((k + 1 : Nat) : Int) = (k : Int) + 1 := by omega
      have no : ∀ Y, pF fw_X12_findCount_r125d M Y → pKf Y E.1 kn → Y.1 125 66 = W.1 125 66 → Y.1 125 65 = W.1 125 65 → Y.2.1 125 64 = W.2.1 125 64 → Y.2.1 155 = W.2.1 155 → ¬ P k → V = d_X12_findCount_r125d_21 f ki wh s d (hN P k : Nat) ((k : Int) + 1) Y → pF fw_X12_findCount_r125d M V ∧ pKf V E.1 kn ∧ V.1 125 65 = cBy P 720 ∧ V.2.1 125 64 = cSu P S 720 ∧ V.1 125 66 = cN P S (cSu P S 720) 720 := fun Y hY KY y66 y65 y64 y155 np hV' => by
        refine ih (k + 1) Y hY KY (y66.trans h66) ?_ ?_ ?_ (by omega) (by omega) V ?_
        · rw [y65, h65]
          unfold cBy
          rw [cL_n np]
        · rw [y64, h64]
          unfold cSu
          rw [cL_n np]
        · intro v
          rw [y155, hN_n np, cN_n np]
          exact hO v
        · rw [hN_n np, kc]
          exact hV'
      rw [e] at hV
      by_cases G : (0 ≤ (((k : Int) % 360) / 12) ∧ (((k : Int) % 360) / 12) ≤ (E.1 4 - 1)) ∧ (0 ≤ ((k : Int) % 12) ∧ ((k : Int) % 12) ≤ (E.1 ((18820 + (924 * (((k : Int) % 360) / 12))) + 3).toNat - 1)) ∧ E.1 (18820 + (924 * (((k : Int) % 360) / 12))).toNat = ((k : Int) / 360) ∧ E.1 (((18820 + (924 * (((k : Int) % 360) / 12))) + 4) + (10 * ((k : Int) % 12))).toNat = ki ∧ E.1 ((((18820 + (924 * (((k : Int) % 360) / 12))) + 4) + (10 * ((k : Int) % 12))) + 1).toNat = wh
      · rw [if_pos G] at hV
        have a := ho (t := ((k : Int) % 360) / 12) (c := (k : Int) % 12) ⟨G.1.1, by omega⟩ ⟨G.2.1.1, by omega⟩ h K
        have fh := fr_d_X12_holdsFor_r125d (((k : Int) % 360) / 12) ((k : Int) % 12) s d W
        generalize d_X12_holdsFor_r125d (((k : Int) % 360) / 12) ((k : Int) % 12) s d W = H at *
        by_cases y : H.1 = 0
        · rw [if_pos y] at hV
          refine no H.2 a.1.2.2 a.2 (fh.1 125 66 rfl) (fh.1 125 65 rfl) (fh.2.1 125 64 rfl) (funext fun i => fh.2.1 155 i (pc_n rfl)) (fun p => ?_) hV
          rw [← hP] at p
          have e1 := a.1.1
          rw [tv_t p.2.2.2.2.2, y] at e1
          exact absurd e1 (by decide)
        · rw [if_neg y] at hV
          have hh : sHd E.1 d kn (((k : Int) % 360) / 12) ((k : Int) % 12) q := Classical.byContradiction fun n => y (a.1.1.trans (tv_f n))
          have p : P k := by
            rw [← hP]
            exact ⟨G.1, G.2.1, G.2.2.1, G.2.2.2.1, G.2.2.2.2, hh⟩
          have sv : H.2.2.1 125 63 = S k := by
            rw [← hS]
            exact a.1.2.1 hh
          rw [sv, show ((hN P k : Nat) : Int).toNat = hN P k from by omega] at hV
          refine ih (k + 1) (vuL (vuL (vu H.2 125 65 ((12 * (((k : Int) % 360) / 12)) + ((k : Int) % 12))) 125 64 (S k)) 155 (hN P k) (S k)) (pF_vL (pF_uL (pF_u a.1.2.2 rfl) rfl) rfl) (pKf_m (M := H.2) a.2 rfl rfl rfl) ((fh.1 125 66 rfl).trans h66) ?_ ?_ ?_ (by omega) (by omega) V ?_
          · show (vu H.2 125 65 ((12 * (((k : Int) % 360) / 12)) + ((k : Int) % 12))).1 125 65 = _
            rw [vu_e rfl]
            unfold cBy
            rw [cL_y p, if_neg (by omega)]
            omega
          · show (if 125 = 155 ∧ 64 = hN P k then S k else (vuL (vu H.2 125 65 ((12 * (((k : Int) % 360) / 12)) + ((k : Int) % 12))) 125 64 (S k)).2.1 125 64) = _
            rw [if_neg (fun w => absurd w.1 (by decide)), vL_s]
            unfold cSu
            rw [cL_y p, if_neg (by omega)]
          · intro v
            rw [hN_y p, cN_y p, vL_e]
            have e155 : (vuL (vu H.2 125 65 ((12 * (((k : Int) % 360) / 12)) + ((k : Int) % 12))) 125 64 (S k)).2.1 155 = W.2.1 155 := funext fun i => (fh.2.1 155 i (pc_n rfl) : H.2.2.1 155 i = W.2.1 155 i)
            rw [e155]
            show cO (sU (W.2.1 155) (hN P k) (S k)) v (hN P k) + (if sU (W.2.1 155) (hN P k) (S k) (hN P k) = v then 0 else 1) = _
            rw [sU_e rfl, cO_c (hN P k) (fun i hi => sU_n (by omega)), hO v]
          · rw [hN_y p, kc, show ((hN P k + 1 : Nat) : Int) = ((hN P k : Nat) : Int) + 1 from by omega]
            exact hV
      · rw [if_neg G] at hV
        refine no W h K rfl rfl rfl rfl (fun p => ?_) hV
        rw [← hP] at p
        exact G ⟨p.1, p.2.1, p.2.2.1, p.2.2.2.1, p.2.2.2.2.1⟩
theorem mfc {M : jW} {E : pE} {g : Nat → Int} {d kn s ki wh : Int} (Q : pMs M E g) (I : pIq E g) (hn : M.1 125 28 = kn) (hd : 0 ≤ d ∧ d ≤ 146399) (hs : s ≠ -1) (Il : pIl E.1) (O : qOk fun w => sQu E g d kn w s) (C : pCa E.1) {W : jW} (h : pF fw_X12_findCount_r125d M W) (K : pKf W E.1 kn) : pF fw_X12_findCount_r125d M (d_X12_findCount_r125d ki wh s d W) ∧ pKf (d_X12_findCount_r125d ki wh s d W) E.1 kn ∧ (d_X12_findCount_r125d ki wh s d W).1 125 65 = cBy (sCk E.1 d kn ki wh fun w => sQu E g d kn w s) 720 ∧ (d_X12_findCount_r125d ki wh s d W).2.1 125 64 = cSu (sCk E.1 d kn ki wh fun w => sQu E g d kn w s) (sSq E.1 fun w => sQu E g d kn w s) 720 ∧ (d_X12_findCount_r125d ki wh s d W).1 125 66 = cN (sCk E.1 d kn ki wh fun w => sQu E g d kn w s) (sSq E.1 fun w => sQu E g d kn w s) (cSu (sCk E.1 d kn ki wh fun w => sQu E g d kn w s) (sSq E.1 fun w => sQu E g d kn w s) 720) 720 := by
  refine mc21 Q I hn hd hs Il O C 721 0 (vu (vuL (vu W 125 65 (-1)) 125 64 0) 125 66 0) (pF_u (pF_uL (pF_u h rfl) rfl) rfl) ?_ (vu_e rfl) ?_ ?_ (fun v => rfl) (by omega) (by omega) _ rfl
  · exact pKf_m (M := W) K rfl rfl rfl
  · rfl
  · rfl
end jG42

section jG43
/-! pure: the CLAUSE that COUNTS, at the class -/
theorem cN_b {P : Int → Prop} {S : Int → Int} {v : Int} : ∀ n : Nat, 0 ≤ cN P S v n ∧ cN P S v n ≤ n := by
  intro n
  induction n with
  | zero => exact ⟨by show (0 : Int) ≤ 0; omega, by show (0 : Int) ≤ 0; omega⟩
  | succ n ih =>
    by_cases c : P n
    · rw [cN_y c]
      by_cases e : S n = v
      · rw [if_pos e]; omega
      · rw [if_neg e]; omega
    · rw [cN_n c]; omega
/-- what the class has counted of all from k on -/
def xC (X : jW) (P : Int → Prop) (S : Int → Int) (W : jW) (k : Nat) : Prop := pF fw_X0_weigh_r98d X W ∧ ((W.1 98 13 = -1 ∧ W.2.1 98 14 = 0 ∧ W.1 98 15 = 0 ∧ cL P 720 = cL P k ∧ ∀ v, cN P S v 720 = cN P S v k) ∨ (W.1 98 13 = cL P 720 % 360 ∧ (k : Int) ≤ cL P 720 ∧ W.2.1 98 14 = S (cL P 720) ∧ W.1 98 15 = cN P S (S (cL P 720)) 720 - cN P S (S (cL P 720)) k))
theorem xC_n {X W : jW} {P : Int → Prop} {S : Int → Int} {k : Nat} (n : ¬ P k) (h : xC X P S W (k + 1)) : xC X P S W k := by
  refine ⟨h.1, ?_⟩
  rcases h.2 with ⟨a, b, c, d, e⟩ | ⟨a, b, c, d⟩
  · exact Or.inl ⟨a, b, c, d.trans (cL_n n), fun v => (e v).trans (cN_n n)⟩
  · refine Or.inr ⟨a, by omega, c, ?_⟩
    rw [cN_n n] at d
    exact d
theorem xC_s {X W : jW} {P : Int → Prop} {S : Int → Int} {k : Nat} : ∀ i : Nat, (∀ j : Nat, k ≤ j → j < k + i → ¬ P j) → xC X P S W (k + i) → xC X P S W k := by
  intro i
  induction i with
  | zero => intro _ h; exact h
  | succ i ih =>
    intro n h
    exact ih (fun j h1 h2 => n j h1 (by omega)) (xC_n (n (k + i) (by omega) (by omega)) h)
theorem xC_t {X W : jW} {P : Int → Prop} {S : Int → Int} {k l : Nat} (hl : k ≤ l) (n : ∀ j : Nat, k ≤ j → j < l → ¬ P j) (h : xC X P S W l) : xC X P S W k := xC_s (l - k) (fun j h1 h2 => n j h1 (by omega)) (by rw [show k + (l - k) = l from by omega]; exact h)
theorem xc74 {X : jW} {E : pE} {g : Nat → Int} {d kn ki wh : Int} {p T hd' : Nat} {t : Int} {so : Nat} (K18 : Int → Int → Int → Int → jW → (Int × jW)) (K34 : Int → Int → Int → Int → Int → jW → (Int × jW)) (Q : pXq X E g d kn) (I : pIq E g) (hd : 0 ≤ d ∧ d ≤ 146399) (hp : p < sNl E) (ep : g p = (p : Int)) (P : pTc X E.1) (Ik : pIk E.1) (Il : pIl E.1) (L : pXl X E.1 d kn) (O : qOk fun w => sQu E g d kn w (p : Int)) (ht : 0 ≤ t ∧ t < E.1 4) (Qe : pTe X E.1 t T hd') (hso : so ≤ 1) (es : E.1 (18820 + (924 * t)).toNat = (so : Int)) (hki : 0 ≤ ki ∧ ki ≤ 7) : ∀ (f : Nat) (c : Int) (W : jW), -1 ≤ c → c < E.1 ((18820 + (924 * t)) + 3).toNat → c + 1 < f → xC X (sCk E.1 d kn (ki + 1) wh fun w => sQu E g d kn w (p : Int)) (sSq E.1 fun w => sQu E g d kn w (p : Int)) W (360 * so + 12 * t.toNat + (c + 1).toNat) → ∃ W', d_X0_weigh_r98d_74 K18 K34 f ki wh (p : Int) (so : Int) t T c W = K34 ki wh (p : Int) (so : Int) (t + (-1)) W' ∧ xC X (sCk E.1 d kn (ki + 1) wh fun w => sQu E g d kn w (p : Int)) (sSq E.1 fun w => sQu E g d kn w (p : Int)) W' (360 * so + 12 * t.toNat) := by
  have ho := fun {c : Int} (hc : 0 ≤ c ∧ c < E.1 ((18820 + (924 * t)) + 3).toNat) {W : jW} (h : pF fw_X0_weigh_r98d X W) => xho Q I hd hp ep P Ik Il L O ht hc h
  have J := Il.2.2 t ht.1 ht.2
  have b30 := Il.2.1
  generalize hq : (fun w => sQu E g d kn w (p : Int)) = q at *
  generalize hP : sCk E.1 d kn (ki + 1) wh q = Pk at *
  generalize hS : sSq E.1 q = S at *
  intro f
  induction f with
  | zero => intro c W h1 h2 h3; omega
  | succ f ih =>
    intro c W h1 h2 h3 h
    by_cases z : c < 0
    · refine ⟨W, ?_, ?_⟩
      · show (if c < 0 then K34 ki wh (p : Int) (so : Int) (t + (-1)) W else _) = _
        rw [if_pos z]
      · rw [show (c + 1).toNat = 0 from by omega] at h
        exact h
    · have H := Qe.2.2.2.2.2.2.2 c (by omega) h2
      have kk := Ik t ht.1 ht.2 c (by omega) h2
      have he := fun {y : Int} {V : jW} (hy : 0 ≤ y ∧ y < 6) (hV : pF fw_X0_weigh_r98d X V) => (he_e (pTe_F hV Qe) (by omega) h2 hy).trans (congrFun (pF_c hV (fwx_b Qe.2.1)) _)
      have k0 := he (show (0 : Int) ≤ 0 ∧ (0 : Int) < 6 from by decide) h.1
      have k1 := he (show (0 : Int) ≤ 1 ∧ (1 : Int) < 6 from by decide) h.1
      rw [H.1] at k0
      rw [H.2.1] at k1
      have kn1 : (c + 1).toNat = c.toNat + 1 := by omega
      rw [kn1, ← Nat.add_assoc] at h
      have kt : ((360 * so + 12 * t.toNat + c.toNat : Nat) : Int) % 360 / 12 = t := by omega
      have kc : ((360 * so + 12 * t.toNat + c.toNat : Nat) : Int) % 12 = c := by omega
      have ks : ((360 * so + 12 * t.toNat + c.toNat : Nat) : Int) / 360 = (so : Int) := by omega
      have pk : Pk ((360 * so + 12 * t.toNat + c.toNat : Nat) : Int) ↔ E.1 (((18820 + (924 * t)) + 4) + (10 * c)).toNat = ki + 1 ∧ E.1 ((((18820 + (924 * t)) + 4) + (10 * c)) + 1).toNat = wh ∧ sHd E.1 d kn t c q := by
        rw [← hP]
        unfold sCk
        rw [kt, kc, ks]
        exact ⟨fun y => ⟨y.2.2.2.1, y.2.2.2.2.1, y.2.2.2.2.2⟩, fun y => ⟨⟨by omega, by omega⟩, ⟨by omega, by omega⟩, es, y.1, y.2.1, y.2.2⟩⟩
      have sk : S ((360 * so + 12 * t.toNat + c.toNat : Nat) : Int) = sSm E.1 t c q := by
        rw [← hS]
        unfold sSq
        rw [kt, kc]
      have kb : ((360 * so + 12 * t.toNat + c.toNat : Nat) : Int) < 720 := by omega
      have ki360 : ((360 * so + 12 * t.toNat + c.toNat : Nat) : Int) % 360 = t * 12 + c := by omega
      have cm : (c + (-1) + 1).toNat = c.toNat := by omega
      have go : ∀ Y, xC X Pk S Y (360 * so + 12 * t.toNat + c.toNat) → ∃ W', d_X0_weigh_r98d_74 K18 K34 f ki wh (p : Int) (so : Int) t T (c + (-1)) Y = K34 ki wh (p : Int) (so : Int) (t + (-1)) W' ∧ xC X Pk S W' (360 * so + 12 * t.toNat) := fun Y hY => ih (c + (-1)) Y (by omega) (by omega) (by omega) (by rw [cm]; exact hY)
      generalize 360 * so + 12 * t.toNat + c.toNat = k at *
      show ∃ W', (if c < 0 then K34 ki wh (p : Int) (so : Int) (t + (-1)) W else if d_head T c 0 W = ki then (if d_head T c 1 W = wh then (if (d_X0_holdsFor_r98d t c (p : Int) W).1 = 0 then d_X0_weigh_r98d_74 K18 K34 f ki wh (p : Int) (so : Int) t T (c + (-1)) (d_X0_holdsFor_r98d t c (p : Int) W).2 else if W.1 98 13 = -1 then d_X0_weigh_r98d_74 K18 K34 f ki wh (p : Int) (so : Int) t T (c + (-1)) (vuL (vu (d_X0_holdsFor_r98d t c (p : Int) W).2 98 13 ((t * 12) + c)) 98 14 ((d_X0_holdsFor_r98d t c (p : Int) W).2.2.1 98 12)) else if (d_X0_holdsFor_r98d t c (p : Int) W).2.2.1 98 12 = (d_X0_holdsFor_r98d t c (p : Int) W).2.2.1 98 14 then d_X0_weigh_r98d_74 K18 K34 f ki wh (p : Int) (so : Int) t T (c + (-1)) (d_X0_holdsFor_r98d t c (p : Int) W).2 else d_X0_weigh_r98d_74 K18 K34 f ki wh (p : Int) (so : Int) t T (c + (-1)) (vu (d_X0_holdsFor_r98d t c (p : Int) W).2 98 15 (j_iadd (W.1 98 15) 1))) else d_X0_weigh_r98d_74 K18 K34 f ki wh (p : Int) (so : Int) t T (c + (-1)) W) else d_X0_weigh_r98d_74 K18 K34 f ki wh (p : Int) (so : Int) t T (c + (-1)) W) = K34 ki wh (p : Int) (so : Int) (t + (-1)) W' ∧ _
      rw [if_neg z, k0, k1]
      by_cases n0 : E.1 (((18820 + (924 * t)) + 4) + (10 * c)).toNat = 0
      · rw [if_pos n0, if_neg (show ¬ (8 : Int) = ki from by omega)]
        exact go W (xC_n (fun y => absurd (pk.mp y).1 (by omega)) h)
      rw [if_neg n0, if_neg n0]
      by_cases n1 : E.1 (((18820 + (924 * t)) + 4) + (10 * c)).toNat - 1 = ki
      · rw [if_pos n1]
        by_cases n2 : E.1 ((((18820 + (924 * t)) + 4) + (10 * c)) + 1).toNat = wh
        · rw [if_pos n2]
          have a := ho (c := c) ⟨by omega, h2⟩ h.1
          have fh := fr_d_X0_holdsFor_r98d t c (p : Int) W
          generalize d_X0_holdsFor_r98d t c (p : Int) W = Hh at *
          have f13 : Hh.2.1 98 13 = W.1 98 13 := fh.1 98 13 rfl
          have f14 : Hh.2.2.1 98 14 = W.2.1 98 14 := fh.2.1 98 14 rfl
          have f15 : Hh.2.1 98 15 = W.1 98 15 := fh.1 98 15 rfl
          have keep : xC X Pk S Hh.2 (k + 1) := ⟨a.2.2, by rw [f13, f14, f15]; exact h.2⟩
          by_cases y : Hh.1 = 0
          · rw [if_pos y]
            refine go Hh.2 (xC_n (fun w => ?_) keep)
            have e1 := a.1
            rw [tv_t (pk.mp w).2.2, y] at e1
            exact absurd e1 (by decide)
          · rw [if_neg y]
            have hh : sHd E.1 d kn t c q := Classical.byContradiction fun n => y (a.1.trans (tv_f n))
            have pp := pk.mpr ⟨by omega, n2, hh⟩
            have sv := a.2.1 hh
            rw [← sk] at sv
            rw [sv]
            rcases h.2 with ⟨a1, a2, a3, a4, a5⟩ | ⟨a1, a2, a3, a4⟩
            · rw [if_pos a1]
              have ct : cL Pk 720 = (k : Int) := a4.trans (cL_y pp)
              refine go _ ⟨pF_uL (pF_u a.2.2 rfl) rfl, Or.inr ⟨?_, by omega, ?_, ?_⟩⟩
              · show (vu Hh.2 98 13 ((t * 12) + c)).1 98 13 = _
                rw [vu_e rfl, ct, ki360]
              · rw [vL_s, ct]
              · show Hh.2.1 98 15 = _
                rw [f15, a3, a5, ct, cN_y pp, if_pos rfl]
                omega
            · have b := @cL_b Pk 720
              rw [if_neg (by omega), f14, a3]
              by_cases w : S k = S (cL Pk 720)
              · rw [if_pos w]
                refine go Hh.2 ⟨a.2.2, Or.inr ⟨f13.trans a1, by omega, f14.trans a3, ?_⟩⟩
                rw [f15, a4, cN_y pp, if_pos w, Int.add_zero]
              · rw [if_neg w]
                have b1 := @cN_b Pk S (S (cL Pk 720)) 720
                have b2 := @cN_b Pk S (S (cL Pk 720)) (k + 1)
                refine go _ ⟨pF_u a.2.2 rfl, Or.inr ⟨f13.trans a1, by omega, f14.trans a3, ?_⟩⟩
                rw [vu_e rfl, j_ia (by omega) (by omega) (by omega), a4, cN_y pp, if_neg w]
                omega
        · rw [if_neg n2]
          exact go W (xC_n (fun y => n2 (pk.mp y).2.1) h)
      · rw [if_neg n1]
        exact go W (xC_n (fun y => absurd (pk.mp y).1 (by omega)) h)
end jG43

section jG44
/-! pure: the CLAUSE that COUNTS, at the class: TEXTS and sorts -/
theorem xc34 {X : jW} {E : pE} {g : Nat → Int} {d kn ki wh : Int} {p : Nat} {so : Nat} (K18 : Int → Int → Int → Int → jW → (Int × jW)) (Q : pXq X E g d kn) (I : pIq E g) (hd : 0 ≤ d ∧ d ≤ 146399) (hp : p < sNl E) (ep : g p = (p : Int)) (P : pTc X E.1) (Ik : pIk E.1) (Il : pIl E.1) (L : pXl X E.1 d kn) (O : qOk fun w => sQu E g d kn w (p : Int)) (hso : so ≤ 1) (hki : 0 ≤ ki ∧ ki ≤ 7) : ∀ (f : Nat) (t : Int) (W : jW), -1 ≤ t → t < E.1 4 → t + 1 < f → xC X (sCk E.1 d kn (ki + 1) wh fun w => sQu E g d kn w (p : Int)) (sSq E.1 fun w => sQu E g d kn w (p : Int)) W (360 * so + 12 * (t + 1).toNat) → ∃ W', d_X0_weigh_r98d_34 K18 f ki wh (p : Int) (so : Int) t W = K18 ki wh (p : Int) ((so : Int) + (-1)) W' ∧ xC X (sCk E.1 d kn (ki + 1) wh fun w => sQu E g d kn w (p : Int)) (sSq E.1 fun w => sQu E g d kn w (p : Int)) W' (360 * so) := by
  have b30 := Il.2.1
  intro f
  induction f with
  | zero => intro t W h1 h2 h3; omega
  | succ f ih =>
    intro t W h1 h2 h3 h
    by_cases z : t < 0
    · refine ⟨W, ?_, ?_⟩
      · show (if t < 0 then K18 ki wh (p : Int) ((so : Int) + (-1)) W else _) = _
        rw [if_pos z]
      · rw [show (t + 1).toNat = 0 from by omega] at h
        exact h
    · obtain ⟨T, hd', eT, Qe, _⟩ := P.2 t (by omega) h2
      have J := Il.2.2 t (by omega) h2
      have tm : (t + (-1) + 1).toNat = t.toNat := by omega
      have go := fun (Y : jW) (hY : xC X (sCk E.1 d kn (ki + 1) wh fun w => sQu E g d kn w (p : Int)) (sSq E.1 fun w => sQu E g d kn w (p : Int)) Y (360 * so + 12 * t.toNat)) => ih (t + (-1)) Y (by omega) (by omega) (by omega) (by rw [tm]; exact hY)
      show ∃ W', (if t < 0 then K18 ki wh (p : Int) ((so : Int) + (-1)) W else if W.1 32 18 ≤ t then d_X0_weigh_r98d_34 K18 f ki wh (p : Int) (so : Int) (t + (-1)) W else if (W.2.2.1 66 t.toNat).isNone = true then d_X0_weigh_r98d_34 K18 f ki wh (p : Int) (so : Int) (t + (-1)) W else if W.1 ((W.2.2.1 66 t.toNat).getD 0) 0 = (so : Int) then d_X0_weigh_r98d_74 K18 (fun l1 l2 l3 l4 l5 W => d_X0_weigh_r98d_34 K18 f l1 l2 l3 l4 l5 W) 13 ki wh (p : Int) (so : Int) t ((W.2.2.1 66 t.toNat).getD 0) (W.1 ((W.2.2.1 66 t.toNat).getD 0) 3 - 1) W else d_X0_weigh_r98d_34 K18 f ki wh (p : Int) (so : Int) (t + (-1)) W) = K18 ki wh (p : Int) ((so : Int) + (-1)) W' ∧ _
      rw [if_neg z, pF_c h.1 (c := 32) rfl, P.1, if_neg (show ¬ E.1 4 ≤ t from by omega), h.1.2.2.1 66 _ (pc_n rfl), eT, if_neg (show ¬ (some T).isNone = true from fun y => Bool.noConfusion y), show (some T).getD 0 = T from rfl, pF_c h.1 (fwx_b Qe.1), Qe.2.2.1, Qe.2.2.2.2.2.1, Int.add_zero]
      by_cases e : E.1 (18820 + (924 * t)).toNat = (so : Int)
      · rw [if_pos e]
        have hx9 : xC X (sCk E.1 d kn (ki + 1) wh fun w => sQu E g d kn w (p : Int)) (sSq E.1 fun w => sQu E g d kn w (p : Int)) W (360 * so + 12 * t.toNat + (E.1 ((18820 + (924 * t)) + 3).toNat - 1 + 1).toNat) := by
          refine xC_t (by omega) (fun j j1 j2 y => ?_) h
          have y2 := y.2.1.2
          rw [show (j : Int) % 360 / 12 = t from by omega] at y2
          omega
        obtain ⟨W1, e1, h1'⟩ := xc74 K18 (fun l1 l2 l3 l4 l5 W => d_X0_weigh_r98d_34 K18 f l1 l2 l3 l4 l5 W) Q I hd hp ep P Ik Il L O ⟨by omega, h2⟩ Qe hso e hki 13 (E.1 ((18820 + (924 * t)) + 3).toNat - 1) W (by omega) (by omega) (by omega) hx9
        obtain ⟨W2, e2, h2'⟩ := go W1 h1'
        exact ⟨W2, e1.trans e2, h2'⟩
      · rw [if_neg e]
        refine go W (xC_t (by omega) (fun j j1 j2 y => ?_) h)
        have y2 := y.2.2.1
        rw [show (j : Int) % 360 / 12 = t from by omega, show (j : Int) / 360 = (so : Int) from by omega] at y2
        exact e y2
/-- the class's weigh: what counts, its SUM, its QUARRELS -/
theorem xwe {X : jW} {E : pE} {g : Nat → Int} {d kn ki wh : Int} {p : Nat} (Q : pXq X E g d kn) (I : pIq E g) (hd : 0 ≤ d ∧ d ≤ 146399) (hp : p < sNl E) (ep : g p = (p : Int)) (P : pTc X E.1) (Ik : pIk E.1) (Il : pIl E.1) (L : pXl X E.1 d kn) (O : qOk fun w => sQu E g d kn w (p : Int)) (hki : 0 ≤ ki ∧ ki ≤ 7) {W : jW} (h : pF fw_X0_weigh_r98d X W) : ∃ V : jW, d_X0_weigh_r98d ki wh (p : Int) W = (if V.1 98 13 = -1 then 0 else 1, V) ∧ pF fw_X0_weigh_r98d X V ∧ V.1 98 13 = cBy (sCk E.1 d kn (ki + 1) wh fun w => sQu E g d kn w (p : Int)) 720 ∧ V.2.1 98 14 = cSu (sCk E.1 d kn (ki + 1) wh fun w => sQu E g d kn w (p : Int)) (sSq E.1 fun w => sQu E g d kn w (p : Int)) 720 ∧ V.1 98 15 = cN (sCk E.1 d kn (ki + 1) wh fun w => sQu E g d kn w (p : Int)) (sSq E.1 fun w => sQu E g d kn w (p : Int)) (cSu (sCk E.1 d kn (ki + 1) wh fun w => sQu E g d kn w (p : Int)) (sSq E.1 fun w => sQu E g d kn w (p : Int)) 720) 720 := by
  have b := Il.1
  have b30 := Il.2.1
  have run : ∀ (so : Nat) (K18 : Int → Int → Int → Int → jW → (Int × jW)) (V : jW), so ≤ 1 → xC X (sCk E.1 d kn (ki + 1) wh fun w => sQu E g d kn w (p : Int)) (sSq E.1 fun w => sQu E g d kn w (p : Int)) V (360 * so + 360) → ∃ W', d_X0_weigh_r98d_34 K18 31 ki wh (p : Int) (so : Int) (V.1 32 18 - 1) V = K18 ki wh (p : Int) ((so : Int) + (-1)) W' ∧ xC X (sCk E.1 d kn (ki + 1) wh fun w => sQu E g d kn w (p : Int)) (sSq E.1 fun w => sQu E g d kn w (p : Int)) W' (360 * so) := fun so K18 V hso hV => by
    rw [pF_c hV.1 (c := 32) rfl, P.1]
    refine xc34 K18 Q I hd hp ep P Ik Il L O hso hki 31 (E.1 4 - 1) V (by omega) (by omega) (by omega) (xC_t (by omega) (fun j j1 j2 y => ?_) hV)
    have y2 := y.1.2
    omega
  have s0 : xC X (sCk E.1 d kn (ki + 1) wh fun w => sQu E g d kn w (p : Int)) (sSq E.1 fun w => sQu E g d kn w (p : Int)) (vu (vuL (vu W 98 13 (-1)) 98 14 0) 98 15 0) (360 * 1 + 360) := ⟨pF_u (pF_uL (pF_u h rfl) rfl) rfl, Or.inl ⟨rfl, rfl, rfl, rfl, fun _ => rfl⟩⟩
  obtain ⟨W1, e1, h1⟩ := run 1 (fun l1 l2 l3 l4 W => d_X0_weigh_r98d_18 2 l1 l2 l3 l4 W) _ (by decide) s0
  obtain ⟨W2, e2, h2⟩ := run 0 (fun l1 l2 l3 l4 W => d_X0_weigh_r98d_18 1 l1 l2 l3 l4 W) W1 (by decide) h1
  refine ⟨W2, ?_, h2.1, ?_⟩
  · have q1 : d_X0_weigh_r98d ki wh (p : Int) W = d_X0_weigh_r98d_18 2 ki wh (p : Int) (((1 : Nat) : Int) + (-1)) W1 := e1
    have q2 : d_X0_weigh_r98d_18 2 ki wh (p : Int) (((1 : Nat) : Int) + (-1)) W1 = d_X0_weigh_r98d_18 1 ki wh (p : Int) (((0 : Nat) : Int) + (-1)) W2 := e2
    rw [q1, q2]
    show (if W2.1 98 13 = -1 then (0, W2) else (1, W2)) = _
    by_cases c : W2.1 98 13 = -1
    · rw [if_pos c, if_pos c]
    · rw [if_neg c, if_neg c]
  · have cb := @cL_b (sCk E.1 d kn (ki + 1) wh fun w => sQu E g d kn w (p : Int)) 720
    rcases h2.2 with ⟨a1, a2, a3, a4, a5⟩ | ⟨a1, a2, a3, a4⟩
    · have c1 : cL (sCk E.1 d kn (ki + 1) wh fun w => sQu E g d kn w (p : Int)) 720 = -1 := a4
      unfold cBy cSu
      rw [if_pos c1, if_pos c1, a1, a2, a3, a5]
      exact ⟨rfl, rfl, rfl⟩
    · unfold cBy cSu
      rw [if_neg (by omega), if_neg (by omega), a1, a3, a4]
      exact ⟨rfl, rfl, Int.sub_zero _⟩
end jG44

section jG45
/-! pure: pieces of code of the class, and what they come to -/
theorem oSN {x : Int} {P : Prop} (h : some x = none) : P := by cases h
theorem oNS {x : Int} {P : Prop} (h : none = some x) : P := by cases h
/-- the code from a to b puts v on the stack, or is broken; m its parts -/
def xPc (q : Int → Int) (cd : Nat → Int) (a b m : Int) (v : Option Int) : Prop := 0 ≤ a ∧ a < b ∧ 1 ≤ m ∧ ∀ (ce : Nat → Int) (L : Int), (∀ i : Nat, a ≤ i → i < b → ce i = cd i) → b ≤ L → L ≤ 1200 → ∀ (top n : Int) (st : Nat → Int), 0 ≤ top → top + m ≤ 98 → 0 ≤ n → n ≤ a → (v = none → xE ce L q (1201 - n).toNat a top n st = -2000000000000) ∧ ∀ x, v = some x → ∃ (n' : Int) (st' : Nat → Int), n ≤ n' ∧ n' ≤ b ∧ xE ce L q (1201 - n).toNat a top n st = xE ce L q (1201 - n').toNat b (top + 1) n' st' ∧ (∀ i : Nat, (i : Int) < top → st' i = st i) ∧ st' top.toNat = x
/-- one step, all guards passed -/
theorem xE_s {q : Int → Int} {ce : Nat → Int} {L a top n : Int} {st : Nat → Int} (h0 : 0 ≤ a) (h1 : a < L) (h2 : n < L) (h3 : 0 ≤ top ∧ top < 100) (h4 : 0 ≤ n ∧ n < 1201) : xE ce L q (1201 - n).toNat a top n st = (
    if ce a.toNat = 1 then xE ce L q (1201 - (n + 1)).toNat (a + 2) (top + 1) (n + 1) (sU st top.toNat (if L ≤ a + 1 then 0 else ce (a + 1).toNat)) else
    if ce a.toNat = 2 then xE ce L q (1201 - (n + 1)).toNat (a + 2) (top + 1) (n + 1) (sU st top.toNat (q (if L ≤ a + 1 then 0 else ce (a + 1).toNat))) else
    if 1 ≤ top then (
      if ce a.toNat = 0 then st (top - 1).toNat else
      if ce a.toNat = 10 then xE ce L q (1201 - (n + 1)).toNat (a + 1) top (n + 1) (sU st (top - 1).toNat (j_lsub 1 (st (top - 1).toNat))) else
      if ce a.toNat = 11 then (if st (top - 1).toNat = 1 then xE ce L q (1201 - (n + 1)).toNat (if L ≤ a + 1 then 0 else ce (a + 1).toNat) top (n + 1) st else xE ce L q (1201 - (n + 1)).toNat (a + 2) (top - 1) (n + 1) st) else
      if ce a.toNat = 12 then (if st (top - 1).toNat = 0 then xE ce L q (1201 - (n + 1)).toNat (if L ≤ a + 1 then 0 else ce (a + 1).toNat) top (n + 1) st else xE ce L q (1201 - (n + 1)).toNat (a + 2) (top - 1) (n + 1) st) else
      if 2 ≤ top then (if cmb (ce a.toNat) (st (top - 2).toNat) (st (top - 1).toNat) = -2000000000000 then -2000000000000 else xE ce L q (1201 - (n + 1)).toNat (a + 1) (top + (-1)) (n + 1) (sU st ((top + (-1)) - 1).toNat (cmb (ce a.toNat) (st (top - 2).toNat) (st (top - 1).toNat)))) else -2000000000000)
    else -2000000000000) := by
  rw [show (1201 - n).toNat = (1201 - (n + 1)).toNat + 1 from by omega]
  generalize (1201 - (n + 1)).toNat = f
  show (if L ≤ n then -2000000000000 else if a < 0 then -2000000000000 else if L ≤ a then -2000000000000 else if 100 ≤ top then -2000000000000 else _) = _
  rw [if_neg (by omega), if_neg (by omega), if_neg (by omega), if_neg (by omega)]
theorem xP_p {q : Int → Int} {cd : Nat → Int} {a : Int} (h0 : 0 ≤ a) (h : cd a.toNat = 1) : xPc q cd a (a + 2) 1 (some (cd (a + 1).toNat)) := by
  refine ⟨h0, by omega, by omega, fun ce L he hL hL2 top n st ht hm hn hna => ⟨fun z => oSN z, fun x hx => ?_⟩⟩
  have x' : cd (a + 1).toNat = x := Option.some.inj hx
  refine ⟨n + 1, sU st top.toNat (cd (a + 1).toNat), by omega, by omega, ?_, fun i hi => sU_n (by omega), (sU_e rfl).trans x'⟩
  rw [xE_s h0 (by omega) (by omega) (by omega) (by omega), he a.toNat (by omega) (by omega), if_pos h, if_neg (show ¬ L ≤ a + 1 from by omega), he (a + 1).toNat (by omega) (by omega)]
theorem xP_q {q : Int → Int} {cd : Nat → Int} {a : Int} (h0 : 0 ≤ a) (h : cd a.toNat = 2) : xPc q cd a (a + 2) 1 (some (q (cd (a + 1).toNat))) := by
  refine ⟨h0, by omega, by omega, fun ce L he hL hL2 top n st ht hm hn hna => ⟨fun z => oSN z, fun x hx => ?_⟩⟩
  have x' : q (cd (a + 1).toNat) = x := Option.some.inj hx
  refine ⟨n + 1, sU st top.toNat (q (cd (a + 1).toNat)), by omega, by omega, ?_, fun i hi => sU_n (by omega), (sU_e rfl).trans x'⟩
  rw [xE_s h0 (by omega) (by omega) (by omega) (by omega), he a.toNat (by omega) (by omega), if_neg (show ¬ cd a.toNat = 1 from by omega), if_pos h, if_neg (show ¬ L ≤ a + 1 from by omega), he (a + 1).toNat (by omega) (by omega)]
theorem xP_n {q : Int → Int} {cd : Nat → Int} {a b m : Int} {v : Option Int} (P : xPc q cd a b m v) (h : cd b.toNat = 10) : xPc q cd a (b + 1) m (v.map fun x => j_lsub 1 x) := by
  obtain ⟨p0, p1, p2, p3⟩ := P
  refine ⟨p0, by omega, p2, fun ce L he hL hL2 top n st ht hm hn hna => ?_⟩
  have o := p3 ce L (fun i h1 h2 => he i h1 (by omega)) (by omega) hL2 top n st ht hm hn hna
  cases v with
  | none => exact ⟨fun _ => o.1 rfl, fun x hx => oNS hx⟩
  | some y =>
    obtain ⟨n', st', i1, i2, i3, i4, i5⟩ := o.2 y rfl
    refine ⟨fun z => oSN z, fun x hx => ?_⟩
    have x' : j_lsub 1 y = x := Option.some.inj hx
    have tt : (top + 1 - 1).toNat = top.toNat := by omega
    refine ⟨n' + 1, sU st' top.toNat (j_lsub 1 y), by omega, by omega, ?_, fun i hi => (sU_n (by omega)).trans (i4 i hi), (sU_e rfl).trans x'⟩
    rw [i3, xE_s (by omega) (by omega) (by omega) (by omega) (by omega), he b.toNat (by omega) (by omega), h, if_neg (by decide), if_neg (by decide), if_pos (show 1 ≤ top + 1 from by omega), if_neg (by decide), if_pos rfl, tt, i5]
theorem xP_b {q : Int → Int} {cd : Nat → Int} {a b c m k : Int} {v w : Option Int} (P : xPc q cd a b m v) (R : xPc q cd b c k w) (h : 3 ≤ cd c.toNat ∧ cd c.toNat ≤ 9) : xPc q cd a (c + 1) (m + k) (v.bind fun x => w.bind fun y => if cmb (cd c.toNat) x y = -2000000000000 then none else some (cmb (cd c.toNat) x y)) := by
  obtain ⟨p0, p1, p2, p3⟩ := P
  obtain ⟨r0, r1, r2, r3⟩ := R
  refine ⟨p0, by omega, by omega, fun ce L he hL hL2 top n st ht hm hn hna => ?_⟩
  have o := p3 ce L (fun i h1 h2 => he i h1 (by omega)) (by omega) hL2 top n st ht (by omega) hn hna
  cases v with
  | none => exact ⟨fun _ => o.1 rfl, fun x hx => oNS hx⟩
  | some y =>
    obtain ⟨n', st', i1, i2, i3, i4, i5⟩ := o.2 y rfl
    have o2 := r3 ce L (fun i h1 h2 => he i (by omega) (by omega)) (by omega) hL2 (top + 1) n' st' (by omega) (by omega) (by omega) i2
    cases w with
    | none => exact ⟨fun _ => i3.trans (o2.1 rfl), fun x hx => oNS hx⟩
    | some u =>
      obtain ⟨n2, st2, j1, j2, j3, j4, j5⟩ := o2.2 u rfl
      have e1 : st2 (top + 1 + 1 - 2).toNat = y := by
        rw [show (top + 1 + 1 - 2).toNat = top.toNat from by omega, j4 top.toNat (by omega)]
        exact i5
      have e2 : st2 (top + 1 + 1 - 1).toNat = u := by
        rw [show (top + 1 + 1 - 1).toNat = (top + 1).toNat from by omega]
        exact j5
      have s : xE ce L q (1201 - n).toNat a top n st = if cmb (cd c.toNat) y u = -2000000000000 then -2000000000000 else xE ce L q (1201 - (n2 + 1)).toNat (c + 1) (top + 1 + 1 + (-1)) (n2 + 1) (sU st2 (top + 1 + 1 + (-1) - 1).toNat (cmb (cd c.toNat) y u)) := by
        rw [i3, j3, xE_s (by omega) (by omega) (by omega) (by omega) (by omega), he c.toNat (by omega) (by omega), if_neg (show ¬ cd c.toNat = 1 from by omega), if_neg (show ¬ cd c.toNat = 2 from by omega), if_pos (show 1 ≤ top + 1 + 1 from by omega), if_neg (show ¬ cd c.toNat = 0 from by omega), if_neg (show ¬ cd c.toNat = 10 from by omega), if_neg (show ¬ cd c.toNat = 11 from by omega), if_neg (show ¬ cd c.toNat = 12 from by omega), if_pos (show 2 ≤ top + 1 + 1 from by omega), e1, e2]
      show ((if cmb (cd c.toNat) y u = -2000000000000 then none else some (cmb (cd c.toNat) y u)) = none → _) ∧ ∀ x, (if cmb (cd c.toNat) y u = -2000000000000 then none else some (cmb (cd c.toNat) y u)) = some x → _
      by_cases z : cmb (cd c.toNat) y u = -2000000000000
      · rw [if_pos z] at s
        rw [if_pos z]
        exact ⟨fun _ => s, fun x hx => oNS hx⟩
      · rw [if_neg z] at s
        rw [if_neg z]
        refine ⟨fun y => oSN y, fun x hx => ?_⟩
        have x' : cmb (cd c.toNat) y u = x := Option.some.inj hx
        have tt : (top + 1 + 1 + (-1) - 1).toNat = top.toNat := by omega
        rw [tt, show top + 1 + 1 + (-1) = top + 1 from by omega] at s
        exact ⟨n2 + 1, sU st2 top.toNat (cmb (cd c.toNat) y u), by omega, by omega, s, fun i hi => (sU_n (by omega)).trans ((j4 i (by omega)).trans (i4 i hi)), (sU_e rfl).trans x'⟩
/-- OR (11, 1) and AND (12, 0) -/
theorem xP_j {q : Int → Int} {cd : Nat → Int} {a b c m k g s : Int} {v w : Option Int} (hg : g = 11 ∧ s = 1 ∨ g = 12 ∧ s = 0) (P : xPc q cd a b m v) (h : cd b.toNat = g) (hx9 : cd (b + 1).toNat = c) (R : xPc q cd (b + 2) c k w) : xPc q cd a c (m + k) (v.bind fun x => if x = s then some x else w) := by
  obtain ⟨p0, p1, p2, p3⟩ := P
  obtain ⟨r0, r1, r2, r3⟩ := R
  refine ⟨p0, by omega, by omega, fun ce L he hL hL2 top n st ht hm hn hna => ?_⟩
  have o := p3 ce L (fun i h1 h2 => he i h1 (by omega)) (by omega) hL2 top n st ht (by omega) hn hna
  cases v with
  | none => exact ⟨fun _ => o.1 rfl, fun x hx => oNS hx⟩
  | some y =>
    obtain ⟨n', st', i1, i2, i3, i4, i5⟩ := o.2 y rfl
    have tt : (top + 1 - 1).toNat = top.toNat := by omega
    have st1 : xE ce L q (1201 - n).toNat a top n st = if y = s then xE ce L q (1201 - (n' + 1)).toNat c (top + 1) (n' + 1) st' else xE ce L q (1201 - (n' + 1)).toNat (b + 2) (top + 1 - 1) (n' + 1) st' := by
      rw [i3, xE_s (by omega) (by omega) (by omega) (by omega) (by omega), he b.toNat (by omega) (by omega), he (b + 1).toNat (by omega) (by omega), h, hx9, if_neg (show ¬ g = 1 from by omega), if_neg (show ¬ g = 2 from by omega), if_pos (show 1 ≤ top + 1 from by omega), if_neg (show ¬ g = 0 from by omega), if_neg (show ¬ g = 10 from by omega), tt, i5, if_neg (show ¬ L ≤ b + 1 from by omega)]
      rcases hg with ⟨g1, s1⟩ | ⟨g1, s1⟩
      · rw [if_pos g1, s1]
      · rw [if_neg (show ¬ g = 11 from by omega), if_pos g1, s1]
    show ((if y = s then some y else w) = none → _) ∧ ∀ x, (if y = s then some y else w) = some x → _
    by_cases z : y = s
    · rw [if_pos z] at st1
      rw [if_pos z]
      refine ⟨fun u => oSN u, fun x hx => ?_⟩
      have x' : y = x := Option.some.inj hx
      exact ⟨n' + 1, st', by omega, by omega, st1, i4, i5.trans x'⟩
    · rw [if_neg z] at st1
      rw [if_neg z]
      rw [show top + 1 - 1 = top from by omega] at st1
      have o2 := r3 ce L (fun i h1 h2 => he i (by omega) (by omega)) (by omega) hL2 top (n' + 1) st' (by omega) (by omega) (by omega) (by omega)
      refine ⟨fun u => st1.trans (o2.1 u), fun x hx => ?_⟩
      obtain ⟨n2, st2, j1, j2, j3, j4, j5⟩ := o2.2 x hx
      exact ⟨n2, st2, by omega, by omega, st1.trans j3, fun i hi => (j4 i hi).trans (i4 i hi), j5⟩
/-- a piece with a STOP behind it -/
theorem xP_z {q : Int → Int} {cd : Nat → Int} {a b m L : Int} {v : Option Int} (P : xPc q cd a b m v) (h : cd b.toNat = 0) (hb : b < L) (hL : L ≤ 1200) (hm : m ≤ 98) (st : Nat → Int) : xE cd L q 1201 a 0 0 st = v.getD (-2000000000000) := by
  obtain ⟨p0, p1, p2, p3⟩ := P
  have o := p3 cd L (fun _ _ _ => rfl) (by omega) hL 0 0 st (by omega) (by omega) (by omega) p0
  cases v with
  | none => exact o.1 rfl
  | some y =>
    obtain ⟨n', st', i1, i2, i3, i4, i5⟩ := o.2 y rfl
    have e : xE cd L q 1201 a 0 0 st = xE cd L q (1201 - n').toNat b (0 + 1) n' st' := i3
    rw [e, xE_s (by omega) hb (by omega) (by omega) (by omega), h, if_neg (by decide), if_neg (by decide), if_pos (by decide), if_pos rfl]
    exact i5
end jG45

section jG46
/-! pure: pieces of code of the reference, and what they come to -/
def oR (r : Nat → Int) (t k : Int) : Int := r (((18820 + (924 * t)) + 124) + (2 * k)).toNat
def aR (r : Nat → Int) (t k : Int) : Int := r ((((18820 + (924 * t)) + 124) + (2 * k)) + 1).toNat
/-- the code from k to l puts v on the stack, or is broken -/
def mPc (q : Int → Int) (op ar : Int → Int) (k l : Int) (v : Option Int) : Prop := 0 ≤ k ∧ k < l ∧ ∀ (r : Nat → Int) (t last v0 : Int), (∀ i : Int, k ≤ i → i < l → oR r t i = op i ∧ aR r t i = ar i) → l ≤ last → ∀ (f : Nat) (top : Int) (st : Nat → Int), 0 ≤ top → last - k < f → (v = none → (mE r t last v0 q f top k 0 st).1 ≠ 0) ∧ ∀ x, v = some x → ∃ (f' : Nat) (st' : Nat → Int), last - l < f' ∧ mE r t last v0 q f top k 0 st = mE r t last v0 q f' (top + 1) l 0 st' ∧ (∀ i : Nat, (i : Int) < top → st' i = st i) ∧ st' top.toNat = x
theorem mE_s {q : Int → Int} {r : Nat → Int} {t last v0 : Int} {f : Nat} {top k : Int} {st : Nat → Int} (h : k < last) : mE r t last v0 q (f + 1) top k 0 st = (
    if oR r t k = 0 then mE r t last v0 q f (top + 1) (k + 1) 0 (sU st top.toNat (aR r t k)) else
    if 6 ≤ oR r t k then (
      if 12 < oR r t k then (
        if 18 ≤ oR r t k then (
          if oR r t k = 18 then mE r t last v0 q f top (k + 1) 0 (sU st (top - 1).toNat (j_lsub 1 (st (top - 1).toNat)))
          else if st (top - 1).toNat = (if oR r t k = 19 then 0 else 1) then mE r t last v0 q f top (aR r t k) 0 st else mE r t last v0 q f (top + (-1)) (k + 1) 0 st)
        else mE r t last v0 q f (top + 1) (k + 1) 0 (sU st top.toNat (q ((oR r t k - 13) + 5))))
      else mE r t last v0 q f (top + (-1)) (k + 1) (if oR r t k = 9 ∧ st (top + (-1)).toNat = 0 then 1 else if (-1000000000000) ≤ rkv (oR r t k) (st ((top + (-1)) - 1).toNat) (st (top + (-1)).toNat) ∧ rkv (oR r t k) (st ((top + (-1)) - 1).toNat) (st (top + (-1)).toNat) ≤ 1000000000000 then 0 else 1) (sU st ((top + (-1)) - 1).toNat (rkv (oR r t k) (st ((top + (-1)) - 1).toNat) (st (top + (-1)).toNat))))
    else mE r t last v0 q f (top + 1) (k + 1) 0 (sU st top.toNat (q (j_isub (oR r t k) 1)))) := by
  show (if last ≤ k then _ else if (0 : Int) = 0 then _ else _) = _
  rw [if_neg (by omega), if_pos rfl]
  rfl
/-- once broken, broken to the end -/
theorem mE_b {q : Int → Int} {r : Nat → Int} {t last v0 : Int} {top k : Int} {st : Nat → Int} : ∀ f : Nat, (mE r t last v0 q f top k 1 st).1 ≠ 0 := by
  intro f
  cases f with
  | zero => exact fun z => absurd (show (1 : Int) = 0 from z) (by decide)
  | succ f =>
    show (if last ≤ k then mEf 1 top st else if (1 : Int) = 0 then _ else mEf 1 top st).1 ≠ 0
    rw [if_neg (show ¬ (1 : Int) = 0 from by decide)]
    by_cases c : last ≤ k
    · rw [if_pos c]
      exact fun z => absurd (show (1 : Int) = 0 from z) (by decide)
    · rw [if_neg c]
      exact fun z => absurd (show (1 : Int) = 0 from z) (by decide)
/-- what a leaf puts on the stack -/
def mLv (q : Int → Int) (o a : Int) : Int := if o = 0 then a else if 6 ≤ o then q ((o - 13) + 5) else q (j_isub o 1)
theorem mP_l {q : Int → Int} {op ar : Int → Int} {k : Int} (h0 : 0 ≤ k) (h : 0 ≤ op k ∧ op k ≤ 5 ∨ 13 ≤ op k ∧ op k ≤ 17) : mPc q op ar k (k + 1) (some (mLv q (op k) (ar k))) := by
  refine ⟨h0, by omega, fun r t last v0 he hl f top st ht hf => ⟨fun z => oSN z, fun x hx => ?_⟩⟩
  have x' : mLv q (op k) (ar k) = x := Option.some.inj hx
  obtain ⟨f, rfl⟩ : ∃ e, f = e + 1 := ⟨f - 1, by omega⟩
  obtain ⟨e1, e2⟩ := he k (by omega) (by omega)
  refine ⟨f, sU st top.toNat (mLv q (op k) (ar k)), by omega, ?_, fun i hi => sU_n (by omega), (sU_e rfl).trans x'⟩
  rw [mE_s (by omega), e1, e2]
  unfold mLv
  by_cases c : op k = 0
  · rw [if_pos c, if_pos c]
  · rw [if_neg c, if_neg c]
    by_cases c2 : 6 ≤ op k
    · rw [if_pos c2, if_pos c2, if_pos (show 12 < op k from by omega), if_neg (show ¬ 18 ≤ op k from by omega)]
    · rw [if_neg c2, if_neg c2]
theorem mP_n {q : Int → Int} {op ar : Int → Int} {k l : Int} {v : Option Int} (P : mPc q op ar k l v) (h : op l = 18) : mPc q op ar k (l + 1) (v.map fun x => j_lsub 1 x) := by
  obtain ⟨p0, p1, p3⟩ := P
  refine ⟨p0, by omega, fun r t last v0 he hl f top st ht hf => ?_⟩
  have o := p3 r t last v0 (fun i h1 h2 => he i h1 (by omega)) (by omega) f top st ht hf
  cases v with
  | none => exact ⟨fun _ => o.1 rfl, fun x hx => oNS hx⟩
  | some y =>
    obtain ⟨f', st', i1, i3, i4, i5⟩ := o.2 y rfl
    obtain ⟨f', rfl⟩ : ∃ e, f' = e + 1 := ⟨f' - 1, by omega⟩
    refine ⟨fun z => oSN z, fun x hx => ?_⟩
    have x' : j_lsub 1 y = x := Option.some.inj hx
    have tt : (top + 1 - 1).toNat = top.toNat := by omega
    refine ⟨f', sU st' top.toNat (j_lsub 1 y), by omega, ?_, fun i hi => (sU_n (by omega)).trans (i4 i hi), (sU_e rfl).trans x'⟩
    rw [i3, mE_s (by omega), (he l (by omega) (by omega)).1, h, if_neg (by decide), if_pos (by decide), if_pos (by decide), if_pos (by decide), if_pos rfl, tt, i5]
def mBv (o x y : Int) : Option Int := if o = 9 ∧ y = 0 then none else if (-1000000000000) ≤ rkv o x y ∧ rkv o x y ≤ 1000000000000 then some (rkv o x y) else none
theorem mP_b {q : Int → Int} {op ar : Int → Int} {k l j : Int} {v w : Option Int} (P : mPc q op ar k l v) (R : mPc q op ar l j w) (h : 6 ≤ op j ∧ op j ≤ 12) : mPc q op ar k (j + 1) (v.bind fun x => w.bind fun y => mBv (op j) x y) := by
  obtain ⟨p0, p1, p3⟩ := P
  obtain ⟨r0, r1, r3⟩ := R
  refine ⟨p0, by omega, fun r t last v0 he hl f top st ht hf => ?_⟩
  have o := p3 r t last v0 (fun i h1 h2 => he i h1 (by omega)) (by omega) f top st ht hf
  cases v with
  | none => exact ⟨fun _ => o.1 rfl, fun x hx => oNS hx⟩
  | some y =>
    obtain ⟨f', st', i1, i3, i4, i5⟩ := o.2 y rfl
    have o2 := r3 r t last v0 (fun i h1 h2 => he i (by omega) (by omega)) (by omega) f' (top + 1) st' (by omega) (by omega)
    cases w with
    | none => exact ⟨fun _ => by rw [i3]; exact o2.1 rfl, fun x hx => oNS hx⟩
    | some u =>
      obtain ⟨f2, st2, j1, j3, j4, j5⟩ := o2.2 u rfl
      obtain ⟨f2, rfl⟩ : ∃ e, f2 = e + 1 := ⟨f2 - 1, by omega⟩
      have e0 : ((top + 1 + 1 + (-1)) - 1).toNat = top.toNat := by omega
      have e1 : st2 ((top + 1 + 1 + (-1)) - 1).toNat = y := by
        rw [e0, j4 top.toNat (by omega)]
        exact i5
      have e2 : st2 (top + 1 + 1 + (-1)).toNat = u := by
        rw [show (top + 1 + 1 + (-1)).toNat = (top + 1).toNat from by omega]
        exact j5
      have s : mE r t last v0 q f top k 0 st = mE r t last v0 q f2 (top + 1) (j + 1) (if op j = 9 ∧ u = 0 then 1 else if (-1000000000000) ≤ rkv (op j) y u ∧ rkv (op j) y u ≤ 1000000000000 then 0 else 1) (sU st2 top.toNat (rkv (op j) y u)) := by
        rw [i3, j3, mE_s (by omega), (he j (by omega) (by omega)).1, if_neg (show ¬ op j = 0 from by omega), if_pos h.1, if_neg (show ¬ 12 < op j from by omega), e1, e2, e0, show top + 1 + 1 + (-1) = top + 1 from by omega]
      show (mBv (op j) y u = none → _) ∧ ∀ x, mBv (op j) y u = some x → _
      unfold mBv
      by_cases z : op j = 9 ∧ u = 0
      · rw [if_pos z] at s ⊢
        exact ⟨fun _ => by rw [s]; exact mE_b f2, fun x hx => oNS hx⟩
      · rw [if_neg z] at s ⊢
        by_cases z2 : (-1000000000000) ≤ rkv (op j) y u ∧ rkv (op j) y u ≤ 1000000000000
        · rw [if_pos z2] at s ⊢
          refine ⟨fun y => oSN y, fun x hx => ?_⟩
          have x' : rkv (op j) y u = x := Option.some.inj hx
          exact ⟨f2, sU st2 top.toNat (rkv (op j) y u), by omega, s, fun i hi => (sU_n (by omega)).trans ((j4 i (by omega)).trans (i4 i hi)), (sU_e rfl).trans x'⟩
        · rw [if_neg z2] at s ⊢
          exact ⟨fun _ => by rw [s]; exact mE_b f2, fun x hx => oNS hx⟩
/-- AND (19, 0) and OR (20, 1) -/
theorem mP_j {q : Int → Int} {op ar : Int → Int} {k l j g s : Int} {v w : Option Int} (hg : g = 20 ∧ s = 1 ∨ g = 19 ∧ s = 0) (P : mPc q op ar k l v) (h : op l = g) (hx9 : ar l = j) (R : mPc q op ar (l + 1) j w) : mPc q op ar k j (v.bind fun x => if x = s then some x else w) := by
  obtain ⟨p0, p1, p3⟩ := P
  obtain ⟨r0, r1, r3⟩ := R
  refine ⟨p0, by omega, fun r t last v0 he hl f top st ht hf => ?_⟩
  have o := p3 r t last v0 (fun i h1 h2 => he i h1 (by omega)) (by omega) f top st ht hf
  cases v with
  | none => exact ⟨fun _ => o.1 rfl, fun x hx => oNS hx⟩
  | some y =>
    obtain ⟨f', st', i1, i3, i4, i5⟩ := o.2 y rfl
    obtain ⟨f', rfl⟩ : ∃ e, f' = e + 1 := ⟨f' - 1, by omega⟩
    have tt : (top + 1 - 1).toNat = top.toNat := by omega
    have st1 : mE r t last v0 q f top k 0 st = if y = s then mE r t last v0 q f' (top + 1) j 0 st' else mE r t last v0 q f' top (l + 1) 0 st' := by
      rw [i3, mE_s (by omega), (he l (by omega) (by omega)).1, (he l (by omega) (by omega)).2, h, hx9, if_neg (show ¬ g = 0 from by omega), if_pos (show 6 ≤ g from by omega), if_pos (show 12 < g from by omega), if_pos (show 18 ≤ g from by omega), if_neg (show ¬ g = 18 from by omega), tt, i5, show top + 1 + (-1) = top from by omega]
      rcases hg with ⟨g1, s1⟩ | ⟨g1, s1⟩
      · rw [if_neg (show ¬ g = 19 from by omega), s1]
      · rw [if_pos g1, s1]
    show ((if y = s then some y else w) = none → _) ∧ ∀ x, (if y = s then some y else w) = some x → _
    by_cases z : y = s
    · rw [if_pos z] at st1 ⊢
      refine ⟨fun u => oSN u, fun x hx => ?_⟩
      have x' : y = x := Option.some.inj hx
      exact ⟨f', st', by omega, st1, i4, i5.trans x'⟩
    · rw [if_neg z] at st1 ⊢
      have o2 := r3 r t last v0 (fun i h1 h2 => he i (by omega) (by omega)) (by omega) f' top st' (by omega) (by omega)
      refine ⟨fun u => by rw [st1]; exact o2.1 u, fun x hx => ?_⟩
      obtain ⟨f2, st2, j1, j3, j4, j5⟩ := o2.2 x hx
      exact ⟨f2, st2, by omega, st1.trans j3, fun i hi => (j4 i hi).trans (i4 i hi), j5⟩
/-- a piece from first to last -/
theorem mP_z {q : Int → Int} {r : Nat → Int} {t k l v0 : Int} {v : Option Int} (P : mPc q (oR r t) (aR r t) k l v) {f : Nat} (hf : l - k < f) (st : Nat → Int) : (v = none → (mE r t l v0 q f 0 k 0 st).1 ≠ 0) ∧ ∀ x, v = some x → mE r t l v0 q f 0 k 0 st = (0, x) := by
  obtain ⟨p0, p1, p3⟩ := P
  have o := p3 r t l v0 (fun _ _ _ => ⟨rfl, rfl⟩) (by omega) f 0 st (by omega) hf
  refine ⟨o.1, fun x hx => ?_⟩
  obtain ⟨f', st', i1, i3, i4, i5⟩ := o.2 x hx
  obtain ⟨f', rfl⟩ : ∃ e, f' = e + 1 := ⟨f' - 1, by omega⟩
  rw [i3]
  show (if l ≤ l then mEf 0 (0 + 1) st' else _) = _
  rw [if_pos (by omega)]
  unfold mEf
  rw [if_neg (by decide)]
  exact congrArg (fun z => ((0 : Int), z)) i5
end jG46

section jG47
/-! pure: pieces of code that come to the same on both sides -/
def rg (x : Int) : Prop := -1000000000000 ≤ x ∧ x ≤ 1000000000000
theorem l_dv {x y : Int} (hx : rg x) (hy : rg y) (h0 : y ≠ 0) : rg (j_ldiv x y) := by
  unfold rg at *
  have key : ∀ a b : Int, 0 ≤ a → a ≤ 1000000000000 → 0 < b → 0 ≤ a.tdiv b ∧ a.tdiv b ≤ 1000000000000 := fun a b h1 h2 h3 => by
    rw [Int.tdiv_eq_ediv_of_nonneg h1]
    have i1 : a / b ≤ a := Int.ediv_le_self _ h1
    have i2 : 0 ≤ a / b := Int.ediv_nonneg h1 (by omega)
    omega
  have t : -1000000000000 ≤ x.tdiv y ∧ x.tdiv y ≤ 1000000000000 := by
    by_cases c1 : 0 ≤ x
    · by_cases c2 : 0 < y
      · have := key x y c1 hx.2 c2
        omega
      · have k := key x (-y) c1 hx.2 (by omega)
        rw [Int.tdiv_neg] at k
        omega
    · by_cases c2 : 0 < y
      · have k := key (-x) y (by omega) (by omega) c2
        rw [Int.neg_tdiv] at k
        omega
      · have k := key (-x) (-y) (by omega) (by omega) (by omega)
        rw [Int.neg_tdiv, Int.tdiv_neg, Int.neg_neg] at k
        omega
  unfold j_ldiv
  rw [Int64.toInt_div, l_of (by omega), l_of (by omega)]
  have e : (x.tdiv y).bmod (2 ^ 64) = x.tdiv y := Int.bmod_eq_of_le (by omega) (by omega)
  rw [e]
  exact t
theorem l_ml {x y A : Int} (hA : 0 < A) (hx : x = A ∨ x = -A) (h : y ≤ 1000000000000 / A ∧ -y ≤ 1000000000000 / A) : -1000000000000 ≤ x * y ∧ x * y ≤ 1000000000000 := by
  have d : A * (1000000000000 / A) ≤ 1000000000000 := Int.mul_ediv_self_le (by omega)
  have u1 : A * y ≤ A * (1000000000000 / A) := Int.mul_le_mul_of_nonneg_left h.1 (by omega)
  have u2 : A * (-y) ≤ A * (1000000000000 / A) := Int.mul_le_mul_of_nonneg_left h.2 (by omega)
  rw [Int.mul_neg] at u2
  rcases hx with e | e
  · rw [e]
    omega
  · rw [e, Int.neg_mul]
    omega
theorem cr_e {o x y : Int} (ho : 6 ≤ o ∧ o ≤ 12) (hx : rg x) (hy : rg y) : (if cmb (o - 3) x y = -2000000000000 then none else some (cmb (o - 3) x y)) = mBv o x y := by
  have rx := hx
  have ry := hy
  unfold rg at rx ry
  unfold mBv
  have cases7 : o = 6 ∨ o = 7 ∨ o = 8 ∨ o = 9 ∨ o = 10 ∨ o = 11 ∨ o = 12 := by omega
  rcases cases7 with e | e | e | e | e | e | e
  · subst e
    have c : cmb (6 - 3) x y = if 1000000000000 < x + y then -2000000000000 else if -1000000000000 ≤ x + y then x + y else -2000000000000 := by
      rw [← l_a (x := x) (y := y) (by omega) (by omega) (by omega)]
      rfl
    have r : rkv 6 x y = x + y := by
      rw [← l_a (x := x) (y := y) (by omega) (by omega) (by omega)]
      rfl
    rw [if_neg (c := (6 : Int) = 9 ∧ y = 0) (fun z => absurd z.1 (by decide)), c, r]
    by_cases z : 1000000000000 < x + y
    · rw [if_pos z, if_pos rfl, if_neg (by omega)]
    · rw [if_neg z]
      by_cases z2 : -1000000000000 ≤ x + y
      · rw [if_pos z2, if_neg (by omega), if_pos (by omega)]
      · rw [if_neg z2, if_pos rfl, if_neg (by omega)]
  · subst e
    have c : cmb (7 - 3) x y = if 1000000000000 < x - y then -2000000000000 else if -1000000000000 ≤ x - y then x - y else -2000000000000 := by
      rw [← l_s (x := x) (y := y) (by omega) (by omega) (by omega)]
      rfl
    have r : rkv 7 x y = x - y := by
      rw [← l_s (x := x) (y := y) (by omega) (by omega) (by omega)]
      rfl
    rw [if_neg (c := (7 : Int) = 9 ∧ y = 0) (fun z => absurd z.1 (by decide)), c, r]
    by_cases z : 1000000000000 < x - y
    · rw [if_pos z, if_pos rfl, if_neg (by omega)]
    · rw [if_neg z]
      by_cases z2 : -1000000000000 ≤ x - y
      · rw [if_pos z2, if_neg (by omega), if_pos (by omega)]
      · rw [if_neg z2, if_pos rfl, if_neg (by omega)]
  · subst e
    have c : cmb (8 - 3) x y = if x = 0 then j_lmul x y else if j_labs y ≤ j_ldiv 1000000000000 (j_labs x) then j_lmul x y else -2000000000000 := rfl
    have r : rkv 8 x y = rkm x y := rfl
    rw [if_neg (c := (8 : Int) = 9 ∧ y = 0) (fun z => absurd z.1 (by decide)), c, r]
    unfold rkm
    by_cases x0 : x = 0
    · have m : j_lmul x y = 0 := by
        rw [l_m (by omega) (by omega) (by rw [x0, Int.zero_mul]; omega), x0, Int.zero_mul]
      rw [if_pos x0, if_pos x0, m, if_neg (by decide), if_pos (by decide)]
    · rw [if_neg x0, if_neg x0]
      have lb : ∀ z : Int, rg z → j_labs z = if 0 ≤ z then z else -z := fun z hz => by
        unfold rg at hz
        unfold j_labs
        rw [l_n (by omega)]
        by_cases c1 : 0 < z
        · rw [if_pos c1, if_pos (by omega)]
        · rw [if_neg c1]
          by_cases c2 : 0 ≤ z
          · rw [if_pos c2]
            omega
          · rw [if_neg c2]
      rw [lb x hx, lb y hy, l_n (x := x) (by omega), l_n (x := y) (by omega)]
      have hA : 0 < (if 0 ≤ x then x else -x) ∧ (if 0 ≤ x then x else -x) ≤ 1000000000000 ∧ (x = (if 0 ≤ x then x else -x) ∨ x = -(if 0 ≤ x then x else -x)) := by
        by_cases c1 : 0 ≤ x
        · rw [if_pos c1]; omega
        · rw [if_neg c1]; omega
      generalize (if 0 ≤ x then x else -x) = A at *
      rw [l_d (x := 1000000000000) (y := A) (by omega) (by omega)]
      by_cases w : y ≤ 1000000000000 / A ∧ -y ≤ 1000000000000 / A
      · have p := l_ml hA.1 hA.2.2 w
        rw [l_m (x := x) (y := y) (by omega) (by omega) (by omega)]
        have w2 : (if 0 ≤ y then y else -y) ≤ 1000000000000 / A := by
          by_cases c2 : 0 ≤ y
          · rw [if_pos c2]; exact w.1
          · rw [if_neg c2]; exact w.2
        rw [if_pos w2, if_neg (by omega), if_neg (show ¬ 1000000000000 / A < y from by omega), if_pos w.2, if_pos p]
      · have w2 : ¬ (if 0 ≤ y then y else -y) ≤ 1000000000000 / A := fun z => by
          by_cases c2 : 0 ≤ y
          · rw [if_pos c2] at z
            exact w ⟨z, by omega⟩
          · rw [if_neg c2] at z
            exact w ⟨by omega, z⟩
        rw [if_neg w2, if_pos rfl]
        by_cases w3 : 1000000000000 / A < y
        · rw [if_pos w3, if_neg (by decide)]
        · rw [if_neg w3, if_neg (show ¬ -y ≤ 1000000000000 / A from fun z => w ⟨by omega, z⟩), if_neg (by decide)]
  · subst e
    have c : cmb (9 - 3) x y = if y = 0 then -2000000000000 else j_ldiv x y := rfl
    have r : rkv 9 x y = if (9 : Int) = 9 ∧ y = 0 then 0 else j_ldiv x y := rfl
    rw [c, r]
    by_cases y0 : y = 0
    · rw [if_pos y0, if_pos rfl, if_pos ⟨rfl, y0⟩]
    · have b := l_dv hx hy y0
      unfold rg at b
      have n9 : ¬ ((9 : Int) = 9 ∧ y = 0) := fun z => y0 z.2
      rw [if_neg y0, if_neg n9, if_neg n9, if_neg (by omega), if_pos b]
  · subst e
    have c : cmb (10 - 3) x y = if y ≤ x then 0 else 1 := rfl
    have r : rkv 10 x y = if y ≤ x then 0 else 1 := rfl
    rw [if_neg (c := (10 : Int) = 9 ∧ y = 0) (fun z => absurd z.1 (by decide)), c, r]
    by_cases z : y ≤ x
    · rw [if_pos z, if_neg (by decide), if_pos (by decide)]
    · rw [if_neg z, if_neg (by decide), if_pos (by decide)]
  · subst e
    have c : cmb (11 - 3) x y = if x ≤ y then 0 else 1 := rfl
    have r : rkv 11 x y = if x ≤ y then 0 else 1 := rfl
    rw [if_neg (c := (11 : Int) = 9 ∧ y = 0) (fun z => absurd z.1 (by decide)), c, r]
    by_cases z : x ≤ y
    · rw [if_pos z, if_neg (by decide), if_pos (by decide)]
    · rw [if_neg z, if_neg (by decide), if_pos (by decide)]
  · subst e
    have c : cmb (12 - 3) x y = if x = y then 1 else 0 := rfl
    have r : rkv 12 x y = if x = y then 1 else 0 := rfl
    rw [if_neg (c := (12 : Int) = 9 ∧ y = 0) (fun z => absurd z.1 (by decide)), c, r]
    by_cases z : x = y
    · rw [if_pos z, if_neg (by decide), if_pos (by decide)]
    · rw [if_neg z, if_neg (by decide), if_pos (by decide)]
end jG47

section jG48
/-! pure: a piece of code on both sides: the same on both -/
def pPc (cd : Nat → Int) (op ar : Int → Int) (a b m k l : Int) (ts : Prop) : Prop := ∀ q, qOk q → ∃ v : Option Int, xPc q cd a b m v ∧ mPc q op ar k l v ∧ ∀ x, v = some x → rg x ∧ (ts → x = 0 ∨ x = 1)
theorem pP_z {cd : Nat → Int} {L : Int} {r : Nat → Int} {t a b m k l : Int} {ts : Prop} (P : pPc cd (oR r t) (aR r t) a b m k l ts) (h : cd b.toNat = 0) (hb : b < L) (hL : L ≤ 1200) (hm : m ≤ 98) (hl : l - k < 4294967296) : pEx cd L r t a k l ts := by
  intro q hq st st' v0
  obtain ⟨v, X, M, R⟩ := P q hq
  have x := xP_z X h hb hL hm st
  have e := mP_z (v0 := v0) M (f := 4294967296) (by omega) st'
  generalize xE cd L q 1201 a 0 0 st = xx at *
  generalize mE r t l v0 q 4294967296 0 k 0 st' = mm at *
  cases v with
  | none => exact Or.inr ⟨e.1 rfl, x⟩
  | some y =>
    have e2 := e.2 y rfl
    have r2 := R y rfl
    have x2 : xx = y := x
    have r3 := r2.1
    unfold rg at r3
    refine Or.inl ⟨by rw [e2], by rw [e2]; exact x, by omega, fun z => by rw [x2]; exact r2.2 z⟩
end jG48

section jG49
/-! pure: pairs of pieces: how they are put together -/
theorem pP_p {cd : Nat → Int} {op ar : Int → Int} {a k : Int} (ha : 0 ≤ a) (hk : 0 ≤ k) (h : cd a.toNat = 1) (h2 : op k = 0) (h3 : ar k = cd (a + 1).toNat) (h4 : rg (cd (a + 1).toNat)) : pPc cd op ar a (a + 2) 1 k (k + 1) False := fun q hq => by
  refine ⟨some (cd (a + 1).toNat), xP_p ha h, ?_, fun x hx => ⟨?_, fun z => z.elim⟩⟩
  · have m := mP_l (q := q) (ar := ar) hk (Or.inl ⟨by omega, by omega⟩ : 0 ≤ op k ∧ op k ≤ 5 ∨ 13 ≤ op k ∧ op k ≤ 17)
    unfold mLv at m
    rw [if_pos h2, h3] at m
    exact m
  · rw [← Option.some.inj hx]
    exact h4
theorem pP_b {cd : Nat → Int} {op ar : Int → Int} {a b c m n k l j : Int} {t1 t2 : Prop} (P : pPc cd op ar a b m k l t1) (R : pPc cd op ar b c n l j t2) (h : 6 ≤ op j ∧ op j ≤ 12) (h2 : cd c.toNat = op j - 3) : pPc cd op ar a (c + 1) (m + n) k (j + 1) (10 ≤ op j) := fun q hq => by
  obtain ⟨v, X1, M1, R1⟩ := P q hq
  obtain ⟨w, X2, M2, R2⟩ := R q hq
  have xb := xP_b X1 X2 (by omega)
  have mb := mP_b M1 M2 h
  rw [h2] at xb
  have e : (v.bind fun x => w.bind fun y => if cmb (op j - 3) x y = -2000000000000 then none else some (cmb (op j - 3) x y)) = v.bind fun x => w.bind fun y => mBv (op j) x y := by
    cases v with
    | none => rfl
    | some x =>
      cases w with
      | none => rfl
      | some y => exact cr_e h (R1 x rfl).1 (R2 y rfl).1
  rw [e] at xb
  refine ⟨_, xb, mb, fun z hz => ?_⟩
  cases v with
  | none => exact oNS hz
  | some x =>
    cases w with
    | none => exact oNS hz
    | some y =>
      have hz2 : mBv (op j) x y = some z := hz
      unfold mBv at hz2
      by_cases c1 : op j = 9 ∧ y = 0
      · rw [if_pos c1] at hz2
        exact oNS hz2
      · rw [if_neg c1] at hz2
        by_cases c2 : (-1000000000000) ≤ rkv (op j) x y ∧ rkv (op j) x y ≤ 1000000000000
        · rw [if_pos c2] at hz2
          have z2 := Option.some.inj hz2
          rw [← z2]
          refine ⟨c2, fun t => ?_⟩
          unfold rkv
          rw [if_neg c1, if_neg (show ¬ op j = 6 from by omega), if_neg (show ¬ op j = 7 from by omega), if_neg (show ¬ op j = 8 from by omega), if_neg (show ¬ op j = 9 from by omega)]
          repeat' split
          all_goals first | exact Or.inl rfl | exact Or.inr rfl
        · rw [if_neg c2] at hz2
          exact oNS hz2
theorem pP_j {cd : Nat → Int} {op ar : Int → Int} {a b c m n k l j g s : Int} (hg : g = 20 ∧ s = 1 ∨ g = 19 ∧ s = 0) (P : pPc cd op ar a b m k l True) (R : pPc cd op ar (b + 2) c n (l + 1) j True) (h1 : cd b.toNat = (if g = 20 then 11 else 12)) (h2 : cd (b + 1).toNat = c) (h3 : op l = g) (h4 : ar l = j) : pPc cd op ar a c (m + n) k j True := fun q hq => by
  obtain ⟨v, X1, M1, R1⟩ := P q hq
  obtain ⟨w, X2, M2, R2⟩ := R q hq
  have hg2 : (if g = 20 then (11 : Int) else 12) = 11 ∧ s = 1 ∨ (if g = 20 then (11 : Int) else 12) = 12 ∧ s = 0 := by
    rcases hg with ⟨g1, s1⟩ | ⟨g1, s1⟩
    · exact Or.inl ⟨if_pos g1, s1⟩
    · exact Or.inr ⟨if_neg (by omega), s1⟩
  refine ⟨_, xP_j hg2 X1 h1 h2 X2, mP_j hg M1 h3 h4 M2, fun z hz => ?_⟩
  cases v with
  | none => exact oNS hz
  | some x =>
    have hz2 : (if x = s then some x else w) = some z := hz
    by_cases c1 : x = s
    · rw [if_pos c1] at hz2
      rw [← Option.some.inj hz2]
      exact R1 x rfl
    · rw [if_neg c1] at hz2
      exact R2 z hz2
end jG49
