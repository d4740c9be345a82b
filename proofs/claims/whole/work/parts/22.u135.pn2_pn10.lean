section jG130
/-! pure: two rows that the class cannot tell apart: what is kept of the one is kept of the other -/
section
variable {X Y : jW} {E F : pE} {t : jT} {w : Nat} {wm : Nat → Nat}
/-- what lasts at the class stays while these cells stay -/
def xG (b : Nat) : Prop := b < 31 ∨ (33 ≤ b ∧ b ≤ 64) ∨ (73 ≤ b ∧ b ≤ 77) ∨ (79 ≤ b ∧ b ≤ 81) ∨ b = 88 ∨ b = 123 ∨ 174 ≤ b
theorem pCp_f (P : pCp X E t w wm) (c : ∀ b : Nat, xG b → Y.1 b = X.1 b) (c18 : Y.1 32 18 = X.1 32 18) (c19 : 1 ≤ Y.1 32 19) (c78 : ∀ k : Nat, k ≠ 13 → Y.1 78 k = X.1 78 k) (c87 : Y.1 87 3 = X.1 87 3) (cR : ∀ b : Nat, b = 66 ∨ 174 ≤ b → Y.2.2.1 b = X.2.2.1 b) (c4 : Y.2.2.2 = X.2.2.2) : pCp Y E t w wm := by
  unfold xG at c
  obtain ⟨p1, p2, p3, p4, p5, p6, p7, p8, p9⟩ := P
  refine ⟨?_, ?_, ?_, ?_, ?_, ?_, by rw [c87]; exact p7, fun a ha => by rw [c 88 (by decide)]; exact p8 a ha, c19⟩
  · obtain ⟨q1, q2, q3, q4, q5, q6, q7, q8⟩ := p1
    refine ⟨q1, q2, q3, q4, by rw [c78 6 (by decide)]; exact q5, ?_, fun q hq => ?_, fun m hm => ?_⟩
    · unfold pT
      rw [c (32 + 1 + 2 * pt_2.1) (by decide), c (32 + 2 + 2 * pt_2.1) (by decide)]
      exact q6
    · unfold pFc
      rw [c 75 (by decide), c 76 (by decide), c 77 (by decide)]
      exact q7 q hq
    · unfold pSl
      rw [c 79 (by decide), c 80 (by decide), c 81 (by decide)]
      exact q8 m hm
  · obtain ⟨d1, d2, d3, d4⟩ := p2
    refine ⟨fun t ht => ?_, ?_, ?_, ?_⟩
    · have k : t.1 ≤ 15 := by
        have a : (pTs.all fun t => Nat.ble t.1 15) = true := rfl
        rw [List.all_eq_true] at a
        exact Nat.le_of_ble_eq_true (a t ht)
      unfold pT
      rw [c (32 + 1 + 2 * t.1) (by omega), c (32 + 2 + 2 * t.1) (by omega)]
      exact d1 t ht
    · unfold pNm
      rw [c (32 + 3) (by decide), c (32 + 4) (by decide)]
      exact d2
    · unfold pBo
      rw [c (32 + 7) (by decide), c (32 + 8) (by decide)]
      exact d3
    · exact pHo_e (by rw [c _ (by decide)]) (by rw [c _ (by decide)]) (fun _ _ => rfl) d4
  · obtain ⟨c1, cc⟩ := p3
    refine ⟨by rw [c18]; exact c1, fun t a b => ?_⟩
    obtain ⟨T, hd, q1, ⟨r1, r2, r3, r4, r5, r6, r7, r8⟩, ⟨cd, u1, u2, u3⟩⟩ := cc t a b
    refine ⟨T, hd, by rw [cR 66 (by decide)]; exact q1, ⟨r1, r2, by rw [c T (by omega)]; exact r3, by rw [c T (by omega)]; exact r4, by rw [c T (by omega)]; exact r5, by rw [c T (by omega)]; exact r6, by rw [cR T (by omega)]; exact r7, fun i ca cb => by rw [c hd (by omega)]; exact r8 i ca cb⟩, ⟨cd, u1, by rw [cR T (by omega)]; exact u2, fun i ca cb ce => by rw [c hd (by omega), c cd (by omega), c4]; exact u3 i ca cb ce⟩⟩
  · unfold pSu pSt
    rw [c 1 (by decide), c 2 (by decide)]
    exact p4
  · unfold pSp
    rw [c 73 (by decide), c 74 (by decide)]
    exact p5
  · rw [c78 2 (by decide), c78 3 (by decide), c78 4 (by decide), c78 5 (by decide)]
    exact p6
theorem pCp_v {v : Int} (P : pCp X E t w wm) (hv : 1 ≤ v) : pCp (vu X 32 19 v) E t w wm := pCp_f P (fun b hb => vu_c (by unfold xG at hb; omega)) (vu_n (by omega)) (by rw [show (vu X 32 19 v).1 32 19 = v from vu_e rfl]; exact hv) (fun k _ => vu_n (by omega)) (vu_n (by omega)) (fun _ _ => rfl) rfl
/-- nothing is kept where the version is no key -/
theorem pCk_0 (h : ∀ q : Nat × Nat, q ∈ kyl → X.1 q.1 q.2 ≠ X.1 32 19) : pCk X E t w wm :=
  ⟨fun _ e => absurd e (h (86, 2) (by decide)), fun e => absurd e (h (101, 2) (by decide)), fun e => absurd e (h (105, 2) (by decide)), fun e => absurd e (h (114, 2) (by decide)), fun e => absurd e (h (119, 2) (by decide)), fun e => absurd e (h (111, 2) (by decide)), fun e => absurd e (h (87, 13) (by decide))⟩
theorem fresh_v (X : jW) : ∃ v : Int, 1 ≤ v ∧ (∀ (E : pE) (t : jT) (w : Nat) (wm : Nat → Nat), pCk (vu X 32 19 v) E t w wm) ∧ ∀ q : Nat × Nat, q ∈ kyl → (vu X 32 19 v).1 q.1 q.2 ≠ (vu X 32 19 v).1 32 19 := by
  have key : ∀ q : Nat × Nat, q ∈ kyl → (vu X 32 19 (1 + (X.1 86 2).toNat + (X.1 101 2).toNat + (X.1 105 2).toNat + (X.1 111 2).toNat + (X.1 114 2).toNat + (X.1 119 2).toNat + (X.1 87 13).toNat)).1 q.1 q.2 ≠ (vu X 32 19 (1 + (X.1 86 2).toNat + (X.1 101 2).toNat + (X.1 105 2).toNat + (X.1 111 2).toNat + (X.1 114 2).toNat + (X.1 119 2).toNat + (X.1 87 13).toNat)).1 32 19 := by
    intro q hq
    rw [show (vu X 32 19 (1 + (X.1 86 2).toNat + (X.1 101 2).toNat + (X.1 105 2).toNat + (X.1 111 2).toNat + (X.1 114 2).toNat + (X.1 119 2).toNat + (X.1 87 13).toNat)).1 32 19 = _ from vu_e rfl]
    unfold kyl at hq
    simp only [List.mem_cons, List.not_mem_nil, or_false] at hq
    rcases hq with rfl | rfl | rfl | rfl | rfl | rfl | rfl
    · show (vu X 32 19 _).1 86 2 ≠ _
      rw [vu_n (by decide)]
      omega
    · show (vu X 32 19 _).1 101 2 ≠ _
      rw [vu_n (by decide)]
      omega
    · show (vu X 32 19 _).1 105 2 ≠ _
      rw [vu_n (by decide)]
      omega
    · show (vu X 32 19 _).1 111 2 ≠ _
      rw [vu_n (by decide)]
      omega
    · show (vu X 32 19 _).1 114 2 ≠ _
      rw [vu_n (by decide)]
      omega
    · show (vu X 32 19 _).1 119 2 ≠ _
      rw [vu_n (by decide)]
      omega
    · show (vu X 32 19 _).1 87 13 ≠ _
      rw [vu_n (by decide)]
      omega
  exact ⟨_, by omega, fun E t w wm => pCk_0 key, key⟩
/-- the two rows -/
def pTw (X : jW) (E F : pE) (t : jT) (w : Nat) (wm : Nat → Nat) : Prop := (pCp X E t w wm ∧ pIv E t w wm) ∧ pCp X F t w wm ∧ pIv F t w wm
theorem tw_s (A : pTw X E F t w wm) : pTw X F E t w wm := ⟨A.2, A.1⟩
theorem tw_n (A : pTw X E F t w wm) : E.1 0 = F.1 0 ∧ E.1 4 = F.1 4 ∧ E.1 7 = F.1 7 ∧ E.1 11 = F.1 11 := ⟨((A.1.1.2.1.1 pt_0 (by decide)).1).symm.trans (A.2.1.2.1.1 pt_0 (by decide)).1, (A.1.1.2.2.1.1).symm.trans A.2.1.2.2.1.1, (A.1.1.2.1.2.2.2.2.1).symm.trans A.2.1.2.1.2.2.2.2.1, ((A.1.1.2.1.1 pt_10 (by decide)).1).symm.trans (A.2.1.2.1.1 pt_10 (by decide)).1⟩
theorem tw_l (A : pTw X E F t w wm) : sNl E = sNl F := by
  unfold sNl
  rw [(tw_n A).1]
theorem tk_s (A : pTw X E F t w wm) (K : pKs X E) : pKs X F := by
  intro h1 h2
  obtain ⟨v, v1, vk, _⟩ := fresh_v X
  obtain ⟨g1, g2, g3, g4⟩ := K h1 h2
  obtain ⟨_, _, _, ⟨e1, e2, e3, e4⟩, _⟩ := c_as (pCp_v A.1.1 v1) (vk E t w wm) A.1.2.1 (X.1 86 0)
  obtain ⟨_, _, _, ⟨f1, f2, f3, f4⟩, _⟩ := c_as (pCp_v A.2.1 v1) (vk F t w wm) A.2.2.1 (X.1 86 0)
  have l := tw_l A
  have le : (sGs E (X.1 86 0)).2.length = (sGs F (X.1 86 0)).2.length := by
    have := e3.symm.trans f3
    omega
  refine ⟨fun m hm => ?_, fun m hm => ?_, ?_, fun i hi => ?_⟩
  · rw [g1 m (by omega), ← e1 m (by omega)]; exact f1 m hm
  · rw [g2 m (by omega), ← e2 m (by omega)]; exact f2 m hm
  · rw [g3, ← e3]; exact f3
  · rw [g4 i (by omega), ← e4 i (by omega)]; exact f4 i hi
theorem tk_l (A : pTw X E F t w wm) (K : pKl X E.1) : pKl X F.1 := by
  intro h
  obtain ⟨v, v1, vk, _⟩ := fresh_v X
  have G := K h
  obtain ⟨_, _, e1, _⟩ := c_as (pCp_v A.1.1 v1) (vk E t w wm) A.1.2.1 (X.1 101 1)
  obtain ⟨_, _, f1, _⟩ := c_as (pCp_v A.2.1 v1) (vk F t w wm) A.2.2.1 (X.1 101 1)
  have e2 := (xtl (d := X.1 101 0) e1 A.1.2.1.2.2.2.2.1 A.1.2.1.2.2.2.2.2.1).1
  have f2 := (xtl (d := X.1 101 0) f1 A.2.2.1.2.2.2.2.1 A.2.2.1.2.2.2.2.2.1).1
  have n4 := (tw_n A).2.1
  intro t c ht hc
  exact (G t c (by omega) hc).trans ((e2 t c (by omega) hc).symm.trans (f2 t c ht hc))
theorem tk_h (A : pTw X E F t w wm) (K : pKh X E) : pKh X F := by
  intro h
  obtain ⟨v, v1, vk, _⟩ := fresh_v X
  have G := K h
  obtain ⟨_, e0, e1, _⟩ := c_as (pCp_v A.1.1 v1) (vk E t w wm) A.1.2.1 (X.1 105 1)
  obtain ⟨_, f0, f1, _⟩ := c_as (pCp_v A.2.1 v1) (vk F t w wm) A.2.2.1 (X.1 105 1)
  have e2 := (c_tu (d := X.1 105 0) A.1.2.1 e1 e0).1.1.2.1
  have f2 := (c_tu (d := X.1 105 0) A.2.2.1 f1 f0).1.1.2.1
  have n7 := (tw_n A).2.2.1
  refine ⟨G.1.trans n7, fun q hq => ?_⟩
  have x := G.2 q (by omega)
  have y := e2.2 q (by omega)
  have z := f2.2 q hq
  exact ⟨x.1.trans (y.1.symm.trans z.1), x.2.trans (y.2.symm.trans z.2)⟩
theorem tk_e (A : pTw X E F t w wm) (K : pKe X E) : pKe X F := by
  intro h
  obtain ⟨v, v1, vk, _⟩ := fresh_v X
  obtain ⟨hd, G⟩ := K h
  obtain ⟨_, e0, e1, _⟩ := c_as (pCp_v A.1.1 v1) (vk E t w wm) A.1.2.1 (X.1 114 1)
  obtain ⟨_, f0, f1, _⟩ := c_as (pCp_v A.2.1 v1) (vk F t w wm) A.2.2.1 (X.1 114 1)
  have V := A.1.2.1
  have U := A.2.2.1
  have e2 := (xsa e1 e0.2.2.2.1 (ev_q V _) hd V.2.2.2.2.2.1 V.2.2.2.2.1 (fun p _ _ => ev_o V _ hd (p : Int))).1
  have f2 := (xsa f1 f0.2.2.2.1 (ev_q U _) hd U.2.2.2.2.2.1 U.2.2.2.2.1 (fun p _ _ => ev_o U _ hd (p : Int))).1
  have l : (sSa E (X.1 114 0) (X.1 114 1)).1 = (sSa F (X.1 114 0) (X.1 114 1)).1 := by
    have := e2.1.symm.trans f2.1
    omega
  exact ⟨hd, G.1.trans (e2.1.symm.trans f2.1), fun j hj => (G.2 j (by omega)).trans ((e2.2 j (by omega)).symm.trans (f2.2 j hj))⟩
theorem tk_t (A : pTw X E F t w wm) (K : pKt X E) : pKt X F := by
  intro h
  obtain ⟨v, v1, vk, vn⟩ := fresh_v X
  obtain ⟨y, y4, G1, G2, G3, G4⟩ := K h
  have n7 := (tw_n A).2.2.1
  have V := A.1.2.1
  have U := A.2.2.1
  by_cases y0 : y = 0
  · subst y0
    refine ⟨0, y4, G1, G2, fun j hj => absurd hj (Nat.not_lt_zero j), fun i hi => ?_⟩
    rcases G4 i (by omega) with ⟨a, _⟩ | ⟨j, j1, _⟩
    · exact Or.inl ⟨a, fun j hj => absurd hj (Nat.not_lt_zero j)⟩
    · exact absurd j1 (Nat.not_lt_zero j)
  · obtain ⟨yl, rfl⟩ : ∃ q, y = q + 1 := ⟨y - 1, by omega⟩
    obtain ⟨_, e0, e1, _, eq⟩ := c_as (pCp_v A.1.1 v1) (vk E t w wm) V (X.1 119 1)
    obtain ⟨_, f0, f1, _⟩ := c_as (pCp_v A.2.1 v1) (vk F t w wm) U (X.1 119 1)
    have O : ∀ {G : pE}, pEv G t w wm → ∀ y : Nat, y ≤ 399 → ∀ p : Nat, p < sNl G → (sGs G (X.1 119 1)).1 p = (p : Int) → qOk fun w => sQu G (sGs G (X.1 119 1)).1 ((y : Int) * 366) (X.1 119 1) w (p : Int) := fun Z y hy p _ _ => ev_o Z _ (by omega) (p : Int)
    obtain ⟨⟨y1, _, Q1⟩, _, q1⟩ := xrt3 (o := X.1 119 0) (yl := yl) e1 e0.2.2.2.2.1 (ev_q V _) (by omega) V.2.2.2.2.2.1 V.2.2.2.2.1 V.2.2.2.2.2.2.2.2.1 (O V)
    obtain ⟨⟨y2, _, Q2⟩, _, _⟩ := xrt3 (o := X.1 119 0) (yl := yl) f1 f0.2.2.2.2.1 (ev_q U _) (by omega) U.2.2.2.2.2.1 U.2.2.2.2.1 U.2.2.2.2.2.2.2.2.1 (O U)
    have k : (d_X7_asKnown_r78d (X.1 119 1) (vu X 32 19 v)).1 119 2 ≠ (d_X7_asKnown_r78d (X.1 119 1) (vu X 32 19 v)).1 32 19 := by
      rw [show (d_X7_asKnown_r78d (X.1 119 1) (vu X 32 19 v)).1 119 = (vu X 32 19 v).1 119 from pF_c (fr_d_X7_asKnown_r78d _ _) rfl, show (d_X7_asKnown_r78d (X.1 119 1) (vu X 32 19 v)).1 32 = (vu X 32 19 v).1 32 from pF_c (fr_d_X7_asKnown_r78d _ _) rfl]
      exact vn (119, 2) (by decide)
    have q := q1 k
    have w1 : y1 = yl + 1 := by
      have := Q1.2.1
      omega
    have w2 : y2 = yl + 1 := by
      have := Q2.2.1
      omega
    subst w1
    subst w2
    obtain ⟨_, a1, a2, a3, a4⟩ := Q1
    obtain ⟨_, b1, b2, b3, b4⟩ := Q2
    have ee : ∀ j : Nat, j < yl + 1 → (sYs E (sGs E (X.1 119 1)).1 (X.1 119 1) (X.1 119 0) (yl + 1)).1 j = (sYs F (sGs F (X.1 119 1)).1 (X.1 119 1) (X.1 119 0) (yl + 1)).1 j := fun j hj => (a3 j hj).1.symm.trans (b3 j hj).1
    refine ⟨yl + 1, y4, G1, G2.trans (a2.symm.trans b2), fun j hj => ⟨(G3 j hj).1.trans (ee j hj), (G3 j hj).2.trans ((a3 j hj).2.symm.trans (b3 j hj).2)⟩, fun i hi => ?_⟩
    rcases G4 i (by omega) with ⟨a, b⟩ | ⟨j, j1, j2, j3, j5⟩
    · exact Or.inl ⟨a, fun j hj => by rw [← ee j hj]; exact b j hj⟩
    · exact Or.inr ⟨j, j1, j2, (ee j j1).symm.trans j3, fun i2 i3 i4 => by rw [← ee i2 i4]; exact j5 i2 i3 i4⟩
theorem tk_v (A : pTw X E F t w wm) (K : pKv X E) : pKv X F := by
  intro h h0 h1
  obtain ⟨v, v1, vk, _⟩ := fresh_v X
  have n7 := (tw_n A).2.2.1
  have n11 := (tw_n A).2.2.2
  have G := K h h0 (by omega)
  have e := (c_po (l := X.1 111 0) (kn := X.1 111 1) (pCp_v A.1.1 v1) (vk E t w wm) A.1.2.1 A.1.2.2.1 ⟨h0, by omega⟩).1
  have f := (c_po (l := X.1 111 0) (kn := X.1 111 1) (pCp_v A.2.1 v1) (vk F t w wm) A.2.2.1 A.2.2.2.1 ⟨h0, h1⟩).1
  exact fun j hj => (G j (by omega)).trans ((e j (by omega)).symm.trans (f j hj))
theorem tk_j (A : pTw X E F t w wm) (K : pKj X E t w wm) : pKj X F t w wm := by
  intro h
  obtain ⟨v, v1, vk, _⟩ := fresh_v X
  obtain ⟨⟨g1, g2, g3, g4, g5⟩, g6⟩ := K h
  obtain ⟨⟨e1, e2, e3, e4, e5⟩, e6⟩ := (c_se (pCp_v A.1.1 v1) (vk E t w wm) A.1.2.1).1
  obtain ⟨⟨f1, f2, f3, f4, f5⟩, f6⟩ := (c_se (pCp_v A.2.1 v1) (vk F t w wm) A.2.2.1).1
  have b := e6.symm.trans f6
  have a := e1.symm.trans f1
  refine ⟨⟨g1.trans a, g2.trans (e2.symm.trans f2), f3, fun h0 j hj => ?_, fun u hu => ?_⟩, g6.trans b⟩
  · have h1 : 0 ≤ (sBe (sCan E wm) (sMus (sGs E 146399).1 wm) (sWm t E wm) w).1 := by rw [a]; exact h0
    exact (g4 h1 j hj).trans ((e4 h1 j hj).symm.trans (f4 h0 j hj))
  · have hu2 : (u : Int) ≤ wsm (sWm t E wm) (fun _ => 0) w := by rw [b]; exact hu
    exact (g5 u hu2).trans ((e5 u hu2).symm.trans (f5 u hu))
theorem tk_all (A : pTw X E F t w wm) (K : pCk X E t w wm) : pCk X F t w wm := ⟨tk_s A K.1, tk_l A K.2.1, tk_h A K.2.2.1, tk_e A K.2.2.2.1, tk_t A K.2.2.2.2.1, tk_v A K.2.2.2.2.2.1, tk_j A K.2.2.2.2.2.2⟩
end
end jG130

section jG131
/-! pure: NAMES folded, SOULS of LINES: the same where a LINE and its HAND's SPELLINGS are the same -/
theorem all_c {f g : Nat → Bool} : ∀ (l : List Nat), (∀ i : Nat, i ∈ l → f i = g i) → l.all f = l.all g := by
  intro l
  induction l with
  | nil => intro _; rfl
  | cons a l ih =>
    intro h
    rw [List.all_cons, List.all_cons, h a (List.mem_cons.mpr (Or.inl rfl)), ih (fun i hi => h i (List.mem_cons.mpr (Or.inr hi)))]
theorem sPb_c {f g : Nat → Bool} : ∀ (c p : Nat), (∀ i : Nat, p ≤ i → i < p + c → f i = g i) → sPb f c p = sPb g c p := by
  intro c
  induction c with
  | zero => intro _ _; rfl
  | succ c ih =>
    intro p h
    show (if f p = true then (p : Int) else sPb f c (p + 1)) = (if g p = true then (p : Int) else sPb g c (p + 1))
    rw [h p (by omega) (by omega), ih (p + 1) (fun i h1 h2 => h i (by omega) (by omega))]
theorem sPb_i {f : Nat → Bool} : ∀ (c p : Nat), sPb f c p = -1 ∨ ∃ i : Nat, sPb f c p = (i : Int) ∧ p ≤ i ∧ i < p + c := by
  intro c
  induction c with
  | zero => intro _; exact Or.inl rfl
  | succ c ih =>
    intro p
    by_cases z : f p = true
    · exact Or.inr ⟨p, if_pos z, by omega, by omega⟩
    · rcases ih (p + 1) with y | ⟨i, i1, i2, i3⟩
      · exact Or.inl ((if_neg z).trans y)
      · exact Or.inr ⟨i, (if_neg z).trans i1, by omega, by omega⟩
theorem ltr_c {f g : Nat → Int} : ∀ (c i : Nat), (∀ j : Nat, i ≤ j → j < i + c → f j = g j) → ltr f c i = ltr g c i := by
  intro c
  induction c with
  | zero => intro _ _; rfl
  | succ c ih =>
    intro i h
    show f i :: ltr f c (i + 1) = g i :: ltr g c (i + 1)
    rw [h i (by omega) (by omega), ih (i + 1) (fun j h1 h2 => h j (by omega) (by omega))]
/-- a HAND's SPELLINGS are the same -/
def pSh (E F : pE) (h : Nat) : Prop := F.2.1 h = E.2.1 h ∧ (∀ j : Nat, 16 * h ≤ j → j < 16 * h + 16 → F.2.2.1 j = E.2.2.1 j) ∧ ∀ j : Nat, 48 * h ≤ j → j < 48 * h + 48 → F.2.2.2.1 j = E.2.2.2.1 j
theorem sh_r {E F : pE} {h : Nat} (e : F.2 = E.2) : pSh E F h := by
  unfold pSh
  rw [e]
  exact ⟨rfl, fun _ _ _ => rfl, fun _ _ _ => rfl⟩
section
variable {E F : pE} {n h : Nat}
theorem sFo_c (S : pSr E) (hh : h < 16) (hn : E.1 n ≤ 12) (g : ∀ j : Nat, n ≤ j → j < n + 14 → F.1 j = E.1 j) (H : pSh E F h) : ∀ (f k : Nat), sFo F n h f k = sFo E n h f k := by
  obtain ⟨H1, H2, H3⟩ := H
  have cn := (S h hh).1
  have st : ∀ k p : Nat, (p : Int) < E.2.1 h → sStb F n h k p = sStb E n h k p := by
    intro k p hp
    have sp := (S h hh).2 p hp
    unfold sStb
    rw [H2 (16 * h + 2 * p) (by omega) (by omega), g n (by omega) (by omega)]
    by_cases c : (k : Int) + E.2.2.1 (16 * h + 2 * p) ≤ E.1 n
    · rw [decide_eq_true c, Bool.true_and, Bool.true_and]
      refine all_c _ (fun i hi => ?_)
      have := List.mem_range.mp hi
      rw [g (n + 2 + k + i) (by omega) (by omega), H3 (48 * h + 6 * p + i) (by omega) (by omega)]
    · rw [decide_eq_false c, Bool.false_and, Bool.false_and]
  have fq : ∀ k : Nat, sFq F n h k = sFq E n h k := by
    intro k
    unfold sFq
    rw [H1]
    exact sPb_c _ _ (fun i _ h2 => st k i (by omega))
  intro f
  induction f with
  | zero => intro _; rfl
  | succ f ih =>
    intro k
    unfold sFo
    rw [g n (by omega) (by omega), fq k]
    by_cases c : E.1 n ≤ (k : Int)
    · rw [if_pos c, if_pos c]
    · rw [if_neg c, if_neg c]
      by_cases c2 : sFq E n h k = -1
      · rw [if_pos c2, if_pos c2, g (n + 2 + k) (by omega) (by omega), ih]
      · rw [if_neg c2, if_neg c2]
        rcases sPb_i (f := sStb E n h k) (E.2.1 h).toNat 0 with y | ⟨i, i1, i2, i3⟩
        · exact absurd y c2
        · have e : sFq E n h k = (i : Int) := i1
          have sp := (S h hh).2 i (by omega)
          rw [e, show ((i : Int)).toNat = i from by omega]
          have r : sRt F h i = sRt E h i := by
            unfold sRt
            rw [H2 (16 * h + 2 * i + 1) (by omega) (by omega)]
            exact ltr_c _ _ (fun j _ h2 => H3 (48 * h + 6 * i + 3 + j) (by omega) (by omega))
          rw [r, H2 (16 * h + 2 * i) (by omega) (by omega), ih]
end
/-- a LINE is the same but for its NUMBER -/
def pLk (r s : Nat → Int) (l : Nat) : Prop := ∀ j : Nat, 20 + 90 * l ≤ j → j < 110 + 90 * l → j ≠ 24 + 90 * l → s j = r j
section
variable {X : jW} {E F : pE}
theorem pFc_c {q : Nat} (S : pSr E) (I : pIr E) (hq : ((q / 6 : Nat) : Int) < E.1 0) (g : pLk E.1 F.1 (q / 6)) (H : pSh E F (E.1 (21 + 90 * (q / 6))).toNat) (h : pFc X E q) : pFc X F q := by
  obtain ⟨i1, i2, i3, i4, i5⟩ := I (q / 6) hq
  have z := i5 (q % 6) (by omega)
  have e1 : F.1 (fcN q) = E.1 (fcN q) := by unfold fcN; exact g _ (by omega) (by omega) (by omega)
  have e2 : F.1 (fcN q + 1) = E.1 (fcN q + 1) := by unfold fcN; exact g _ (by omega) (by omega) (by omega)
  have e3 : F.1 (21 + 90 * (q / 6)) = E.1 (21 + 90 * (q / 6)) := g _ (by omega) (by omega) (by omega)
  have L : fcL F q = fcL E q := by
    unfold fcL
    rw [e3]
    refine sFo_c S (by omega) ?_ (fun j h1 h2 => ?_) H 13 0
    · unfold fcN; exact z.2
    · unfold fcN at h1 h2
      exact g j (by omega) (by omega) (by omega)
  unfold pFc
  rw [L, e1, e2]
  exact h
theorem sCo_c {m : Nat} (g : F.1 (20 + 90 * (m / 3)) = E.1 (20 + 90 * (m / 3))) : sCo F m = sCo E m := by
  unfold sCo
  rw [g]
theorem pSl_c {m : Nat} (g : pLk E.1 F.1 (m / 3)) (g4 : F.1 (24 + 90 * (m / 3)) = E.1 (24 + 90 * (m / 3))) (h : pSl X E m) : pSl X F m := by
  unfold pSl
  rw [sCo_c (g _ (by omega) (by omega) (by omega)), g _ (by omega) (by omega) (by omega), g4]
  exact h
end
/-! TEXTS with their code by pieces: no row but the TEXT's own is asked -/
def pCcq (h cd : Nat → Int) (L : Int) (r : Nat → Int) (t c y a b : Int) (ts : Prop) : Prop := (h (c * 6 + y).toNat = -1 ∧ b ≤ a) ∨ ∃ e m : Int, pPc cd (oR r t) (aR r t) (h (c * 6 + y).toNat) e m a b ts ∧ cd e.toNat = 0 ∧ e < L ∧ L ≤ 1200 ∧ m ≤ 98 ∧ b ≤ 400
theorem ccq_c {h cd : Nat → Int} {L : Int} {r : Nat → Int} {t c y a b : Int} {ts : Prop} (P : pCcq h cd L r t c y a b ts) : pCc h cd L r t c y a b ts := by
  rcases P with ⟨p1, p2⟩ | ⟨e, m, p1, p2, p3, p4, p5, p6⟩
  · exact ⟨⟨fun _ => p2, fun _ => p1⟩, fun h => absurd p1 h⟩
  · have q := pPc_l p1
    exact ⟨⟨fun h => by omega, fun h => by omega⟩, fun _ => pP_z p1 p2 p3 p4 p5 (by omega)⟩
theorem ccq_m {h cd : Nat → Int} {L : Int} {r s : Nat → Int} {t c y a b : Int} {ts : Prop} (ht : 0 ≤ t) (g : ∀ j : Nat, 18944 + 924 * t ≤ (j : Int) → (j : Int) < 19744 + 924 * t → s j = r j) (P : pCcq h cd L r t c y a b ts) : pCcq h cd L s t c y a b ts := by
  rcases P with P | ⟨e, m, p1, p2, p3, p4, p5, p6⟩
  · exact Or.inl P
  · have l := pPc_l p1
    refine Or.inr ⟨e, m, fun q hq => ?_, p2, p3, p4, p5, p6⟩
    obtain ⟨v, v1, ⟨k0, k1, v2⟩, v3⟩ := p1 q hq
    refine ⟨v, v1, ⟨k0, k1, fun r2 t2 last v0 h2 => v2 r2 t2 last v0 (fun i h3 h4 => ?_)⟩, v3⟩
    have z := h2 i h3 h4
    unfold oR aR at z ⊢
    rw [← g (((18820 + (924 * t)) + 124) + (2 * i)).toNat (by omega) (by omega), ← g ((((18820 + (924 * t)) + 124) + (2 * i)) + 1).toNat (by omega) (by omega)]
    exact z
def pTq (X : jW) (A : Nat) (r : Nat → Int) : Prop := X.1 A 18 = r 4 ∧ ∀ t : Int, 0 ≤ t → t < r 4 → ∃ T hd cd : Nat, X.2.2.1 (A + 34) t.toNat = some T ∧ pTe X r t T hd ∧ 174 ≤ cd ∧ X.2.2.1 T 5 = some cd ∧ ∀ c : Int, 0 ≤ c → c < r ((18820 + (924 * t)) + 3).toNat → r (((18820 + (924 * t)) + 4) + (10 * c)).toNat ≠ 0 →
  pCcq (X.1 hd) (X.1 cd) (((X.2.2.2.1 cd).2 : Nat) : Int) r t c 3 (r ((((18820 + (924 * t)) + 4) + (10 * c)) + 4).toNat) (r ((((18820 + (924 * t)) + 4) + (10 * c)) + 5).toNat) False ∧
  pCcq (X.1 hd) (X.1 cd) (((X.2.2.2.1 cd).2 : Nat) : Int) r t c 4 (r ((((18820 + (924 * t)) + 4) + (10 * c)) + 6).toNat) (r ((((18820 + (924 * t)) + 4) + (10 * c)) + 7).toNat) True ∧
  pCcq (X.1 hd) (X.1 cd) (((X.2.2.2.1 cd).2 : Nat) : Int) r t c 5 (r ((((18820 + (924 * t)) + 4) + (10 * c)) + 8).toNat) (r ((((18820 + (924 * t)) + 4) + (10 * c)) + 9).toNat) True
theorem pTq_t {X : jW} {r : Nat → Int} (P : pTq X 32 r) : pTc X r := by
  refine ⟨P.1, fun t a b => ?_⟩
  obtain ⟨T, hd, cd, q1, q2, q3, q4, q5⟩ := P.2 t a b
  exact ⟨T, hd, q1, q2, cd, q3, q4, fun c c0 c1 c2 => ⟨ccq_c (q5 c c0 c1 c2).1, ccq_c (q5 c c0 c1 c2).2.1, ccq_c (q5 c c0 c1 c2).2.2⟩⟩
/-- what is pointed to is there -/
def pNxt (X : jW) : Prop := ∀ c k T : Nat, c = 66 ∨ (174 ≤ c ∧ c < X.2.2.2.2) → X.2.2.1 c k = some T → T < X.2.2.2.2
theorem pTq_c {X Y : jW} {A B : Nat} {r s : Nat → Int} (N : pNxt X) (hA : A = 32 ∨ (174 ≤ A ∧ A + 34 < X.2.2.2.2)) (xA : Y.1 B 18 = X.1 A 18) (x3 : ∀ k : Nat, k < 30 → Y.2.2.1 (B + 34) k = X.2.2.1 (A + 34) k) (xc : ∀ c : Nat, 174 ≤ c → c < X.2.2.2.2 → Y.1 c = X.1 c ∧ Y.2.2.1 c = X.2.2.1 c ∧ Y.2.2.2.1 c = X.2.2.2.1 c) (c4 : s 4 = r 4) (g : rgn r s 18820 46540) (L : pIl r) (h : pTq X A r) : pTq Y B s := by
  obtain ⟨c1, cc⟩ := h
  refine ⟨by rw [xA, c1, c4], fun t a b => ?_⟩
  have b30 := L.2.1
  obtain ⟨T, hd, cd, q1, ⟨r1, r2, r3, r4, r5, r6, r7, r8⟩, q3, q4, q5⟩ := cc t a (by omega)
  have l3 := (L.2.2 t a (by omega)).2.1
  have gt : ∀ j : Nat, 18820 + 924 * t ≤ (j : Int) → (j : Int) < 18820 + 924 * t + 924 → s j = r j := fun j h1 h2 => g j (by omega) (by omega)
  have g3 : s ((18820 + (924 * t)) + 3).toNat = r ((18820 + (924 * t)) + 3).toNat := gt _ (by omega) (by omega)
  have lT := N _ _ _ (by omega) q1
  have eT := xc T r1 lT
  have eh := xc hd r2 (N _ _ _ (Or.inr ⟨r1, lT⟩) r7)
  have ed := xc cd q3 (N _ _ _ (Or.inr ⟨r1, lT⟩) q4)
  refine ⟨T, hd, cd, by rw [x3 _ (by omega)]; exact q1, ⟨r1, r2, ?_, ?_, ?_, ?_, by rw [eT.2.1]; exact r7, fun c ca cb => ?_⟩, q3, by rw [eT.2.1]; exact q4, fun c ca cb cn => ?_⟩
  · rw [eT.1, gt _ (by omega) (by omega)]; exact r3
  · rw [eT.1, gt _ (by omega) (by omega)]; exact r4
  · rw [eT.1, gt _ (by omega) (by omega)]; exact r5
  · rw [eT.1, gt _ (by omega) (by omega)]; exact r6
  · rw [g3] at cb
    rw [eh.1]
    have z := r8 c ca cb
    unfold pHe at z ⊢
    rw [gt (((18820 + (924 * t)) + 4) + (10 * c)).toNat (by omega) (by omega), gt ((((18820 + (924 * t)) + 4) + (10 * c)) + 1).toNat (by omega) (by omega), gt ((((18820 + (924 * t)) + 4) + (10 * c)) + 2).toNat (by omega) (by omega), gt ((((18820 + (924 * t)) + 4) + (10 * c)) + 3).toNat (by omega) (by omega)]
    exact z
  · rw [g3] at cb
    rw [gt (((18820 + (924 * t)) + 4) + (10 * c)).toNat (by omega) (by omega)] at cn
    have z := q5 c ca cb cn
    have gc : ∀ j : Nat, 18944 + 924 * t ≤ (j : Int) → (j : Int) < 19744 + 924 * t → s j = r j := fun j h1 h2 => gt j (by omega) (by omega)
    rw [eh.1, ed.1, ed.2.2, gt ((((18820 + (924 * t)) + 4) + (10 * c)) + 4).toNat (by omega) (by omega), gt ((((18820 + (924 * t)) + 4) + (10 * c)) + 5).toNat (by omega) (by omega), gt ((((18820 + (924 * t)) + 4) + (10 * c)) + 6).toNat (by omega) (by omega), gt ((((18820 + (924 * t)) + 4) + (10 * c)) + 7).toNat (by omega) (by omega), gt ((((18820 + (924 * t)) + 4) + (10 * c)) + 8).toNat (by omega) (by omega), gt ((((18820 + (924 * t)) + 4) + (10 * c)) + 9).toNat (by omega) (by omega)]
    exact ⟨ccq_m a gc z.1, ccq_m a gc z.2.1, ccq_m a gc z.2.2⟩
end jG131

section jG132
/-! pure: what holds between the two from call to call -/
/-- what is asked of a row whatever SPELLINGS and terms are -/
def pIz (r : Nat → Int) : Prop := ∀ i : Nat, (i : Int) < r 14 → 0 ≤ r (49361 + 4 * i)
def pIw (r : Nat → Int) : Prop := (∀ (q : (Nat → Int) × (Nat → Int) × (Nat → Int) × Int) (t : jT) (wm : Nat → Nat), pTm t → pIv (r, q) t 0 wm) ∧ pIz r
theorem iw_e {E : pE} {t : jT} {w : Nat} {wm : Nat → Nat} (I : pIv E t w wm) (Z : pIz E.1) : pIw E.1 := by
  obtain ⟨V, Ew, Ir, In, Bd⟩ := I
  obtain ⟨a, b, c, d, e, f, g, h, _, _, _, l⟩ := pEv_i.mp V
  exact ⟨fun q t wm ht => ⟨pEv_i.mpr ⟨a, b, c, d, e, f, g, h, ht, by omega, fun a ha => absurd ha (Nat.not_lt_zero a), l⟩, Ew, Ir, In, Bd⟩, Z⟩
/-- the version, and the keys of what is kept -/
def pRk (v : Int) (X : jW) : Prop := X.1 32 19 ≤ v ∧ ∀ q : Nat × Nat, q ∈ kyl → X.1 q.1 q.2 ≤ X.1 32 19
def imr (M : jW) (k : Nat) : Nat → Int := fun i => if i < 50660 then M.1 127 (50660 * k + i) else 0
/-- IMAGES -/
def pRi0 (X M : jW) : Prop := ∀ k : Nat, k < 4 → (X.2.2.1 67 k = none ∧ M.1 128 k = 0) ∨ ∃ A : Nat, X.2.2.1 67 k = some A ∧ 174 ≤ A ∧ A + 35 ≤ X.2.2.2.2 ∧ M.1 128 k ≠ 0 ∧ pD X A (imr M k) ∧ pTq X A (imr M k) ∧ (∀ j : Nat, j < 1600 → X.2.1 (A + 33) j = M.2.1 130 (1600 * k + j)) ∧ pIw (imr M k)
/-- cells of IMAGES are their own: no other IMAGE's, no TEXT's -/
def pDj (X : jW) : Prop := ∀ k A : Nat, k < 4 → X.2.2.1 67 k = some A → (∀ k2 A2 : Nat, k2 < 4 → k2 ≠ k → X.2.2.1 67 k2 = some A2 → A2 + 35 ≤ A ∨ A + 35 ≤ A2) ∧ (∀ j T : Nat, X.2.2.1 66 j = some T → (T < A ∨ A + 35 ≤ T) ∧ (174 ≤ T → ∀ i U : Nat, X.2.2.1 T i = some U → U < A ∨ A + 35 ≤ U)) ∧ ∀ k2 A2 j T : Nat, k2 < 4 → X.2.2.1 67 k2 = some A2 → X.2.2.1 (A2 + 34) j = some T → (T < A ∨ A + 35 ≤ T) ∧ (174 ≤ T → ∀ i U : Nat, X.2.2.1 T i = some U → U < A ∨ A + 35 ≤ U)
def pRi (X M : jW) : Prop := pRi0 X M ∧ pDj X
/-- what lasts -/
def pRb (X M : jW) (E : pE) (t : jT) (w : Nat) (wm : Nat → Nat) (S : Nat → Int) : Prop := pCp X E t w wm ∧ pCm M E t w wm ∧ pIv E t w wm ∧ pIz E.1 ∧ (pS4 X ∧ pWs X) ∧ pNxt X ∧ pTq X 32 E.1 ∧ pSx X S ∧ pSzm M S ∧ X.1 123 = M.1 173 ∧ (pTp X M ∧ X.1 68 2 = M.1 125 13) ∧ pRi X M
/-- with what is kept, the status, the version -/
def pRa (v : Int) (X M : jW) (E : pE) (t : jT) (w : Nat) (wm : Nat → Nat) (S : Nat → Int) : Prop := pRb X M E t w wm S ∧ pCk X E t w wm ∧ X.1 31 12 = M.1 125 1 ∧ pRk v X
def pR (v : Int) (X M : jW) : Prop := ∃ (E : pE) (t : jT) (w : Nat) (wm : Nat → Nat) (S : Nat → Int), pRa v X M E t w wm S
section
variable {v : Int} {X Y M N : jW} {E : pE} {t : jT} {w : Nat} {wm : Nat → Nat} {S : Nat → Int}
theorem rb_y (H : pRb X M E t w wm S) : pYm M := by
  obtain ⟨h1, h3, h4, _⟩ := H
  have b := h4.2.2.2.2
  unfold pBnd at b
  have e := h3.1
  refine ⟨by rw [e]; exact h1.1.1, by rw [e]; exact h4.2.2.1, by rw [e]; exact h4.2.2.2.1, ?_, by rw [cm_126 h3]; exact b.1⟩
  have z := h1.1.2.2.2.1
  rw [← e] at z
  exact z
theorem rb_c (H : pRb X M E t w wm S) : pCa E.1 := pTc_a H.1.2.2.1
theorem rb_n (H : pRb X M E t w wm S) : yrs E.1 := fun k hk => by
  have z := H.2.2.1.2.2.2.1 k hk
  omega
theorem rb_d (H : pRb X M E t w wm S) : pD X 32 (M.1 126) := by
  rw [cm_126 H.2.1]
  exact H.1.2.1
theorem rb_V (H : pRb X M E t w wm S) : pEv E t w wm := H.2.2.1.1
/-! frames -/
def pQm (M N : jW) : Prop := (∀ c : Nat, c = 126 ∨ c = 127 ∨ c = 128 ∨ c = 131 ∨ c = 132 ∨ c = 133 ∨ c = 134 ∨ c = 141 ∨ c = 173 → N.1 c = M.1 c) ∧ (∀ k : Nat, k = 1 ∨ k = 8 ∨ k = 13 ∨ k = 23 ∨ k = 24 ∨ k = 25 ∨ k = 26 ∨ k = 27 ∨ k = 36 → N.1 125 k = M.1 125 k) ∧ ∀ c k : Nat, c = 129 ∨ c = 130 → N.2.1 c k = M.2.1 c k
def okm (l : List (Nat × Nat)) : Bool := ([126, 127, 128, 131, 132, 133, 134, 141, 173, 129, 130].all fun c => !(l.any fun q => Nat.beq q.1 c)) && ([1, 8, 13, 23, 24, 25, 26, 27, 36].all fun k => !(pc l 125 k))
theorem nb_f {b : Bool} (h : (!b) = true) : b = false := by
  cases b with
  | false => rfl
  | true => exact absurd h (by decide)
theorem pc_any {l : List (Nat × Nat)} {c : Nat} (h : (l.any fun q => Nat.beq q.1 c) = false) (k : Nat) : pc l c k = false := by
  cases e : pc l c k with
  | false => rfl
  | true =>
    exfalso
    unfold pc at e
    rw [List.any_eq_true] at e
    obtain ⟨q, q1, q2⟩ := e
    rw [Bool.and_eq_true] at q2
    have : (l.any fun q => Nat.beq q.1 c) = true := by
      rw [List.any_eq_true]
      exact ⟨q, q1, q2.1⟩
    rw [this] at h
    exact absurd h (by decide)
theorem qm_F {l : List (Nat × Nat)} (F : pF l M N) (a : okm l = true) : pQm M N := by
  unfold okm at a
  rw [Bool.and_eq_true, List.all_eq_true, List.all_eq_true] at a
  refine ⟨fun c hc => pF_c F (nb_f (a.1 c ?_)), fun k hk => F.1 125 k (nb_f (a.2 k ?_)), fun c k hc => F.2.1 c k (pc_any (nb_f (a.1 c ?_)) k)⟩
  · rcases hc with rfl | rfl | rfl | rfl | rfl | rfl | rfl | rfl | rfl <;> decide
  · rcases hk with rfl | rfl | rfl | rfl | rfl | rfl | rfl | rfl | rfl <;> decide
  · rcases hc with rfl | rfl <;> decide
theorem pCm_q (m : pQm M N) (P : pCm M E t w wm) : pCm N E t w wm := by
  obtain ⟨p1, p2, p3, p4⟩ := P
  refine ⟨?_, ?_, (m.2.1 36 (by decide)).trans p3, fun a ha => by rw [m.1 141 (by decide)]; exact p4 a ha⟩
  · unfold eOf at *
    rw [m.1 126 (by decide), m.1 132 (by decide), m.1 133 (by decide), m.1 134 (by decide), m.2.1 27 (by decide)]
    exact p1
  · rw [m.2.1 23 (by decide), m.2.1 24 (by decide), m.2.1 25 (by decide), m.2.1 26 (by decide)]
    exact p2
theorem pD_A {A : Nat} {r : Nat → Int} (e : ∀ c : Nat, A < c → c ≤ A + 32 → Y.1 c = X.1 c) (h : pD X A r) : pD Y A r := by
  obtain ⟨d1, d2, d3, d4⟩ := h
  refine ⟨fun t ht => ?_, ?_, ?_, ?_⟩
  · have k : t.1 ≤ 15 := by
      have a : (pTs.all fun t => Nat.ble t.1 15) = true := rfl
      rw [List.all_eq_true] at a
      exact Nat.le_of_ble_eq_true (a t ht)
    unfold pT
    rw [e (A + 1 + 2 * t.1) (by omega) (by omega), e (A + 2 + 2 * t.1) (by omega) (by omega)]
    exact d1 t ht
  · unfold pNm
    rw [e (A + 3) (by omega) (by omega), e (A + 4) (by omega) (by omega)]
    exact d2
  · unfold pBo
    rw [e (A + 7) (by omega) (by omega), e (A + 8) (by omega) (by omega)]
    exact d3
  · exact pHo_e (by rw [e _ (by omega) (by omega)]) (by rw [e _ (by omega) (by omega)]) (fun _ _ => rfl) d4
theorem rg_r {r : Nat → Int} {lo hi : Nat} : rgn r r lo hi := fun _ _ _ => rfl
theorem ri_a (R : pRi0 X M) {k A : Nat} (hk : k < 4) (hA : X.2.2.1 67 k = some A) : 174 ≤ A ∧ A + 35 ≤ X.2.2.2.2 := by
  rcases R k hk with ⟨a, _⟩ | ⟨B, b1, b2, b3, _⟩
  · rw [a] at hA; cases hA
  · rw [b1] at hA
    have := Option.some.inj hA
    omega
/-- IMAGES stay while what is there stays -/
theorem ri_g (R : pRi X M) (Nx : pNxt X) (e1 : ∀ c : Nat, 174 ≤ c → c < X.2.2.2.2 → Y.1 c = X.1 c ∧ Y.2.1 c = X.2.1 c ∧ Y.2.2.1 c = X.2.2.1 c ∧ Y.2.2.2.1 c = X.2.2.2.1 c) (e67 : Y.2.2.1 67 = X.2.2.1 67) (e66 : ∀ j T : Nat, Y.2.2.1 66 j = some T → (X.2.2.1 66 j = some T ∨ ∃ k2 A2 j2 : Nat, k2 < 4 ∧ X.2.2.1 67 k2 = some A2 ∧ X.2.2.1 (A2 + 34) j2 = some T) ∨ (X.2.2.2.2 ≤ T ∧ ∀ i U : Nat, Y.2.2.1 T i = some U → X.2.2.2.2 ≤ U)) (en : X.2.2.2.2 ≤ Y.2.2.2.2) (m1 : N.1 127 = M.1 127) (m2 : N.1 128 = M.1 128) (m3 : N.2.1 130 = M.2.1 130) : pRi Y N := by
  refine ⟨?_, fun k A hk hA => ?_⟩
  · intro k hk
    have im : imr N k = imr M k := by unfold imr; rw [m1]
    rcases R.1 k hk with ⟨a, b⟩ | ⟨A, a1, a2, a3, a4, a5, a6, a7, a8⟩
    · exact Or.inl ⟨by rw [e67]; exact a, by rw [m2]; exact b⟩
    · refine Or.inr ⟨A, by rw [e67]; exact a1, a2, by omega, by rw [m2]; exact a4, ?_, ?_, fun j hj => by rw [(e1 (A + 33) (by omega) (by omega)).2.1, m3]; exact a7 j hj, by rw [im]; exact a8⟩
      · rw [im]
        exact pD_A (fun c c1 c2 => (e1 c (by omega) (by omega)).1) a5
      · rw [im]
        refine pTq_c Nx (Or.inr ⟨a2, by omega⟩) (by rw [(e1 A a2 (by omega)).1]) (fun k _ => by rw [(e1 (A + 34) (by omega) (by omega)).2.2.1]) (fun c c1 c2 => ⟨(e1 c c1 c2).1, (e1 c c1 c2).2.2⟩) rfl rg_r ?_ a6
        have z := (a8.1 (fun _ => 0, fun _ => 0, fun _ => 0, 0) (0, 0, 0, 0) (fun _ => 0) ⟨by decide, by decide, by decide, by decide⟩).1
        exact z.2.2.2.2.1
  · rw [e67] at hA
    have bA := ri_a R.1 hk hA
    obtain ⟨d1, d2, d3⟩ := R.2 k A hk hA
    refine ⟨fun k2 A2 h1 h2 h3 => d1 k2 A2 h1 h2 (by rw [← e67]; exact h3), fun j T h1 => ?_, fun k2 A2 j T h1 h2 h3 => ?_⟩
    · rcases e66 j T h1 with (z | ⟨k3, A3, j3, q1, q2, q3⟩) | ⟨z1, z2⟩
      · refine ⟨(d2 j T z).1, fun hT i U hU => ?_⟩
        rw [(e1 T hT (Nx 66 j T (Or.inl rfl) z)).2.2.1] at hU
        exact (d2 j T z).2 hT i U hU
      · have b3 := ri_a R.1 q1 q2
        refine ⟨(d3 k3 A3 j3 T q1 q2 q3).1, fun hT i U hU => ?_⟩
        rw [(e1 T hT (Nx (A3 + 34) j3 T (Or.inr (by omega)) q3)).2.2.1] at hU
        exact (d3 k3 A3 j3 T q1 q2 q3).2 hT i U hU
      · exact ⟨Or.inr (by omega), fun _ i U hU => Or.inr (by have := z2 i U hU; omega)⟩
    · rw [e67] at h2
      have b2 := ri_a R.1 h1 h2
      rw [(e1 (A2 + 34) (by omega) (by omega)).2.2.1] at h3
      refine ⟨(d3 k2 A2 j T h1 h2 h3).1, fun hT i U hU => ?_⟩
      rw [(e1 T hT (Nx (A2 + 34) j T (Or.inr (by omega)) h3)).2.2.1] at hU
      exact (d3 k2 A2 j T h1 h2 h3).2 hT i U hU
theorem ri_f (R : pRi X M) (Nx : pNxt X) (e1 : ∀ c : Nat, 174 ≤ c → c < X.2.2.2.2 → Y.1 c = X.1 c ∧ Y.2.1 c = X.2.1 c ∧ Y.2.2.1 c = X.2.2.1 c ∧ Y.2.2.2.1 c = X.2.2.2.1 c) (e67 : Y.2.2.1 67 = X.2.2.1 67) (e66 : Y.2.2.1 66 = X.2.2.1 66) (en : X.2.2.2.2 ≤ Y.2.2.2.2) (m1 : N.1 127 = M.1 127) (m2 : N.1 128 = M.1 128) (m3 : N.2.1 130 = M.2.1 130) : pRi Y N := ri_g R Nx e1 e67 (fun j T h => Or.inl (Or.inl (by rw [← e66]; exact h))) en m1 m2 m3
theorem tp_f (h : pTp X M) (a : Y.1 68 1 = X.1 68 1) (b : Y.1 69 = X.1 69) (c : N.1 125 8 = M.1 125 8) (d : N.1 131 = M.1 131) : pTp Y N := tp_c a b c d h
theorem wst_f {c : Nat} {l : List Int} (e : Y.1 c = X.1 c) (h : wSt X c l) : wSt Y c l := by
  unfold wSt at *
  rw [e]
  exact h
theorem ws_f (c : ∀ b : Nat, b < 31 → Y.1 b = X.1 b) (h : pS4 X ∧ pWs X) : pS4 Y ∧ pWs Y := by
  refine ⟨?_, ?_⟩
  · have h6 := h.1
    unfold pS4 at *
    rw [c 3 (by decide), c 4 (by decide)]
    exact h6
  · obtain ⟨w1, w2, w3, w4, w5, w6, w7, w8, w9, w10, w11, w12, w13⟩ := h.2
    exact ⟨wst_f (c 18 (by decide)) w1, wst_f (c 19 (by decide)) w2, wst_f (c 20 (by decide)) w3, wst_f (c 21 (by decide)) w4, wst_f (c 22 (by decide)) w5, wst_f (c 23 (by decide)) w6, wst_f (c 24 (by decide)) w7, wst_f (c 25 (by decide)) w8, wst_f (c 26 (by decide)) w9, wst_f (c 27 (by decide)) w10, wst_f (c 28 (by decide)) w11, wst_f (c 29 (by decide)) w12, wst_f (c 30 (by decide)) w13⟩
/-- what lasts stays while these cells stay -/
theorem rb_f (H : pRb X M E t w wm S) (c : ∀ b : Nat, xG b → Y.1 b = X.1 b) (c18 : Y.1 32 18 = X.1 32 18) (c19 : 1 ≤ Y.1 32 19) (c78 : ∀ k : Nat, k ≠ 13 → Y.1 78 k = X.1 78 k) (c87 : Y.1 87 3 = X.1 87 3) (cL : ∀ b : Nat, b = 65 ∨ 174 ≤ b → Y.2.1 b = X.2.1 b) (cR : ∀ b : Nat, b = 66 ∨ b = 67 ∨ 174 ≤ b → Y.2.2.1 b = X.2.2.1 b) (c4 : Y.2.2.2 = X.2.2.2) (m : pCm N E t w wm) (m1 : N.1 127 = M.1 127) (m2 : N.1 128 = M.1 128) (m3 : N.1 173 = M.1 173) (m4 : N.2.1 129 = M.2.1 129) (m5 : N.2.1 130 = M.2.1 130) (T : pTp Y N ∧ Y.1 68 2 = N.1 125 13) : pRb Y N E t w wm S := by
  obtain ⟨h1, h3, h4, h5, h6, h8, h9, h10, h11, h12, h14, h17⟩ := H
  have up : ∀ b : Nat, 174 ≤ b → Y.1 b = X.1 b ∧ Y.2.1 b = X.2.1 b ∧ Y.2.2.1 b = X.2.2.1 b ∧ Y.2.2.2.1 b = X.2.2.2.1 b := fun b hb => ⟨c b (by unfold xG; omega), cL b (Or.inr hb), cR b (by omega), by rw [c4]⟩
  refine ⟨pCp_f h1 c c18 c19 c78 c87 (fun b hb => cR b (by omega)) c4, m, h4, h5, ws_f (fun b hb => c b (by unfold xG; omega)) h6, fun a k T ha hT => ?_, ?_, fun k => by rw [cL 65 (by decide)]; exact h10 k, fun k => by rw [m4]; exact h11 k, ?_, T, ri_f h17 h8 (fun b b1 _ => up b b1) (cR 67 (by decide)) (cR 66 (by decide)) (by rw [c4]; exact Nat.le_refl _) m1 m2 m5⟩
  · rw [cR a (by omega)] at hT
    rw [c4] at ha ⊢
    exact h8 a k T ha hT
  · exact pTq_c h8 (Or.inl rfl) c18 (fun k _ => by rw [cR 66 (by decide)]) (fun b b1 _ => ⟨(up b b1).1, (up b b1).2.2⟩) rfl rg_r h4.1.2.2.2.2.1 h9
  · rw [c 123 (by unfold xG; omega), m3]
    exact h12
/-- asking -/
theorem ra_q (H : pRa v X M E t w wm S) (x : pQ0 X Y) (k : pQk X Y) (K : pCk Y E t w wm) (m : pQm M N) : pRa v Y N E t w wm S := by
  obtain ⟨B, _, st, kv⟩ := H
  have q : ∀ b : Nat, b < 78 → qC b := fun b hb => Or.inl hb
  have q2 : ∀ b : Nat, 174 ≤ b → qC b := fun b hb => Or.inr (Or.inr (Or.inr (Or.inr (by omega))))
  have lo : ∀ b : Nat, b < 78 → Y.1 b = X.1 b := fun b hb => x.1 b (q b hb)
  have T := B.2.2.2.2.2.2.2.2.2.2.1
  refine ⟨rb_f B (fun b hb => x.1 b (by unfold xG at hb; unfold qC; omega)) (by rw [lo 32 (by decide)]) (by rw [lo 32 (by decide)]; exact B.1.2.2.2.2.2.2.2.2) x.2.1 (x.2.2.1 3 (by decide)) (fun b hb => x.2.2.2.1 b (by unfold qC; omega)) (fun b hb => funext fun j => x.2.2.2.2.1 b j (by unfold qC; omega)) x.2.2.2.2.2 (pCm_q m B.2.1) (m.1 127 (by decide)) (m.1 128 (by decide)) (m.1 173 (by decide)) (funext fun j => m.2.2 129 j (Or.inl rfl)) (funext fun j => m.2.2 130 j (Or.inr rfl)) ⟨tp_c (by rw [lo 68 (by decide)]) (lo 69 (by decide)) (m.2.1 8 (by decide)) (m.1 131 (by decide)) T.1, by rw [lo 68 (by decide), m.2.1 13 (by decide)]; exact T.2⟩, K, by rw [lo 31 (by decide), m.2.1 1 (by decide)]; exact st, by rw [k.1]; exact kv.1, fun z hz => ?_⟩
  rw [k.1]
  rcases k.2 z hz with e | e
  · rw [e]; exact kv.2 z hz
  · rw [e]; exact Int.le_refl _
theorem pCk_f (c : ∀ b : Nat, b = 32 ∨ b = 49 ∨ (78 ≤ b ∧ b ≤ 94) ∨ (99 ≤ b ∧ b ≤ 119) → Y.1 b = X.1 b) (K : pCk X E t w wm) : pCk Y E t w wm :=
  ⟨pKs_e (fun b hb => c b (by omega)) (by rw [c 78 (by decide)]) K.1, pKl_c (c 99 (by decide)) (c 101 (by decide)) (c 32 (by decide)) K.2.1, pKh_c (c 102 (by decide)) (c 103 (by decide)) (c 105 (by decide)) (c 49 (by decide)) (c 32 (by decide)) K.2.2.1, pKe_e (fun b hb => c b (by omega)) (by rw [c 107 (by decide)]) K.2.2.2.1, pKt_e (fun b hb => c b (by omega)) (by rw [c 107 (by decide)]) (by rw [c 107 (by decide)]) K.2.2.2.2.1, pKv_e (fun b hb => c b (by omega)) K.2.2.2.2.2.1, pKj_e (fun b hb => c b (by omega)) (fun k _ _ => by rw [c 87 (by decide)]) K.2.2.2.2.2.2⟩
theorem kyl_c {z : Nat × Nat} (hz : z ∈ kyl) : z.1 = 86 ∨ z.1 = 87 ∨ z.1 = 101 ∨ z.1 = 105 ∨ z.1 = 111 ∨ z.1 = 114 ∨ z.1 = 119 := by
  unfold kyl at hz
  simp only [List.mem_cons, List.not_mem_nil, or_false] at hz
  rcases hz with rfl | rfl | rfl | rfl | rfl | rfl | rfl <;> decide
/-- the tape, the status, what reading leaves: the rest stays -/
theorem ra_t (H : pRa v X M E t w wm S) (c : ∀ b : Nat, b < 31 ∨ (32 ≤ b ∧ b ≤ 64) ∨ (73 ≤ b ∧ b ≤ 94) ∨ (99 ≤ b ∧ b ≤ 119) ∨ b = 123 ∨ 174 ≤ b → Y.1 b = X.1 b) (c2 : Y.2 = X.2) (m : pCm N E t w wm) (m1 : N.1 127 = M.1 127) (m2 : N.1 128 = M.1 128) (m3 : N.1 173 = M.1 173) (m4 : N.2.1 129 = M.2.1 129) (m5 : N.2.1 130 = M.2.1 130) (T : pTp Y N ∧ Y.1 68 2 = N.1 125 13) (st : Y.1 31 12 = N.1 125 1) : pRa v Y N E t w wm S := by
  obtain ⟨B, K, _, kv⟩ := H
  refine ⟨rb_f B (fun b hb => c b (by unfold xG at hb; omega)) (by rw [c 32 (by decide)]) (by rw [c 32 (by decide)]; exact B.1.2.2.2.2.2.2.2.2) (fun k _ => by rw [c 78 (by decide)]) (by rw [c 87 (by decide)]) (fun b _ => by rw [c2]) (fun b _ => by rw [c2]) (by rw [c2]) m m1 m2 m3 m4 m5 T, pCk_f (fun b hb => c b (by omega)) K, st, by rw [c 32 (by decide)]; exact kv.1, fun z hz => ?_⟩
  have := kyl_c hz
  rw [c 32 (by decide), c z.1 (by omega)]
  exact kv.2 z hz
theorem ra_s {e : Int} (H : pRa v X M E t w wm S) : pRa v (vu X 31 12 e) (vu (vu M 125 0 0) 125 1 e) E t w wm S := by
  have m3 := cm_u (c := 125) (k := 1) (x := e) (cm_u (c := 125) (k := 0) (x := 0) H.1.2.1 (by omega)) (by omega)
  have T := H.1.2.2.2.2.2.2.2.2.2.2.1
  exact ra_t H (fun b hb => vu_c (by omega)) rfl m3 ((vu_c (by decide)).trans (vu_c (by decide))) ((vu_c (by decide)).trans (vu_c (by decide))) ((vu_c (by decide)).trans (vu_c (by decide))) rfl rfl ⟨tp_c (vu_n (by omega)) (vu_c (by decide)) ((vu_n (by omega)).trans (vu_n (by omega))) ((vu_c (by decide)).trans (vu_c (by decide))) T.1, by rw [vu_n (by omega), vu_n (by omega), vu_n (by omega)]; exact T.2⟩ (by rw [vu_e rfl, vu_e rfl])
theorem ra_f {x m : Int × jW} (H : pRa v X M E t w wm S) (h : pRf X M x m) : x.1 = m.1 ∧ pRa v x.2 m.2 E t w wm S := by
  obtain ⟨e, _, rfl, rfl⟩ := h
  exact ⟨rfl, ra_s H⟩
theorem ra_v {v2 : Int} (H : pRa v X M E t w wm S) (h : v ≤ v2) : pRa v2 X M E t w wm S := ⟨H.1, H.2.1, H.2.2.1, by have := H.2.2.2.1; omega, H.2.2.2.2⟩
theorem ia_1 {x : Int} (h : 0 ≤ x ∧ x < 2147483647) : j_iadd x 1 = x + 1 := j_ia (by omega) (by omega) (by omega)
/-- an accepted call: what lasts is as told, nothing is kept any more -/
theorem ra_a {X1 M1 : jW} {E1 : pE} {t1 : jT} {w1 : Nat} {wm1 : Nat → Nat} {S1 : Nat → Int} (H : pRa v X M E t w wm S) (hv : v < 2147483646) (B : pRb X1 M1 E1 t1 w1 wm1 S1) (k : ∀ z : Nat × Nat, z ∈ kyl → X1.1 z.1 z.2 ≤ X.1 32 19) : pRa (v + 1) (pAx X X1) (vu M1 125 1 0) E1 t1 w1 wm1 S1 := by
  have kv := H.2.2.2
  have v1 := H.1.1.2.2.2.2.2.2.2.2
  have e : j_iadd (X.1 32 19) 1 = X.1 32 19 + 1 := ia_1 (by have := kv.1; omega)
  unfold pAx
  rw [e]
  have c : ∀ b : Nat, b ≠ 31 → b ≠ 32 → (vu (vu X1 31 12 0) 32 19 (X.1 32 19 + 1)).1 b = X1.1 b := fun b h1 h2 => (vu_c h2).trans (vu_c h1)
  have c18 : (vu (vu X1 31 12 0) 32 19 (X.1 32 19 + 1)).1 32 18 = X1.1 32 18 := (vu_n (by omega)).trans (vu_n (by omega))
  have c19 : (vu (vu X1 31 12 0) 32 19 (X.1 32 19 + 1)).1 32 19 = X.1 32 19 + 1 := vu_e rfl
  have c12 : (vu (vu X1 31 12 0) 32 19 (X.1 32 19 + 1)).1 31 12 = 0 := (vu_n (by omega)).trans (vu_e rfl)
  have c2 : (vu (vu X1 31 12 0) 32 19 (X.1 32 19 + 1)).2 = X1.2 := rfl
  have T := B.2.2.2.2.2.2.2.2.2.2.1
  have m3 := cm_u (c := 125) (k := 1) (x := 0) B.2.1 (by omega)
  have kk : ∀ z : Nat × Nat, z ∈ kyl → (vu (vu X1 31 12 0) 32 19 (X.1 32 19 + 1)).1 z.1 z.2 ≤ X.1 32 19 := fun z hz => by
    have := kyl_c hz
    rw [c z.1 (by omega) (by omega)]
    exact k z hz
  generalize vu (vu X1 31 12 0) 32 19 (X.1 32 19 + 1) = Z at *
  refine ⟨rb_f B (fun b hb => c b (by unfold xG at hb; omega) (by unfold xG at hb; omega)) c18 (by rw [c19]; omega) (fun k _ => by rw [c 78 (by decide) (by decide)]) (by rw [c 87 (by decide) (by decide)]) (fun b _ => by rw [c2]) (fun b _ => by rw [c2]) (by rw [c2]) m3 (vu_c (by decide)) (vu_c (by decide)) (vu_c (by decide)) rfl rfl ⟨tp_c (by rw [c 68 (by decide) (by decide)]) (c 69 (by decide) (by decide)) (vu_n (by omega)) (vu_c (by decide)) T.1, by rw [c 68 (by decide) (by decide), vu_n (by omega)]; exact T.2⟩, pCk_0 (fun z hz => by have := kk z hz; rw [c19]; omega), by rw [c12]; exact (vu_e rfl).symm, by rw [c19]; have := kv.1; omega, fun z hz => by have := kk z hz; rw [c19]; omega⟩
end
end jG132

section jG133
/-! pure: calls that ask (wip/gen/asks.py prints it) -/
section
variable {v : Int} {X M : jW}
theorem q_soul {a kn : Int} (H : pR v X M) : (d_X11_soul_r31d a kn X).1 = (d_X12_soul_r125d a kn M).1 ∧ pR v (d_X11_soul_r31d a kn X).2 (d_X12_soul_r125d a kn M).2 := by
  obtain ⟨E, t, w, wm, S, H⟩ := H
  have x : (d_X11_soul_r31d a kn X).1 = _ ∧ pCk (d_X11_soul_r31d a kn X).2 E t w wm := x_soul H.1.1 H.2.1 H.1.2.2.1.1 
  have m : (d_X12_soul_r125d a kn M).1 = _ := m_soul H.1.2.1 (rb_y H.1) H.1.2.2.1.1 
  exact ⟨x.1.trans m.symm, E, t, w, wm, S, ra_q H (pQ0_F (fr_d_X11_soul_r31d a kn X) rfl) (qk_d_X11_soul_r31d a kn X) x.2 (qm_F (fr_d_X12_soul_r125d a kn M) rfl)⟩
theorem q_waits {kn i : Int} (H : pR v X M) : (d_X11_waits_r31d kn i X).1 = (d_X12_waits_r125d kn i M).1 ∧ pR v (d_X11_waits_r31d kn i X).2 (d_X12_waits_r125d kn i M).2 := by
  obtain ⟨E, t, w, wm, S, H⟩ := H
  have x : (d_X11_waits_r31d kn i X).1 = _ ∧ pCk (d_X11_waits_r31d kn i X).2 E t w wm := x_waits H.1.1 H.2.1 H.1.2.2.1.1 
  have m : (d_X12_waits_r125d kn i M).1 = _ := m_waits H.1.2.1 (rb_y H.1) H.1.2.2.1.1 
  exact ⟨x.1.trans m.symm, E, t, w, wm, S, ra_q H (pQ0_F (fr_d_X11_waits_r31d kn i X) rfl) (qk_d_X11_waits_r31d kn i X) x.2 (qm_F (fr_d_X12_waits_r125d kn i M) rfl)⟩
theorem q_span {a kn k : Int} (H : pR v X M) : (d_X11_span_r31d a kn k X).1 = (d_X12_span_r125d a kn k M).1 ∧ pR v (d_X11_span_r31d a kn k X).2 (d_X12_span_r125d a kn k M).2 := by
  obtain ⟨E, t, w, wm, S, H⟩ := H
  have x : (d_X11_span_r31d a kn k X).1 = _ ∧ pCk (d_X11_span_r31d a kn k X).2 E t w wm := x_span H.1.1 H.2.1 H.1.2.2.1.1 
  have m : (d_X12_span_r125d a kn k M).1 = _ := m_span H.1.2.1 (rb_y H.1) H.1.2.2.1.1 
  exact ⟨x.1.trans m.symm, E, t, w, wm, S, ra_q H (pQ0_F (fr_d_X11_span_r31d a kn k X) rfl) (qk_d_X11_span_r31d a kn k X) x.2 (qm_F (fr_d_X12_span_r125d a kn k M) rfl)⟩
theorem q_mentions {a kn k i : Int} (H : pR v X M) : (d_X11_mentions_r31d a kn k i X).1 = (d_X12_mentions_r125d a kn k i M).1 ∧ pR v (d_X11_mentions_r31d a kn k i X).2 (d_X12_mentions_r125d a kn k i M).2 := by
  obtain ⟨E, t, w, wm, S, H⟩ := H
  have x : (d_X11_mentions_r31d a kn k i X).1 = _ ∧ pCk (d_X11_mentions_r31d a kn k i X).2 E t w wm := x_mentions H.1.1 H.2.1 H.1.2.2.1.1 
  have m : (d_X12_mentions_r125d a kn k i M).1 = _ := m_mentions H.1.2.1 (rb_y H.1) H.1.2.2.1.1 
  exact ⟨x.1.trans m.symm, E, t, w, wm, S, ra_q H (pQ0_F (fr_d_X11_mentions_r31d a kn k i X) rfl) (qk_d_X11_mentions_r31d a kn k i X) x.2 (qm_F (fr_d_X12_mentions_r125d a kn k i M) rfl)⟩
theorem q_kin {a kn k i : Int} (H : pR v X M) : (d_X11_kin_r31d a kn k i X).1 = (d_X12_kin_r125d a kn k i M).1 ∧ pR v (d_X11_kin_r31d a kn k i X).2 (d_X12_kin_r125d a kn k i M).2 := by
  obtain ⟨E, t, w, wm, S, H⟩ := H
  have x : (d_X11_kin_r31d a kn k i X).1 = _ ∧ pCk (d_X11_kin_r31d a kn k i X).2 E t w wm := x_kin H.1.1 H.2.1 H.1.2.2.1.1 
  have m : (d_X12_kin_r125d a kn k i M).1 = _ := m_kin H.1.2.1 (rb_y H.1) H.1.2.2.1.1 
  exact ⟨x.1.trans m.symm, E, t, w, wm, S, ra_q H (pQ0_F (fr_d_X11_kin_r31d a kn k i X) rfl) (qk_d_X11_kin_r31d a kn k i X) x.2 (qm_F (fr_d_X12_kin_r125d a kn k i M) rfl)⟩
theorem q_about {a d kn k : Int} (H : pR v X M) : (d_X11_about_r31d a d kn k X).1 = (d_X12_about_r125d a d kn k M).1 ∧ pR v (d_X11_about_r31d a d kn k X).2 (d_X12_about_r125d a d kn k M).2 := by
  obtain ⟨E, t, w, wm, S, H⟩ := H
  have x : (d_X11_about_r31d a d kn k X).1 = _ ∧ pCk (d_X11_about_r31d a d kn k X).2 E t w wm := x_about H.1.1 H.2.1 H.1.2.2.1.1 
  have m : (d_X12_about_r125d a d kn k M).1 = _ := m_about H.1.2.1 (rb_y H.1) H.1.2.2.1.1 
  exact ⟨x.1.trans m.symm, E, t, w, wm, S, ra_q H (pQ0_F (fr_d_X11_about_r31d a d kn k X) rfl) (qk_d_X11_about_r31d a d kn k X) x.2 (qm_F (fr_d_X12_about_r125d a d kn k M) rfl)⟩
theorem q_holds {x1 c a d kn : Int} (H : pR v X M) : (d_X11_holds_r31d x1 c a d kn X).1 = (d_X12_holds_r125d x1 c a d kn M).1 ∧ pR v (d_X11_holds_r31d x1 c a d kn X).2 (d_X12_holds_r125d x1 c a d kn M).2 := by
  obtain ⟨E, t, w, wm, S, H⟩ := H
  have x : (d_X11_holds_r31d x1 c a d kn X).1 = _ ∧ pCk (d_X11_holds_r31d x1 c a d kn X).2 E t w wm := x_holds H.1.1 H.2.1 H.1.2.2.1.1 
  have m : (d_X12_holds_r125d x1 c a d kn M).1 = _ := m_holds H.1.2.1 (rb_y H.1) H.1.2.2.1.1 (rb_c H.1)
  exact ⟨x.1.trans m.symm, E, t, w, wm, S, ra_q H (pQ0_F (fr_d_X11_holds_r31d x1 c a d kn X) rfl) (qk_d_X11_holds_r31d x1 c a d kn X) x.2 (qm_F (fr_d_X12_holds_r125d x1 c a d kn M) rfl)⟩
theorem q_badge {a d kn : Int} (H : pR v X M) : (d_X11_badge_r31d a d kn X).1 = (d_X12_badge_r125d a d kn M).1 ∧ pR v (d_X11_badge_r31d a d kn X).2 (d_X12_badge_r125d a d kn M).2 := by
  obtain ⟨E, t, w, wm, S, H⟩ := H
  have x : (d_X11_badge_r31d a d kn X).1 = _ ∧ pCk (d_X11_badge_r31d a d kn X).2 E t w wm := x_badge H.1.1 H.2.1 H.1.2.2.1.1 
  have m : (d_X12_badge_r125d a d kn M).1 = _ := m_badge H.1.2.1 (rb_y H.1) H.1.2.2.1.1 (rb_c H.1)
  exact ⟨x.1.trans m.symm, E, t, w, wm, S, ra_q H (pQ0_F (fr_d_X11_badge_r31d a d kn X) rfl) (qk_d_X11_badge_r31d a d kn X) x.2 (qm_F (fr_d_X12_badge_r125d a d kn M) rfl)⟩
theorem q_force {x1 c d kn : Int} (H : pR v X M) : (d_X11_force_r31d x1 c d kn X).1 = (d_X12_force_r125d x1 c d kn M).1 ∧ pR v (d_X11_force_r31d x1 c d kn X).2 (d_X12_force_r125d x1 c d kn M).2 := by
  obtain ⟨E, t, w, wm, S, H⟩ := H
  have x : (d_X11_force_r31d x1 c d kn X).1 = _ ∧ pCk (d_X11_force_r31d x1 c d kn X).2 E t w wm := x_force H.1.1 H.2.1 H.1.2.2.1.1 
  have m : (d_X12_force_r125d x1 c d kn M).1 = _ := m_force H.1.2.1 (rb_y H.1) H.1.2.2.1.1 
  exact ⟨x.1.trans m.symm, E, t, w, wm, S, ra_q H (pQ0_F (fr_d_X11_force_r31d x1 c d kn X) rfl) (qk_d_X11_force_r31d x1 c d kn X) x.2 (qm_F (fr_d_X12_force_r125d x1 c d kn M) rfl)⟩
theorem q_house {h d kn k : Int} (H : pR v X M) : (d_X11_house_r31d h d kn k X).1 = (d_X12_house_r125d h d kn k M).1 ∧ pR v (d_X11_house_r31d h d kn k X).2 (d_X12_house_r125d h d kn k M).2 := by
  obtain ⟨E, t, w, wm, S, H⟩ := H
  have x : (d_X11_house_r31d h d kn k X).1 = _ ∧ pCk (d_X11_house_r31d h d kn k X).2 E t w wm := x_house H.1.1 H.2.1 H.1.2.2.1.1 
  have m : (d_X12_house_r125d h d kn k M).1 = _ := m_house H.1.2.1 (rb_y H.1) H.1.2.2.1.1 
  exact ⟨x.1.trans m.symm, E, t, w, wm, S, ra_q H (pQ0_F (fr_d_X11_house_r31d h d kn k X) rfl) (qk_d_X11_house_r31d h d kn k X) x.2 (qm_F (fr_d_X12_house_r125d h d kn k M) rfl)⟩
theorem q_seat {d kn i : Int} (H : pR v X M) : (d_X11_seat_r31d d kn i X).1 = (d_X12_seat_r125d d kn i M).1 ∧ pR v (d_X11_seat_r31d d kn i X).2 (d_X12_seat_r125d d kn i M).2 := by
  obtain ⟨E, t, w, wm, S, H⟩ := H
  have x : (d_X11_seat_r31d d kn i X).1 = _ ∧ pCk (d_X11_seat_r31d d kn i X).2 E t w wm := x_seat H.1.1 H.2.1 H.1.2.2.1.1 
  have m : (d_X12_seat_r125d d kn i M).1 = _ := m_seat H.1.2.1 (rb_y H.1) H.1.2.2.1.1 (rb_c H.1)
  exact ⟨x.1.trans m.symm, E, t, w, wm, S, ra_q H (pQ0_F (fr_d_X11_seat_r31d d kn i X) rfl) (qk_d_X11_seat_r31d d kn i X) x.2 (qm_F (fr_d_X12_seat_r125d d kn i M) rfl)⟩
theorem q_turn {o y kn k : Int} (H : pR v X M) : (d_X11_turn_r31d o y kn k X).1 = (d_X12_turn_r125d o y kn k M).1 ∧ pR v (d_X11_turn_r31d o y kn k X).2 (d_X12_turn_r125d o y kn k M).2 := by
  obtain ⟨E, t, w, wm, S, H⟩ := H
  have x : (d_X11_turn_r31d o y kn k X).1 = _ ∧ pCk (d_X11_turn_r31d o y kn k X).2 E t w wm := x_turn H.1.1 H.2.1 H.1.2.2.1.1 
  have m : (d_X12_turn_r125d o y kn k M).1 = _ := m_turn H.1.2.1 (rb_y H.1) H.1.2.2.1.1 (rb_c H.1)
  exact ⟨x.1.trans m.symm, E, t, w, wm, S, ra_q H (pQ0_F (fr_d_X11_turn_r31d o y kn k X) rfl) (qk_d_X11_turn_r31d o y kn k X) x.2 (qm_F (fr_d_X12_turn_r125d o y kn k M) rfl)⟩
theorem q_fill {b a c kn k : Int} (H : pR v X M) : (d_X11_fill_r31d b a c kn k X).1 = (d_X12_fill_r125d b a c kn k M).1 ∧ pR v (d_X11_fill_r31d b a c kn k X).2 (d_X12_fill_r125d b a c kn k M).2 := by
  obtain ⟨E, t, w, wm, S, H⟩ := H
  have x : (d_X11_fill_r31d b a c kn k X).1 = _ ∧ pCk (d_X11_fill_r31d b a c kn k X).2 E t w wm := x_fill H.1.1 H.2.1 H.1.2.2.1.1 
  have m : (d_X12_fill_r125d b a c kn k M).1 = _ := m_fill H.1.2.1 (rb_y H.1) H.1.2.2.1.1 H.1.2.2.1.2.1.2.2.2.2.2.2
  exact ⟨x.1.trans m.symm, E, t, w, wm, S, ra_q H (pQ0_F (fr_d_X11_fill_r31d b a c kn k X) rfl) (qk_d_X11_fill_r31d b a c kn k X) x.2 (qm_F (fr_d_X12_fill_r125d b a c kn k M) rfl)⟩
theorem q_best {k n : Int} (H : pR v X M) : (d_X11_best_r31d k n X).1 = (d_X12_best_r125d k n M).1 ∧ pR v (d_X11_best_r31d k n X).2 (d_X12_best_r125d k n M).2 := by
  obtain ⟨E, t, w, wm, S, H⟩ := H
  have x : (d_X11_best_r31d k n X).1 = _ ∧ pCk (d_X11_best_r31d k n X).2 E t w wm := x_best H.1.1 H.2.1 H.1.2.2.1.1 
  have m : (d_X12_best_r125d k n M).1 = _ := m_best H.1.2.1 (rb_y H.1) H.1.2.2.1.1 
  exact ⟨x.1.trans m.symm, E, t, w, wm, S, ra_q H (pQ0_F (fr_d_X11_best_r31d k n X) rfl) (qk_d_X11_best_r31d k n X) x.2 (qm_F (fr_d_X12_best_r125d k n M) rfl)⟩
theorem q_group {i : Int} (H : pR v X M) : (d_X11_group_r31d i X).1 = (d_X12_group_r125d i M).1 ∧ pR v (d_X11_group_r31d i X).2 (d_X12_group_r125d i M).2 := by
  obtain ⟨E, t, w, wm, S, H⟩ := H
  have x : (d_X11_group_r31d i X).1 = _ ∧ pCk (d_X11_group_r31d i X).2 E t w wm := x_group H.1.1 H.2.1 H.1.2.2.1.1 
  have m : (d_X12_group_r125d i M).1 = _ := m_group H.1.2.1 (rb_y H.1) H.1.2.2.1.1 H.1.2.2.1.2.2.1
  exact ⟨x.1.trans m.symm, E, t, w, wm, S, ra_q H (pQ0_F (fr_d_X11_group_r31d i X) rfl) (qk_d_X11_group_r31d i X) x.2 (qm_F (fr_d_X12_group_r125d i M) rfl)⟩
theorem q_belong {a d kn k : Int} (H : pR v X M) : (d_X11_belong_r31d a d kn k X).1 = (d_X12_belong_r125d a d kn k M).1 ∧ pR v (d_X11_belong_r31d a d kn k X).2 (d_X12_belong_r125d a d kn k M).2 := by
  obtain ⟨E, t, w, wm, S, H⟩ := H
  have x : (d_X11_belong_r31d a d kn k X).1 = _ ∧ pCk (d_X11_belong_r31d a d kn k X).2 E t w wm := x_belong H.1.1 H.2.1 H.1.2.2.1.1 
  have m : (d_X12_belong_r125d a d kn k M).1 = _ := m_belong H.1.2.1 (rb_y H.1) H.1.2.2.1.1 (rb_c H.1)
  exact ⟨x.1.trans m.symm, E, t, w, wm, S, ra_q H (pQ0_F (fr_d_X11_belong_r31d a d kn k X) rfl) (qk_d_X11_belong_r31d a d kn k X) x.2 (qm_F (fr_d_X12_belong_r125d a d kn k M) rfl)⟩
theorem q_beyond {l kn : Int} (H : pR v X M) : (d_X11_beyond_r31d l kn X).1 = (d_X12_beyond_r125d l kn M).1 ∧ pR v (d_X11_beyond_r31d l kn X).2 (d_X12_beyond_r125d l kn M).2 := by
  obtain ⟨E, t, w, wm, S, H⟩ := H
  have x : (d_X11_beyond_r31d l kn X).1 = _ ∧ pCk (d_X11_beyond_r31d l kn X).2 E t w wm := x_beyond H.1.1 H.2.1 H.1.2.2.1.1 
  have m : (d_X12_beyond_r125d l kn M).1 = _ := m_beyond H.1.2.1 (rb_y H.1) H.1.2.2.1.1 (rb_c H.1)
  exact ⟨x.1.trans m.symm, E, t, w, wm, S, ra_q H (pQ0_F (fr_d_X11_beyond_r31d l kn X) rfl) (qk_d_X11_beyond_r31d l kn X) x.2 (qm_F (fr_d_X12_beyond_r125d l kn M) rfl)⟩
theorem q_fee {l kn : Int} (H : pR v X M) : (d_X11_fee_r31d l kn X).1 = (d_X12_fee_r125d l kn M).1 ∧ pR v (d_X11_fee_r31d l kn X).2 (d_X12_fee_r125d l kn M).2 := by
  obtain ⟨E, t, w, wm, S, H⟩ := H
  have x : (d_X11_fee_r31d l kn X).1 = _ ∧ pCk (d_X11_fee_r31d l kn X).2 E t w wm := x_fee H.1.1 H.2.1 H.1.2.2.1.1 
  have m : (d_X12_fee_r125d l kn M).1 = _ := m_fee H.1.2.1 (rb_y H.1) H.1.2.2.1.1 (rb_c H.1)
  exact ⟨x.1.trans m.symm, E, t, w, wm, S, ra_q H (pQ0_F (fr_d_X11_fee_r31d l kn X) rfl) (qk_d_X11_fee_r31d l kn X) x.2 (qm_F (fr_d_X12_fee_r125d l kn M) rfl)⟩
theorem q_counts {k a d kn m1 : Int} (H : pR v X M) : (d_X11_counts_r31d k a d kn m1 X).1 = (d_X12_counts_r125d k a d kn m1 M).1 ∧ pR v (d_X11_counts_r31d k a d kn m1 X).2 (d_X12_counts_r125d k a d kn m1 M).2 := by
  obtain ⟨E, t, w, wm, S, H⟩ := H
  have x : (d_X11_counts_r31d k a d kn m1 X).1 = _ ∧ pCk (d_X11_counts_r31d k a d kn m1 X).2 E t w wm := x_counts H.1.1 H.2.1 H.1.2.2.1.1 H.1.2.2.2.2.1.1
  have m : (d_X12_counts_r125d k a d kn m1 M).1 = _ := m_counts H.1.2.1 (rb_y H.1) H.1.2.2.1.1 (rb_c H.1)
  exact ⟨x.1.trans m.symm, E, t, w, wm, S, ra_q H (pQ0_F (fr_d_X11_counts_r31d k a d kn m1 X) rfl) (qk_d_X11_counts_r31d k a d kn m1 X) x.2 (qm_F (fr_d_X12_counts_r125d k a d kn m1 M) rfl)⟩
theorem q_order {l kn k : Int} (H : pR v X M) : (d_X11_order_r31d l kn k X).1 = (d_X12_order_r125d l kn k M).1 ∧ pR v (d_X11_order_r31d l kn k X).2 (d_X12_order_r125d l kn k M).2 := by
  obtain ⟨E, t, w, wm, S, H⟩ := H
  have x : (d_X11_order_r31d l kn k X).1 = _ ∧ pCk (d_X11_order_r31d l kn k X).2 E t w wm := x_order H.1.1 H.2.1 H.1.2.2.1.1 H.1.2.2.1.2.1
  have m : (d_X12_order_r125d l kn k M).1 = _ := m_order H.1.2.1 (rb_y H.1) H.1.2.2.1.1 (rb_c H.1) H.1.2.2.1.2.1
  exact ⟨x.1.trans m.symm, E, t, w, wm, S, ra_q H (pQ0_F (fr_d_X11_order_r31d l kn k X) rfl) (qk_d_X11_order_r31d l kn k X) x.2 (qm_F (fr_d_X12_order_r125d l kn k M) rfl)⟩
theorem q_owe {l h kn : Int} (H : pR v X M) : (d_X11_owe_r31d l h kn X).1 = (d_X12_owe_r125d l h kn M).1 ∧ pR v (d_X11_owe_r31d l h kn X).2 (d_X12_owe_r125d l h kn M).2 := by
  obtain ⟨E, t, w, wm, S, H⟩ := H
  have x : (d_X11_owe_r31d l h kn X).1 = _ ∧ pCk (d_X11_owe_r31d l h kn X).2 E t w wm := x_owe H.1.1 H.2.1 H.1.2.2.1.1 H.1.2.2.1.2.1
  have m : (d_X12_owe_r125d l h kn M).1 = _ := m_owe H.1.2.1 (rb_y H.1) H.1.2.2.1.1 (rb_c H.1) H.1.2.2.1.2.1
  exact ⟨x.1.trans m.symm, E, t, w, wm, S, ra_q H (pQ0_F (fr_d_X11_owe_r31d l h kn X) rfl) (qk_d_X11_owe_r31d l h kn X) x.2 (qm_F (fr_d_X12_owe_r125d l h kn M) rfl)⟩
theorem q_arrear {l h d kn : Int} (H : pR v X M) : (d_X11_arrear_r31d l h d kn X).1 = (d_X12_arrear_r125d l h d kn M).1 ∧ pR v (d_X11_arrear_r31d l h d kn X).2 (d_X12_arrear_r125d l h d kn M).2 := by
  obtain ⟨E, t, w, wm, S, H⟩ := H
  have x : (d_X11_arrear_r31d l h d kn X).1 = _ ∧ pCk (d_X11_arrear_r31d l h d kn X).2 E t w wm := x_arrear H.1.1 H.2.1 H.1.2.2.1.1 H.1.2.2.1.2.1
  have m : (d_X12_arrear_r125d l h d kn M).1 = _ := m_arrear H.1.2.1 (rb_y H.1) H.1.2.2.1.1 (rb_c H.1) H.1.2.2.1.2.1
  exact ⟨x.1.trans m.symm, E, t, w, wm, S, ra_q H (pQ0_F (fr_d_X11_arrear_r31d l h d kn X) rfl) (qk_d_X11_arrear_r31d l h d kn X) x.2 (qm_F (fr_d_X12_arrear_r125d l h d kn M) rfl)⟩
theorem q_found {a : Int} (H : pR v X M) : (d_X11_found_r31d a X).1 = (d_X12_found_r125d a M).1 ∧ pR v (d_X11_found_r31d a X).2 (d_X12_found_r125d a M).2 := by
  obtain ⟨E, t, w, wm, S, H⟩ := H
  have x : (d_X11_found_r31d a X).1 = _ ∧ pCk (d_X11_found_r31d a X).2 E t w wm := x_found H.1.1 H.2.1 H.1.2.2.2.2.2.2.2.1 (rb_n H.1)
  have m : (d_X12_found_r125d a M).1 = _ := m_found H.1.2.1 H.1.2.2.2.2.2.2.2.2.1 H.1.2.2.1.1.2.2.2.2.2.2.2.2.2.2.2.2.2.2.2 (rb_n H.1)
  exact ⟨x.1.trans m.symm, E, t, w, wm, S, ra_q H (pQ0_F (fr_d_X11_found_r31d a X) rfl) (qk_F (fr_d_X11_found_r31d a X) rfl) x.2 (qm_F (fr_d_X12_found_r125d a M) rfl)⟩
theorem q_reason {a b : Int} (H : pR v X M) : d_X11_reason_r31d a b X = (d_X12_reason_r125d a b M).1 ∧ pR v X (d_X12_reason_r125d a b M).2 := by
  obtain ⟨E, t, w, wm, S, H⟩ := H
  have x : d_X11_reason_r31d a b X = _ := x_reason H.1.1 H.1.2.2.1.1
  have m : (d_X12_reason_r125d a b M).1 = _ := m_reason H.1.2.1 (rb_y H.1) H.1.2.2.1.1
  exact ⟨x.trans m.symm, E, t, w, wm, S, ra_q H pQ0_r qk_r H.2.1 (qm_F (fr_d_X12_reason_r125d a b M) rfl)⟩
theorem q_worth {a b : Int} (H : pR v X M) : d_X11_worth_r31d a b X = (d_X12_worth_r125d a b M).1 ∧ pR v X (d_X12_worth_r125d a b M).2 := by
  obtain ⟨E, t, w, wm, S, H⟩ := H
  have x : d_X11_worth_r31d a b X = _ := x_worth H.1.1 H.1.2.2.1.1
  have m : (d_X12_worth_r125d a b M).1 = _ := m_worth H.1.2.1 (rb_y H.1) H.1.2.2.1.1
  exact ⟨x.trans m.symm, E, t, w, wm, S, ra_q H pQ0_r qk_r H.2.1 (qm_F (fr_d_X12_worth_r125d a b M) rfl)⟩
theorem q_name {a k i : Int} (H : pR v X M) : d_X11_name_r31d a k i X = (d_X12_name_r125d a k i M).1 ∧ pR v X (d_X12_name_r125d a k i M).2 := by
  obtain ⟨E, t, w, wm, S, H⟩ := H
  have x : d_X11_name_r31d a k i X = _ := x_name H.1.1 H.1.2.2.1.1
  have m : (d_X12_name_r125d a k i M).1 = _ := m_name H.1.2.1 (rb_y H.1)
  exact ⟨x.trans m.symm, E, t, w, wm, S, ra_q H pQ0_r qk_r H.2.1 (qm_F (fr_d_X12_name_r125d a k i M) rfl)⟩
theorem q_piece {a k i n : Int} (H : pR v X M) : d_X11_piece_r31d a k i n X = (d_X12_piece_r125d a k i n M).1 ∧ pR v X (d_X12_piece_r125d a k i n M).2 := by
  obtain ⟨E, t, w, wm, S, H⟩ := H
  have x : d_X11_piece_r31d a k i n X = _ := x_piece H.1.1 H.1.2.2.1.1
  have m : (d_X12_piece_r125d a k i n M).1 = _ := m_piece H.1.2.1 (rb_y H.1)
  exact ⟨x.trans m.symm, E, t, w, wm, S, ra_q H pQ0_r qk_r H.2.1 (qm_F (fr_d_X12_piece_r125d a k i n M) rfl)⟩
theorem qm_0 {M : jW} : pQm M (vu M 125 0 0) := ⟨fun c hc => vu_c (by omega), fun k hk => vu_n (by omega), fun _ _ _ => rfl⟩
theorem q_of {a1 a2 : Int} (H : pR v X M) : d_X11_of_r31d a1 a2 X = (d_X12_of_r125d a1 a2 M).1 ∧ pR v X (d_X12_of_r125d a1 a2 M).2 := by
  obtain ⟨E, t, w, wm, S, H⟩ := H
  have x : d_X12_of_r125d a1 a2 M = (d_X11_of_r31d a1 a2 X, vu M 125 0 0) := ok_of (rb_d H.1) (by rw [cm_126 H.1.2.1]; exact fun l hl => (H.1.2.2.1.2.2.1 l hl).1) H.1.1.2.2.2.1.1
  rw [x]
  exact ⟨rfl, E, t, w, wm, S, ra_q H pQ0_r qk_r H.2.1 qm_0⟩
theorem q_as {a1 a2 : Int} (H : pR v X M) : d_X11_as_r31d a1 a2 X = (d_X12_as_r125d a1 a2 M).1 ∧ pR v X (d_X12_as_r125d a1 a2 M).2 := by
  obtain ⟨E, t, w, wm, S, H⟩ := H
  have x : d_X12_as_r125d a1 a2 M = (d_X11_as_r31d a1 a2 X, vu M 125 0 0) := ok_as (rb_d H.1) (by rw [cm_126 H.1.2.1]; exact (pEv_i.mp (rb_V H.1)).2.2.2.2.2.1)
  rw [x]
  exact ⟨rfl, E, t, w, wm, S, ra_q H pQ0_r qk_r H.2.1 qm_0⟩
theorem q_count {a1 : Int} (H : pR v X M) : d_X11_count_r31d a1 X = (d_X12_count_r125d a1 M).1 ∧ pR v X (d_X12_count_r125d a1 M).2 := by
  obtain ⟨E, t, w, wm, S, H⟩ := H
  have x : d_X12_count_r125d a1 M = (d_X11_count_r31d a1 X, vu M 125 0 0) := ok_count (rb_d H.1) (by rw [cm_126 H.1.2.1]; exact H.1.1.2.2.1.1) (H.1.1.2.2.2.2.2.2.1.trans H.1.2.1.2.2.1.symm) H.1.2.2.2.2.2.2.2.2.2.2.1.1.1
  rw [x]
  exact ⟨rfl, E, t, w, wm, S, ra_q H pQ0_r qk_r H.2.1 qm_0⟩
theorem q_balance {a1 a2 a3 : Int} (H : pR v X M) : d_X11_balance_r31d a1 a2 a3 X = (d_X12_balance_r125d a1 a2 a3 M).1 ∧ pR v X (d_X12_balance_r125d a1 a2 a3 M).2 := by
  obtain ⟨E, t, w, wm, S, H⟩ := H
  have x : d_X12_balance_r125d a1 a2 a3 M = (d_X11_balance_r31d a1 a2 a3 X, vu M 125 0 0) := ok_balance (rb_d H.1) (by rw [cm_126 H.1.2.1]; exact (pEv_i.mp (rb_V H.1)).2.2.2.2.2.2.1)
  rw [x]
  exact ⟨rfl, E, t, w, wm, S, ra_q H pQ0_r qk_r H.2.1 qm_0⟩
theorem q_coin {a1 a2 a3 : Int} (H : pR v X M) : d_X11_coin_r31d a1 a2 a3 X = (d_X12_coin_r125d a1 a2 a3 M).1 ∧ pR v X (d_X12_coin_r125d a1 a2 a3 M).2 := by
  obtain ⟨E, t, w, wm, S, H⟩ := H
  have x : d_X12_coin_r125d a1 a2 a3 M = (d_X11_coin_r31d a1 a2 a3 X, vu M 125 0 0) := ok_coin (rb_d H.1) (by rw [cm_126 H.1.2.1]; exact (pEv_i.mp (rb_V H.1)).2.2.2.2.2.2.2.1) H.1.2.2.2.2.2.2.2.2.2.1.symm
  rw [x]
  exact ⟨rfl, E, t, w, wm, S, ra_q H pQ0_r qk_r H.2.1 qm_0⟩
theorem q_status (H : pR v X M) : d_X11_status_r31d X = (d_X12_status_r125d M).1 ∧ pR v X (d_X12_status_r125d M).2 := by
  obtain ⟨E, t, w, wm, S, H⟩ := H
  exact ⟨H.2.2.1, E, t, w, wm, S, ra_q H pQ0_r qk_r H.2.1 qm_0⟩
theorem q_fault (H : pR v X M) : d_X11_fault_r31d X = (d_X12_fault_r125d M).1 ∧ pR v X (d_X12_fault_r125d M).2 := by
  obtain ⟨E, t, w, wm, S, H⟩ := H
  exact ⟨H.1.2.2.2.2.2.2.2.2.2.2.1.2, E, t, w, wm, S, ra_q H pQ0_r qk_r H.2.1 qm_0⟩
end
end jG133

section jG134
/-! pure: calls that write rows (wip/gen/wrs.py prints it) -/
section
variable {v : Int} {X Y M N : jW} {E : pE} {t : jT} {w : Nat} {wm : Nat → Nat} {S : Nat → Int}
theorem tr_z {r s : Nat → Int} (c : s 14 = r 14 ∧ r 14 ≤ 40) (g : rgn r s 49360 49520) (h : pIz r) : pIz s := by
  intro i hi
  rw [g (49361 + 4 * i) (by omega) (by omega)]
  exact h i (by omega)
/-- a call that writes no LINE: what lasts at the class -/
theorem cp_row {s : Nat → Int} (P : pCp X E t w wm) (xc : ∀ b : Nat, b < 31 ∨ 65 ≤ b → Y.1 b = X.1 b) (v1 : 1 ≤ Y.1 32 19) (T : pTq Y 32 s) (c0 : s 0 = E.1 0) (g : rgn E.1 s 20 18020) (D : pD Y 32 s) (Ir : pIr (s, E.2)) (In : pIn (s, E.2)) : pCp Y (s, E.2) t w wm := by
  obtain ⟨p1, p2, p3, p4, p5, p6, p7, p8, p9⟩ := P
  have b0 := p2.2.1.1
  refine ⟨?_, D, pTq_t T, ?_, ?_, ?_, by rw [xc 87 (by decide)]; exact p7, fun a ha => by rw [xc 88 (by decide)]; exact p8 a ha, v1⟩
  · obtain ⟨q1, q2, q3, q4, q5, q6, q7, q8⟩ := p1
    have lk : ∀ l : Nat, (l : Int) < E.1 0 → pLk E.1 (s, E.2).1 l := fun l hl j h1 h2 h3 => g j (by omega) (by omega)
    refine ⟨q1, Ir, In, q4, by rw [xc 78 (by decide)]; exact q5, D.1 pt_2 (by decide), fun q hq => ?_, fun m hm => ?_⟩
    · change ((q / 6 : Nat) : Int) < s 0 at hq
      rw [c0] at hq
      have z : pFc X (s, E.2) q := pFc_c q1 q2 hq (lk _ hq) (sh_r rfl) (q7 q hq)
      unfold pFc at *
      rw [xc 75 (by decide), xc 76 (by decide), xc 77 (by decide)]
      exact z
    · change ((m / 3 : Nat) : Int) < s 0 at hm
      rw [c0] at hm
      have z : pSl X (s, E.2) m := pSl_c (lk _ hm) (g _ (by omega) (by omega)) (q8 m hm)
      unfold pSl at *
      rw [xc 79 (by decide), xc 80 (by decide), xc 81 (by decide)]
      exact z
  · unfold pSu pSt
    rw [xc 1 (by decide), xc 2 (by decide)]
    exact p4
  · unfold pSp
    rw [xc 73 (by decide), xc 74 (by decide)]
    exact p5
  · rw [xc 78 (by decide)]
    exact p6
def okx (l : List (Nat × Nat)) : Bool := l.all fun q => Nat.ble 33 q.1 && Nat.ble q.1 64
theorem okx_n {l : List (Nat × Nat)} (a : okx l = true) {b k : Nat} (h : b < 33 ∨ 65 ≤ b) : pc l b k = false := by
  cases e : pc l b k with
  | false => rfl
  | true =>
    exfalso
    unfold pc at e
    rw [List.any_eq_true] at e
    obtain ⟨q, q1, q2⟩ := e
    rw [Bool.and_eq_true] at q2
    have z := Nat.eq_of_beq_eq_true q2.1
    unfold okx at a
    rw [List.all_eq_true] at a
    have y := a q q1
    rw [Bool.and_eq_true] at y
    have y1 := Nat.le_of_ble_eq_true y.1
    have y2 := Nat.le_of_ble_eq_true y.2
    omega
theorem rb_b (H : pRb X M E t w wm S) : (0 ≤ E.1 0 ∧ E.1 0 ≤ 200) ∧ (0 ≤ E.1 1 ∧ E.1 1 ≤ 60) ∧ (0 ≤ E.1 2 ∧ E.1 2 ≤ 200) ∧ (0 ≤ E.1 3 ∧ E.1 3 ≤ 20) ∧ (0 ≤ E.1 4 ∧ E.1 4 ≤ 30) ∧ (0 ≤ E.1 5 ∧ E.1 5 ≤ 100) ∧ (0 ≤ E.1 6 ∧ E.1 6 ≤ 40) ∧ (0 ≤ E.1 7 ∧ E.1 7 ≤ 40) ∧ (0 ≤ E.1 8 ∧ E.1 8 ≤ 100) ∧ (0 ≤ E.1 9 ∧ E.1 9 ≤ E.1 7) ∧ (0 ≤ E.1 10 ∧ E.1 10 ≤ 100) ∧ (0 ≤ E.1 11 ∧ E.1 11 ≤ 40) ∧ (0 ≤ E.1 12 ∧ E.1 12 ≤ 100) ∧ (0 ≤ E.1 13 ∧ E.1 13 ≤ 100) ∧ (0 ≤ E.1 14 ∧ E.1 14 ≤ 40) ∧ (0 ≤ E.1 15 ∧ E.1 15 ≤ 100) ∧ E.1 16 = E.1 0 + E.1 4 + E.1 5 + E.1 7 := by
  obtain ⟨V, Ew, Ir, In, Bd⟩ := H.2.2.1
  obtain ⟨j0, f0, h0, s0, tx0, _, _, _, _, _, _, b0⟩ := pEv_i.mp V
  unfold pBnd at Bd
  exact ⟨b0, Bd.1, j0.1, Ew.2.2.2.2.2.2, ⟨tx0.1.1, tx0.1.2.1⟩, f0.1, Ew.2.2.2.1, s0.1, h0.1, s0.2.1, h0.2.1, Ew.2.2.2.2.1, Ew.2.2.2.2.2.1, Bd.2.1, Bd.2.2.1, Bd.2.2.2.1, Bd.2.2.2.2⟩
/-- a call that writes a row of the tables -/
theorem ra_w {X1 M1 : jW} {l : List (Nat × Nat)} (H : pRa v X M E t w wm S) (hv : v < 2147483646) (F : pF l X X1) (a : okx l = true) (mc : ∀ b : Nat, b ≠ 125 → b ≠ 126 → M1.1 b = M.1 b) (m0 : ∀ k : Nat, k ≠ 0 → M1.1 125 k = M.1 125 k) (m2 : M1.2 = M.2) (D : pD X1 32 (M1.1 126)) (I : pIv (M1.1 126, E.2) t w wm) (Z : pIz (M1.1 126)) (c0 : M1.1 126 0 = E.1 0) (g : rgn E.1 (M1.1 126) 20 18020) (c4 : M1.1 126 4 = E.1 4) (g4 : rgn E.1 (M1.1 126) 18820 46540) : pRa (v + 1) (pAx X X1) (vu M1 125 1 0) (M1.1 126, E.2) t w wm S := by
  obtain ⟨h1, h3, h4, h5, h6, h8, h9, h10, h11, h12, h14, h17⟩ := H.1
  have xc : ∀ b : Nat, b < 33 ∨ 65 ≤ b → X1.1 b = X.1 b := fun b hb => funext fun k => F.1 b k (okx_n a hb)
  have xL : ∀ b : Nat, b < 33 ∨ 65 ≤ b → X1.2.1 b = X.2.1 b := fun b hb => funext fun k => F.2.1 b k (okx_n a hb)
  have xR : ∀ b : Nat, b < 33 ∨ 65 ≤ b → X1.2.2.1 b = X.2.2.1 b := fun b hb => funext fun k => F.2.2.1 b k (okx_n a hb)
  have x4 : X1.2.2.2 = X.2.2.2 := F.2.2.2
  have TQ : pTq X1 32 (M1.1 126) := pTq_c h8 (Or.inl rfl) (by rw [xc 32 (by decide)]) (fun k _ => by rw [xR 66 (by decide)]) (fun b b1 _ => ⟨xc b (by omega), xR b (by omega), by rw [x4]⟩) c4 g4 h4.1.2.2.2.2.1 h9
  have B : pRb X1 M1 (M1.1 126, E.2) t w wm S := by
    refine ⟨cp_row h1 (fun b hb => xc b (by omega)) (by rw [xc 32 (by decide)]; exact h1.2.2.2.2.2.2.2.2) TQ c0 g D I.2.2.1 I.2.2.2.1, ?_, I, Z, ws_f (fun b hb => xc b (by omega)) h6, fun c k T hc hT => ?_, TQ, fun k => by rw [xL 65 (by decide)]; exact h10 k, fun k => by rw [m2]; exact h11 k, by rw [xc 123 (by decide), mc 173 (by decide) (by decide)]; exact h12, ⟨tp_c (by rw [xc 68 (by decide)]) (xc 69 (by decide)) (m0 8 (by decide)) (mc 131 (by decide) (by decide)) h14.1, by rw [xc 68 (by decide), m0 13 (by decide)]; exact h14.2⟩, ri_f h17 h8 (fun b b1 _ => ⟨xc b (by omega), xL b (by omega), xR b (by omega), by rw [x4]⟩) (xR 67 (by decide)) (xR 66 (by decide)) (by rw [x4]; exact Nat.le_refl _) (mc 127 (by decide) (by decide)) (mc 128 (by decide) (by decide)) (by rw [m2])⟩
    · obtain ⟨p1, p2, p3, p4⟩ := h3
      refine ⟨?_, ?_, by rw [m0 36 (by decide)]; exact p3, fun a ha => by rw [mc 141 (by decide) (by decide)]; exact p4 a ha⟩
      · unfold eOf at *
        rw [mc 132 (by decide) (by decide), mc 133 (by decide) (by decide), mc 134 (by decide) (by decide), m0 27 (by decide), ← p1]
      · rw [m0 23 (by decide), m0 24 (by decide), m0 25 (by decide), m0 26 (by decide)]
        exact p2
    · rw [xR c (by omega)] at hT
      rw [x4] at hc ⊢
      exact h8 c k T hc hT
  refine ra_a H hv B (fun z hz => ?_)
  have := kyl_c hz
  rw [xc z.1 (by omega)]
  exact H.2.2.2.2 z hz
end
section
variable {v : Int} {X M : jW}
theorem q_torn {a1 a2 a3 a4 : Int} (H : pR v X M) (hv : v < 2147483646) : (d_X11_torn_r31d a1 a2 a3 a4 X).1 = (d_X12_torn_r125d a1 a2 a3 a4 M).1 ∧ pR (v + 1) (d_X11_torn_r31d a1 a2 a3 a4 X).2 (d_X12_torn_r125d a1 a2 a3 a4 M).2 := by
  obtain ⟨E, t, w, wm, S, H⟩ := H
  have e := cm_126 H.1.2.1
  have bb := rb_b H.1
  have e0 : (vu M 125 0 0).1 126 = E.1 := (vu_c (by decide)).trans e
  have u : pOu X M _ _ _ _ (d_X11_torn_r31d a1 a2 a3 a4 X) (d_X12_torn_r125d a1 a2 a3 a4 M) := to_torn (rb_d H.1)
  rcases u with h | ⟨g, g0, ex, em⟩
  · have z := ra_f H h
    exact ⟨z.1, E, t, w, wm, S, ra_v z.2 (by omega)⟩
  · have D := dd_torn (a1 := a1) (a2 := a2) (a3 := a3) (a4 := a4) (rb_d H.1) g.1
    rw [ex, em]
    try rw [e] at g
    try rw [e] at D
    try rw [e]
    have I := iv_torn (W := vu M 125 0 0) (u0 := a1) (u1 := a2) (u2 := a3) (u3 := a4) H.1.2.2.1 e0 ⟨by omega, g.1⟩
    exact ⟨rfl, _, t, w, wm, S, ra_w H hv (fr_d_X8_add_r41d a4 a2 a3 a1 0 0 X) rfl (fun b h1 h2 => by repeat rw [vu_c (by omega)]) (fun k hk => by repeat rw [vu_n (by omega)]) rfl D I (tr_z ⟨by (repeat rw [vu_n (by omega)]); rw [e], by omega⟩ (fun j j1 j2 => by (repeat rw [vu_n (by omega)]); rw [e]) H.1.2.2.2.1) (by (repeat rw [vu_n (by omega)]); rw [e]) (fun j j1 j2 => by (repeat rw [vu_n (by omega)]); rw [e]) (by (repeat rw [vu_n (by omega)]); rw [e]) (fun j j1 j2 => by (repeat rw [vu_n (by omega)]); rw [e])⟩
theorem q_levy {a1 a2 a3 a4 : Int} (H : pR v X M) (hv : v < 2147483646) : (d_X11_levy_r31d a1 a2 a3 a4 X).1 = (d_X12_levy_r125d a1 a2 a3 a4 M).1 ∧ pR (v + 1) (d_X11_levy_r31d a1 a2 a3 a4 X).2 (d_X12_levy_r125d a1 a2 a3 a4 M).2 := by
  obtain ⟨E, t, w, wm, S, H⟩ := H
  have e := cm_126 H.1.2.1
  have bb := rb_b H.1
  have e0 : (vu M 125 0 0).1 126 = E.1 := (vu_c (by decide)).trans e
  have u : pOu X M _ _ _ _ (d_X11_levy_r31d a1 a2 a3 a4 X) (d_X12_levy_r125d a1 a2 a3 a4 M) := to_levy (rb_d H.1)
  rcases u with h | ⟨g, g0, ex, em⟩
  · have z := ra_f H h
    exact ⟨z.1, E, t, w, wm, S, ra_v z.2 (by omega)⟩
  · have D := dd_levy (a1 := a1) (a2 := a2) (a3 := a3) (a4 := a4) (rb_d H.1) g.1
    rw [ex, em]
    try rw [e] at g
    try rw [e] at D
    try rw [e]
    have I := iv_levy (W := vu M 125 0 0) (u0 := a1) (u1 := a2) (u2 := a3) (u3 := a4) H.1.2.2.1 e0 ⟨by omega, g.1⟩ g.2.2.1 g.2.2.2.1
    exact ⟨rfl, _, t, w, wm, S, ra_w H hv (fr_d_X8_add_r53d a4 a2 a1 a3 0 0 X) rfl (fun b h1 h2 => by repeat rw [vu_c (by omega)]) (fun k hk => by repeat rw [vu_n (by omega)]) rfl D I (tr_z ⟨by (repeat rw [vu_n (by omega)]); rw [e], by omega⟩ (fun j j1 j2 => by (repeat rw [vu_n (by omega)]); rw [e]) H.1.2.2.2.1) (by (repeat rw [vu_n (by omega)]); rw [e]) (fun j j1 j2 => by (repeat rw [vu_n (by omega)]); rw [e]) (by (repeat rw [vu_n (by omega)]); rw [e]) (fun j j1 j2 => by (repeat rw [vu_n (by omega)]); rw [e])⟩
theorem q_entry {a1 a2 a3 a4 : Int} (H : pR v X M) (hv : v < 2147483646) : (d_X11_entry_r31d a1 a2 a3 a4 X).1 = (d_X12_entry_r125d a1 a2 a3 a4 M).1 ∧ pR (v + 1) (d_X11_entry_r31d a1 a2 a3 a4 X).2 (d_X12_entry_r125d a1 a2 a3 a4 M).2 := by
  obtain ⟨E, t, w, wm, S, H⟩ := H
  have e := cm_126 H.1.2.1
  have bb := rb_b H.1
  have e0 : (vu M 125 0 0).1 126 = E.1 := (vu_c (by decide)).trans e
  have u : pOu X M _ _ _ _ (d_X11_entry_r31d a1 a2 a3 a4 X) (d_X12_entry_r125d a1 a2 a3 a4 M) := to_entry (rb_d H.1)
  rcases u with h | ⟨g, g0, ex, em⟩
  · have z := ra_f H h
    exact ⟨z.1, E, t, w, wm, S, ra_v z.2 (by omega)⟩
  · have D := dd_entry (a1 := a1) (a2 := a2) (a3 := a3) (a4 := a4) (rb_d H.1) g.1
    rw [ex, em]
    try rw [e] at g
    try rw [e] at D
    try rw [e]
    have I := iv_entry (W := vu M 125 0 0) (u0 := a1) (u1 := a2) (u2 := a3) (u3 := a4) H.1.2.2.1 e0 ⟨by omega, g.1⟩ g.2.2.1
    exact ⟨rfl, _, t, w, wm, S, ra_w H hv (fr_d_X8_add_r57d a4 a2 a1 a3 0 0 X) rfl (fun b h1 h2 => by repeat rw [vu_c (by omega)]) (fun k hk => by repeat rw [vu_n (by omega)]) rfl D I (tr_z ⟨by (repeat rw [vu_n (by omega)]); rw [e], by omega⟩ (fun j j1 j2 => by (repeat rw [vu_n (by omega)]); rw [e]) H.1.2.2.2.1) (by (repeat rw [vu_n (by omega)]); rw [e]) (fun j j1 j2 => by (repeat rw [vu_n (by omega)]); rw [e]) (by (repeat rw [vu_n (by omega)]); rw [e]) (fun j j1 j2 => by (repeat rw [vu_n (by omega)]); rw [e])⟩
theorem q_price {a1 a2 a3 a4 : Int} (H : pR v X M) (hv : v < 2147483646) : (d_X11_price_r31d a1 a2 a3 a4 X).1 = (d_X12_price_r125d a1 a2 a3 a4 M).1 ∧ pR (v + 1) (d_X11_price_r31d a1 a2 a3 a4 X).2 (d_X12_price_r125d a1 a2 a3 a4 M).2 := by
  obtain ⟨E, t, w, wm, S, H⟩ := H
  have e := cm_126 H.1.2.1
  have bb := rb_b H.1
  have e0 : (vu M 125 0 0).1 126 = E.1 := (vu_c (by decide)).trans e
  have u : pOu X M _ _ _ _ (d_X11_price_r31d a1 a2 a3 a4 X) (d_X12_price_r125d a1 a2 a3 a4 M) := to_price (rb_d H.1)
  rcases u with h | ⟨g, g0, ex, em⟩
  · have z := ra_f H h
    exact ⟨z.1, E, t, w, wm, S, ra_v z.2 (by omega)⟩
  · have D := dd_price (a1 := a1) (a2 := a2) (a3 := a3) (a4 := a4) (rb_d H.1) g.1
    rw [ex, em]
    try rw [e] at g
    try rw [e] at D
    try rw [e]
    have I := iv_price (W := vu M 125 0 0) (u0 := a1) (u1 := a2) (u2 := a3) (u3 := a4) H.1.2.2.1 e0 ⟨by omega, g.1⟩ g.2.2.1.1
    exact ⟨rfl, _, t, w, wm, S, ra_w H hv (fr_d_X8_add_r61d a4 a2 a1 a3 0 0 X) rfl (fun b h1 h2 => by repeat rw [vu_c (by omega)]) (fun k hk => by repeat rw [vu_n (by omega)]) rfl D I (tr_z ⟨by (repeat rw [vu_n (by omega)]); rw [e], by omega⟩ (fun j j1 j2 => by (repeat rw [vu_n (by omega)]); rw [e]) H.1.2.2.2.1) (by (repeat rw [vu_n (by omega)]); rw [e]) (fun j j1 j2 => by (repeat rw [vu_n (by omega)]); rw [e]) (by (repeat rw [vu_n (by omega)]); rw [e]) (fun j j1 j2 => by (repeat rw [vu_n (by omega)]); rw [e])⟩
theorem q_pay {a1 a2 a3 a4 a5 : Int} (H : pR v X M) (hv : v < 2147483646) : (d_X11_pay_r31d a1 a2 a3 a4 a5 X).1 = (d_X12_pay_r125d a1 a2 a3 a4 a5 M).1 ∧ pR (v + 1) (d_X11_pay_r31d a1 a2 a3 a4 a5 X).2 (d_X12_pay_r125d a1 a2 a3 a4 a5 M).2 := by
  obtain ⟨E, t, w, wm, S, H⟩ := H
  have e := cm_126 H.1.2.1
  have bb := rb_b H.1
  have e0 : (vu M 125 0 0).1 126 = E.1 := (vu_c (by decide)).trans e
  have u : pOu X M _ _ _ _ (d_X11_pay_r31d a1 a2 a3 a4 a5 X) (d_X12_pay_r125d a1 a2 a3 a4 a5 M) := to_pay (rb_d H.1)
  rcases u with h | ⟨g, g0, ex, em⟩
  · have z := ra_f H h
    exact ⟨z.1, E, t, w, wm, S, ra_v z.2 (by omega)⟩
  · have D := dd_pay (a1 := a1) (a2 := a2) (a3 := a3) (a4 := a4) (a5 := a5) (rb_d H.1) g.1
    rw [ex, em]
    try rw [e] at g
    try rw [e] at D
    try rw [e]
    have I := iv_pay (W := vu M 125 0 0) (u0 := a1) (u1 := a2) (u2 := a3) (u3 := a4) (u4 := a5) H.1.2.2.1 e0 ⟨by omega, g.1⟩
    exact ⟨rfl, _, t, w, wm, S, ra_w H hv (fr_d_X8_add_r55d a5 a4 a2 a1 a3 0 X) rfl (fun b h1 h2 => by repeat rw [vu_c (by omega)]) (fun k hk => by repeat rw [vu_n (by omega)]) rfl D I (tr_z ⟨by (repeat rw [vu_n (by omega)]); rw [e], by omega⟩ (fun j j1 j2 => by (repeat rw [vu_n (by omega)]); rw [e]) H.1.2.2.2.1) (by (repeat rw [vu_n (by omega)]); rw [e]) (fun j j1 j2 => by (repeat rw [vu_n (by omega)]); rw [e]) (by (repeat rw [vu_n (by omega)]); rw [e]) (fun j j1 j2 => by (repeat rw [vu_n (by omega)]); rw [e])⟩
theorem q_appeal {a1 a2 a3 : Int} (H : pR v X M) (hv : v < 2147483646) : (d_X11_appeal_r31d a1 a2 a3 X).1 = (d_X12_appeal_r125d a1 a2 a3 M).1 ∧ pR (v + 1) (d_X11_appeal_r31d a1 a2 a3 X).2 (d_X12_appeal_r125d a1 a2 a3 M).2 := by
  obtain ⟨E, t, w, wm, S, H⟩ := H
  have e := cm_126 H.1.2.1
  have bb := rb_b H.1
  have e0 : (vu M 125 0 0).1 126 = E.1 := (vu_c (by decide)).trans e
  have u : pOu X M _ _ _ _ (d_X11_appeal_r31d a1 a2 a3 X) (d_X12_appeal_r125d a1 a2 a3 M) := to_appeal (rb_d H.1)
  rcases u with h | ⟨g, g0, ex, em⟩
  · have z := ra_f H h
    exact ⟨z.1, E, t, w, wm, S, ra_v z.2 (by omega)⟩
  · have D := dd_appeal (a1 := a1) (a2 := a2) (a3 := a3) (rb_d H.1) g.1
    rw [ex, em]
    try rw [e] at g
    try rw [e] at D
    try rw [e]
    have I := iv_appeal (W := vu M 125 0 0) (u0 := a1) (u1 := a2) (u2 := a3) H.1.2.2.1 e0 ⟨by omega, g.1⟩ g.2.1.1
    exact ⟨rfl, _, t, w, wm, S, ra_w H hv (fr_d_X8_add_r45d a3 a2 a1 0 0 0 X) rfl (fun b h1 h2 => by repeat rw [vu_c (by omega)]) (fun k hk => by repeat rw [vu_n (by omega)]) rfl D I (tr_z ⟨by (repeat rw [vu_n (by omega)]); rw [e], by omega⟩ (fun j j1 j2 => by (repeat rw [vu_n (by omega)]); rw [e]) H.1.2.2.2.1) (by (repeat rw [vu_n (by omega)]); rw [e]) (fun j j1 j2 => by (repeat rw [vu_n (by omega)]); rw [e]) (by (repeat rw [vu_n (by omega)]); rw [e]) (fun j j1 j2 => by (repeat rw [vu_n (by omega)]); rw [e])⟩
theorem q_value {a1 a2 a3 a4 : Int} (H : pR v X M) (hv : v < 2147483646) : (d_X11_value_r31d a1 a2 a3 a4 X).1 = (d_X12_value_r125d a1 a2 a3 a4 M).1 ∧ pR (v + 1) (d_X11_value_r31d a1 a2 a3 a4 X).2 (d_X12_value_r125d a1 a2 a3 a4 M).2 := by
  obtain ⟨E, t, w, wm, S, H⟩ := H
  have e := cm_126 H.1.2.1
  have bb := rb_b H.1
  have e0 : (vu M 125 0 0).1 126 = E.1 := (vu_c (by decide)).trans e
  have u : pOu X M _ _ _ _ (d_X11_value_r31d a1 a2 a3 a4 X) (d_X12_value_r125d a1 a2 a3 a4 M) := to_value (rb_d H.1)
  rcases u with h | ⟨g, g0, ex, em⟩
  · have z := ra_f H h
    exact ⟨z.1, E, t, w, wm, S, ra_v z.2 (by omega)⟩
  · have ns := v_ns (a1 := a1) (a2 := a2) (a3 := a3) (a4 := a4) (rb_d H.1) g.2.1 (by rw [em]; exact g0)
    rw [e] at ns
    have D := dd_value (a1 := a1) (a2 := a2) (a3 := a3) (a4 := a4) (rb_d H.1) g.1
    rw [ex, em]
    try rw [e] at g
    try rw [e] at D
    try rw [e]
    have I := iv_value (W := vu M 125 0 0) (u0 := a1) (u1 := a2) (u2 := a3) (u3 := a4) H.1.2.2.1 e0 ⟨by omega, g.1⟩ g.2.1 g.2.2.1 g.2.2.2.1.1 ns
    exact ⟨rfl, _, t, w, wm, S, ra_w H hv (fr_d_X8_add_r47d a4 a3 a1 a2 0 0 X) rfl (fun b h1 h2 => by repeat rw [vu_c (by omega)]) (fun k hk => by repeat rw [vu_n (by omega)]) rfl D I (tr_z ⟨by (repeat rw [vu_n (by omega)]); rw [e], by omega⟩ (fun j j1 j2 => by (repeat rw [vu_n (by omega)]); rw [e]) H.1.2.2.2.1) (by (repeat rw [vu_n (by omega)]); rw [e]) (fun j j1 j2 => by (repeat rw [vu_n (by omega)]); rw [e]) (by (repeat rw [vu_n (by omega)]); rw [e]) (fun j j1 j2 => by (repeat rw [vu_n (by omega)]); rw [e])⟩
theorem q_apart {a b : Int} (H : pR v X M) (hv : v < 2147483646) : (d_X11_apart_r31d a b X).1 = (d_X12_apart_r125d a b M).1 ∧ pR (v + 1) (d_X11_apart_r31d a b X).2 (d_X12_apart_r125d a b M).2 := by
  obtain ⟨E, t, w, wm, S, H⟩ := H
  have e := cm_126 H.1.2.1
  have bb := rb_b H.1
  have e0 : (vu M 125 0 0).1 126 = E.1 := (vu_c (by decide)).trans e
  have u : pOu X M _ _ _ _ (d_X11_apart_r31d a b X) (d_X12_apart_r125d a b M) := to_apart H.1.1 H.1.2.1 (rb_V H.1)
  rcases u with h | ⟨g, g0, ex, em⟩
  · have z := ra_f H h
    exact ⟨z.1, E, t, w, wm, S, ra_v z.2 (by omega)⟩
  · have D := da_2 (V := vu M 125 0 0) (n := E.1 1) (u0 := a) (u1 := b) (by rw [e0]) (by rw [e0]; exact H.1.1.2.1) g.1
    rw [ex, em]
    try rw [e] at g
    try rw [e] at D
    try rw [e]
    have I := iv_apart (W := vu M 125 0 0) (u0 := a) (u1 := b) H.1.2.2.1 e0 ⟨by omega, g.1⟩
    exact ⟨rfl, _, t, w, wm, S, ra_w H hv (fr_d_X8_add_r37d a b 0 0 0 0 X) rfl (fun b h1 h2 => by repeat rw [vu_c (by omega)]) (fun k hk => by repeat rw [vu_n (by omega)]) rfl D I (tr_z ⟨by (repeat rw [vu_n (by omega)]); rw [e], by omega⟩ (fun j j1 j2 => by (repeat rw [vu_n (by omega)]); rw [e]) H.1.2.2.2.1) (by (repeat rw [vu_n (by omega)]); rw [e]) (fun j j1 j2 => by (repeat rw [vu_n (by omega)]); rw [e]) (by (repeat rw [vu_n (by omega)]); rw [e]) (fun j j1 j2 => by (repeat rw [vu_n (by omega)]); rw [e])⟩
theorem q_hold {h a d k : Int} (H : pR v X M) (hv : v < 2147483646) : (d_X11_hold_r31d h a d k X).1 = (d_X12_hold_r125d h a d k M).1 ∧ pR (v + 1) (d_X11_hold_r31d h a d k X).2 (d_X12_hold_r125d h a d k M).2 := by
  obtain ⟨E, t, w, wm, S, H⟩ := H
  have e := cm_126 H.1.2.1
  have bb := rb_b H.1
  have e0 : (vu M 125 0 0).1 126 = E.1 := (vu_c (by decide)).trans e
  have u : pOu X M _ _ _ _ (d_X11_hold_r31d h a d k X) (d_X12_hold_r125d h a d k M) := to_hold H.1.1 H.1.2.1 (rb_V H.1)
  rcases u with h | ⟨g, g0, ex, em⟩
  · have z := ra_f H h
    exact ⟨z.1, E, t, w, wm, S, ra_v z.2 (by omega)⟩
  · have D := da_9 (V := vu M 125 0 0) (n := E.1 10) (u0 := h) (u1 := a) (u2 := d) (u3 := k) (by rw [e0]) (by rw [e0]; exact H.1.1.2.1) g.1
    rw [ex, em]
    try rw [e] at g
    try rw [e] at D
    try rw [e]
    have I := iv_hold (W := vu M 125 0 0) (u0 := h) (u1 := a) (u2 := d) (u3 := k) H.1.2.2.1 e0 ⟨by omega, g.1⟩ g.2.2.2.1 (by rcases g.2.2.2.2 with g1 | g1; omega; have := g1.2.1; have := g1.1; omega) g.2.1.1
    exact ⟨rfl, _, t, w, wm, S, ra_w H hv (fr_d_X8_add_r51d k d h a 0 0 X) rfl (fun b h1 h2 => by repeat rw [vu_c (by omega)]) (fun k hk => by repeat rw [vu_n (by omega)]) rfl D I (tr_z ⟨by (repeat rw [vu_n (by omega)]); rw [e], by omega⟩ (fun j j1 j2 => by (repeat rw [vu_n (by omega)]); rw [e]) H.1.2.2.2.1) (by (repeat rw [vu_n (by omega)]); rw [e]) (fun j j1 j2 => by (repeat rw [vu_n (by omega)]); rw [e]) (by (repeat rw [vu_n (by omega)]); rw [e]) (fun j j1 j2 => by (repeat rw [vu_n (by omega)]); rw [e])⟩
theorem q_close {a1 a2 a3 a4 : Int} (H : pR v X M) (hv : v < 2147483646) : (d_X11_close_r31d a1 a2 a3 a4 X).1 = (d_X12_close__r125d a1 a2 a3 a4 M).1 ∧ pR (v + 1) (d_X11_close_r31d a1 a2 a3 a4 X).2 (d_X12_close__r125d a1 a2 a3 a4 M).2 := by
  obtain ⟨E, t, w, wm, S, H⟩ := H
  have e := cm_126 H.1.2.1
  have bb := rb_b H.1
  have e0 : (vu M 125 0 0).1 126 = E.1 := (vu_c (by decide)).trans e
  have u : pOu X M _ _ _ _ (d_X11_close_r31d a1 a2 a3 a4 X) (d_X12_close__r125d a1 a2 a3 a4 M) := to_close (rb_d H.1) (by rw [e]; exact (pEv_i.mp (rb_V H.1)).2.2.2.2.2.2.1)
  rcases u with h | ⟨g, g0, ex, em⟩
  · have z := ra_f H h
    exact ⟨z.1, E, t, w, wm, S, ra_v z.2 (by omega)⟩
  · have D := da_13 (V := vu M 125 0 0) (n := M.1 126 14) (u0 := a1) (u1 := a2) (u2 := a3) (u3 := a4) (vu_n (by omega)) (by rw [vu_c (by decide)]; exact (rb_d H.1)) g.1
    rw [ex, em]
    try rw [e] at g
    try rw [e] at D
    try rw [e]
    have I := iv_close (W := vu M 125 0 0) (u0 := a1) (u1 := a2) (u2 := a3) (u3 := a4) H.1.2.2.1 e0 ⟨by omega, g.1⟩ (lc_x2 H.1.2.2.2.1 (by omega) (pEv_i.mp (rb_V H.1)).2.2.2.2.2.2.1 g.2.2.2.2)
    refine ⟨rfl, _, t, w, wm, S, ra_w H hv (fr_d_X8_add_r59d a4 a2 a1 a3 0 0 X) rfl (fun b h1 h2 => by repeat rw [vu_c (by omega)]) (fun k hk => by repeat rw [vu_n (by omega)]) rfl D I (fun i hi => ?_) (by (repeat rw [vu_n (by omega)]); rw [e]) (fun j j1 j2 => by (repeat rw [vu_n (by omega)]); rw [e]) (by (repeat rw [vu_n (by omega)]); rw [e]) (fun j j1 j2 => by (repeat rw [vu_n (by omega)]); rw [e])⟩
    by_cases z : (i : Int) = E.1 14
    · rw [vu_n (by omega), vu_n (by omega), vu_n (by omega), vu_e (by omega)]
      exact g.2.2.1.1
    · rw [vu_e rfl] at hi
      (repeat rw [vu_n (by omega)])
      rw [e]
      exact H.1.2.2.2.1 i (by omega)
theorem q_fact {a k o d1 d2 kn : Int} (H : pR v X M) (hv : v < 2147483646) : (d_X11_fact_r31d a k o d1 d2 kn X).1 = (d_X12_fact_r125d a k o d1 d2 kn M).1 ∧ pR (v + 1) (d_X11_fact_r31d a k o d1 d2 kn X).2 (d_X12_fact_r125d a k o d1 d2 kn M).2 := by
  obtain ⟨E, t, w, wm, S, H⟩ := H
  have e := cm_126 H.1.2.1
  have bb := rb_b H.1
  have e0 : (vu M 125 0 0).1 126 = E.1 := (vu_c (by decide)).trans e
  have u : pOu X M _ _ _ _ (d_X11_fact_r31d a k o d1 d2 kn X) (d_X12_fact_r125d a k o d1 d2 kn M) := to_fact H.1.1 H.1.2.1 (rb_V H.1)
  rcases u with h | ⟨g, g0, ex, em⟩
  · have z := ra_f H h
    exact ⟨z.1, E, t, w, wm, S, ra_v z.2 (by omega)⟩
  · have D := dd_fact (a := a) (k := k) (o := o) (d1 := d1) (d2 := d2) (kn := kn) H.1.1.2.1 e ⟨by omega, g.1⟩ ⟨by omega, by omega⟩
    rw [ex, em]
    try rw [e] at g
    try rw [e] at D
    try rw [e]
    have I := iv_fact (W := vu M 125 0 0) (u0 := a) (u1 := k) (u2 := o) (u3 := d1) (u4 := d2) (u5 := kn) H.1.2.2.1 e0 ⟨by omega, g.1⟩ (by have := g.2.2.2.2.2.2.1; have := g.2.2.2.2.2.1; omega) g.2.2.1 (by omega) (by omega)
    exact ⟨rfl, _, t, w, wm, S, ra_w H hv (pF_t (l := [(33 + 10, 4), (33 + 11, 0), (63, 4), (64, 0)]) (pF_m (by decide) (fr_d_X8_add_r63d 2 (X.1 43 3) 0 0 0 0 X)) (pF_m (by decide) (fr_d_X8_add_r43d kn d1 d2 a k o _))) rfl (fun b h1 h2 => by unfold mFa; repeat rw [vu_c (by omega)]) (fun k hk => by unfold mFa; repeat rw [vu_n (by omega)]) rfl D I (tr_z ⟨by unfold mFa; (repeat rw [vu_n (by omega)]); rw [e], by omega⟩ (fun j j1 j2 => by unfold mFa; (repeat rw [vu_n (by omega)]); rw [e]) H.1.2.2.2.1) (by unfold mFa; (repeat rw [vu_n (by omega)]); rw [e]) (fun j j1 j2 => by unfold mFa; (repeat rw [vu_n (by omega)]); rw [e]) (by unfold mFa; (repeat rw [vu_n (by omega)]); rw [e]) (fun j j1 j2 => by unfold mFa; (repeat rw [vu_n (by omega)]); rw [e])⟩
theorem q_holding (H : pR v X M) (hv : v < 2147483646) : (d_X11_holding_r31d X).1 = (d_X12_holding_r125d M).1 ∧ pR (v + 1) (d_X11_holding_r31d X).2 (d_X12_holding_r125d M).2 := by
  obtain ⟨E, t, w, wm, S, H⟩ := H
  have e := cm_126 H.1.2.1
  have bb := rb_b H.1
  have e0 : (vu M 125 0 0).1 126 = E.1 := (vu_c (by decide)).trans e
  have u : pOu X M _ _ _ _ (d_X11_holding_r31d X) (d_X12_holding_r125d M) := to_holding (rb_d H.1)
  rcases u with h | ⟨g, g0, ex, em⟩
  · have z := ra_f H h
    exact ⟨z.1, E, t, w, wm, S, ra_v z.2 (by omega)⟩
  · have D := dd_holding (rb_d H.1) g (by have g1 := g; rw [e] at g1 ⊢; omega)
    rw [ex, em]
    try rw [e] at g
    try rw [e] at D
    try rw [e]
    have I := iv_holding (W := vu M 125 0 0) H.1.2.2.1 e0 ⟨by omega, g⟩
    exact ⟨rfl, _, t, w, wm, S, ra_w H hv (pF_t (l := [(49, 4), (50, 0), (63, 4), (64, 0)]) (pF_m (by decide) (fr_d_X8_add_r49d 0 0 (-1) 0 0 0 X)) (pF_m (by decide) (fr_d_X8_add_r63d 3 (X.1 49 3) 0 0 0 0 _))) rfl (fun b h1 h2 => by repeat rw [vu_c (by omega)]) (fun k hk => by repeat rw [vu_n (by omega)]) rfl D I (tr_z ⟨by (repeat rw [vu_n (by omega)]); rw [e], by omega⟩ (fun j j1 j2 => by (repeat rw [vu_n (by omega)]); rw [e]) H.1.2.2.2.1) (by (repeat rw [vu_n (by omega)]); rw [e]) (fun j j1 j2 => by (repeat rw [vu_n (by omega)]); rw [e]) (by (repeat rw [vu_n (by omega)]); rw [e]) (fun j j1 j2 => by (repeat rw [vu_n (by omega)]); rw [e])⟩
theorem q_split {a1 a2 a3 a4 a5 : Int} (H : pR v X M) (hv : v < 2147483646) : (d_X11_split_r31d a1 a2 a3 a4 a5 X).1 = (d_X12_split_r125d a1 a2 a3 a4 a5 M).1 ∧ pR (v + 1) (d_X11_split_r31d a1 a2 a3 a4 a5 X).2 (d_X12_split_r125d a1 a2 a3 a4 a5 M).2 := by
  obtain ⟨E, t, w, wm, S, H⟩ := H
  have e := cm_126 H.1.2.1
  have bb := rb_b H.1
  have e0 : (vu M 125 0 0).1 126 = E.1 := (vu_c (by decide)).trans e
  have u : pOu X M _ _ _ _ (d_X11_split_r31d a1 a2 a3 a4 a5 X) (d_X12_split_r125d a1 a2 a3 a4 a5 M) := to_split (rb_d H.1)
  rcases u with h | ⟨g, g0, ex, em⟩
  · have z := ra_f H h
    exact ⟨z.1, E, t, w, wm, S, ra_v z.2 (by omega)⟩
  · have D := dd_split (a1 := a1) (a2 := a2) (a3 := a3) (a4 := a4) (a5 := a5) (rb_d H.1) g.1 (by have g1 := g.1; rw [e] at g1 ⊢; omega) g.2.1 ⟨g.2.2.1, g.2.2.2.1, g.2.2.2.2.1⟩
    rw [ex, em]
    try rw [e] at g
    try rw [e] at D
    try rw [e]
    have I := iv_split (W := vu M 125 0 0) (u1 := a1) (u2 := a2) (u3 := a3) (u4 := a4) (u5 := a5) H.1.2.2.1 e0 ⟨by omega, g.1⟩ g.2.1 ⟨g.2.2.1, g.2.2.2.1, g.2.2.2.2.1⟩
    exact ⟨rfl, _, t, w, wm, S, ra_w H hv (pF_t (l := [(49, 4), (50, 0), (63, 4), (64, 0)]) (pF_m (by decide) (fr_d_X8_add_r49d a5 a4 a1 a2 a3 0 X)) (pF_m (by decide) (fr_d_X8_add_r63d 3 (X.1 49 3) 0 0 0 0 _))) rfl (fun b h1 h2 => by repeat rw [vu_c (by omega)]) (fun k hk => by repeat rw [vu_n (by omega)]) rfl D I (tr_z ⟨by (repeat rw [vu_n (by omega)]); rw [e], by omega⟩ (fun j j1 j2 => by (repeat rw [vu_n (by omega)]); rw [e]) H.1.2.2.2.1) (by (repeat rw [vu_n (by omega)]); rw [e]) (fun j j1 j2 => by (repeat rw [vu_n (by omega)]); rw [e]) (by (repeat rw [vu_n (by omega)]); rw [e]) (fun j j1 j2 => by (repeat rw [vu_n (by omega)]); rw [e])⟩
end
end jG134

section jG135
/-! pure: feed, end, terms, clear, acres, seal, wish, together, join -/
section
variable {v : Int} {X Y M N : jW} {E E1 : pE} {t t1 : jT} {w w1 : Nat} {wm wm1 : Nat → Nat} {S S1 : Nat → Int}
/-- what lasts, made anew; what is there stays -/
theorem rb_k (H : pRb X M E t w wm S) (P : pCp Y E1 t1 w1 wm1) (Q : pCm N E1 t1 w1 wm1) (I : pIv E1 t1 w1 wm1) (Z : pIz E1.1) (c : ∀ b : Nat, b < 31 ∨ 174 ≤ b → Y.1 b = X.1 b) (c2 : Y.2.2 = X.2.2) (cL : ∀ b : Nat, 174 ≤ b → Y.2.1 b = X.2.1 b) (TQ : pTq Y 32 E1.1) (sx : pSx Y S1) (sm : pSzm N S1) (ac : Y.1 123 = N.1 173) (T : pTp Y N ∧ Y.1 68 2 = N.1 125 13) (m1 : N.1 127 = M.1 127) (m2 : N.1 128 = M.1 128) (m5 : N.2.1 130 = M.2.1 130) : pRb Y N E1 t1 w1 wm1 S1 :=
  ⟨P, Q, I, Z, ws_f (fun b hb => c b (Or.inl hb)) H.2.2.2.2.1, fun b k T hb hT => by rw [c2] at hb hT ⊢; exact H.2.2.2.2.2.1 b k T hb hT, TQ, sx, sm, ac, T, ri_f H.2.2.2.2.2.2.2.2.2.2.2 H.2.2.2.2.2.1 (fun b b1 _ => ⟨c b (Or.inr b1), cL b b1, by rw [c2], by rw [c2]⟩) (by rw [c2]) (by rw [c2]) (by rw [c2]; exact Nat.le_refl _) m1 m2 m5⟩
theorem tq_k (H : pRb X M E t w wm S) {s : Nat → Int} (x18 : Y.1 32 18 = X.1 32 18) (c : ∀ b : Nat, 174 ≤ b → Y.1 b = X.1 b) (c2 : Y.2.2 = X.2.2) (c4 : s 4 = E.1 4) (g : rgn E.1 s 18820 46540) : pTq Y 32 s := pTq_c H.2.2.2.2.2.1 (Or.inl rfl) x18 (fun k _ => by rw [c2]) (fun b b1 _ => ⟨c b b1, by rw [c2], by rw [c2]⟩) c4 g H.2.2.1.1.2.2.2.2.1 H.2.2.2.2.2.2.1
/-! the tape -/
def oktl (l : List (Nat × Nat)) : Bool := l.all fun q => Nat.beq q.1 31 || (Nat.ble 68 q.1 && Nat.ble q.1 72) || (Nat.ble 95 q.1 && Nat.ble q.1 98)
theorem oktl_n {l : List (Nat × Nat)} (a : oktl l = true) {b k : Nat} (h : b < 31 ∨ (32 ≤ b ∧ b ≤ 67) ∨ (73 ≤ b ∧ b ≤ 94) ∨ 99 ≤ b) : pc l b k = false := by
  cases e : pc l b k with
  | false => rfl
  | true =>
    exfalso
    unfold pc at e
    rw [List.any_eq_true] at e
    obtain ⟨q, q1, q2⟩ := e
    rw [Bool.and_eq_true] at q2
    have z := Nat.eq_of_beq_eq_true q2.1
    unfold oktl at a
    rw [List.all_eq_true] at a
    have y := a q q1
    simp only [Bool.or_eq_true, Bool.and_eq_true] at y
    rcases y with (y | y) | y
    · have y1 := Nat.eq_of_beq_eq_true y
      omega
    · have y1 := Nat.le_of_ble_eq_true y.1
      have y2 := Nat.le_of_ble_eq_true y.2
      omega
    · have y1 := Nat.le_of_ble_eq_true y.1
      have y2 := Nat.le_of_ble_eq_true y.2
      omega
/-- at the reference all stays but tape, status, fault, what reading leaves -/
def pQn (M N : jW) : Prop := (∀ c : Nat, c = 126 ∨ c = 127 ∨ c = 128 ∨ c = 132 ∨ c = 133 ∨ c = 134 ∨ c = 141 ∨ c = 173 → N.1 c = M.1 c) ∧ (∀ k : Nat, k = 23 ∨ k = 24 ∨ k = 25 ∨ k = 26 ∨ k = 27 ∨ k = 36 → N.1 125 k = M.1 125 k) ∧ ∀ c k : Nat, c = 129 ∨ c = 130 → N.2.1 c k = M.2.1 c k
def okn (l : List (Nat × Nat)) : Bool := ([126, 127, 128, 132, 133, 134, 141, 173, 129, 130].all fun c => !(l.any fun q => Nat.beq q.1 c)) && ([23, 24, 25, 26, 27, 36].all fun k => !(pc l 125 k))
theorem qn_F {l : List (Nat × Nat)} (F : pF l M N) (a : okn l = true) : pQn M N := by
  unfold okn at a
  rw [Bool.and_eq_true, List.all_eq_true, List.all_eq_true] at a
  refine ⟨fun c hc => pF_c F (nb_f (a.1 c ?_)), fun k hk => F.1 125 k (nb_f (a.2 k ?_)), fun c k hc => F.2.1 c k (pc_any (nb_f (a.1 c ?_)) k)⟩
  · rcases hc with rfl | rfl | rfl | rfl | rfl | rfl | rfl | rfl <;> decide
  · rcases hk with rfl | rfl | rfl | rfl | rfl | rfl <;> decide
  · rcases hc with rfl | rfl <;> decide
theorem pCm_n (m : pQn M N) (P : pCm M E t w wm) : pCm N E t w wm := by
  obtain ⟨p1, p2, p3, p4⟩ := P
  refine ⟨?_, ?_, (m.2.1 36 (by decide)).trans p3, fun a ha => by rw [m.1 141 (by decide)]; exact p4 a ha⟩
  · unfold eOf at *
    rw [m.1 126 (by decide), m.1 132 (by decide), m.1 133 (by decide), m.1 134 (by decide), m.2.1 27 (by decide)]
    exact p1
  · rw [m.2.1 23 (by decide), m.2.1 24 (by decide), m.2.1 25 (by decide), m.2.1 26 (by decide)]
    exact p2
theorem ra_t2 {l : List (Nat × Nat)} (H : pRa v X M E t w wm S) (F : pF l X Y) (a : oktl l = true) (m : pQn M N) (T : pTp Y N ∧ Y.1 68 2 = N.1 125 13) (st : Y.1 31 12 = N.1 125 1) : pRa v Y N E t w wm S := by
  obtain ⟨B, K, _, kv⟩ := H
  have c : ∀ b : Nat, b < 31 ∨ (32 ≤ b ∧ b ≤ 67) ∨ (73 ≤ b ∧ b ≤ 94) ∨ 99 ≤ b → Y.1 b = X.1 b := fun b hb => funext fun k => F.1 b k (oktl_n a hb)
  refine ⟨rb_f B (fun b hb => c b (by unfold xG at hb; omega)) (by rw [c 32 (by decide)]) (by rw [c 32 (by decide)]; exact B.1.2.2.2.2.2.2.2.2) (fun k _ => by rw [c 78 (by decide)]) (by rw [c 87 (by decide)]) (fun b hb => funext fun k => F.2.1 b k (oktl_n a (by omega))) (fun b hb => funext fun k => F.2.2.1 b k (oktl_n a (by omega))) F.2.2.2 (pCm_n m B.2.1) (m.1 127 (by decide)) (m.1 128 (by decide)) (m.1 173 (by decide)) (funext fun k => m.2.2 129 k (Or.inl rfl)) (funext fun k => m.2.2 130 k (Or.inr rfl)) T, pCk_f (fun b hb => c b (by omega)) K, st, by rw [c 32 (by decide)]; exact kv.1, fun z hz => ?_⟩
  have := kyl_c hz
  rw [c 32 (by decide), c z.1 (by omega)]
  exact kv.2 z hz
theorem q_feed {a1 a2 a3 a4 a5 : Int} (H : pR v X M) : (d_X11_feed_r31d a1 a2 a3 a4 a5 X).1 = (d_X12_feed_r125d a1 a2 a3 a4 a5 M).1 ∧ pR v (d_X11_feed_r31d a1 a2 a3 a4 a5 X).2 (d_X12_feed_r125d a1 a2 a3 a4 a5 M).2 := by
  obtain ⟨E, t, w, wm, S, H⟩ := H
  have T := H.1.2.2.2.2.2.2.2.2.2.2.1
  obtain ⟨u1, u2⟩ := to_feed (a1 := a1) (a2 := a2) (a3 := a3) (a4 := a4) (a5 := a5) T.1
  have F := fr_d_X11_feed_r31d a1 a2 a3 a4 a5 X
  have G := fr_d_X12_feed_r125d a1 a2 a3 a4 a5 M
  exact ⟨u1, E, t, w, wm, S, ra_t2 H F rfl (qn_F G rfl) ⟨u2, by rw [F.1 68 2 rfl, G.1 125 13 rfl]; exact T.2⟩ (by rw [F.1 31 12 rfl, G.1 125 1 rfl]; exact H.2.2.1)⟩
theorem q_end {a1 : Int} (H : pR v X M) : (d_X11_end_r31d a1 X).1 = (d_X12_end_r125d a1 M).1 ∧ pR v (d_X11_end_r31d a1 X).2 (d_X12_end_r125d a1 M).2 := by
  obtain ⟨E, t, w, wm, S, H⟩ := H
  have T := H.1.2.2.2.2.2.2.2.2.2.2.1
  obtain ⟨u1, u2⟩ := to_end (a1 := a1) T.1
  have F := fr_d_X11_end_r31d a1 X
  have G := fr_d_X12_end_r125d a1 M
  exact ⟨u1, E, t, w, wm, S, ra_t2 H F rfl (qn_F G rfl) ⟨u2, by rw [F.1 68 2 rfl, G.1 125 13 rfl]; exact T.2⟩ (by rw [F.1 31 12 rfl, G.1 125 1 rfl]; exact H.2.2.1)⟩
/-! terms -/
theorem iv_q {r : Nat → Int} {q q1 : (Nat → Int) × (Nat → Int) × (Nat → Int) × Int} (I : pIv (r, q) t w wm) (h : pTm t1) : pIv (r, q1) t1 w wm := by
  obtain ⟨V, Ew, Ir, In, Bd⟩ := I
  obtain ⟨a, b, c, d, e, f, g, i, _, j, k, l⟩ := pEv_i.mp V
  exact ⟨pEv_i.mpr ⟨a, b, c, d, e, f, g, i, h, j, k, l⟩, Ew, Ir, In, Bd⟩
theorem q_terms {a1 a2 a3 a4 a5 : Int} (H : pR v X M) (hv : v < 2147483646) : (d_X11_terms_r31d a1 a2 a3 a4 a5 X).1 = (d_X12_terms_r125d a1 a2 a3 a4 a5 M).1 ∧ pR (v + 1) (d_X11_terms_r31d a1 a2 a3 a4 a5 X).2 (d_X12_terms_r125d a1 a2 a3 a4 a5 M).2 := by
  obtain ⟨E, t, w, wm, S, H⟩ := H
  have u : pOu X M _ _ _ _ (d_X11_terms_r31d a1 a2 a3 a4 a5 X) (d_X12_terms_r125d a1 a2 a3 a4 a5 M) := to_terms
  rcases u with h | ⟨g, g0, ex, em⟩
  · have z := ra_f H h
    exact ⟨z.1, E, t, w, wm, S, ra_v z.2 (by omega)⟩
  · rw [ex, em]
    have xc : ∀ b : Nat, b ≠ 78 → (vu (vu (vu (vu (vu X 78 2 a1) 78 3 a2) 78 4 a3) 78 5 a4) 78 6 a5).1 b = X.1 b := fun b hb => by repeat rw [vu_c hb]
    have x2 : (vu (vu (vu (vu (vu X 78 2 a1) 78 3 a2) 78 4 a3) 78 5 a4) 78 6 a5).2 = X.2 := rfl
    have y2 : (vu (vu (vu (vu (vu X 78 2 a1) 78 3 a2) 78 4 a3) 78 5 a4) 78 6 a5).1 78 2 = a1 := by (repeat rw [vu_n (by omega)]); exact vu_e rfl
    have y3 : (vu (vu (vu (vu (vu X 78 2 a1) 78 3 a2) 78 4 a3) 78 5 a4) 78 6 a5).1 78 3 = a2 := by (repeat rw [vu_n (by omega)]); exact vu_e rfl
    have y4 : (vu (vu (vu (vu (vu X 78 2 a1) 78 3 a2) 78 4 a3) 78 5 a4) 78 6 a5).1 78 4 = a3 := by (repeat rw [vu_n (by omega)]); exact vu_e rfl
    have y5 : (vu (vu (vu (vu (vu X 78 2 a1) 78 3 a2) 78 4 a3) 78 5 a4) 78 6 a5).1 78 5 = a4 := by (repeat rw [vu_n (by omega)]); exact vu_e rfl
    have y6 : (vu (vu (vu (vu (vu X 78 2 a1) 78 3 a2) 78 4 a3) 78 5 a4) 78 6 a5).1 78 6 = a5 := vu_e rfl
    have mc : ∀ b : Nat, b ≠ 125 → (vu (vu (vu (vu (vu (vu M 125 0 0) 125 23 a1) 125 24 a2) 125 25 a3) 125 26 a4) 125 27 a5).1 b = M.1 b := fun b hb => by repeat rw [vu_c hb]
    have mk : ∀ k : Nat, k = 8 ∨ k = 13 ∨ k = 36 → (vu (vu (vu (vu (vu (vu M 125 0 0) 125 23 a1) 125 24 a2) 125 25 a3) 125 26 a4) 125 27 a5).1 125 k = M.1 125 k := fun k hk => by repeat rw [vu_n (by omega)]
    have m2 : (vu (vu (vu (vu (vu (vu M 125 0 0) 125 23 a1) 125 24 a2) 125 25 a3) 125 26 a4) 125 27 a5).2 = M.2 := rfl
    have n2 : (vu (vu (vu (vu (vu (vu M 125 0 0) 125 23 a1) 125 24 a2) 125 25 a3) 125 26 a4) 125 27 a5).1 125 23 = a1 := by (repeat rw [vu_n (by omega)]); exact vu_e rfl
    have n3 : (vu (vu (vu (vu (vu (vu M 125 0 0) 125 23 a1) 125 24 a2) 125 25 a3) 125 26 a4) 125 27 a5).1 125 24 = a2 := by (repeat rw [vu_n (by omega)]); exact vu_e rfl
    have n4 : (vu (vu (vu (vu (vu (vu M 125 0 0) 125 23 a1) 125 24 a2) 125 25 a3) 125 26 a4) 125 27 a5).1 125 25 = a3 := by (repeat rw [vu_n (by omega)]); exact vu_e rfl
    have n5 : (vu (vu (vu (vu (vu (vu M 125 0 0) 125 23 a1) 125 24 a2) 125 25 a3) 125 26 a4) 125 27 a5).1 125 26 = a4 := by (repeat rw [vu_n (by omega)]); exact vu_e rfl
    have n6 : (vu (vu (vu (vu (vu (vu M 125 0 0) 125 23 a1) 125 24 a2) 125 25 a3) 125 26 a4) 125 27 a5).1 125 27 = a5 := vu_e rfl
    generalize vu (vu (vu (vu (vu X 78 2 a1) 78 3 a2) 78 4 a3) 78 5 a4) 78 6 a5 = Z at *
    generalize vu (vu (vu (vu (vu (vu M 125 0 0) 125 23 a1) 125 24 a2) 125 25 a3) 125 26 a4) 125 27 a5 = N at *
    obtain ⟨h1, h3, h4, h5, h6, h8, h9, h10, h11, h12, h14, h17⟩ := id H.1
    have P : pCp Z (E.1, E.2.1, E.2.2.1, E.2.2.2.1, a5) (a1, a2, a3, a4) w wm := by
      obtain ⟨p1, p2, p3, p4, p5, p6, p7, p8, p9⟩ := h1
      have D : pD Z 32 E.1 := pD_A (fun c c1 c2 => xc c (by omega)) p2
      refine ⟨?_, D, pTq_t (tq_k H.1 (by rw [xc 32 (by decide)]) (fun b hb => xc b (by omega)) (by rw [x2]) rfl rg_r), ?_, ?_, ⟨y2, y3, y4, y5⟩, by rw [xc 87 (by decide)]; exact p7, fun a ha => by rw [xc 88 (by decide)]; exact p8 a ha, by rw [xc 32 (by decide)]; exact p9⟩
      · obtain ⟨q1, q2, q3, q4, q5, q6, q7, q8⟩ := p1
        refine ⟨q1, q2, q3, g.2.2.2.2, y6, D.1 pt_2 (by decide), fun q hq => ?_, fun m hm => ?_⟩
        · have z : pFc X (E.1, E.2.1, E.2.2.1, E.2.2.2.1, a5) q := pFc_c q1 q2 hq (fun _ _ _ _ => rfl) ⟨rfl, fun _ _ _ => rfl, fun _ _ _ => rfl⟩ (q7 q hq)
          unfold pFc at *
          rw [xc 75 (by decide), xc 76 (by decide), xc 77 (by decide)]
          exact z
        · have z : pSl X (E.1, E.2.1, E.2.2.1, E.2.2.2.1, a5) m := pSl_c (fun _ _ _ _ => rfl) rfl (q8 m hm)
          unfold pSl at *
          rw [xc 79 (by decide), xc 80 (by decide), xc 81 (by decide)]
          exact z
      · unfold pSu pSt
        rw [xc 1 (by decide), xc 2 (by decide)]
        exact p4
      · unfold pSp
        rw [xc 73 (by decide), xc 74 (by decide)]
        exact p5
    have Q : pCm N (E.1, E.2.1, E.2.2.1, E.2.2.2.1, a5) (a1, a2, a3, a4) w wm := by
      obtain ⟨p1, p2, p3, p4⟩ := h3
      refine ⟨?_, ⟨n2, n3, n4, n5⟩, by rw [mk 36 (by decide)]; exact p3, fun a ha => by rw [mc 141 (by decide)]; exact p4 a ha⟩
      unfold eOf at *
      rw [mc 126 (by decide), mc 132 (by decide), mc 133 (by decide), mc 134 (by decide), n6, ← p1]
    have B := rb_k (S1 := S) (Y := Z) (N := N) H.1 P Q (iv_q (q := E.2) h4 ⟨g.1, g.2.1, g.2.2.1, g.2.2.2.1⟩) h5 (fun b hb => xc b (by omega)) (by rw [x2]) (fun b _ => by rw [x2]) (tq_k H.1 (by rw [xc 32 (by decide)]) (fun b hb => xc b (by omega)) (by rw [x2]) rfl rg_r) (fun k => by rw [x2]; exact h10 k) (fun k => by rw [m2]; exact h11 k) (by rw [xc 123 (by decide), mc 173 (by decide)]; exact h12) ⟨tp_c (by rw [xc 68 (by decide)]) (xc 69 (by decide)) (mk 8 (by decide)) (mc 131 (by decide)) h14.1, by rw [xc 68 (by decide), mk 13 (by decide)]; exact h14.2⟩ (mc 127 (by decide)) (mc 128 (by decide)) (by rw [m2])
    refine ⟨rfl, _, _, w, wm, S, ra_a H hv B (fun z hz => ?_)⟩
    have := kyl_c hz
    rw [xc z.1 (by omega)]
    exact H.2.2.2.2 z hz
/-! clear -/
theorem pIv_0 (I : pIv E t w wm) : pIv E t 0 wm := by
  obtain ⟨V, R⟩ := I
  obtain ⟨a, b, c, d, e, f, g, i, h, _, _, l⟩ := pEv_i.mp V
  exact ⟨pEv_i.mpr ⟨a, b, c, d, e, f, g, i, h, by omega, fun a ha => absurd ha (Nat.not_lt_zero a), l⟩, R⟩
theorem q_clear (H : pR v X M) : (d_X11_clear_r31d X).1 = (d_X12_clear_r125d M).1 ∧ pR v (d_X11_clear_r31d X).2 (d_X12_clear_r125d M).2 := by
  obtain ⟨E, t, w, wm, S, H⟩ := H
  obtain ⟨h1, h3, h4, h5, h6, h8, h9, h10, h11, h12, h14, h17⟩ := id H.1
  refine ⟨h1.2.2.2.2.2.2.1.trans h3.2.2.1.symm, E, t, 0, wm, S, ?_⟩
  show pRa v (vu (vu X 87 3 0) 87 13 0) (vu (vu M 125 0 0) 125 36 0) E t 0 wm S
  have xc : ∀ b : Nat, b ≠ 87 → (vu (vu X 87 3 0) 87 13 0).1 b = X.1 b := fun b hb => by repeat rw [vu_c hb]
  have x3 : (vu (vu X 87 3 0) 87 13 0).1 87 3 = 0 := (vu_n (by omega)).trans (vu_e rfl)
  have x13 : (vu (vu X 87 3 0) 87 13 0).1 87 13 = 0 := vu_e rfl
  have x2 : (vu (vu X 87 3 0) 87 13 0).2 = X.2 := rfl
  have mc : ∀ b : Nat, b ≠ 125 → (vu (vu M 125 0 0) 125 36 0).1 b = M.1 b := fun b hb => by repeat rw [vu_c hb]
  have mk : ∀ k : Nat, k ≠ 0 → k ≠ 36 → (vu (vu M 125 0 0) 125 36 0).1 125 k = M.1 125 k := fun k h0 h1 => by repeat rw [vu_n (by omega)]
  have m36 : (vu (vu M 125 0 0) 125 36 0).1 125 36 = 0 := vu_e rfl
  have m2 : (vu (vu M 125 0 0) 125 36 0).2 = M.2 := rfl
  generalize vu (vu X 87 3 0) 87 13 0 = Z at *
  generalize vu (vu M 125 0 0) 125 36 0 = N at *
  have P : pCp Z E t 0 wm := by
    obtain ⟨p1, p2, p3, p4, p5, p6, p7, p8, p9⟩ := h1
    have D : pD Z 32 E.1 := pD_A (fun c c1 c2 => xc c (by omega)) p2
    refine ⟨?_, D, pTq_t (tq_k H.1 (by rw [xc 32 (by decide)]) (fun b hb => xc b (by omega)) (by rw [x2]) rfl rg_r), ?_, ?_, by rw [xc 78 (by decide)]; exact p6, x3, fun a ha => absurd ha (Nat.not_lt_zero a), by rw [xc 32 (by decide)]; exact p9⟩
    · obtain ⟨q1, q2, q3, q4, q5, q6, q7, q8⟩ := p1
      refine ⟨q1, q2, q3, q4, by rw [xc 78 (by decide)]; exact q5, D.1 pt_2 (by decide), fun q hq => ?_, fun m hm => ?_⟩
      · unfold pFc
        rw [xc 75 (by decide), xc 76 (by decide), xc 77 (by decide)]
        exact q7 q hq
      · unfold pSl
        rw [xc 79 (by decide), xc 80 (by decide), xc 81 (by decide)]
        exact q8 m hm
    · unfold pSu pSt
      rw [xc 1 (by decide), xc 2 (by decide)]
      exact p4
    · unfold pSp
      rw [xc 73 (by decide), xc 74 (by decide)]
      exact p5
  have Q : pCm N E t 0 wm := by
    obtain ⟨p1, p2, p3, p4⟩ := h3
    refine ⟨?_, ?_, m36, fun a ha => absurd ha (Nat.not_lt_zero a)⟩
    · unfold eOf at *
      rw [mc 126 (by decide), mc 132 (by decide), mc 133 (by decide), mc 134 (by decide), mk 27 (by decide) (by decide)]
      exact p1
    · rw [mk 23 (by decide) (by decide), mk 24 (by decide) (by decide), mk 25 (by decide) (by decide), mk 26 (by decide) (by decide)]
      exact p2
  have B := rb_k (S1 := S) (Y := Z) (N := N) H.1 P Q (pIv_0 h4) h5 (fun b hb => xc b (by omega)) (by rw [x2]) (fun b _ => by rw [x2]) (tq_k H.1 (by rw [xc 32 (by decide)]) (fun b hb => xc b (by omega)) (by rw [x2]) rfl rg_r) (fun k => by rw [x2]; exact h10 k) (fun k => by rw [m2]; exact h11 k) (by rw [xc 123 (by decide), mc 173 (by decide)]; exact h12) ⟨tp_c (by rw [xc 68 (by decide)]) (xc 69 (by decide)) (mk 8 (by decide) (by decide)) (mc 131 (by decide)) h14.1, by rw [xc 68 (by decide), mk 13 (by decide) (by decide)]; exact h14.2⟩ (mc 127 (by decide)) (mc 128 (by decide)) (by rw [m2])
  have K := H.2.1
  have v1 := h1.2.2.2.2.2.2.2.2
  refine ⟨B, ⟨pKs_e (fun b hb => xc b (by omega)) (by rw [xc 78 (by decide)]) K.1, pKl_c (xc 99 (by decide)) (xc 101 (by decide)) (xc 32 (by decide)) K.2.1, pKh_c (xc 102 (by decide)) (xc 103 (by decide)) (xc 105 (by decide)) (xc 49 (by decide)) (xc 32 (by decide)) K.2.2.1, pKe_e (fun b hb => xc b (by omega)) (by rw [xc 107 (by decide)]) K.2.2.2.1, pKt_e (fun b hb => xc b (by omega)) (by rw [xc 107 (by decide)]) (by rw [xc 107 (by decide)]) K.2.2.2.2.1, pKv_e (fun b hb => xc b (by omega)) K.2.2.2.2.2.1, fun h => ?_⟩, by rw [xc 31 (by decide), mk 1 (by decide) (by decide)]; exact H.2.2.1, by rw [xc 32 (by decide)]; exact H.2.2.2.1, fun z hz => ?_⟩
  · rw [x13, xc 32 (by decide)] at h
    omega
  · have a := H.2.2.2.2 z hz
    by_cases b : z.1 = 87
    · unfold kyl at hz
      simp only [List.mem_cons, List.not_mem_nil, or_false] at hz
      rcases hz with rfl | rfl | rfl | rfl | rfl | rfl | rfl
      · exact absurd b (by decide)
      · exact absurd b (by decide)
      · exact absurd b (by decide)
      · exact absurd b (by decide)
      · exact absurd b (by decide)
      · exact absurd b (by decide)
      · show Z.1 87 13 ≤ _
        rw [x13, xc 32 (by decide)]
        omega
    · rw [xc z.1 b, xc 32 (by decide)]
      exact a
end
end jG135

section jG136
/-! pure: acres, seal, wish, together, join -/
section
variable {v : Int} {X Y M N : jW} {E E1 : pE} {t t1 : jT} {w w1 : Nat} {wm wm1 : Nat → Nat} {S S1 : Nat → Int}
theorem q_acres {a1 a2 a3 : Int} (H : pR v X M) (hv : v < 2147483646) : (d_X11_acres_r31d a1 a2 a3 X).1 = (d_X12_acres_r125d a1 a2 a3 M).1 ∧ pR (v + 1) (d_X11_acres_r31d a1 a2 a3 X).2 (d_X12_acres_r125d a1 a2 a3 M).2 := by
  obtain ⟨E, t, w, wm, S, H⟩ := H
  have u : pOu X M _ _ _ _ (d_X11_acres_r31d a1 a2 a3 X) (d_X12_acres_r125d a1 a2 a3 M) := to_acres (rb_d H.1)
  rcases u with h | ⟨g, g0, ex, em⟩
  · have z := ra_f H h
    exact ⟨z.1, E, t, w, wm, S, ra_v z.2 (by omega)⟩
  · rw [ex, em]
    obtain ⟨h1, h3, h4, h5, h6, h8, h9, h10, h11, h12, h14, h17⟩ := id H.1
    have ac : (vu X 123 (a1 * 3 + a2).toNat a3).1 123 = (vu (vu M 125 0 0) 173 (3 * a1 + a2).toNat a3).1 173 := by
      funext k
      rw [show a1 * 3 + a2 = 3 * a1 + a2 from by omega]
      by_cases z : k = (3 * a1 + a2).toNat
      · rw [vu_e z, vu_e z]
      · rw [vu_n (by omega), vu_n (by omega), vu_n (by omega), h12]
    have xc : ∀ b : Nat, b ≠ 123 → (vu X 123 (a1 * 3 + a2).toNat a3).1 b = X.1 b := fun b hb => vu_c hb
    have mc : ∀ b : Nat, b ≠ 125 → b ≠ 173 → (vu (vu M 125 0 0) 173 (3 * a1 + a2).toNat a3).1 b = M.1 b := fun b hb hc => (vu_c hc).trans (vu_c hb)
    have mk : ∀ k : Nat, k ≠ 0 → (vu (vu M 125 0 0) 173 (3 * a1 + a2).toNat a3).1 125 k = M.1 125 k := fun k hk => (vu_n (by omega)).trans (vu_n (by omega))
    have x2 : (vu X 123 (a1 * 3 + a2).toNat a3).2 = X.2 := rfl
    have m2 : (vu (vu M 125 0 0) 173 (3 * a1 + a2).toNat a3).2 = M.2 := rfl
    have Q := cm_u (c := 173) (k := (3 * a1 + a2).toNat) (x := a3) (cm_u (c := 125) (k := 0) (x := 0) h3 (by omega)) (by omega)
    generalize vu X 123 (a1 * 3 + a2).toNat a3 = Z at *
    generalize vu (vu M 125 0 0) 173 (3 * a1 + a2).toNat a3 = N at *
    have P : pCp Z E t w wm := by
      obtain ⟨p1, p2, p3, p4, p5, p6, p7, p8, p9⟩ := h1
      have D : pD Z 32 E.1 := pD_A (fun c c1 c2 => xc c (by omega)) p2
      refine ⟨?_, D, pTq_t (tq_k H.1 (by rw [xc 32 (by decide)]) (fun b hb => xc b (by omega)) (by rw [x2]) rfl rg_r), ?_, ?_, by rw [xc 78 (by decide)]; exact p6, by rw [xc 87 (by decide)]; exact p7, fun a ha => by rw [xc 88 (by decide)]; exact p8 a ha, by rw [xc 32 (by decide)]; exact p9⟩
      · obtain ⟨q1, q2, q3, q4, q5, q6, q7, q8⟩ := p1
        refine ⟨q1, q2, q3, q4, by rw [xc 78 (by decide)]; exact q5, D.1 pt_2 (by decide), fun q hq => ?_, fun m hm => ?_⟩
        · unfold pFc
          rw [xc 75 (by decide), xc 76 (by decide), xc 77 (by decide)]
          exact q7 q hq
        · unfold pSl
          rw [xc 79 (by decide), xc 80 (by decide), xc 81 (by decide)]
          exact q8 m hm
      · unfold pSu pSt
        rw [xc 1 (by decide), xc 2 (by decide)]
        exact p4
      · unfold pSp
        rw [xc 73 (by decide), xc 74 (by decide)]
        exact p5
    have B := rb_k (S1 := S) (Y := Z) (N := N) H.1 P Q h4 h5 (fun b hb => xc b (by omega)) (by rw [x2]) (fun b _ => by rw [x2]) (tq_k H.1 (by rw [xc 32 (by decide)]) (fun b hb => xc b (by omega)) (by rw [x2]) rfl rg_r) (fun k => by rw [x2]; exact h10 k) (fun k => by rw [m2]; exact h11 k) ac ⟨tp_c (by rw [xc 68 (by decide)]) (xc 69 (by decide)) (mk 8 (by decide)) (mc 131 (by decide) (by decide)) h14.1, by rw [xc 68 (by decide), mk 13 (by decide)]; exact h14.2⟩ (mc 127 (by decide) (by decide)) (mc 128 (by decide) (by decide)) (by rw [m2])
    refine ⟨rfl, _, _, w, wm, S, ra_a H hv B (fun z hz => ?_)⟩
    have := kyl_c hz
    rw [xc z.1 (by omega)]
    exact H.2.2.2.2 z hz
theorem vS_o {W : jW} {a : Nat} {b : Int} {q : Int × Int × Int} : (vS W a b q).1 = W.1 ∧ (vS W a b q).2.2 = W.2.2 ∧ ∀ c : Nat, c ≠ a → (vS W a b q).2.1 c = W.2.1 c := by
  refine ⟨rfl, rfl, fun c hc => funext fun k => ?_⟩
  unfold vS
  rw [vl_n (by omega), vl_n (by omega), vl_n (by omega), vl_n (by omega)]
theorem q_seal {a : Int} (H : pR v X M) (hv : v < 2147483646) : (d_X11_seal_r31d a X).1 = (d_X12_seal_r125d a M).1 ∧ pR (v + 1) (d_X11_seal_r31d a X).2 (d_X12_seal_r125d a M).2 := by
  obtain ⟨E, t, w, wm, S, H⟩ := H
  have u : pOu X M _ _ _ _ (d_X11_seal_r31d a X) (d_X12_seal_r125d a M) := to_seal H.1.1 H.1.2.1 (rb_V H.1) (rb_n H.1)
  rcases u with h | ⟨g, g0, ex, em⟩
  · have z := ra_f H h
    exact ⟨z.1, E, t, w, wm, S, ra_v z.2 (by omega)⟩
  · rw [ex, em]
    obtain ⟨h1, h3, h4, h5, h6, h8, h9, h10, h11, h12, h14, h17⟩ := id H.1
    obtain ⟨sx, sm⟩ := dd_seal (E := E) (a := a) h10 h11
    obtain ⟨x1, x2, x3⟩ := @vS_o X 65 (4 * a) (sYr E.1 a (E.1 0).toNat)
    have F := fr_d_X12_addYear_r125d a (vu M 125 0 0)
    obtain ⟨m1, m2, m3⟩ := @vS_o (d_X12_addYear_r125d a (vu M 125 0 0)) 129 (4 * a) (sYr E.1 a (E.1 0).toNat)
    have mc : ∀ b : Nat, b ≠ 125 → (vS (d_X12_addYear_r125d a (vu M 125 0 0)) 129 (4 * a) (sYr E.1 a (E.1 0).toNat)).1 b = M.1 b := fun b hb => by
      rw [m1]
      refine (funext fun k => F.1 b k ?_).trans (vu_c hb)
      unfold fw_X12_addYear_r125d
      cases e : pc [(125, 90), (125, 91), (125, 92)] b k with
      | false => rfl
      | true =>
        unfold pc at e
        rw [List.any_eq_true] at e
        obtain ⟨q, q1, q2⟩ := e
        rw [Bool.and_eq_true] at q2
        have z := Nat.eq_of_beq_eq_true q2.1
        simp only [List.mem_cons, List.not_mem_nil, or_false] at q1
        rcases q1 with rfl | rfl | rfl <;> exact absurd z.symm hb
    have mk : ∀ k : Nat, k = 8 ∨ k = 13 → (vS (d_X12_addYear_r125d a (vu M 125 0 0)) 129 (4 * a) (sYr E.1 a (E.1 0).toNat)).1 125 k = M.1 125 k := fun k hk => by
      rw [m1]
      rcases hk with rfl | rfl
      · exact (F.1 125 8 rfl).trans (vu_n (by omega))
      · exact (F.1 125 13 rfl).trans (vu_n (by omega))
    have Q : pCm (vS (d_X12_addYear_r125d a (vu M 125 0 0)) 129 (4 * a) (sYr E.1 a (E.1 0).toNat)) E t w wm := by
      have q := pCm_F F rfl (cm_u (c := 125) (k := 0) (x := 0) h3 (by omega))
      unfold pCm eOf at *
      rw [m1]
      exact q
    have m130 : (vS (d_X12_addYear_r125d a (vu M 125 0 0)) 129 (4 * a) (sYr E.1 a (E.1 0).toNat)).2.1 130 = M.2.1 130 := by
      rw [m3 130 (by decide)]
      exact funext fun k => F.2.1 130 k rfl
    generalize vS X 65 (4 * a) (sYr E.1 a (E.1 0).toNat) = Z at *
    generalize vS (d_X12_addYear_r125d a (vu M 125 0 0)) 129 (4 * a) (sYr E.1 a (E.1 0).toNat) = N at *
    have P : pCp Z E t w wm := pCp_f h1 (fun b _ => by rw [x1]) (by rw [x1]) (by rw [x1]; exact h1.2.2.2.2.2.2.2.2) (fun k _ => by rw [x1]) (by rw [x1]) (fun b _ => by rw [x2]) (by rw [x2])
    have B := rb_k (Y := Z) (N := N) H.1 P Q h4 h5 (fun b hb => by rw [x1]) x2 (fun b hb => x3 b (by omega)) (tq_k H.1 (by rw [x1]) (fun b hb => by rw [x1]) x2 rfl rg_r) sx sm (by rw [x1, mc 173 (by decide)]; exact h12) ⟨tp_c (by rw [x1]) (by rw [x1]) (mk 8 (by decide)) (mc 131 (by decide)) h14.1, by rw [x1, mk 13 (by decide)]; exact h14.2⟩ (mc 127 (by decide)) (mc 128 (by decide)) m130
    refine ⟨rfl, _, _, w, wm, _, ra_a H hv B (fun z hz => ?_)⟩
    rw [x1]
    exact H.2.2.2.2 z hz
theorem q_wish {a : Int} (H : pR v X M) (hv : v < 2147483646) : (d_X11_wish_r31d a X).1 = (d_X12_wish_r125d a M).1 ∧ pR (v + 1) (d_X11_wish_r31d a X).2 (d_X12_wish_r125d a M).2 := by
  obtain ⟨E, t, w, wm, S, H⟩ := H
  have u : pOu X M _ _ _ _ (d_X11_wish_r31d a X) (d_X12_wish_r125d a M) := to_wish H.1.1 H.1.2.1 (rb_V H.1)
  rcases u with h | ⟨g, g0, ex, em⟩
  · have z := ra_f H h
    exact ⟨z.1, E, t, w, wm, S, ra_v z.2 (by omega)⟩
  · rw [ex, em]
    obtain ⟨h1, h3, h4, h5, h6, h8, h9, h10, h11, h12, h14, h17⟩ := id H.1
    have xc : ∀ b : Nat, b ≠ 87 → b ≠ 88 → (vu (vu (vu X 88 w a) 87 3 ((w : Int) + 1)) 87 13 0).1 b = X.1 b := fun b hb hc => (vu_c hb).trans ((vu_c hb).trans (vu_c hc))
    have x3 : (vu (vu (vu X 88 w a) 87 3 ((w : Int) + 1)) 87 13 0).1 87 3 = (w : Int) + 1 := (vu_n (by omega)).trans (vu_e rfl)
    have x13 : (vu (vu (vu X 88 w a) 87 3 ((w : Int) + 1)) 87 13 0).1 87 13 = 0 := vu_e rfl
    have x8 : ∀ i : Nat, i < w → (vu (vu (vu X 88 w a) 87 3 ((w : Int) + 1)) 87 13 0).1 88 i = X.1 88 i := fun i hi => (vu_n (by omega)).trans ((vu_n (by omega)).trans (vu_n (by omega)))
    have x8w : (vu (vu (vu X 88 w a) 87 3 ((w : Int) + 1)) 87 13 0).1 88 w = a := (vu_n (by omega)).trans ((vu_n (by omega)).trans (vu_e rfl))
    have x2 : (vu (vu (vu X 88 w a) 87 3 ((w : Int) + 1)) 87 13 0).2 = X.2 := rfl
    have mc : ∀ b : Nat, b ≠ 125 → b ≠ 141 → (vu (vu (vu M 125 0 0) 141 w a) 125 36 ((w : Int) + 1)).1 b = M.1 b := fun b hb hc => (vu_c hb).trans ((vu_c hc).trans (vu_c hb))
    have mk : ∀ k : Nat, k ≠ 0 → k ≠ 36 → (vu (vu (vu M 125 0 0) 141 w a) 125 36 ((w : Int) + 1)).1 125 k = M.1 125 k := fun k h0 h1 => (vu_n (by omega)).trans ((vu_n (by omega)).trans (vu_n (by omega)))
    have m36 : (vu (vu (vu M 125 0 0) 141 w a) 125 36 ((w : Int) + 1)).1 125 36 = (w : Int) + 1 := vu_e rfl
    have m8 : ∀ i : Nat, i < w → (vu (vu (vu M 125 0 0) 141 w a) 125 36 ((w : Int) + 1)).1 141 i = M.1 141 i := fun i hi => (vu_n (by omega)).trans ((vu_n (by omega)).trans (vu_n (by omega)))
    have m8w : (vu (vu (vu M 125 0 0) 141 w a) 125 36 ((w : Int) + 1)).1 141 w = a := (vu_n (by omega)).trans (vu_e rfl)
    have m2 : (vu (vu (vu M 125 0 0) 141 w a) 125 36 ((w : Int) + 1)).2 = M.2 := rfl
    generalize vu (vu (vu X 88 w a) 87 3 ((w : Int) + 1)) 87 13 0 = Z at *
    generalize vu (vu (vu M 125 0 0) 141 w a) 125 36 ((w : Int) + 1) = N at *
    have a0 := g.2.1.1
    have P : pCp Z E t (w + 1) (fun i => if i = w then a.toNat else wm i) := by
      obtain ⟨p1, p2, p3, p4, p5, p6, p7, p8, p9⟩ := h1
      have D : pD Z 32 E.1 := pD_A (fun c c1 c2 => xc c (by omega) (by omega)) p2
      refine ⟨?_, D, pTq_t (tq_k H.1 (by rw [xc 32 (by decide) (by decide)]) (fun b hb => xc b (by omega) (by omega)) (by rw [x2]) rfl rg_r), ?_, ?_, by rw [xc 78 (by decide) (by decide)]; exact p6, by rw [x3]; omega, fun i hi => ?_, by rw [xc 32 (by decide) (by decide)]; exact p9⟩
      · obtain ⟨q1, q2, q3, q4, q5, q6, q7, q8⟩ := p1
        refine ⟨q1, q2, q3, q4, by rw [xc 78 (by decide) (by decide)]; exact q5, D.1 pt_2 (by decide), fun q hq => ?_, fun m hm => ?_⟩
        · unfold pFc
          rw [xc 75 (by decide) (by decide), xc 76 (by decide) (by decide), xc 77 (by decide) (by decide)]
          exact q7 q hq
        · unfold pSl
          rw [xc 79 (by decide) (by decide), xc 80 (by decide) (by decide), xc 81 (by decide) (by decide)]
          exact q8 m hm
      · unfold pSu pSt
        rw [xc 1 (by decide) (by decide), xc 2 (by decide) (by decide)]
        exact p4
      · unfold pSp
        rw [xc 73 (by decide) (by decide), xc 74 (by decide) (by decide)]
        exact p5
      · show Z.1 88 i = ((if i = w then a.toNat else wm i : Nat) : Int)
        by_cases z : i = w
        · rw [if_pos z, z, x8w]; omega
        · rw [if_neg z, x8 i (by omega)]; exact p8 i (by omega)
    have Q : pCm N E t (w + 1) (fun i => if i = w then a.toNat else wm i) := by
      obtain ⟨p1, p2, p3, p4⟩ := h3
      refine ⟨?_, ?_, by rw [m36]; omega, fun i hi => ?_⟩
      · unfold eOf at *
        rw [mc 126 (by decide) (by decide), mc 132 (by decide) (by decide), mc 133 (by decide) (by decide), mc 134 (by decide) (by decide), mk 27 (by decide) (by decide)]
        exact p1
      · rw [mk 23 (by decide) (by decide), mk 24 (by decide) (by decide), mk 25 (by decide) (by decide), mk 26 (by decide) (by decide)]
        exact p2
      · show N.1 141 i = ((if i = w then a.toNat else wm i : Nat) : Int)
        by_cases z : i = w
        · rw [if_pos z, z, m8w]; omega
        · rw [if_neg z, m8 i (by omega)]; exact p4 i (by omega)
    have I : pIv E t (w + 1) (fun i => if i = w then a.toNat else wm i) := by
      obtain ⟨V, R⟩ := h4
      obtain ⟨a_, b, c, d, e, f, gg, i, h, j, k, l⟩ := pEv_i.mp V
      refine ⟨pEv_i.mpr ⟨a_, b, c, d, e, f, gg, i, h, by omega, fun x hx => ?_, l⟩, R⟩
      by_cases z : x = w
      · show sMn E (if x = w then a.toNat else wm x) ∧ (if x = w then a.toNat else wm x) < sNl E ∧ ∀ b : Nat, b < x → (if x = w then a.toNat else wm x) ≠ (if b = w then a.toNat else wm b)
        rw [if_pos z]
        have m := g.2.1.2
        refine ⟨m, ?_, fun b hb => ?_⟩
        · have m1 := m.1
          unfold sNl
          omega
        · rw [if_neg (by omega)]
          have := g.2.2 b (by omega)
          omega
      · show sMn E (if x = w then a.toNat else wm x) ∧ (if x = w then a.toNat else wm x) < sNl E ∧ ∀ b : Nat, b < x → (if x = w then a.toNat else wm x) ≠ (if b = w then a.toNat else wm b)
        rw [if_neg z]
        obtain ⟨k1, k2, k3⟩ := k x (by omega)
        refine ⟨k1, k2, fun b hb => ?_⟩
        rw [if_neg (by omega)]
        exact k3 b hb
    have B := rb_k (S1 := S) (Y := Z) (N := N) H.1 P Q I h5 (fun b hb => xc b (by omega) (by omega)) (by rw [x2]) (fun b _ => by rw [x2]) (tq_k H.1 (by rw [xc 32 (by decide) (by decide)]) (fun b hb => xc b (by omega) (by omega)) (by rw [x2]) rfl rg_r) (fun k => by rw [x2]; exact h10 k) (fun k => by rw [m2]; exact h11 k) (by rw [xc 123 (by decide) (by decide), mc 173 (by decide) (by decide)]; exact h12) ⟨tp_c (by rw [xc 68 (by decide) (by decide)]) (xc 69 (by decide) (by decide)) (mk 8 (by decide) (by decide)) (mc 131 (by decide) (by decide)) h14.1, by rw [xc 68 (by decide) (by decide), mk 13 (by decide) (by decide)]; exact h14.2⟩ (mc 127 (by decide) (by decide)) (mc 128 (by decide) (by decide)) (by rw [m2])
    refine ⟨rfl, _, _, _, _, S, ra_a H hv B (fun z hz => ?_)⟩
    have v1 := h1.2.2.2.2.2.2.2.2
    have q := H.2.2.2.2 z hz
    unfold kyl at hz
    simp only [List.mem_cons, List.not_mem_nil, or_false] at hz
    rcases hz with rfl | rfl | rfl | rfl | rfl | rfl | rfl
    · rw [xc _ (by decide) (by decide)]; exact q
    · rw [xc _ (by decide) (by decide)]; exact q
    · rw [xc _ (by decide) (by decide)]; exact q
    · rw [xc _ (by decide) (by decide)]; exact q
    · rw [xc _ (by decide) (by decide)]; exact q
    · rw [xc _ (by decide) (by decide)]; exact q
    · show Z.1 87 13 ≤ _
      rw [x13]
      omega
/-! together -/
theorem ra_s2 {e : Int} (H : pRa v X M E t w wm S) : pRa v (vu X 31 12 e) (vu M 125 1 e) E t w wm S := by
  have m3 := cm_u (c := 125) (k := 1) (x := e) H.1.2.1 (by omega)
  have T := H.1.2.2.2.2.2.2.2.2.2.2.1
  exact ra_t H (fun b hb => vu_c (by omega)) rfl m3 (vu_c (by decide)) (vu_c (by decide)) (vu_c (by decide)) rfl rfl ⟨tp_c (vu_n (by omega)) (vu_c (by decide)) (vu_n (by omega)) (vu_c (by decide)) T.1, by rw [vu_n (by omega), vu_n (by omega)]; exact T.2⟩ (by rw [vu_e rfl, vu_e rfl])
theorem qm_r : pQm M M := ⟨fun _ _ => rfl, fun _ _ => rfl, fun _ _ _ => rfl⟩
theorem qm_t {L : jW} (h : pQm M N) (i : pQm N L) : pQm M L := ⟨fun c hc => (i.1 c hc).trans (h.1 c hc), fun k hk => (i.2.1 k hk).trans (h.2.1 k hk), fun c k hc => (i.2.2 c k hc).trans (h.2.2 c k hc)⟩
theorem q_together {a b k : Int} (H : pR v X M) (hv : v < 2147483646) : (d_X11_together_r31d a b k X).1 = (d_X12_together_r125d a b k M).1 ∧ pR (v + 1) (d_X11_together_r31d a b k X).2 (d_X12_together_r125d a b k M).2 := by
  obtain ⟨E, t, w, wm, S, H⟩ := H
  have bb := rb_b H.1
  obtain ⟨X2, M2, eX, eM, ⟨f1, f2, f3, f4⟩, u⟩ := to_together (a := a) (b := b) (k := k) H.1.1 H.2.1 H.1.2.1 (rb_y H.1) (rb_V H.1)
  have qx : pQk X X2 := by
    rcases eX with rfl | rfl
    · exact qk_r
    · exact qk_t (qk_d_X7_asKnown_r78d 146399 X) (qk_d_X7_asKnown_r78d 146399 _)
  have qm : pQm M M2 := by
    rcases eM with rfl | rfl
    · exact qm_r
    · exact qm_t qm_0 (qm_F (fr_d_X12_find_r125d 146399 _) rfl)
  have H1 : pRa v X2 M E t w wm S := ra_q H f1 qx f3 qm_r
  have H2 : pRa v X2 M2 E t w wm S := ra_q H f1 qx f3 qm
  rcases u with h | ⟨e, e1, ex, em⟩ | ⟨g, g0, ex, em⟩
  · have z := ra_f H1 h
    exact ⟨z.1, E, t, w, wm, S, ra_v z.2 (by omega)⟩
  · rw [ex, em]
    exact ⟨rfl, E, t, w, wm, S, ra_v (ra_s2 H2) (by omega)⟩
  · rw [ex, em]
    have e := cm_126 H2.1.2.1
    have D := da_3 (X := X2) (V := M2) (n := E.1 2) (u := a) (v := b) (p := a) (q := b) (k := k) (by rw [e]) (rb_d H2.1) g.1 (Or.inl ⟨rfl, rfl⟩)
    have I := iv_bond (W := M2) (u0 := a) (u1 := b) (u2 := k) H.1.2.2.1 e ⟨by omega, g.1⟩ (by have := g.2.2.1.2.1; have := g.2.2.1.1; omega) (by have := g.2.2.2.1.2.1; have := g.2.2.2.1.1; omega)
    exact ⟨rfl, _, t, w, wm, S, ra_w H2 hv (fr_d_X8_add_r39d k a b 0 0 0 X2) rfl (fun b h1 h2 => by repeat rw [vu_c (by omega)]) (fun k hk => by repeat rw [vu_n (by omega)]) rfl D I (tr_z ⟨by (repeat rw [vu_n (by omega)]); rw [e], by omega⟩ (fun j j1 j2 => by (repeat rw [vu_n (by omega)]); rw [e]) H.1.2.2.2.1) (by (repeat rw [vu_n (by omega)]); rw [e]) (fun j j1 j2 => by (repeat rw [vu_n (by omega)]); rw [e]) (by (repeat rw [vu_n (by omega)]); rw [e]) (fun j j1 j2 => by (repeat rw [vu_n (by omega)]); rw [e])⟩
/-! join -/
theorem jn_x {f g : Nat → Int} {a : Int} : ∀ n : Nat, pF [(39, 4), (40, 0)] X (xJ a wm f g X n) := by
  intro n
  induction n with
  | zero => exact pF_r
  | succ n ih =>
    unfold xJ
    by_cases c : tv (sNj wm f g n) = 0
    · rw [if_pos c]; exact ih
    · rw [if_neg c]; exact pF_t ih (fr_d_X8_add_r39d _ _ _ _ _ _ _)
theorem jn_m {f g : Nat → Int} {a : Int} (e : M.1 126 = E.1) (I : pIv E t w wm) (h : E.1 2 + sCnj wm f g w ≤ 200) (hw : ∀ j : Nat, j < w → wm j < 3 * (E.1 0).toNat) : ∀ n : Nat, n ≤ w → pIv ((mJ a wm f g M n).1 126, E.2) t w wm ∧ (mJ a wm f g M n).1 126 2 = E.1 2 + sCnj wm f g n ∧ (∀ j : Nat, j ≠ 2 → (j < 18140 ∨ 18740 ≤ j) → (mJ a wm f g M n).1 126 j = E.1 j) ∧ (∀ b : Nat, b ≠ 126 → (mJ a wm f g M n).1 b = M.1 b) ∧ (mJ a wm f g M n).2 = M.2 := by
  have mono : ∀ c n : Nat, sCnj wm f g n ≤ sCnj wm f g (n + c) := by
    intro c
    induction c with
    | zero => intro n; exact Int.le_refl _
    | succ c ih =>
      intro n
      have y := ih n
      show _ ≤ sCnj wm f g (n + c) + tv (sNj wm f g (n + c))
      by_cases z : sNj wm f g (n + c)
      · rw [tv_t z]; omega
      · rw [tv_f z]; omega
  have b2 : 0 ≤ E.1 2 := (pEv_i.mp I.1).1.1.1
  have b0 : 0 ≤ E.1 0 := (pEv_i.mp I.1).2.2.2.2.2.2.2.2.2.2.2.1
  intro n
  induction n with
  | zero =>
    intro _
    have z : (mJ a wm f g M 0).1 126 = E.1 := e
    exact ⟨by rw [z]; exact I, by rw [z]; show E.1 2 = E.1 2 + 0; omega, fun j _ _ => by rw [z], fun b _ => rfl, rfl⟩
  | succ n ih =>
    intro hn
    obtain ⟨i1, i2, i3, i4, i5⟩ := ih (by omega)
    have m1 := mono (w - (n + 1)) (n + 1)
    rw [show n + 1 + (w - (n + 1)) = w from by omega] at m1
    have s : sCnj wm f g (n + 1) = sCnj wm f g n + tv (sNj wm f g n) := rfl
    rw [s] at m1 ⊢
    have cb := (sCnj_b (wm := wm) (f := f) (g := g) n).1
    unfold mJ
    by_cases c : sNj wm f g n
    · rw [tv_t c] at m1 ⊢
      rw [if_neg (show ¬ (1 : Int) = 0 from by decide)]
      have r0 : (mJ a wm f g M n).1 126 0 = E.1 0 := i3 0 (by decide) (by decide)
      have q1 : wm n < 3 * (E.1 0).toNat := hw n (by omega)
      have q2 : wm (sAh f n).toNat < 3 * (E.1 0).toNat := by
        rcases sAd_b (f := f) (v := f n) n with z | ⟨i, z1, z2⟩
        · exact absurd z c.1
        · refine hw _ ?_
          show (sAd f (f n) n).toNat < w
          omega
      refine ⟨iv_bond (W := mJ a wm f g M n) (u0 := (wm n : Int)) (u1 := (wm (sAh f n).toNat : Int)) (u2 := a) i1 rfl ⟨by omega, by omega⟩ (by omega) (by omega), ?_, fun j h1 h2 => ?_, fun b hb => (bM_e hb).trans (i4 b hb), i5⟩
      · unfold bndM
        rw [vu_e rfl, i2]
        omega
      · unfold bndM
        (repeat rw [vu_n (by omega)])
        exact i3 j h1 h2
    · rw [tv_f c, if_pos rfl, Int.add_zero]
      exact ⟨i1, i2, i3, i4, i5⟩
theorem q_join {a : Int} (H : pR v X M) (hv : v < 2147483646) : (d_X11_join_r31d a X).1 = (d_X12_join_r125d a M).1 ∧ pR (v + 1) (d_X11_join_r31d a X).2 (d_X12_join_r125d a M).2 := by
  obtain ⟨E, t, w, wm, S, H⟩ := H
  have V := rb_V H.1
  have bb := rb_b H.1
  rcases to_join (a := a) H.1.1 H.2.1 H.1.2.1 (rb_y H.1) V with h | h
  · have z := ra_f H h
    exact ⟨z.1, E, t, w, wm, S, ra_v z.2 (by omega)⟩
  · obtain ⟨s1, s2, s3, s4⟩ := c_se H.1.1 H.2.1 V
    have x0 : pQ0 X (d_X3_settle_r87d (d_X7_asKnown_r78d 146399 X)) := pQ0_t (pQ0_F (fr_d_X7_asKnown_r78d 146399 X) rfl) (pQ0_F (fr_d_X3_settle_r87d _) rfl)
    have xk : pQk X (d_X3_settle_r87d (d_X7_asKnown_r78d 146399 X)) := qk_t (qk_d_X7_asKnown_r78d 146399 X) (qk_d_X3_settle_r87d _)
    have m0 : pQm M (d_X12_findBest_r125d 0 (vu M 125 0 0)) := qm_t qm_0 (qm_F (fr_d_X12_findBest_r125d 0 _) rfl)
    have H2 : pRa v (d_X3_settle_r87d (d_X7_asKnown_r78d 146399 X)) (d_X12_findBest_r125d 0 (vu M 125 0 0)) E t w wm S := ra_q H x0 xk s2 m0
    rcases h with ⟨ex, em⟩ | ⟨_, g2, g3, ex, em, D⟩
    · rw [ex, em]
      exact ⟨rfl, E, t, w, wm, S, ra_v (ra_s2 H2) (by omega)⟩
    · rw [ex, em]
      unfold xJn mJn at *
      have F := jn_x (X := d_X3_settle_r87d (d_X7_asKnown_r78d 146399 X)) (wm := wm) (f := (sBt E t w wm).2.2.1) (g := (sGs E 146399).1) (a := a) w
      have hw : ∀ j : Nat, j < w → wm j < 3 * (E.1 0).toNat := fun j hj => ((pEv_i.mp V).2.2.2.2.2.2.2.2.2.2.1 j hj).2.1
      obtain ⟨i1, i2, i3, i4, i5⟩ := jn_m (a := a) (f := (sBt E t w wm).2.2.1) (g := (sGs E 146399).1) (cm_126 H2.1.2.1) H.1.2.2.1 g2 hw w (Nat.le_refl w)
      have ev : (xJ a wm (sBt E t w wm).2.2.1 (sGs E 146399).1 (d_X3_settle_r87d (d_X7_asKnown_r78d 146399 X)) w).1 32 19 = (d_X3_settle_r87d (d_X7_asKnown_r78d 146399 X)).1 32 19 := F.1 32 19 rfl
      rw [ev]
      exact ⟨rfl, _, t, w, wm, S, ra_w H2 hv F rfl (fun b h1 h2 => i4 b h2) (fun k _ => by rw [i4 125 (by decide)]) i5 D i1 (tr_z ⟨i3 14 (by decide) (by decide), by omega⟩ (fun j j1 j2 => i3 j (by omega) (by omega)) H.1.2.2.2.1) (i3 0 (by decide) (by decide)) (fun j j1 j2 => i3 j (by omega) (by omega)) (i3 4 (by decide) (by decide)) (fun j j1 j2 => i3 j (by omega) (by omega))⟩
end
end jG136

section jG137
/-! pure: alter -/
theorem xr_d {n m : Nat} (h : m < 256) : (n ^^^ m) / 256 = n / 256 := by
  have a : (n ^^^ m) >>> 8 = (n >>> 8) ^^^ (m >>> 8) := Nat.shiftRight_xor_distrib
  rw [Nat.shiftRight_eq_div_pow, Nat.shiftRight_eq_div_pow, Nat.shiftRight_eq_div_pow] at a
  have b : m / 2 ^ 8 = 0 := Nat.div_eq_of_lt h
  rw [b, Nat.xor_zero] at a
  exact a
theorem xor_h {x b : Int} (hx : -2147483648 ≤ x ∧ x < 2147483648) (hb : 0 ≤ b ∧ b ≤ 255) : j_ixor x b / 256 = x / 256 := by
  have e : j_ixor x b = ((Int32.ofInt x).toBitVec ^^^ (Int32.ofInt b).toBitVec).toInt := by
    unfold j_ixor
    rw [← Int32.toBitVec_xor]
    rfl
  have ex : (Int32.ofInt x).toBitVec.toInt = x := Int32.toInt_ofInt_of_le hx.1 hx.2
  have eb : (Int32.ofInt b).toBitVec.toInt = b := Int32.toInt_ofInt_of_le (by omega) (by omega)
  rw [e, BitVec.toInt_eq_toNat_cond, BitVec.toNat_xor]
  rw [BitVec.toInt_eq_toNat_cond] at ex eb
  generalize (Int32.ofInt x).toBitVec.toNat = n at *
  have hm : (Int32.ofInt b).toBitVec.toNat < 4294967296 := (Int32.ofInt b).toBitVec.isLt
  generalize (Int32.ofInt b).toBitVec.toNat = m at *
  have m2 : m < 256 := by
    split at eb <;> omega
  have d := xr_d (n := n) m2
  generalize n ^^^ m = k at *
  split
  · split at ex <;> omega
  · split at ex <;> omega
section
variable {r s : Nat → Int} {q : (Nat → Int) × (Nat → Int) × (Nat → Int) × Int} {t : jT} {w : Nat} {wm : Nat → Nat}
theorem iv_alter {a b : Int} (I : pIv (r, q) t w wm) (ha : 0 ≤ a ∧ a < r 0) (hb : 1 ≤ b ∧ b ≤ 255) (o : ∀ j : Nat, j ≠ (20 + 90 * a + 4).toNat → s j = r j) (n : s (20 + 90 * a + 4).toNat = j_ixor (r (20 + 90 * a + 4).toNat) b) : pIv (s, q) t w wm := by
  obtain ⟨V, Ew, Ir, In, Bd⟩ := I
  obtain ⟨j0, f0, h0, s0, tx0, t0, e0, p0, tm, w9, wi, b0⟩ := pEv_i.mp V
  have bs1 : 0 ≤ r 7 ∧ r 7 ≤ 40 := s0.1
  have bs2 : 0 ≤ r 9 ∧ r 9 ≤ r 7 := s0.2.1
  have bf : 0 ≤ r 5 ∧ r 5 ≤ 100 := f0.1
  have bx : 0 ≤ r 4 ∧ r 4 ≤ 30 := ⟨tx0.1.1, tx0.1.2.1⟩
  change 0 ≤ r 0 ∧ r 0 ≤ 200 at b0
  change pBnd r at Bd
  have B1 := Bd
  unfold pBnd at B1
  have w6 : 0 ≤ r 6 ∧ r 6 ≤ 40 := Ew.2.2.2.1
  have w11 : 0 ≤ r 11 ∧ r 11 ≤ 40 := Ew.2.2.2.2.1
  have R : ∀ j : Nat, (j < 20 ∨ 18020 ≤ j) → s j = r j := fun j hj => o j (by omega)
  have n0 : -256 ≤ r (24 + 90 * a.toNat) ∧ r (24 + 90 * a.toNat) ≤ 100351 := In a.toNat (by show ((a.toNat : Nat) : Int) < r 0; omega)
  have ea : (20 + 90 * a + 4).toNat = 24 + 90 * a.toNat := by omega
  rw [ea] at n o
  have hx := xor_h (x := r (24 + 90 * a.toNat)) (b := b) (by omega) (by omega)
  have k0 := R 0 (by omega)
  have c00 : r 0 ≤ s 0 := by omega
  refine ⟨pEv_i.mpr ⟨tr_j (R 2 (by omega)) c00 (fun j j1 j2 => R j (by omega)) j0, tr_f (R 5 (by omega)) c00 (fun j j1 j2 => R j (by omega)) f0, sa_h (R 8 (by omega)) (R 10 (by omega)) c00 (by rw [R 7 (by omega)]; omega) (R 9 (by omega)) (by omega) (fun j j1 j2 => R j (by omega)) h0, tr_s (by rw [R 7 (by omega)]; omega) (R 9 (by omega)) (fun j j1 j2 => R j (by omega)) s0, tr_x (R 4 (by omega)) (fun j j1 j2 => R j (by omega)) tx0, sa_t c00 (R 16 (by omega)) (by omega) (fun j j1 j2 => R j (by omega)) t0, tr_e ⟨R 13 (by omega), by omega⟩ ⟨R 14 (by omega), by omega⟩ (fun j j1 j2 => R j (by omega)) e0, tr_p ⟨R 15 (by omega), by omega⟩ (fun j j1 j2 => R j (by omega)) p0, tm, w9, fun x hx => ?_, by show 0 ≤ s 0 ∧ s 0 ≤ 200; omega⟩, ?_, fun l hl => ?_, fun l hl => ?_, ?_⟩
  · obtain ⟨w1, w2, w3⟩ := wi x hx
    refine ⟨⟨?_, ?_⟩, ?_, w3⟩
    · have := w1.1
      show ((wm x / 3 : Nat) : Int) < s 0
      change ((wm x / 3 : Nat) : Int) < r 0 at this
      omega
    · rw [sCo_c (E := (r, q)) (F := (s, q)) (o _ (by omega))]
      exact w1.2
    · unfold sNl at *
      show wm x < 3 * (s 0).toNat
      rw [k0]
      exact w2
  · obtain ⟨a1, a2, a3, a4⟩ := Ew
    refine ⟨fun l hl => ?_, fun l hl => ?_, fun l hl => ?_, ?_⟩
    · change (l : Int) < s 11 at hl
      rw [R 11 (by omega)] at hl
      show (0 ≤ s (48301 + 4 * l) ∧ s (48301 + 4 * l) ≤ 399) ∧ 0 ≤ s (48302 + 4 * l) ∧ s (48302 + 4 * l) ≤ 1000000
      rw [R _ (by omega), R _ (by omega)]
      exact a1 l hl
    · change (l : Int) < s 0 at hl
      rw [k0] at hl
      have z : r (20 + 90 * l) = 5 → 0 ≤ r (24 + 90 * l) := a2 l hl
      show s (20 + 90 * l) = 5 → 0 ≤ s (24 + 90 * l)
      rw [o (20 + 90 * l) (by omega)]
      intro h5
      have z2 := z h5
      by_cases y : l = a.toNat
      · rw [y, n]
        rw [y] at z2
        omega
      · rw [o _ (by omega)]
        exact z2
    · change (l : Int) < s 6 at hl
      rw [R 6 (by omega)] at hl
      show 0 ≤ s (47141 + 3 * l)
      rw [R _ (by omega)]
      exact a3 l hl
    · show (0 ≤ s 6 ∧ s 6 ≤ 40) ∧ (0 ≤ s 11 ∧ s 11 ≤ 40) ∧ (0 ≤ s 12 ∧ s 12 ≤ 100) ∧ (0 ≤ s 3 ∧ s 3 ≤ 20)
      rw [R 6 (by omega), R 11 (by omega), R 12 (by omega), R 3 (by omega)]
      exact a4
  · change (l : Int) < s 0 at hl
    rw [k0] at hl
    have y : (0 ≤ r (20 + 90 * l) ∧ r (20 + 90 * l) ≤ 5) ∧ (0 ≤ r (21 + 90 * l) ∧ r (21 + 90 * l) ≤ 15) ∧ (0 ≤ r (22 + 90 * l) ∧ r (22 + 90 * l) ≤ 146399) ∧ (0 ≤ r (23 + 90 * l) ∧ r (23 + 90 * l) ≤ 146399) ∧ ∀ m : Nat, m < 6 → (0 ≤ r (26 + 90 * l + 14 * m) ∧ r (26 + 90 * l + 14 * m) ≤ 12) := Ir l hl
    show (0 ≤ s (20 + 90 * l) ∧ s (20 + 90 * l) ≤ 5) ∧ (0 ≤ s (21 + 90 * l) ∧ s (21 + 90 * l) ≤ 15) ∧ (0 ≤ s (22 + 90 * l) ∧ s (22 + 90 * l) ≤ 146399) ∧ (0 ≤ s (23 + 90 * l) ∧ s (23 + 90 * l) ≤ 146399) ∧ ∀ m : Nat, m < 6 → (0 ≤ s (26 + 90 * l + 14 * m) ∧ s (26 + 90 * l + 14 * m) ≤ 12)
    rw [o (20 + 90 * l) (by omega), o (21 + 90 * l) (by omega), o (22 + 90 * l) (by omega), o (23 + 90 * l) (by omega)]
    refine ⟨y.1, y.2.1, y.2.2.1, y.2.2.2.1, fun m hm => ?_⟩
    rw [o (26 + 90 * l + 14 * m) (by omega)]
    exact y.2.2.2.2 m hm
  · change (l : Int) < s 0 at hl
    rw [k0] at hl
    show -256 ≤ s (24 + 90 * l) ∧ s (24 + 90 * l) ≤ 100351
    by_cases y : l = a.toNat
    · rw [y, n]
      omega
    · rw [o _ (by omega)]
      exact In l hl
  · show pBnd s
    unfold pBnd
    rw [R 1 (by omega), R 13 (by omega), R 14 (by omega), R 15 (by omega), R 16 (by omega), R 0 (by omega), R 4 (by omega), R 5 (by omega), R 7 (by omega)]
    exact B1
end
section
variable {v : Int} {X M : jW}
theorem q_alter {a b : Int} (H : pR v X M) (hv : v < 2147483646) : (d_X11_alter_r31d a b X).1 = (d_X12_alter_r125d a b M).1 ∧ pR (v + 1) (d_X11_alter_r31d a b X).2 (d_X12_alter_r125d a b M).2 := by
  obtain ⟨E, t, w, wm, S, H⟩ := H
  have bb := rb_b H.1
  have e := cm_126 H.1.2.1
  rcases to_alter (a := a) (b := b) H.1.1 H.1.2.1 with h | ⟨⟨gb, ga⟩, ex, em⟩
  · have z := ra_f H h
    exact ⟨z.1, E, t, w, wm, S, ra_v z.2 (by omega)⟩
  · rw [ex, em]
    obtain ⟨h1, h3, h4, h5, h6, h8, h9, h10, h11, h12, h14, h17⟩ := id H.1
    have D := dd_alter (v := j_ixor (E.1 (20 + 90 * a + 4).toNat) b) h1.2.1 e ga
    have so : ∀ j : Nat, j ≠ (20 + 90 * a + 4).toNat → (vu (vu M 125 0 0) 126 (20 + 90 * a + 4).toNat (j_ixor (E.1 (20 + 90 * a + 4).toNat) b)).1 126 j = E.1 j := fun j hj => by rw [vu_n (by omega), vu_n (by omega), e]
    have sn : (vu (vu M 125 0 0) 126 (20 + 90 * a + 4).toNat (j_ixor (E.1 (20 + 90 * a + 4).toNat) b)).1 126 (20 + 90 * a + 4).toNat = j_ixor (E.1 (20 + 90 * a + 4).toNat) b := vu_e rfl
    have I := iv_alter (q := E.2) h4 ga gb so sn
    have mc : ∀ c : Nat, c ≠ 125 → c ≠ 126 → (vu (vu M 125 0 0) 126 (20 + 90 * a + 4).toNat (j_ixor (E.1 (20 + 90 * a + 4).toNat) b)).1 c = M.1 c := fun c c1 c2 => (vu_c c2).trans (vu_c c1)
    have mk : ∀ k : Nat, k ≠ 0 → (vu (vu M 125 0 0) 126 (20 + 90 * a + 4).toNat (j_ixor (E.1 (20 + 90 * a + 4).toNat) b)).1 125 k = M.1 125 k := fun k hk => (vu_n (by omega)).trans (vu_n (by omega))
    have m2 : (vu (vu M 125 0 0) 126 (20 + 90 * a + 4).toNat (j_ixor (E.1 (20 + 90 * a + 4).toNat) b)).2 = M.2 := rfl
    have xc0 : ∀ c : Nat, c ≠ 34 → (vu X 34 (a * 6 + 4).toNat (j_ixor (E.1 (20 + 90 * a + 4).toNat) b)).1 c = X.1 c := fun c hc => vu_c hc
    have x20 : (vu X 34 (a * 6 + 4).toNat (j_ixor (E.1 (20 + 90 * a + 4).toNat) b)).2 = X.2 := rfl
    have F := fr_d_X7_learn_r78d a (vu X 34 (a * 6 + 4).toNat (j_ixor (E.1 (20 + 90 * a + 4).toNat) b))
    generalize vu X 34 (a * 6 + 4).toNat (j_ixor (E.1 (20 + 90 * a + 4).toNat) b) = Z0 at *
    generalize hN : vu (vu M 125 0 0) 126 (20 + 90 * a + 4).toNat (j_ixor (E.1 (20 + 90 * a + 4).toNat) b) = N at *
    have D0 : pD Z0 32 (N.1 126) := by
      refine pD_A (X := d_X7_learn_r78d a Z0) (fun c c1 c2 => ?_) D
      exact (funext fun k => F.1 c k (by
        cases g : pc fw_X7_learn_r78d c k with
        | false => rfl
        | true =>
          unfold pc fw_X7_learn_r78d at g
          rw [List.any_eq_true] at g
          obtain ⟨p, p1, p2⟩ := g
          rw [Bool.and_eq_true] at p2
          have z := Nat.eq_of_beq_eq_true p2.1
          simp only [List.mem_cons, List.not_mem_nil, or_false] at p1
          rcases p1 with rfl | rfl | rfl <;> (exfalso; change _ = c at z; omega))).symm
    have SU0 : pSu Z0 := by
      unfold pSu pSt
      rw [xc0 1 (by decide), xc0 2 (by decide)]
      exact h1.2.2.2.1
    have s0 : N.1 126 0 = E.1 0 := so 0 (by omega)
    obtain ⟨l1, l2, l3, l4⟩ := xls (E := (N.1 126, E.2)) (X := Z0) (l := a.toNat) I.2.2.1 (by show ((a.toNat : Nat) : Int) < N.1 126 0; omega) (by show N.1 126 0 ≤ 200; omega) SU0 (D0.1 pt_0 (by decide))
    rw [show ((a.toNat : Nat) : Int) = a from by omega] at l1 l2 l3 l4
    generalize d_X7_learn_r78d a Z0 = Z at *
    have xc : ∀ c : Nat, c ≠ 34 → c ≠ 79 → c ≠ 80 → c ≠ 81 → Z.1 c = X.1 c := fun c c0 c1 c2 c3 => (funext fun j => l1 c j c1 c2 c3).trans (xc0 c c0)
    have x2 : Z.2 = X.2 := l2.trans x20
    have TQ : pTq Z 32 (N.1 126) := tq_k H.1 (by rw [xc 32 (by decide) (by decide) (by decide) (by decide)]) (fun b hb => xc b (by omega) (by omega) (by omega) (by omega)) (by rw [x2]) (so 4 (by omega)) (fun j j1 j2 => so j (by omega))
    have lk : ∀ l : Nat, pLk E.1 (N.1 126) l := fun l j j1 j2 j3 => by
      by_cases z : j = (20 + 90 * a + 4).toNat
      · exfalso
        omega
      · exact so j z
    have P : pCp Z (N.1 126, E.2) t w wm := by
      obtain ⟨p1, p2, p3, p4, p5, p6, p7, p8, p9⟩ := h1
      refine ⟨?_, D, pTq_t TQ, ?_, ?_, by rw [xc 78 (by decide) (by decide) (by decide) (by decide)]; exact p6, by rw [xc 87 (by decide) (by decide) (by decide) (by decide)]; exact p7, fun i hi => by rw [xc 88 (by decide) (by decide) (by decide) (by decide)]; exact p8 i hi, by rw [xc 32 (by decide) (by decide) (by decide) (by decide)]; exact p9⟩
      · obtain ⟨q1, q2, q3, q4, q5, q6, q7, q8⟩ := p1
        refine ⟨q1, I.2.2.1, I.2.2.2.1, q4, by rw [xc 78 (by decide) (by decide) (by decide) (by decide)]; exact q5, D.1 pt_2 (by decide), fun q hq => ?_, fun m hm => ?_⟩
        · change ((q / 6 : Nat) : Int) < N.1 126 0 at hq
          rw [s0] at hq
          have z : pFc X (N.1 126, E.2) q := pFc_c q1 q2 hq (lk _) (sh_r rfl) (q7 q hq)
          unfold pFc at *
          rw [xc 75 (by decide) (by decide) (by decide) (by decide), xc 76 (by decide) (by decide) (by decide) (by decide), xc 77 (by decide) (by decide) (by decide) (by decide)]
          exact z
        · change ((m / 3 : Nat) : Int) < N.1 126 0 at hm
          rw [s0] at hm
          by_cases y : 3 * a.toNat ≤ m ∧ m < 3 * a.toNat + 3
          · exact l4 m y.1 y.2
          · have z : pSl X (N.1 126, E.2) m := pSl_c (lk _) (so _ (by omega)) (q8 m hm)
            have u := l3 m (by omega)
            unfold pSl at *
            rw [u.1, u.2.1, u.2.2, xc0 79 (by decide), xc0 80 (by decide), xc0 81 (by decide)]
            exact z
      · unfold pSu pSt
        rw [xc 1 (by decide) (by decide) (by decide) (by decide), xc 2 (by decide) (by decide) (by decide) (by decide)]
        exact p4
      · unfold pSp
        rw [xc 73 (by decide) (by decide) (by decide) (by decide), xc 74 (by decide) (by decide) (by decide) (by decide)]
        exact p5
    have Q : pCm N (N.1 126, E.2) t w wm := by
      obtain ⟨p1, p2, p3, p4⟩ := h3
      refine ⟨?_, ?_, by rw [mk 36 (by decide)]; exact p3, fun i hi => by rw [mc 141 (by decide) (by decide)]; exact p4 i hi⟩
      · unfold eOf at *
        rw [mc 132 (by decide) (by decide), mc 133 (by decide) (by decide), mc 134 (by decide) (by decide), mk 27 (by decide), ← p1]
      · rw [mk 23 (by decide), mk 24 (by decide), mk 25 (by decide), mk 26 (by decide)]
        exact p2
    have B := rb_k (S1 := S) (Y := Z) (N := N) H.1 P Q I (tr_z ⟨so 14 (by omega), by omega⟩ (fun j j1 j2 => so j (by omega)) h5) (fun b hb => xc b (by omega) (by omega) (by omega) (by omega)) (by rw [x2]) (fun b _ => by rw [x2]) TQ (fun k => by rw [x2]; exact h10 k) (fun k => by rw [m2]; exact h11 k) (by rw [xc 123 (by decide) (by decide) (by decide) (by decide), mc 173 (by decide) (by decide)]; exact h12) ⟨tp_c (by rw [xc 68 (by decide) (by decide) (by decide) (by decide)]) (xc 69 (by decide) (by decide) (by decide) (by decide)) (mk 8 (by decide)) (mc 131 (by decide) (by decide)) h14.1, by rw [xc 68 (by decide) (by decide) (by decide) (by decide), mk 13 (by decide)]; exact h14.2⟩ (mc 127 (by decide) (by decide)) (mc 128 (by decide) (by decide)) (by rw [m2])
    refine ⟨rfl, _, _, _, _, S, ra_a H hv B (fun z hz => ?_)⟩
    have := kyl_c hz
    rw [xc z.1 (by omega) (by omega) (by omega) (by omega)]
    exact H.2.2.2.2 z hz
end
end jG137

section jG138
/-! pure: a LINE that is read has NAMES of at most 12 letters -/
def pLe (V : jW) : Prop := V.1 68 3 ≤ V.1 68 4 ∧ 0 ≤ V.1 68 3 ∧ V.1 68 1 ≤ 400
def pLq (V : jW) : Prop := ∀ s : Nat, s < 6 → 0 ≤ V.1 71 (14 * s) ∧ V.1 71 (14 * s) ≤ 12
def pLz (V : jW) : Prop := pLe V ∧ pLq V
theorem le_i {A B : jW} {c : Prop} [Decidable c] (h : pLe A) (g : pLe B) : pLe (if c then A else B) := by
  by_cases e : c
  · rw [if_pos e]; exact h
  · rw [if_neg e]; exact g
theorem lz_i {A B : Int × jW} {c : Prop} [Decidable c] (h : pLz A.2) (g : pLz B.2) : pLz (if c then A else B).2 := by
  by_cases e : c
  · rw [if_pos e]; exact h
  · rw [if_neg e]; exact g
theorem le_97 : ∀ (r : Nat) (W : jW), pLe W → pLe (d_X9_step_r68d_97 r W) := by
  intro r
  induction r with
  | zero => intro W h; exact h
  | succ r ih =>
    intro W h
    have y : pLe (d_X9_step_r68d_97 r (vu W 68 4 (W.1 68 4 + 1))) := ih _ (by
      unfold pLe at *
      rw [vu_n (by omega), vu_e rfl, vu_n (by omega)]
      omega)
    exact le_i h (le_i h (le_i (le_i h (le_i h (le_i y h))) (le_i h (le_i y h))))
theorem le_46 (W : jW) (h0 : 0 ≤ W.1 68 3) (h4 : W.1 68 1 ≤ 400) : pLe (d_X9_step_r68d_46 W) := by
  have a : ∀ x : Int, pLe (d_X9_step_r68d_97 400 (vu (vu (vu W 68 4 (W.1 68 3)) 68 5 x) 68 4 (W.1 68 3 + 1))) := fun x => le_97 400 _ (by
    unfold pLe
    rw [vu_n (j := 3) (by omega), vu_n (j := 3) (by omega), vu_n (j := 3) (by omega), vu_e rfl, vu_n (j := 1) (by omega), vu_n (j := 1) (by omega), vu_n (j := 1) (by omega)]
    omega)
  unfold d_X9_step_r68d_46
  refine le_i (le_i (le_i (a 3) (le_i (a 3) (a 2))) (le_i (a 3) (a 1))) ?_
  unfold pLe
  rw [vu_n (j := 3) (by omega), vu_n (j := 3) (by omega), vu_n (j := 4) (by omega), vu_e rfl, vu_n (j := 1) (by omega), vu_n (j := 1) (by omega)]
  omega
theorem le_8 : ∀ (r : Nat) (W : jW), 0 ≤ W.1 68 3 → W.1 68 1 ≤ 400 → W.1 68 1 - W.1 68 3 < (r : Int) → 0 < r → pLe (d_X9_step_r68d_8 r W) := by
  intro r
  induction r with
  | zero => intro W _ _ _ h; exact absurd h (Nat.lt_irrefl 0)
  | succ r ih =>
    intro W h0 h1 h2 _
    have z := le_46 W h0 h1
    show pLe (if W.1 68 1 ≤ W.1 68 3 then d_X9_step_r68d_46 W else if W.1 69 (W.1 68 3).toNat = 32 then d_X9_step_r68d_8 r (vu W 68 3 (W.1 68 3 + 1)) else d_X9_step_r68d_46 W)
    by_cases c : W.1 68 1 ≤ W.1 68 3
    · rw [if_pos c]; exact z
    · rw [if_neg c]
      refine le_i (ih _ ?_ ?_ ?_ (by omega)) z
      · rw [vu_e rfl]; omega
      · rw [vu_n (by omega)]; exact h1
      · rw [vu_n (by omega), vu_e rfl]; omega
theorem le_st {W : jW} (h0 : 0 ≤ W.1 68 4) (h1 : W.1 68 1 ≤ 400) : pLe (d_X9_step_r68d W) := by
  refine le_8 401 _ ?_ ?_ ?_ (by decide)
  · rw [vu_e rfl]; exact h0
  · rw [vu_n (by omega)]; exact h1
  · rw [vu_n (by omega), vu_e rfl]; omega
theorem lq_e {V W : jW} (e : V.1 71 = W.1 71) (h : pLq W) : pLq V := by
  unfold pLq
  rw [e]
  exact h
theorem lz_st {W : jW} (h : pLz W) : pLz (d_X9_step_r68d W) := ⟨le_st (by have := h.1.1; have := h.1.2.1; omega) h.1.2.2, lq_e (st_f W).1 h.2⟩
theorem lz_2 {W : jW} {x : Int} (h : pLz W) : pLz (vu W 68 2 x) := by
  refine ⟨?_, lq_e (vu_c (by decide)) h.2⟩
  have h1 := h.1
  unfold pLe at *
  rw [vu_n (by omega), vu_n (by omega), vu_n (by omega)]
  exact h1
/-- a place within a NAME that is not its first -/
theorem lz_71 {W : jW} {p : Nat} {x : Int} (hp : p % 14 ≠ 0) (h : pLz W) : pLz (vu W 71 p x) := by
  refine ⟨?_, fun s hs => ?_⟩
  · have h1 := h.1
    unfold pLe at *
    rw [vu_n (by omega), vu_n (by omega), vu_n (by omega)]
    exact h1
  · rw [vu_n (by omega)]
    exact h.2 s hs
section
variable {l1 l2 : Int} {k : Nat}
theorem lz_172 {l3 : Int} {W : jW} (e : l1 = 14 * (k : Int)) (h : pLz W) : pLz (d_X5_readName_r70d_172 l1 l3 W).2 := lz_i (lz_71 (p := (l1 + 1).toNat) (by omega) h) (lz_71 (p := (l1 + 1).toNat) (by omega) h)
theorem lz_92 (e : l1 = 14 * (k : Int)) (h2 : l2 ≤ 12) : ∀ (r : Nat) (l3 : Int) (W : jW), 0 ≤ l3 → pLz W → pLz (d_X5_readName_r70d_92 r l1 l2 l3 W).2 := by
  intro r
  induction r with
  | zero => intro _ W _ h; exact h
  | succ r ih =>
    intro l3 W h3 h
    have a : ∀ x : Int, pLz (d_X5_readName_r70d_172 l1 x (d_X9_step_r68d W)).2 := fun x => lz_172 e (lz_st h)
    have b : ∀ x : Int, pLz (d_X5_readName_r70d_172 l1 x (d_X9_step_r68d (d_X9_step_r68d W))).2 := fun x => lz_172 e (lz_st (lz_st h))
    show pLz (if l2 ≤ l3 then (if W.1 68 4 = W.1 68 1 then d_X5_readName_r70d_300143 l1 W else d_X5_readName_r70d_200143 l1 W) else (if W.1 68 4 - W.1 68 3 ≤ l3 then d_X5_readName_r70d_92 r l1 l2 (l3 + 1) (vu W 71 (l1 + 2 + l3).toNat 0) else d_X5_readName_r70d_92 r l1 l2 (l3 + 1) (vu W 71 (l1 + 2 + l3).toNat (W.1 69 (W.1 68 3 + l3).toNat)))).2
    by_cases c : l2 ≤ l3
    · rw [if_pos c]
      exact lz_i (lz_i (a 1) (b 1)) (lz_i (a 0) (b 1))
    · rw [if_neg c]
      exact lz_i (ih _ _ (by omega) (lz_71 (p := (l1 + 2 + l3).toNat) (by omega) h)) (ih _ _ (by omega) (lz_71 (p := (l1 + 2 + l3).toNat) (by omega) h))
theorem lz_rn {W : jW} (e : l1 = 14 * (k : Int)) (h : pLz W) : pLz (d_X5_readName_r70d l1 W).2 := by
  unfold d_X5_readName_r70d
  refine lz_i h (lz_i (lz_i ?_ (lz_2 h)) (lz_st h))
  by_cases c : 12 < W.1 68 4 - W.1 68 3
  · rw [if_pos c]; exact lz_2 h
  · rw [if_neg c]
    have h1 := h.1
    refine lz_92 e (by omega) 13 0 _ (by omega) ⟨?_, fun s hs => ?_⟩
    · unfold pLe at *
      rw [vu_n (by omega), vu_n (by omega), vu_n (by omega)]
      exact h1
    · unfold pLe at h1
      by_cases z : 14 * s = (l1 + 0).toNat
      · rw [vu_e z]; omega
      · rw [vu_n (by omega)]; exact h.2 s hs
theorem lz_tl {r : Nat} {T : jW} (IH : ∀ W : jW, pLz W → pLz (d_X5_readLine_r70d_50 r l1 (l2 + 1) W).2) (h : pLz T) : pLz (tlX r l1 l2 T).2 := by
  unfold tlX d_X5_readLine_r70d_113
  exact lz_i h (lz_i (lz_i (lz_2 h) (lz_i (IH _ (lz_st h)) (lz_2 h))) (lz_i (lz_st h) (lz_2 (lz_st h))))
end
theorem lz_50 {l1 : Int} : ∀ (r : Nat) (l2 : Int) (W : jW), 0 ≤ l2 → pLz W → pLz (d_X5_readLine_r70d_50 r l1 l2 W).2 := by
  intro r
  induction r with
  | zero => intro _ W _ h; exact h
  | succ r ih =>
    intro l2 W h2 h
    rw [rl_s]
    have a : pLz (d_X5_readName_r70d (l2 * 2 * 14) W).2 := lz_rn (k := (l2 * 2).toNat) (by omega) h
    have b : pLz (d_X5_readName_r70d ((l2 * 2 + 1) * 14) (d_X5_readName_r70d (l2 * 2 * 14) W).2).2 := lz_rn (k := (l2 * 2 + 1).toNat) (by omega) a
    have ta := lz_tl (l1 := l1) (l2 := l2) (r := r) (fun W hW => ih (l2 + 1) W (by omega) hW) a
    have tb := lz_tl (l1 := l1) (l2 := l2) (r := r) (fun W hW => ih (l2 + 1) W (by omega) hW) b
    exact lz_i h (lz_i a (lz_i (lz_i b tb) (lz_i (lz_i (lz_i b tb) ta) ta)))
theorem lz_rl {l1 : Int} {X : jW} (h : X.1 68 1 ≤ 400) : pLz (d_X5_readLine_r70d l1 X).2 := by
  obtain ⟨Y, eX, oX, zX⟩ := @zx_e l1 85 0 X (by omega) (by omega) (by omega)
  unfold d_X5_readLine_r70d
  rw [eX]
  have u1 : (vu (vu Y 68 2 (-1)) 68 4 0).1 68 1 = X.1 68 1 := by rw [vu_n (by omega), vu_n (by omega)]; exact oX.1 68 1 (by omega)
  have u4 : (vu (vu Y 68 2 (-1)) 68 4 0).1 68 4 = 0 := vu_e rfl
  have u7 : (vu (vu Y 68 2 (-1)) 68 4 0).1 71 = Y.1 71 := by rw [vu_c (by decide), vu_c (by decide)]
  have L : pLz (d_X9_step_r68d (vu (vu Y 68 2 (-1)) 68 4 0)) := ⟨le_st (by omega) (by omega), fun s hs => by
    rw [(st_f _).1, u7, zX (14 * s) (by omega) (by omega)]
    omega⟩
  unfold zxE
  exact lz_i (lz_50 3 0 _ (by omega) L) (lz_i (lz_st L) (lz_2 (lz_st L)))
/-- NAMES of a LINE that was told -/
theorem ln_q {X : jW} {a1 a2 a3 a4 a5 : Int} {n : Nat} (h : X.1 68 1 ≤ 400) (g : lnG a1 a2 a3 a4 a5) (hn : n < 200) (e33 : X.1 33 3 = (n : Int)) (e35 : X.1 35 3 = 6 * (n : Int)) (ok : 0 ≤ (d_X11_line_r31d a1 a2 a3 a4 a5 X).1) : ∀ s : Nat, s < 6 → 0 ≤ (d_X11_line_r31d a1 a2 a3 a4 a5 X).2.1 36 (84 * n + 14 * s) ∧ (d_X11_line_r31d a1 a2 a3 a4 a5 X).2.1 36 (84 * n + 14 * s) ≤ 12 := by
  rw [lnX_y g] at ok ⊢
  unfold lnX at ok ⊢
  rw [fu_33, if_pos (show (if X.1 33 3 < 200 then (0 : Int) else 1) = 0 from if_pos (by omega))] at ok ⊢
  by_cases c : (d_X5_readLine_r70d (X.1 1 a1.toNat) X).1 = -1
  · rw [if_pos c] at ok
    have z : (0 : Int) ≤ -6 := ok
    exact absurd z (by decide)
  · rw [if_neg c]
    have L := (lz_rl (l1 := X.1 1 a1.toNat) h).2
    have FQ := fr_d_X5_readLine_r70d (X.1 1 a1.toNat) X
    generalize d_X5_readLine_r70d (X.1 1 a1.toNat) X = x at *
    have FA := fr_d_X8_add_r33d a4 a3 a1 a2 a5 x.1 (vu x.2 68 1 0)
    have z35 : (d_X8_add_r33d a4 a3 a1 a2 a5 x.1 (vu x.2 68 1 0)).1 35 3 = 6 * (n : Int) + 0 := by
      rw [FA.1 35 3 rfl, vu_n (by omega), FQ.1 35 3 rfl, e35]
      omega
    rw [e33]
    obtain ⟨Y, y1, y2, y3, y4, y5⟩ := @n136_e (n : Int) n hn 7 0 (d_X8_add_r33d a4 a3 a1 a2 a5 x.1 (vu x.2 68 1 0)) (by omega) (by omega) (by omega) z35
    rw [y1]
    intro s hs
    have e36 : (e136 (n : Int) Y).2.1 36 (84 * n + 14 * s) = Y.1 36 (84 * n + 14 * s) := by
      show (vu (vu (d_X7_learn_r78d (n : Int) (d_X5_learn_r70d (n : Int) (d_X8_add_r63d 0 (n : Int) 0 0 0 0 Y))) 31 12 0) 32 19 (j_iadd (Y.1 32 19) 1)).1 36 (84 * n + 14 * s) = _
      rw [vu_n (by omega), vu_n (by omega), (fr_d_X7_learn_r78d _ _).1 36 _ (pc_any rfl _), (fr_d_X5_learn_r70d _ _).1 36 _ (pc_any rfl _), (fr_d_X8_add_r63d _ _ _ _ _ _ _).1 36 _ (pc_any rfl _)]
    rw [e36, y5 (14 * s) (by omega) (by omega), show (d_X8_add_r33d a4 a3 a1 a2 a5 x.1 (vu x.2 68 1 0)).1 71 = x.2.1 71 from (pF_c FA rfl).trans (vu_c (by decide))]
    exact L s hs
end jG138
