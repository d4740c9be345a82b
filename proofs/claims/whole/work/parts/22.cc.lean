/-! the class: image, and the copy of back -/
def fp_told : jFp := [(32, 18, 19), (33, 3, 4), (34, 0, 1200), (35, 3, 4), (36, 0, 16800), (37, 3, 4), (38, 0, 120), (39, 3, 4), (40, 0, 600), (41, 3, 4), (42, 0, 80), (43, 3, 4), (44, 0, 600), (45, 3, 4), (46, 0, 120), (47, 3, 4), (48, 0, 400), (49, 3, 4), (50, 0, 200), (51, 3, 4), (52, 0, 400), (53, 3, 4), (54, 0, 160), (55, 3, 4), (56, 0, 500), (57, 3, 4), (58, 0, 400), (59, 3, 4), (60, 0, 160), (61, 3, 4), (62, 0, 400), (63, 3, 4), (64, 0, 740), (65, 0, 1600), (66, 0, 30)]
theorem jtR_66b : jtR.all (fun e => !Nat.beq (e.1 / 128) 66 && Nat.blt (e.1 / 128) 174) = true := by decide +kernel
theorem jtO_174 : (jtO ++ jtS).all (fun e => Nat.blt e.1 174) = true := by decide +kernel
theorem lk_mem {l : List (Nat × Nat)} {q c : Nat} (h : l.lookup q = some c) : (q, c) ∈ l := by
  induction l with
  | nil => cases h
  | cons x r ih =>
    obtain ⟨a, b⟩ := x
    rw [List.lookup_cons] at h
    by_cases z : q == a
    · rw [z] at h
      cases h
      rw [eq_of_beq z]
      exact List.mem_cons_self
    · rw [Bool.eq_false_iff.mpr z] at h
      exact List.mem_cons_of_mem _ (ih h)
theorem jtR_ne {q c : Nat} (h : jtR.lookup q = some c) : q / 128 ≠ 66 ∧ q / 128 < 174 := by
  have := List.all_eq_true.mp jtR_66b _ (lk_mem h)
  rw [Bool.and_eq_true, Bool.not_eq_true'] at this
  exact ⟨fun z => by rw [z] at this; exact absurd this.1 (by decide), Nat.blt_eq.mp this.2⟩
theorem ju8_le {h : jH} {a f : Nat} (B : jBk h a) (hf : f < 16) : ju8 h a f ≤ jn8 f := by
  obtain ⟨_, _, _, _, _, r0, r1⟩ := B.1 f hf
  obtain ⟨g1, g2, g3, g4⟩ := jwm8 f hf
  have : (jw8 f).toInt * (jiv h (a + 1 + 2 * f) 3).toInt ≤ (jw8 f).toInt * (jm8 f).toInt := Int.mul_le_mul_of_nonneg_left r1 (by omega)
  unfold ju8
  omega
theorem jfo_no {F : jFp} {a k l u : Nat} (g : jfo F a k = false) (m : F.contains (a, l, u) = true) : ¬ (l ≤ k ∧ k < u) := fun c => by rw [jfo_of m c] at g; cases g
theorem ft_r : ∀ f, f < 16 → fp_told.contains (33 + 2 * f, 3, 4) = true := j16 ⟨rfl, rfl, rfl, rfl, rfl, rfl, rfl, rfl, rfl, rfl, rfl, rfl, rfl, rfl, rfl, rfl⟩
theorem ft_c : ∀ f, f < 16 → fp_told.contains (34 + 2 * f, 0, jn8 f) = true := j16 ⟨rfl, rfl, rfl, rfl, rfl, rfl, rfl, rfl, rfl, rfl, rfl, rfl, rfl, rfl, rfl, rfl⟩
theorem cd_sm {a : Nat} {h0 h : jH} (C : jCd 32 a h0 h) (B : jBk h0 a) : jSm fp_told h0 h := by
  obtain ⟨c1, c2, c3, c4, c5, c6, c7, c8, c9, c10, c11⟩ := C
  refine ⟨by rw [c1]; exact Nat.le_refl _, fun b _ => c2 b, fun b k _ g => ⟨?_, ?_, ?_⟩⟩
  · by_cases z : b < 32 ∨ 65 ≤ b
    · exact c8 b z k
    · by_cases y : b = 32
      · subst y
        exact c10 k (fun e => jfo_no g (l := 18) (u := 19) rfl (by omega))
      · by_cases o : b % 2 = 1
        · obtain ⟨d1, d2, d3⟩ := c11 ((b - 33) / 2) (by omega)
          have e : 32 + 1 + 2 * ((b - 33) / 2) = b := by omega
          rw [e] at d2
          have m := ft_r ((b - 33) / 2) (by omega)
          rw [show 33 + 2 * ((b - 33) / 2) = b from by omega] at m
          exact d2 k (fun q => jfo_no g m (by omega))
        · obtain ⟨d1, d2, d3⟩ := c11 ((b - 34) / 2) (by omega)
          have e : 32 + 2 + 2 * ((b - 34) / 2) = b := by omega
          rw [e] at d3
          have m := ft_c ((b - 34) / 2) (by omega)
          rw [show 34 + 2 * ((b - 34) / 2) = b from by omega] at m
          have u := ju8_le B (f := (b - 34) / 2) (by omega)
          have n := jfo_no g m
          rw [d3 k, if_neg (by omega)]
  · by_cases z : b = 65
    · subst z
      have n := jfo_no g (l := 0) (u := 1600) rfl
      rw [c7 k, if_neg (by omega)]
    · exact c6 b k z
  · by_cases z : b = 66
    · subst z
      have n := jfo_no g (l := 0) (u := 30) rfl
      exact c5 k (by omega)
    · exact c3 b k z
/-- told behind back's copy -/
theorem cd_jt {a k : Nat} {h h2 : jH} (J : jJ jSgX jDy h) (hk : k < 4) (q : jrv h 67 k = some a) (C : jCd 32 a h h2) : jJ jSgX jDy h2 := by
  have I := J.2.2.2.1 k a hk q
  have SX := told_is J
  obtain ⟨c1, c2, c3, c4, c5, c6, c7, c8, c9, c10, c11⟩ := C
  have C : jCd 32 a h h2 := ⟨c1, c2, c3, c4, c5, c6, c7, c8, c9, c10, c11⟩
  have tx : ∀ b, jTx h b → jTx h2 b := fun b T => cd_tx C SX T
  refine ⟨⟨fun b s e => (c2 b).trans (J.1.1 b s e), fun p c e => (c3 _ _ (jtR_ne e).1).trans (J.1.2 p c e)⟩, fun s hs k hk => ?_, jB_mv J.2.2.1 (by rw [c1]; exact Nat.le_refl _) (fun t b ht e => ?_) (fun k _ => c8 126 (by omega) k) (fun k => c8 127 (by omega) k) (fun k => c8 132 (by omega) k) (fun k => c8 133 (by omega) k), fun k b hk e => ?_, fun k hk => ?_⟩
  · by_cases z : 32 ≤ s.1 ∧ s.1 ≤ 64
    · have := cd_rgs C (told_rgs J) I.2.2.1 s hs z.1 z.2 k hk
      rw [show 32 + (s.1 - 32) = s.1 from by omega] at this
      exact this
    · rw [c8 _ (by omega) k]
      exact J.2.1 s hs k hk
  · rw [c4 t ht] at e
    exact tx b (I.2.2.2 t b ht e)
  · rw [c3 _ _ (by decide)] at e
    have I2 := J.2.2.2.1 k b hk e
    exact cd_ig C SX I2 (Or.inr (by have := I2.1.1; omega))
  · rw [show jiv h2 127 = jiv h 127 from funext fun i => c8 127 (by omega) i]
    exact J.2.2.2.2 k hk
def jck8 (s : jSg) : Bool := if 32 ≤ s.1 ∧ s.1 ≤ 64 then (if s.1 = 32 then (decide (s.2.1 = 18) && decide (s.2.2.1 = 19)) && (decide (s.2.2.2.2.2.2.1 ≤ 0) && decide (0 ≤ s.2.2.2.2.2.2.2)) else if s.1 % 2 = 1 then decide (s.2.2.1 = s.2.1 + 1) && ((decide (s.2.1 = 0) && (decide (s.2.2.2.2.2.2.1 ≤ jwI ((s.1 - 33) / 2)) && decide (jwI ((s.1 - 33) / 2) ≤ s.2.2.2.2.2.2.2))) || ((decide (s.2.1 = 1) && (decide (s.2.2.2.2.2.2.1 ≤ jmI ((s.1 - 33) / 2)) && decide (jmI ((s.1 - 33) / 2) ≤ s.2.2.2.2.2.2.2))) || (decide (s.2.1 = 3) && (decide (s.2.2.2.2.2.2.1 ≤ 0) && decide (0 ≤ s.2.2.2.2.2.2.2))))) else decide (s.2.2.2.2.2.2.1 ≤ 0) && decide (0 ≤ s.2.2.2.2.2.2.2)) else true
theorem jck8_all : jSgX.all jck8 = true := by decide +kernel
theorem jsx_174 : jSgX.all (fun s => Nat.blt s.1 174) = true := by decide +kernel
theorem jSgX_174 : ∀ s ∈ jSgX, s.1 < 174 := fun s hs => Nat.blt_eq.mp (List.all_eq_true.mp jsx_174 s hs)
theorem lk_mem2 {l : List (Nat × (Nat × Nat))} {q : Nat} {c : Nat × Nat} (h : l.lookup q = some c) : (q, c) ∈ l := by
  induction l with
  | nil => cases h
  | cons x r ih =>
    obtain ⟨a, b⟩ := x
    rw [List.lookup_cons] at h
    by_cases z : q == a
    · rw [z] at h
      cases h
      rw [eq_of_beq z]
      exact List.mem_cons_self
    · rw [Bool.eq_false_iff.mpr z] at h
      exact List.mem_cons_of_mem _ (ih h)
theorem jtR_67b : jtR.all (fun e => !Nat.beq (e.1 / 128) 67) = true := by decide +kernel
theorem jtR_67 {q c : Nat} (h : jtR.lookup q = some c) : q / 128 ≠ 67 := by
  have := List.all_eq_true.mp jtR_67b _ (lk_mem h)
  rw [Bool.not_eq_true'] at this
  exact fun z => by rw [z] at this; exact absurd this (by decide)
/-- behind image's copy: what was below 174 is as it was -/
def jU4 (h h2 : jH) : Prop := jnx h ≤ jnx h2 ∧ ∀ b, b < 174 → jsh h2 b = jsh h b ∧ (∀ k, jiv h2 b k = jiv h b k) ∧ (∀ k, jlv h2 b k = jlv h b k) ∧ ∀ k, jrv h2 b k = jrv h b k
theorem cd_ji {a k : Nat} {h h2 : jH} (J : jJ jSgX jDy h) (hk : k < 4) (q : jrv h 67 k = some a) (C : jCd a 32 h h2) : jJ jSgX jDy h2 ∧ jU4 h h2 := by
  have I := J.2.2.2.1 k a hk q
  have a4 := I.1.1
  have SX := I.2.1
  obtain ⟨c1, c2, c3, c4, c5, c6, c7, c8, c9, c10, c11⟩ := C
  have C : jCd a 32 h h2 := ⟨c1, c2, c3, c4, c5, c6, c7, c8, c9, c10, c11⟩
  have tx : ∀ b, jTx h b → jTx h2 b := fun b T => cd_tx C SX T
  have U : jU4 h h2 := ⟨by rw [c1]; exact Nat.le_refl _, fun b hb => ⟨c2 b, fun k => c8 b (by omega) k, fun k => c6 b k (by omega), fun k => c3 b k (by omega)⟩⟩
  refine ⟨⟨⟨fun b s e => (c2 b).trans (J.1.1 b s e), fun p c e => (c3 _ _ (by have := (jtR_ne e).2; omega)).trans (J.1.2 p c e)⟩, fun s hs k hk => ?_, jB_mv J.2.2.1 (by rw [c1]; exact Nat.le_refl _) (fun t b ht e => ?_) (fun k _ => c8 126 (by omega) k) (fun k => c8 127 (by omega) k) (fun k => c8 132 (by omega) k) (fun k => c8 133 (by omega) k), fun k b hk e => ?_, fun k hk => ?_⟩, U⟩
  · rw [c8 _ (by have := jSgX_174 s hs; omega) k]
    exact J.2.1 s hs k hk
  · rw [c3 _ _ (by omega)] at e
    exact tx b (J.2.2.1.2.1 t b ht e)
  · rw [c3 _ _ (by omega)] at e
    have I2 := J.2.2.2.1 k b hk e
    by_cases z : b = a
    · subst z
      refine ⟨by rw [c1]; exact I2.1, cd_is C I2.2.1 (Or.inl rfl), cd_rgs C I2.2.2.1 (told_rgs J), fun t d ht e2 => ?_⟩
      rw [c4 t ht] at e2
      exact tx d (J.2.2.1.2.1 t d ht e2)
    · exact cd_ig C SX I2 ((is_dis SX I2.2.1 z).symm)
  · rw [show jiv h2 127 = jiv h 127 from funext fun i => c8 127 (by omega) i]
    exact J.2.2.2.2 k hk
/-- a new chest is an image -/
theorem ch_ig {h h1 : jH} (C : jCh (jnx h) h h1) (h174 : 174 ≤ jnx h) : jIg h1 (jnx h) := by
  obtain ⟨c1, c2, c3, c4, c5, c6, c7, c8, c9, c10, c11⟩ := C
  refine ⟨⟨h174, by omega⟩, ⟨fun f hf => ?_, c3, c5, c6, c7, c8⟩, fun s hs s1 s2 k hk => ?_, fun t b ht q => by rw [c9 t] at q; cases q⟩
  · obtain ⟨d1, d2, d3, d4, _⟩ := c4 f hf
    exact ⟨d1, d2, d3, d4⟩
  · have ck := List.all_eq_true.mp jck8_all s hs
    have t0 : (0 : Int32).toInt = 0 := by decide
    have j1 := hk.1
    have j2 := hk.2.1
    unfold jck8 at ck
    rw [if_pos ⟨s1, s2⟩] at ck
    by_cases z : s.1 = 32
    · rw [if_pos z] at ck
      simp only [Bool.and_eq_true, decide_eq_true_eq] at ck
      rw [show jnx h + (s.1 - 32) = jnx h from by omega, show k = 18 from by omega, c10, t0]
      omega
    · rw [if_neg z] at ck
      by_cases o : s.1 % 2 = 1
      · rw [if_pos o] at ck
        obtain ⟨d1, d2, d3, d4, d5, d6, d7, d8⟩ := c4 ((s.1 - 33) / 2) (by omega)
        rw [show jnx h + (s.1 - 32) = jnx h + 1 + 2 * ((s.1 - 33) / 2) from by omega]
        simp only [Bool.and_eq_true, Bool.or_eq_true, decide_eq_true_eq] at ck
        obtain ⟨e1, e2 | e2 | e2⟩ := ck
        · rw [show k = 0 from by omega, d5, jwI_t _ (by omega)]
          omega
        · rw [show k = 1 from by omega, d6, jmI_t _ (by omega)]
          omega
        · rw [show k = 3 from by omega, d7, t0]
          omega
      · rw [if_neg o] at ck
        obtain ⟨d1, d2, d3, d4, d5, d6, d7, d8⟩ := c4 ((s.1 - 34) / 2) (by omega)
        rw [show jnx h + (s.1 - 32) = jnx h + 2 + 2 * ((s.1 - 34) / 2) from by omega, d8 k, t0]
        simp only [Bool.and_eq_true, decide_eq_true_eq] at ck
        omega
/-- a new image put into its place -/
theorem ch_j {h h1 : jH} {k : Nat} (J : jJ jSgX jDy h) (C : jCh (jnx h) h h1) (hk : k < 4) : jJ jSgX jDy (jsr h1 67 k (some (jnx h))) ∧ (∀ b, b < 174 → jsh h1 b = jsh h b ∧ (∀ k, jiv h1 b k = jiv h b k) ∧ (∀ k, jlv h1 b k = jlv h b k) ∧ ∀ k, jrv h1 b k = jrv h b k) := by
  have x := J.2.2.1.1
  have I := ch_ig C x
  have S : jSm [] h h1 := ol_sm C.2.1 rfl x (by have := C.1; omega)
  have D1 : jDy h1 := dy_k.2.2.2.2.2.1 h h1 S J.2.2
  have o : ∀ b, b < 174 → jsh h1 b = jsh h b ∧ (∀ k, jiv h1 b k = jiv h b k) ∧ (∀ k, jlv h1 b k = jlv h b k) ∧ ∀ k, jrv h1 b k = jrv h b k := fun b hb => C.2.1 b (by omega)
  have rv : ∀ b j, 174 ≤ b → b < jnx h1 → jrv (jsr h1 67 k (some (jnx h))) b j = jrv h1 b j := fun b j hb _ => rv_sn (by omega)
  refine ⟨⟨⟨fun b s e => ?_, fun p c e => ?_⟩, fun s hs j hj => ?_, ?_, fun m b hm q => ?_, D1.2.2⟩, o⟩
  · have b4 : b < 174 := by
      have := List.all_eq_true.mp jtO_174 _ (lk_mem2 e)
      exact Nat.blt_eq.mp this
    exact (o b b4).1.trans (J.1.1 b s e)
  · have n := jtR_67 e
    exact (rv_sn n).trans (((o _ (jtR_ne e).2).2.2.2 _).trans (J.1.2 p c e))
  · have := J.2.1 s hs j hj
    rw [← (o s.1 (jSgX_174 s hs)).2.1 j] at this
    exact this
  · exact jB_mv D1.1 (Nat.le_refl _) (fun t b ht q => jTx_mv (D1.1.2.1 t b ht (by rw [rv_sn (show (66 : Nat) ≠ 67 by decide)] at q; exact q)) (Nat.le_refl _) (fun _ _ _ => rfl) (fun _ _ _ _ => rfl) rv) (fun _ _ => rfl) (fun _ => rfl) (fun _ => rfl) (fun _ => rfl)
  · have mv : ∀ c, jIg h1 c → jIg (jsr h1 67 k (some (jnx h))) c := fun c ic => ig_mv ic (Nat.le_refl _) (fun _ _ _ => rfl) (fun _ _ _ _ => rfl) rv (fun b T => jTx_mv T (Nat.le_refl _) (fun _ _ _ => rfl) (fun _ _ _ _ => rfl) rv)
    by_cases z : m = k
    · rw [z, rv_eq] at q
      cases q
      exact mv _ I
    · rw [rv_sk z] at q
      exact mv b (D1.2.1 m b hm q)
set_option maxRecDepth 100000 in
set_option maxHeartbeats 4000000 in
theorem bkx_15 {h0 h : jH} {Q : Option Value → jH → Prop} {FP : jFp} {d : Nat} {l1 : Int32} (hd : 3 ≤ d) (J : jJ jSgX jDy h) (Sm : jSm FP h0 h) (hf : jfs fp_told FP = true) (y1 : 0 ≤ l1.toInt ∧ l1.toInt ≤ 3) (k26 : jrv h 67 l1.toNatClampNeg = none → jX m_X11_back d 0 0 26 [(0, .ref 31), (1, .int l1)] [] h 0 0 Q) (k41 : ∀ a h2, jrv h 67 l1.toNatClampNeg = some a → jCd 32 a h h2 → jJ jSgX jDy h2 → jSm FP h0 h2 → jSm fp_told h h2 → jX m_X11_back d 0 0 41 [(0, .ref 31), (1, .int l1)] [] h2 0 0 Q) : jX m_X11_back d 0 0 15 [(0, .ref 31), (1, .int l1)] [] h 0 0 Q := by
  have e1 := jcl_of y1.1
  refine x_aloadn (x := 31) rfl rfl ?_
  refine z_getR (N := 13) (b := 67) 11 1 rfl f_11_16 rfl J rfl 3969 ⟨rfl, rfl⟩ rfl ?_
  refine x_iloadn (x := l1) rfl rfl ?_
  refine x_aald (N := 4) rfl (J.1.1 67 (104, 4) rfl) (by decide) (vpi (by omega)) ⟨fun q => ?_, fun a q => ?_⟩
  · refine x_astorenN (lsx9 := [(2, .null), (0, .ref 31), (1, .int l1)]) rfl rfl rfl ?_
    refine x_aloadnN rfl rfl ?_
    refine x_ifnonnullN rfl ?_
    exact jX.sub (jsb_c rfl (jsb_c rfl jsb_n)) (k26 q)
  · have I := J.2.2.2.1 _ a (by omega) q
    refine x_astoren (lsx9 := [(2, .ref a), (0, .ref 31), (1, .int l1)]) rfl rfl rfl ?_
    refine x_aloadn (x := a) rfl rfl ?_
    refine x_ifnonnull (tgt := 33) rfl rfl ?_
    refine x_aloadn (x := 31) rfl rfl ?_
    refine z_getR (N := 13) (b := 32) 11 0 rfl f_11_10 rfl J rfl 3968 ⟨rfl, rfl⟩ rfl ?_
    refine x_aloadn (x := a) rfl rfl ?_
    have a4 := I.1.1
    refine x_inv (N := m_X1_copyFrom) (As := [.ref a]) (b := 32) (st := []) (dx9 := 2) (mc := 0) (ms := 0) (host := "") 1 rfl t_X1_copyFrom ⟨Or.inl q_11_524, i_X1_copyFrom.1, i_X1_copyFrom.2⟩ ⟨by decide, rfl⟩ (congrArg Prod.fst (J.1.1 32 (1, 20) rfl)) rfl (by omega) rfl rfl ⟨by decide, by decide⟩ (ch_copy (by decide) (told_bk J) (img_bk I) (by decide) (by omega) (Or.inl (by omega)) (fun h2 C => ?_))
    have S2 := cd_sm C (img_bk I)
    exact jX.sub (jsb_c rfl (jsb_c rfl jsb_n)) (k41 a h2 q C (cd_jt J (by omega) q C) (jSm_tr hf Sm S2) S2)
/-- what image leaves: cells 31 and 32 and the images alone are others -/
def jIq (x : Int32) (h h2 : jH) : Prop := jnx h ≤ jnx h2 ∧ (∀ b, b < 174 → jsh h2 b = jsh h b) ∧ (∀ b, b < 174 → b ≠ 31 → b ≠ 32 → ∀ k, jiv h2 b k = jiv h b k) ∧ (∀ b, b < 174 → ∀ k, jlv h2 b k = jlv h b k) ∧ (∀ b, b < 174 → ∀ k, b ≠ 67 ∨ k ≠ x.toNatClampNeg → jrv h2 b k = jrv h b k) ∧ ∃ a, jrv h2 67 x.toNatClampNeg = some a
/-- status and version alone: no long, no reference -/
def jSx2 (h h2 : jH) : Prop := jSm [(31, 12, 13), (32, 19, 20)] h h2 ∧ ∀ b k, jlv h2 b k = jlv h b k ∧ jrv h2 b k = jrv h b k
set_option maxRecDepth 100000 in
set_option maxHeartbeats 4000000 in
theorem imx_acc {h : jH} {Q : Option Value → jH → Prop} {d a K S k n : Nat} {l1 : Int32} (hk : k ≤ K) (hs : n ≤ S) (hd : 3 ≤ d) (J : jJ jSgX jDy h) (hQ : ∀ h2, jJ jSgX jDy h2 → jSx2 h h2 → Q (some (.int 0)) h2) : jX m_X11_image d K S 49 [(0, .ref 31), (1, .int l1), (2, .ref a)] [] h k n Q := by
  refine x_aloadn (x := 31) rfl rfl ?_
  refine x_iconst (v := 0) rfl ki_0 ?_
  refine x_inv (N := m_X11_accept) (As := [.int 0]) (b := 31) (st := []) (dx9 := 1) (mc := 0) (ms := 0) (host := "") 11 rfl t_X11_accept ⟨Or.inl q_11_165, i_X11_accept.1, i_X11_accept.2⟩ ⟨by decide, rfl⟩ (congrArg Prod.fst (J.1.1 31 (11, 13) rfl)) rfl (by omega) rfl rfl ⟨hk, hs⟩ (jC.of rfl k_X11_accept rfl ?_)
  show jX m_X11_accept 1 0 0 0 [(0, .ref 31), (1, .int 0)] [] _ 0 0 _
  have Sm := jSm_rf [(31, 12, 13), (32, 19, 20)] h
  refine x_aloadn (x := 31) rfl rfl ?_
  refine x_iconst (v := 0) rfl ki_0 ?_
  refine z_putI (N := 13) (w := 0) 11 12 rfl f_11_94 rfl (jfin_no TX11 RX11 13 rfl rfl) dy_k J Sm rfl rfl jk_0 (pw_31_12 (by omega)) rfl (fun h3 w13 J Sm => ?_)
  refine x_aloadn (x := 31) rfl rfl ?_
  refine z_getR (N := 13) (b := 32) 11 0 rfl f_11_10 rfl J rfl 3968 ⟨rfl, rfl⟩ rfl ?_
  refine x_dup rfl rfl ?_
  refine z_getI0 (N := 20) 1 19 rfl f_11_528 rfl J rfl (fun v14 qv14 => ?_)
  refine x_iconst (v := 1) rfl ki_1 ?_
  refine z_iadd0 rfl (fun v15 => ?_)
  refine z_putI (N := 20) (w := v15.toInt) 1 19 rfl f_11_528 rfl (jfin_no TX1 RX1 20 rfl rfl) dy_k J Sm rfl rfl rfl (pw_32_19 trivial) rfl (fun h4 w16 J Sm => ?_)
  refine x_iloadn (x := 0) rfl rfl ?_
  refine x_iret rfl rfl ?_
  refine x_iret rfl rfl ?_
  exact hQ _ J ⟨Sm, fun b j => by rw [w16, w13]; exact ⟨rfl, rfl⟩⟩
set_option maxRecDepth 100000 in
set_option maxHeartbeats 4000000 in
theorem imx_41 {h0 h : jH} {Q : Option Value → jH → Prop} {d a K S k n : Nat} {l1 : Int32} (hk : k ≤ K) (hs : n ≤ S) (hd : 3 ≤ d) (J : jJ jSgX jDy h) (y1 : 0 ≤ l1.toInt ∧ l1.toInt ≤ 3) (q : jrv h 67 l1.toNatClampNeg = some a) (hQ : ∀ h2, jJ jSgX jDy h2 → jIq l1 h h2 → Q (some (.int 0)) h2) : jX m_X11_image d K S 41 [(0, .ref 31), (1, .int l1), (2, .ref a)] [] h k n Q := by
  have e1 := jcl_of y1.1
  have I := J.2.2.2.1 _ a (by omega) q
  have a4 := I.1.1
  refine x_aloadn (x := a) rfl rfl ?_
  refine x_aloadn (x := 31) rfl rfl ?_
  refine z_getR (N := 13) (b := 32) 11 0 rfl f_11_10 rfl J rfl 3968 ⟨rfl, rfl⟩ rfl ?_
  refine x_inv (N := m_X1_copyFrom) (As := [.ref 32]) (b := a) (st := []) (dx9 := 2) (mc := 0) (ms := 0) (host := "") 1 rfl t_X1_copyFrom ⟨Or.inl q_11_524, i_X1_copyFrom.1, i_X1_copyFrom.2⟩ ⟨by decide, rfl⟩ (congrArg Prod.fst I.2.1.2.1) rfl (by omega) rfl rfl ⟨hk, hs⟩ (ch_copy (by decide) (img_bk I) (told_bk J) (by omega) (by decide) (Or.inr (by omega)) (fun h2 C => ?_))
  obtain ⟨J2, U⟩ := cd_ji J (by omega) q C
  clear C
  have J := J2
  have key : ∀ h4, jSx2 h2 h4 → jIq l1 h h4 := fun h4 S0 => by
    have S := S0.1
    have f : ∀ b k, b < 174 → b ≠ 31 → b ≠ 32 → jiv h4 b k = jiv h2 b k ∧ jlv h4 b k = jlv h2 b k ∧ jrv h4 b k = jrv h2 b k := fun b k hb n1 n2 => S.2.2 b k (Or.inl (Nat.blt_eq.mpr hb)) (by show (Nat.beq 31 b && Nat.ble 12 k && Nat.blt k 13 || (Nat.beq 32 b && Nat.ble 19 k && Nat.blt k 20 || false)) = false; rw [jbne (a := 31) (b := b) (fun z => n1 z.symm), jbne (a := 32) (b := b) (fun z => n2 z.symm)]; rfl)
    have r : ∀ b k, b < 174 → jlv h4 b k = jlv h2 b k ∧ jrv h4 b k = jrv h2 b k := fun b k _ => S0.2 b k
    exact ⟨Nat.le_trans U.1 S.1, fun b hb => (S.2.1 b (Or.inl (Nat.blt_eq.mpr hb))).trans (U.2 b hb).1, fun b hb n1 n2 k => (f b k hb n1 n2).1.trans ((U.2 b hb).2.1 k), fun b hb k => (r b k hb).1.trans ((U.2 b hb).2.2.1 k), fun b hb k _ => (r b k hb).2.trans ((U.2 b hb).2.2.2 k), a, ((r 67 _ (by decide)).2.trans ((U.2 67 (by decide)).2.2.2 _)).trans q⟩
  exact imx_acc hk hs hd J (fun h4 J4 S4 => hQ h4 J4 (key h4 S4))
set_option maxRecDepth 100000 in
set_option maxHeartbeats 4000000 in
theorem sf_X11_image_bad {h : jH} {Q : Option Value → jH → Prop} {a1 : Int32} (J : jJ jSgX jDy h) (y : a1.toInt < 0 ∨ 3 < a1.toInt) (hQ : ∀ h2, jJ jSgX jDy h2 → jSm [(31, 12, 13)] h h2 → (∀ b k, jlv h2 b k = jlv h b k ∧ jrv h2 b k = jrv h b k) → Q (some (.int (-1))) h2) : jC m_X11_image 4 0 0 [.ref 31, .int a1] h Q := by
  refine jC.of rfl k_X11_image rfl ?_
  have ea1 := jfull a1
  show jX m_X11_image 4 0 0 0 [(0, .ref 31), (1, .int a1)] [] _ 0 0 _
  refine x_iloadn (x := a1) rfl rfl ?_
  refine x_iconst (v := 0) rfl ki_0 ?_
  refine x_iconst (v := 3) rfl ki_3 ?_
  refine x_inst (N := m_X11_isWithin) (As := [.int a1, .int 0, .int 3]) (st := []) (dx9 := 1) (mc := 0) (ms := 0) (host := "") rfl t_X11_isWithin ⟨Or.inl q_11_202, s_X11_isWithin⟩ rfl (by decide) rfl rfl ⟨by decide, by decide⟩ (zc_X11_isWithin rfl jk_0 jk_3 (fun v3 ev3 => ?_))
  show jX m_X11_image 4 0 0 6 [(0, .ref 31), (1, .int a1)] [.int v3] _ 0 0 _
  refine x_ifne (tgt := 15) rfl rfl (ti_ne rfl jk_0 (bn_f (by omega) ?_))
  have Sm := jSm_rf [(31, 12, 13)] h
  refine x_aloadn (x := 31) rfl rfl ?_
  refine x_iconst (v := (-1)) rfl ki_m1 ?_
  refine x_inv (N := m_X11_refuse) (As := [.int (-1)]) (b := 31) (st := []) (dx9 := 1) (mc := 0) (ms := 0) (host := "") 11 rfl t_X11_refuse ⟨Or.inl q_11_206, i_X11_refuse.1, i_X11_refuse.2⟩ ⟨by decide, rfl⟩ (congrArg Prod.fst (J.1.1 31 (11, 13) rfl)) rfl (by decide) rfl rfl ⟨by decide, by decide⟩ (jC.of rfl k_X11_refuse rfl ?_)
  show jX m_X11_refuse 1 0 0 0 [(0, .ref 31), (1, .int (-1))] [] _ 0 0 _
  refine x_aloadn (x := 31) rfl rfl ?_
  refine x_iloadn (x := (-1)) rfl rfl ?_
  refine z_putI (N := 13) (w := (-1)) 11 12 rfl f_11_94 rfl (jfin_no TX11 RX11 13 rfl rfl) dy_k J Sm rfl rfl jk_m1 (pw_31_12 (by omega)) rfl (fun h2 w1 J Sm => ?_)
  refine x_iloadn (x := (-1)) rfl rfl ?_
  refine x_iret rfl rfl ?_
  refine x_iret rfl rfl ?_
  exact hQ _ J Sm (fun b k => by rw [w1]; exact ⟨rfl, rfl⟩)
set_option maxRecDepth 100000 in
set_option maxHeartbeats 4000000 in
theorem sf_X11_image_old {h : jH} {Q : Option Value → jH → Prop} {a1 : Int32} {a : Nat} (J : jJ jSgX jDy h) (y : 0 ≤ a1.toInt ∧ a1.toInt ≤ 3) (q : jrv h 67 a1.toNatClampNeg = some a) (hQ : ∀ h2, jJ jSgX jDy h2 → jIq a1 h h2 → Q (some (.int 0)) h2) : jC m_X11_image 4 0 0 [.ref 31, .int a1] h Q := by
  refine jC.of rfl k_X11_image rfl ?_
  have ea1 := jfull a1
  show jX m_X11_image 4 0 0 0 [(0, .ref 31), (1, .int a1)] [] _ 0 0 _
  refine x_iloadn (x := a1) rfl rfl ?_
  refine x_iconst (v := 0) rfl ki_0 ?_
  refine x_iconst (v := 3) rfl ki_3 ?_
  refine x_inst (N := m_X11_isWithin) (As := [.int a1, .int 0, .int 3]) (st := []) (dx9 := 1) (mc := 0) (ms := 0) (host := "") rfl t_X11_isWithin ⟨Or.inl q_11_202, s_X11_isWithin⟩ rfl (by decide) rfl rfl ⟨by decide, by decide⟩ (zc_X11_isWithin rfl jk_0 jk_3 (fun v3 ev3 => ?_))
  show jX m_X11_image 4 0 0 6 [(0, .ref 31), (1, .int a1)] [.int v3] _ 0 0 _
  refine x_ifne (tgt := 15) rfl rfl (ti_ne rfl jk_0 (bn_t (by omega) ?_))
  refine x_aloadn (x := 31) rfl rfl ?_
  refine z_getR (N := 13) (b := 67) 11 1 rfl f_11_16 rfl J rfl 3969 ⟨rfl, rfl⟩ rfl ?_
  refine x_iloadn (x := a1) rfl rfl ?_
  refine y_aaldR (N := 4) 104 a1.toNatClampNeg rfl (J.1.1 67 (104, 4) rfl) (by decide) (vpi (by omega)) rfl q ?_
  refine x_astoren (lsx9 := [(2, .ref a), (0, .ref 31), (1, .int a1)]) rfl rfl rfl ?_
  refine x_aloadn (x := a) rfl rfl ?_
  refine x_ifnonnull (tgt := 41) rfl rfl ?_
  exact jX.sub (jsb_c rfl (jsb_c rfl (jsb_c rfl jsb_n))) (imx_41 (h0 := h) (by decide) (by decide) (by decide) J y q hQ)
set_option maxRecDepth 100000 in
set_option maxHeartbeats 4000000 in
theorem sf_X11_image_new {h : jH} {Q : Option Value → jH → Prop} {a1 : Int32} (J : jJ jSgX jDy h) (y : 0 ≤ a1.toInt ∧ a1.toInt ≤ 3) (q : jrv h 67 a1.toNatClampNeg = none) (hQ : ∀ h2, jJ jSgX jDy h2 → jIq a1 h h2 → Q (some (.int 0)) h2) : jC m_X11_image 4 35 24594 [.ref 31, .int a1] h Q := by
  refine jC.of rfl k_X11_image rfl ?_
  have ea1 := jfull a1
  show jX m_X11_image 4 35 24594 0 [(0, .ref 31), (1, .int a1)] [] _ 0 0 _
  refine x_iloadn (x := a1) rfl rfl ?_
  refine x_iconst (v := 0) rfl ki_0 ?_
  refine x_iconst (v := 3) rfl ki_3 ?_
  refine x_inst (N := m_X11_isWithin) (As := [.int a1, .int 0, .int 3]) (st := []) (dx9 := 1) (mc := 0) (ms := 0) (host := "") rfl t_X11_isWithin ⟨Or.inl q_11_202, s_X11_isWithin⟩ rfl (by decide) rfl rfl ⟨by decide, by decide⟩ (zc_X11_isWithin rfl jk_0 jk_3 (fun v3 ev3 => ?_))
  show jX m_X11_image 4 35 24594 6 [(0, .ref 31), (1, .int a1)] [.int v3] _ 0 0 _
  refine x_ifne (tgt := 15) rfl rfl (ti_ne rfl jk_0 (bn_t (by omega) ?_))
  refine x_aloadn (x := 31) rfl rfl ?_
  refine z_getR (N := 13) (b := 67) 11 1 rfl f_11_16 rfl J rfl 3969 ⟨rfl, rfl⟩ rfl ?_
  refine x_iloadn (x := a1) rfl rfl ?_
  refine y_aaldN (N := 4) 104 a1.toNatClampNeg rfl (J.1.1 67 (104, 4) rfl) (by decide) (vpi (by omega)) rfl q ?_
  refine x_astorenN (lsx9 := [(2, .null), (0, .ref 31), (1, .int a1)]) rfl rfl rfl ?_
  refine x_aloadnN rfl rfl ?_
  refine x_ifnonnullN rfl ?_
  have x := J.2.2.1.1
  have e1 := jcl_of y.1
  refine x_new 1 20 rfl v_11_7 ⟨by decide, by decide⟩ ?_
  refine x_dup rfl rfl ?_
  refine x_ins (N := m_X1_init) (As := []) (b := jnx h) (st := [.ref (jnx h)]) (dx9 := 2) (mc := 34) (ms := 24574) (host := "ParishChest") rfl t_X1_init ⟨Or.inr q_11_9, i_X1_init, rfl, rfl⟩ rfl (by decide) rfl rfl ⟨by decide, by decide⟩ (ch_init (by decide) (Nat.ble_eq.mpr (by omega)) jBd_0 (fun h1 C => ?_))
  show jX m_X11_image 4 35 24594 33 [(2, .null), (0, .ref 31), (1, .int a1)] [.ref (jnx h)] h1 35 24594 Q
  refine x_astoren (lsx9 := [(2, .ref (jnx h)), (0, .ref 31), (1, .int a1)]) rfl rfl rfl ?_
  obtain ⟨J2, o⟩ := ch_j J C (k := a1.toNatClampNeg) (by omega)
  refine x_aloadn (x := 31) rfl rfl ?_
  refine x_getR (b := 67) 11 1 rfl f_11_16 rfl (congrArg Prod.fst ((o 31 (by decide)).1.trans (J.1.1 31 (11, 13) rfl))) (((o 31 (by decide)).2.2.2 1).trans (J.1.2 3969 67 rfl)) ?_
  refine x_iloadn (x := a1) rfl rfl ?_
  refine x_aloadn (x := jnx h) rfl rfl ?_
  refine x_aast (N := 4) rfl ((o 67 (by decide)).1.trans (J.1.1 67 (104, 4) rfl)) (by decide) rfl (congrArg Prod.fst C.2.2.1) (vpi (by omega)) ?_
  refine jX.sub (jsb_c rfl (jsb_c rfl (jsb_c rfl jsb_n))) (imx_41 (h0 := h) (by decide) (by decide) (by decide) J2 y rv_eq (fun h2 J3 I => hQ h2 J3 ?_))
  obtain ⟨i1, i2, i3, i4, i5, i6⟩ := I
  have nx : jnx h1 = jnx h + 35 := C.1
  refine ⟨Nat.le_trans (by show jnx h ≤ jnx h1; omega) i1, fun b hb => (i2 b hb).trans (o b hb).1, fun b hb n1 n2 k => (i3 b hb n1 n2 k).trans ((o b hb).2.1 k), fun b hb k => (i4 b hb k).trans ((o b hb).2.2.1 k), fun b hb k n => ?_, i6⟩
  refine (i5 b hb k n).trans (Eq.trans ?_ ((o b hb).2.2.2 k))
  rcases n with n | n
  · exact rv_sn n
  · exact rv_sk n
