/-! the class's IMAGES: chests of their own, behind cell 174 -/
theorem jX.ab {M : jM} {d K S pc : Nat} {ls : jL} {st : List Value} {hx : jH} {k n : Nat} {Q : Option Value → jH → Prop} (P : jH → Prop) (p : P hx) (kk : ∀ h, P h → jX M d K S pc ls st h k n Q) : jX M d K S pc ls st hx k n Q := kk hx p
def jw8 (f : Nat) : Int32 := ([6, 14, 2, 3, 4, 6, 3, 4, 5, 4, 4, 5, 4, 4, 4, 2] : List Int32).getD f 0
def jm8 (f : Nat) : Int32 := ([200, 1200, 60, 200, 20, 100, 40, 100, 40, 100, 40, 100, 100, 40, 100, 370] : List Int32).getD f 0
def jn8 (f : Nat) : Nat := ([1200, 16800, 120, 600, 80, 600, 120, 400, 200, 400, 160, 500, 400, 160, 400, 740] : List Nat).getD f 0
theorem j16 {P : Nat → Prop} (h : P 0 ∧ P 1 ∧ P 2 ∧ P 3 ∧ P 4 ∧ P 5 ∧ P 6 ∧ P 7 ∧ P 8 ∧ P 9 ∧ P 10 ∧ P 11 ∧ P 12 ∧ P 13 ∧ P 14 ∧ P 15) : ∀ f, f < 16 → P f := by
  obtain ⟨p0, p1, p2, p3, p4, p5, p6, p7, p8, p9, p10, p11, p12, p13, p14, p15⟩ := h
  intro f hf
  match f, hf with
  | 0, _ => exact p0
  | 1, _ => exact p1
  | 2, _ => exact p2
  | 3, _ => exact p3
  | 4, _ => exact p4
  | 5, _ => exact p5
  | 6, _ => exact p6
  | 7, _ => exact p7
  | 8, _ => exact p8
  | 9, _ => exact p9
  | 10, _ => exact p10
  | 11, _ => exact p11
  | 12, _ => exact p12
  | 13, _ => exact p13
  | 14, _ => exact p14
  | 15, _ => exact p15
  | f + 16, hf => exact absurd hf (by omega)
theorem jwm8 : ∀ f, f < 16 → (1 ≤ (jw8 f).toInt ∧ (jw8 f).toInt ≤ 20) ∧ (0 ≤ (jm8 f).toInt ∧ (jm8 f).toInt ≤ 2000) ∧ (jw8 f).toInt * (jm8 f).toInt = (jn8 f : Int) ∧ jn8 f ≤ 20000 := j16 ⟨⟨by decide, by decide, by decide, by decide⟩, ⟨by decide, by decide, by decide, by decide⟩, ⟨by decide, by decide, by decide, by decide⟩, ⟨by decide, by decide, by decide, by decide⟩, ⟨by decide, by decide, by decide, by decide⟩, ⟨by decide, by decide, by decide, by decide⟩, ⟨by decide, by decide, by decide, by decide⟩, ⟨by decide, by decide, by decide, by decide⟩, ⟨by decide, by decide, by decide, by decide⟩, ⟨by decide, by decide, by decide, by decide⟩, ⟨by decide, by decide, by decide, by decide⟩, ⟨by decide, by decide, by decide, by decide⟩, ⟨by decide, by decide, by decide, by decide⟩, ⟨by decide, by decide, by decide, by decide⟩, ⟨by decide, by decide, by decide, by decide⟩, ⟨by decide, by decide, by decide, by decide⟩⟩
theorem iv_sk {h : jH} {a b k j : Nat} {v w : Int32} (e : Nat.beq k j = false) (H : jiv h a k = w) : jiv (jsi h b j v) a k = w := iv_si (by rw [e, Bool.and_false]) H
theorem jclN {v : Int32} {N : Nat} (e : v.toInt = (N : Int)) : v.toNatClampNeg = N := by
  have := jcl_of (d := v) (by omega)
  omega
/-- a Table's init -/
def jt8 (h : jH) (t : Nat) (w m : Int32) (N : Nat) : jH := jsr (jnw (jsi (jsi (jsi h t 3 0) t 0 w) t 1 m) 100 N) t 2 (some (jnx h))
theorem tb_init {d N t : Nat} {h : jH} {w m : Int32} {Q : Option Value → jH → Prop} (hd : 1 ≤ d) (hs : jsh h t = (8, 4)) (ht : Nat.ble 31 t = true) (ht2 : t < jnx h) (hw : 1 ≤ w.toInt ∧ w.toInt ≤ 20) (hm : 0 ≤ m.toInt ∧ m.toInt ≤ 2000) (hN : w.toInt * m.toInt = (N : Int)) (hN2 : N ≤ 20000) (hQ : Q none (jt8 h t w m N)) : jC m_X8_init d 1 N [.ref t, .int w, .int m] h Q := by
  refine jC.of rfl k_X8_init rfl ?_
  show jX m_X8_init d 1 N 0 [(0, .ref t), (1, .int w), (2, .int m)] [] _ 0 0 _
  refine x_aloadn (x := t) rfl rfl ?_
  refine x_obj rfl ⟨q_8_1, jobj_w⟩ hd rfl ?_
  refine x_aloadn (x := t) rfl rfl ?_
  refine x_iconst (v := 0) rfl ki_0 ?_
  refine x_putI 8 3 rfl f_8_7 rfl (jfin_no TX8 RX8 4 rfl rfl) (congrArg Prod.fst hs) ht ?_
  refine x_aloadn (x := t) rfl rfl ?_
  refine x_iconst (v := 1) rfl ki_1 ?_
  refine x_iloadn (x := w) rfl rfl ?_
  refine z_mmax rfl q_8_13 hd rfl jk_1 rfl (fun v1 e1 => ?_)
  obtain rfl : v1 = w := Int32.toInt_inj.mp (by omega)
  refine x_putI 8 0 rfl f_8_19 rfl (jfin_in TX8 RX8 4 rfl rfl rfl rfl) (congrArg Prod.fst hs) ht ?_
  refine x_aloadn (x := t) rfl rfl ?_
  refine x_iconst (v := 0) rfl ki_0 ?_
  refine x_iloadn (x := m) rfl rfl ?_
  refine z_mmax rfl q_8_13 hd rfl jk_0 rfl (fun v2 e2 => ?_)
  obtain rfl : v2 = m := Int32.toInt_inj.mp (by omega)
  refine x_putI 8 1 rfl f_8_22 rfl (jfin_in TX8 RX8 4 rfl rfl rfl rfl) (congrArg Prod.fst hs) ht ?_
  refine x_aloadn (x := t) rfl rfl ?_
  refine x_aloadn (x := t) rfl rfl ?_
  refine y_getI (v := v1) 8 0 rfl f_8_19 rfl (congrArg Prod.fst hs) (iv_sk rfl iv_eq) ?_
  refine x_aloadn (x := t) rfl rfl ?_
  refine y_getI (v := v2) 8 1 rfl f_8_22 rfl (congrArg Prod.fst hs) iv_eq ?_
  refine z_imul rfl rfl rfl (by rw [hN]; omega) (fun v3 e3 => ?_)
  rw [hN] at e3
  refine y_newa (x := v3) 100 N rfl ⟨rfl, by decide, by decide⟩ jac_int (jnneg (by omega)) (jclN e3) (by omega) ⟨by decide, by omega⟩ ?_
  refine x_putR 8 2 rfl f_8_25 rfl (jfin_in TX8 RX8 4 rfl rfl rfl rfl) ?_ ht ?_
  · show ((if t = jnx h then (100, N) else jsh h t) : Nat × Nat).1 = 8
    rw [if_neg (by omega), hs]
  · exact x_vret rfl rfl hQ
/-- old cells are as they were -/
def jOd (a : Nat) (h0 h : jH) : Prop := ∀ b, b < a → jsh h b = jsh h0 b ∧ (∀ k, jiv h b k = jiv h0 b k) ∧ (∀ k, jlv h b k = jlv h0 b k) ∧ ∀ k, jrv h b k = jrv h0 b k
theorem sh_nwe {h : jH} {t n : Nat} : jsh (jnw h t n) (jnx h) = (t, n) := by
  show (if jnx h = jnx h then (t, n) else jsh h (jnx h)) = (t, n)
  rw [if_pos rfl]
theorem sh_nwn {h : jH} {t n b : Nat} (e : b ≠ jnx h) : jsh (jnw h t n) b = jsh h b := by
  show (if b = jnx h then (t, n) else jsh h b) = jsh h b
  rw [if_neg e]
theorem iv_nwe {h : jH} {t n k : Nat} : jiv (jnw h t n) (jnx h) k = 0 := by
  show ju1 h.2.1 (jnx h) (fun _ => 0) (jnx h) k = 0
  unfold ju1
  rw [if_pos rfl]
theorem iv_nwn {h : jH} {t n b k : Nat} (e : b ≠ jnx h) : jiv (jnw h t n) b k = jiv h b k := by
  show ju1 h.2.1 (jnx h) (fun _ => 0) b k = jiv h b k
  unfold ju1
  rw [if_neg e]
  rfl
theorem lv_nwn {h : jH} {t n b k : Nat} (e : b ≠ jnx h) : jlv (jnw h t n) b k = jlv h b k := by
  show ju1 h.2.2.1 (jnx h) (fun _ => 0) b k = jlv h b k
  unfold ju1
  rw [if_neg e]
  rfl
theorem rv_nwn {h : jH} {t n b k : Nat} (e : b ≠ jnx h) : jrv (jnw h t n) b k = jrv h b k := by
  show ju1 h.2.2.2.1 (jnx h) (fun _ => none) b k = jrv h b k
  unfold ju1
  rw [if_neg e]
  rfl
theorem rv_nwe {h : jH} {t n k : Nat} : jrv (jnw h t n) (jnx h) k = none := by
  show ju1 h.2.2.2.1 (jnx h) (fun _ => none) (jnx h) k = none
  unfold ju1
  rw [if_pos rfl]
theorem iv_sn {h : jH} {a b k j : Nat} {v : Int32} (e : a ≠ b) : jiv (jsi h b j v) a k = jiv h a k := iv_si (by rw [jbne e]; rfl) rfl
theorem rv_sn {h : jH} {a b k j : Nat} {v : Option Nat} (e : a ≠ b) : jrv (jsr h b j v) a k = jrv h a k := rv_sr (by rw [jbne e]; rfl) rfl
theorem rv_sk {h : jH} {a b k j : Nat} {v : Option Nat} (e : k ≠ j) : jrv (jsr h b j v) a k = jrv h a k := rv_sr (by rw [jbne e, Bool.and_false]) rfl
theorem ol_0 {a : Nat} {h : jH} : jOd a h h := fun _ _ => ⟨rfl, fun _ => rfl, fun _ => rfl, fun _ => rfl⟩
theorem ol_nw {a t n : Nat} {h0 h : jH} (H : jOd a h0 h) (e : a ≤ jnx h) : jOd a h0 (jnw h t n) := fun b hb => by
  have q := H b hb
  have ne : b ≠ jnx h := by omega
  exact ⟨(sh_nwn ne).trans q.1, fun k => (iv_nwn ne).trans (q.2.1 k), fun k => (lv_nwn ne).trans (q.2.2.1 k), fun k => (rv_nwn ne).trans (q.2.2.2 k)⟩
theorem ol_si {a c k : Nat} {v : Int32} {h0 h : jH} (H : jOd a h0 h) (e : a ≤ c) : jOd a h0 (jsi h c k v) := fun b hb => by
  have q := H b hb
  exact ⟨q.1, fun k => (iv_sn (by omega)).trans (q.2.1 k), q.2.2.1, q.2.2.2⟩
theorem ol_sr {a c k : Nat} {v : Option Nat} {h0 h : jH} (H : jOd a h0 h) (e : a ≤ c) : jOd a h0 (jsr h c k v) := fun b hb => by
  have q := H b hb
  exact ⟨q.1, q.2.1, q.2.2.1, fun k => (rv_sn (by omega)).trans (q.2.2.2 k)⟩
theorem ol_sm {a : Nat} {h0 h : jH} (H : jOd a h0 h) (e : jnx h0 = a) (h174 : 174 ≤ a) (g : a ≤ jnx h) : jSm [] h0 h := by
  have key : ∀ b, Nat.blt b 174 = true ∨ b < jnx h0 → b < a := fun b hb => by
    rcases hb with c | c
    · have := Nat.blt_eq.mp c; omega
    · omega
  exact ⟨by omega, fun b hb => (H b (key b hb)).1, fun b k hb _ => ⟨(H b (key b hb)).2.1 k, (H b (key b hb)).2.2.1 k, (H b (key b hb)).2.2.2 k⟩⟩
/-- the chest at a with its first n tables, all anew -/
def jTo (a f : Nat) (h : jH) : Prop := jsh h (a + 1 + 2 * f) = (8, 4) ∧ jsh h (a + 2 + 2 * f) = (100, jn8 f) ∧ jrv h a f = some (a + 1 + 2 * f) ∧ jrv h (a + 1 + 2 * f) 2 = some (a + 2 + 2 * f) ∧ jiv h (a + 1 + 2 * f) 0 = jw8 f ∧ jiv h (a + 1 + 2 * f) 1 = jm8 f ∧ jiv h (a + 1 + 2 * f) 3 = 0 ∧ ∀ k, jiv h (a + 2 + 2 * f) k = 0
def jBd (n a : Nat) (h0 h : jH) : Prop := jnx h = a + 1 + 2 * n ∧ jOd a h0 h ∧ jsh h a = (1, 20) ∧ (∀ k, jiv h a k = 0) ∧ (∀ f, f < n → jTo a f h) ∧ ∀ c j U : Nat, a ≤ c → c < a + 1 + 2 * n → jrv h c j = some U → U < a + 1 + 2 * n
theorem jBd_0 {h : jH} : jBd 0 (jnx h) h (jnw h 1 20) := ⟨rfl, ol_nw ol_0 (Nat.le_refl _), sh_nwe, fun k => iv_nwe, fun f hf => by omega, fun c j U h1 h2 hU => by
  rw [show c = jnx h from by omega, rv_nwe] at hU
  cases hU⟩
def jg8 (h : jH) (n : Nat) : jH := jsi (jsi (jsi (jnw h 8 4) (jnx h) 3 0) (jnx h) 0 (jw8 n)) (jnx h) 1 (jm8 n)
def jh8 (h : jH) (a n : Nat) : jH := jsr (jsr (jnw (jg8 h n) 100 (jn8 n)) (jnx h) 2 (some (jnx h + 1))) a n (some (jnx h))
theorem jBd_s {n a : Nat} {h0 h : jH} (B : jBd n a h0 h) : jBd (n + 1) a h0 (jh8 h a n) := by
  obtain ⟨b1, b2, b3, b4, b5, b6⟩ := B
  have xg : jnx (jg8 h n) = jnx h + 1 := rfl
  have gsh : ∀ b, b ≠ jnx h → jsh (jg8 h n) b = jsh h b := fun b e => (sh_nwn (t := 8) (n := 4) e : jsh (jnw h 8 4) b = jsh h b)
  have giv : ∀ b k, b ≠ jnx h → jiv (jg8 h n) b k = jiv h b k := fun b k e => by
    unfold jg8
    rw [iv_sn e, iv_sn e, iv_sn e, iv_nwn e]
  have grv : ∀ b k, b ≠ jnx h → jrv (jg8 h n) b k = jrv h b k := fun b k e => (rv_nwn (t := 8) (n := 4) e : jrv (jnw h 8 4) b k = jrv h b k)
  have sh : ∀ b, b ≠ jnx h → b ≠ jnx h + 1 → jsh (jh8 h a n) b = jsh h b := fun b e1 e2 => by
    show jsh (jnw (jg8 h n) 100 (jn8 n)) b = _
    rw [sh_nwn (by rw [xg]; exact e2)]
    exact gsh b e1
  have iv : ∀ b k, b ≠ jnx h → b ≠ jnx h + 1 → jiv (jh8 h a n) b k = jiv h b k := fun b k e1 e2 => by
    show jiv (jnw (jg8 h n) 100 (jn8 n)) b k = _
    rw [iv_nwn (by rw [xg]; exact e2)]
    exact giv b k e1
  have rv : ∀ b k, b ≠ jnx h → b ≠ jnx h + 1 → b ≠ a ∨ k ≠ n → jrv (jh8 h a n) b k = jrv h b k := fun b k e1 e2 e3 => by
    have q : jrv (jh8 h a n) b k = jrv (jsr (jnw (jg8 h n) 100 (jn8 n)) (jnx h) 2 (some (jnx h + 1))) b k := by
      unfold jh8
      rcases e3 with e3 | e3
      · exact rv_sn e3
      · exact rv_sk e3
    rw [q, rv_sn e1, rv_nwn (by rw [xg]; exact e2)]
    exact grv b k e1
  refine ⟨by show jnx h + 1 + 1 = _; omega, ?_, (sh a (by omega) (by omega)).trans b3, fun k => (iv a k (by omega) (by omega)).trans (b4 k), fun f hf => ?_, fun c j U h1 h2 hU => ?_⟩
  · have o1 : jOd a h0 (jg8 h n) := ol_si (ol_si (ol_si (ol_nw b2 (by omega)) (by omega)) (by omega)) (by omega)
    exact ol_sr (ol_sr (ol_nw o1 (by rw [xg]; omega)) (by omega)) (Nat.le_refl _)
  · by_cases z : f = n
    · subst z
      unfold jTo
      rw [show a + 1 + 2 * f = jnx h from b1.symm, show a + 2 + 2 * f = jnx h + 1 from by omega]
      have n1 : jnx h ≠ jnx (jg8 h f) := by rw [xg]; omega
      have n2 : jnx h ≠ a := by omega
      have tv : ∀ k, jiv (jh8 h a f) (jnx h) k = jiv (jg8 h f) (jnx h) k := fun k => (iv_nwn n1 : jiv (jnw (jg8 h f) 100 (jn8 f)) (jnx h) k = _)
      refine ⟨?_, ?_, rv_eq, ?_, ?_, ?_, ?_, fun k => ?_⟩
      · show jsh (jnw (jg8 h f) 100 (jn8 f)) (jnx h) = _
        rw [sh_nwn n1]
        exact (sh_nwe : jsh (jnw h 8 4) (jnx h) = (8, 4))
      · show jsh (jnw (jg8 h f) 100 (jn8 f)) (jnx h + 1) = _
        rw [← xg]
        exact sh_nwe
      · unfold jh8
        rw [rv_sn n2]
        exact rv_eq
      · rw [tv]; exact iv_sk rfl iv_eq
      · rw [tv]; exact iv_eq
      · rw [tv]; exact iv_sk rfl (iv_sk rfl iv_eq)
      · show jiv (jnw (jg8 h f) 100 (jn8 f)) (jnx h + 1) k = _
        rw [← xg]
        exact iv_nwe
    · obtain ⟨c1, c2, c3, c4, c5, c6, c7, c8⟩ := b5 f (by omega)
      exact ⟨(sh _ (by omega) (by omega)).trans c1, (sh _ (by omega) (by omega)).trans c2, (rv _ _ (by omega) (by omega) (Or.inr z)).trans c3, (rv _ _ (by omega) (by omega) (Or.inl (by omega))).trans c4, (iv _ _ (by omega) (by omega)).trans c5, (iv _ _ (by omega) (by omega)).trans c6, (iv _ _ (by omega) (by omega)).trans c7, fun k => (iv _ _ (by omega) (by omega)).trans (c8 k)⟩
  · by_cases z1 : c = jnx h + 1
    · exfalso
      have q : jrv (jh8 h a n) c j = none := by
        unfold jh8
        rw [rv_sn (by omega), rv_sn (by omega), z1, ← xg]
        exact rv_nwe
      rw [q] at hU
      cases hU
    · by_cases z2 : c = jnx h
      · by_cases z3 : j = 2
        · have q : jrv (jh8 h a n) c j = some (jnx h + 1) := by
            unfold jh8
            rw [rv_sn (by omega), z2, z3]
            exact rv_eq
          rw [q] at hU
          have := Option.some.inj hU
          omega
        · exfalso
          have q : jrv (jh8 h a n) c j = none := by
            unfold jh8
            rw [rv_sn (by omega), rv_sk z3, rv_nwn (by rw [xg]; omega), z2]
            exact (rv_nwe : jrv (jnw h 8 4) (jnx h) j = none)
          rw [q] at hU
          cases hU
      · by_cases z3 : c = a ∧ j = n
        · have q : jrv (jh8 h a n) c j = some (jnx h) := by
            rw [z3.1, z3.2]
            exact rv_eq
          rw [q] at hU
          have := Option.some.inj hU
          omega
        · rw [rv c j z2 z1 (by omega)] at hU
          have := b6 c j U h1 (by omega) hU
          omega
/-- a new chest, whole -/
def jCh (a : Nat) (h0 h : jH) : Prop := jnx h = a + 35 ∧ jOd a h0 h ∧ jsh h a = (1, 20) ∧ (∀ f, f < 16 → jTo a f h) ∧ jsh h (a + 33) = (101, 1600) ∧ jsh h (a + 34) = (105, 30) ∧ jrv h a 16 = some (a + 33) ∧ jrv h a 17 = some (a + 34) ∧ (∀ t, jrv h (a + 34) t = none) ∧ jiv h a 18 = 0 ∧ jiv h a 19 = 1 ∧ ∀ c j U : Nat, a ≤ c → c ≠ a + 34 → c < a + 35 → jrv h c j = some U → U < a + 35
def jhS (h : jH) (a : Nat) : jH := jsr (jnw h 101 1600) a 16 (some (jnx h))
def jhT (h : jH) (a : Nat) : jH := jsr (jnw h 105 30) a 17 (some (jnx h))
theorem jCh_of {a : Nat} {h0 h : jH} (B : jBd 16 a h0 h) : jCh a h0 (jsi (jsi (jhT (jhS h a) a) a 18 0) a 19 1) := by
  obtain ⟨b1, b2, b3, b4, b5, b6⟩ := B
  have xs : jnx (jhS h a) = jnx h + 1 := rfl
  have sS : ∀ b, b ≠ jnx h → jsh (jhS h a) b = jsh h b := fun b e => (sh_nwn e : jsh (jnw h 101 1600) b = jsh h b)
  have iS : ∀ b k, b ≠ jnx h → jiv (jhS h a) b k = jiv h b k := fun b k e => (iv_nwn e : jiv (jnw h 101 1600) b k = jiv h b k)
  have rS : ∀ b k, b ≠ jnx h → b ≠ a ∨ k ≠ 16 → jrv (jhS h a) b k = jrv h b k := fun b k e1 e3 => by
    have q : jrv (jhS h a) b k = jrv (jnw h 101 1600) b k := by
      unfold jhS
      rcases e3 with e3 | e3
      · exact rv_sn e3
      · exact rv_sk e3
    rw [q, rv_nwn e1]
  have sh : ∀ b, b ≠ jnx h → b ≠ jnx h + 1 → jsh (jsi (jsi (jhT (jhS h a) a) a 18 0) a 19 1) b = jsh h b := fun b e1 e2 => by
    show jsh (jnw (jhS h a) 105 30) b = _
    rw [sh_nwn (by rw [xs]; exact e2)]
    exact sS b e1
  have iv : ∀ b k, b ≠ jnx h → b ≠ jnx h + 1 → b ≠ a → jiv (jsi (jsi (jhT (jhS h a) a) a 18 0) a 19 1) b k = jiv h b k := fun b k e1 e2 e3 => by
    rw [iv_sn e3, iv_sn e3]
    show jiv (jnw (jhS h a) 105 30) b k = _
    rw [iv_nwn (by rw [xs]; exact e2)]
    exact iS b k e1
  have rv : ∀ b k, b ≠ jnx h → b ≠ jnx h + 1 → b ≠ a ∨ (k ≠ 16 ∧ k ≠ 17) → jrv (jsi (jsi (jhT (jhS h a) a) a 18 0) a 19 1) b k = jrv h b k := fun b k e1 e2 e3 => by
    show jrv (jhT (jhS h a) a) b k = _
    have q1 : jrv (jhT (jhS h a) a) b k = jrv (jnw (jhS h a) 105 30) b k := by
      unfold jhT
      rcases e3 with e3 | e3
      · exact rv_sn e3
      · exact rv_sk e3.2
    rw [q1, rv_nwn (by rw [xs]; exact e2)]
    exact rS b k e1 (e3.imp id And.left)
  have n1 : a ≠ jnx h := by omega
  have n2 : a ≠ jnx (jhS h a) := by rw [xs]; omega
  refine ⟨by show jnx h + 1 + 1 = _; omega, ?_, (sh a n1 (by omega)).trans b3, fun f hf => ?_, ?_, ?_, ?_, ?_, fun t => ?_, iv_sk rfl iv_eq, iv_eq, fun c j U h1 h2 h3 hU => ?_⟩
  · have o1 : jOd a h0 (jhS h a) := ol_sr (ol_nw b2 (by omega)) (Nat.le_refl _)
    exact ol_si (ol_si (ol_sr (ol_nw o1 (by rw [xs]; omega)) (Nat.le_refl _)) (Nat.le_refl _)) (Nat.le_refl _)
  · obtain ⟨c1, c2, c3, c4, c5, c6, c7, c8⟩ := b5 f hf
    exact ⟨(sh _ (by omega) (by omega)).trans c1, (sh _ (by omega) (by omega)).trans c2, (rv _ _ (by omega) (by omega) (Or.inr ⟨by omega, by omega⟩)).trans c3, (rv _ _ (by omega) (by omega) (Or.inl (by omega))).trans c4, (iv _ _ (by omega) (by omega) (by omega)).trans c5, (iv _ _ (by omega) (by omega) (by omega)).trans c6, (iv _ _ (by omega) (by omega) (by omega)).trans c7, fun k => (iv _ _ (by omega) (by omega) (by omega)).trans (c8 k)⟩
  · rw [show a + 33 = jnx h from by omega]
    show jsh (jnw (jhS h a) 105 30) (jnx h) = _
    rw [sh_nwn (by rw [xs]; omega)]
    exact (sh_nwe : jsh (jnw h 101 1600) (jnx h) = _)
  · rw [show a + 34 = jnx (jhS h a) from by rw [xs]; omega]
    exact (sh_nwe : jsh (jnw (jhS h a) 105 30) (jnx (jhS h a)) = _)
  · rw [show a + 33 = jnx h from by omega]
    show jrv (jsr (jnw (jhS h a) 105 30) a 17 (some (jnx (jhS h a)))) a 16 = _
    rw [rv_sk (by decide), rv_nwn n2]
    exact (rv_eq : jrv (jsr (jnw h 101 1600) a 16 (some (jnx h))) a 16 = _)
  · rw [show a + 34 = jnx (jhS h a) from by rw [xs]; omega]
    exact (rv_eq : jrv (jsr (jnw (jhS h a) 105 30) a 17 (some (jnx (jhS h a)))) a 17 = _)
  · rw [show a + 34 = jnx (jhS h a) from by rw [xs]; omega]
    show jrv (jsr (jnw (jhS h a) 105 30) a 17 (some (jnx (jhS h a)))) (jnx (jhS h a)) t = _
    rw [rv_sn (by rw [xs]; omega)]
    exact rv_nwe
  · by_cases z1 : c = jnx h
    · exfalso
      have q : jrv (jsi (jsi (jhT (jhS h a) a) a 18 0) a 19 1) c j = none := by
        show jrv (jhT (jhS h a) a) c j = none
        unfold jhT
        rw [rv_sn (by omega), rv_nwn (by rw [xs]; omega)]
        unfold jhS
        rw [rv_sn (by omega), z1]
        exact rv_nwe
      rw [q] at hU
      cases hU
    · by_cases z2 : c = a ∧ j = 16
      · have q : jrv (jsi (jsi (jhT (jhS h a) a) a 18 0) a 19 1) c j = some (jnx h) := by
          show jrv (jhT (jhS h a) a) c j = some (jnx h)
          unfold jhT
          rw [z2.1, z2.2, rv_sk (by decide), rv_nwn (by rw [xs]; omega)]
          unfold jhS
          exact rv_eq
        rw [q] at hU
        have := Option.some.inj hU
        omega
      · by_cases z3 : c = a ∧ j = 17
        · have q : jrv (jsi (jsi (jhT (jhS h a) a) a 18 0) a 19 1) c j = some (jnx h + 1) := by
            show jrv (jhT (jhS h a) a) c j = some (jnx h + 1)
            unfold jhT
            rw [z3.1, z3.2]
            exact rv_eq
          rw [q] at hU
          have := Option.some.inj hU
          omega
        · rw [rv c j z1 (by omega) (by omega)] at hU
          have := b6 c j U h1 (by omega) hU
          omega
set_option maxRecDepth 100000 in
set_option maxHeartbeats 4000000 in
theorem ch_t0 {d a : Nat} {h0 h : jH} {Q : Option Value → jH → Prop} (hd : 2 ≤ d) (ha : Nat.ble 31 a = true) (B : jBd 0 a h0 h) (kk : ∀ h2, jBd 1 a h0 h2 → jX m_X1_init d 34 24574 20 [(0, .ref a)] [] h2 2 1204 Q) : jX m_X1_init d 34 24574 4 [(0, .ref a)] [] h 0 0 Q := by
  have h31 := Nat.ble_eq.mp ha
  refine x_aloadn (x := a) rfl rfl ?_
  refine x_new 8 4 rfl v_1_9 ⟨by decide, by decide⟩ ?_
  refine x_dup rfl rfl ?_
  refine x_bipush (v := 6) rfl kb_6 ?_
  refine x_sipush (v := 200) rfl ks_200 ?_
  have g1 : jnx h = a + 1 + 2 * 0 := B.1
  have g2 := jwm8 0 (by decide)
  refine x_ins (N := m_X8_init) (As := [.int 6, .int 200]) (b := jnx h) (st := [.ref (jnx h), .ref a]) (dx9 := 1) (mc := 1) (ms := 1200) (host := "") rfl t_X8_init ⟨Or.inl q_1_11, i_X8_init, rfl, rfl⟩ rfl (by omega) rfl rfl ⟨by decide, by decide⟩ (tb_init (by decide) (sh_nwe (h := h)) (Nat.ble_eq.mpr (by omega)) (Nat.lt_succ_self _) g2.1 g2.2.1 g2.2.2.1 g2.2.2.2 ?_)
  show jX m_X1_init d 34 24574 17 [(0, .ref a)] [.ref (jnx h), .ref a] (jsr (jnw (jg8 h 0) 100 (jn8 0)) (jnx h) 2 (some (jnx h + 1))) 2 1204 Q
  have g3 : jsh (jsr (jnw (jg8 h 0) 100 (jn8 0)) (jnx h) 2 (some (jnx h + 1))) a = (1, 20) := by
    show jsh (jnw (jg8 h 0) 100 (jn8 0)) a = _
    rw [sh_nwn (show a ≠ jnx (jg8 h 0) from by show a ≠ jnx h + 1; omega)]
    exact ((sh_nwn (by omega) : jsh (jnw h 8 4) a = jsh h a)).trans B.2.2.1
  refine x_putR 1 0 rfl f_1_14 rfl (jfin_in TX1 RX1 20 rfl rfl rfl rfl) (congrArg Prod.fst g3) ha ?_
  exact kk _ (jBd_s B)
set_option maxRecDepth 100000 in
set_option maxHeartbeats 4000000 in
theorem ch_t1 {d a : Nat} {h0 h : jH} {Q : Option Value → jH → Prop} (hd : 2 ≤ d) (ha : Nat.ble 31 a = true) (B : jBd 1 a h0 h) (kk : ∀ h2, jBd 2 a h0 h2 → jX m_X1_init d 34 24574 36 [(0, .ref a)] [] h2 4 18008 Q) : jX m_X1_init d 34 24574 20 [(0, .ref a)] [] h 2 1204 Q := by
  have h31 := Nat.ble_eq.mp ha
  refine x_aloadn (x := a) rfl rfl ?_
  refine x_new 8 4 rfl v_1_9 ⟨by decide, by decide⟩ ?_
  refine x_dup rfl rfl ?_
  refine x_bipush (v := 14) rfl kb_14 ?_
  refine x_sipush (v := 1200) rfl ks_1200 ?_
  have g1 : jnx h = a + 1 + 2 * 1 := B.1
  have g2 := jwm8 1 (by decide)
  refine x_ins (N := m_X8_init) (As := [.int 14, .int 1200]) (b := jnx h) (st := [.ref (jnx h), .ref a]) (dx9 := 1) (mc := 1) (ms := 16800) (host := "") rfl t_X8_init ⟨Or.inl q_1_11, i_X8_init, rfl, rfl⟩ rfl (by omega) rfl rfl ⟨by decide, by decide⟩ (tb_init (by decide) (sh_nwe (h := h)) (Nat.ble_eq.mpr (by omega)) (Nat.lt_succ_self _) g2.1 g2.2.1 g2.2.2.1 g2.2.2.2 ?_)
  show jX m_X1_init d 34 24574 33 [(0, .ref a)] [.ref (jnx h), .ref a] (jsr (jnw (jg8 h 1) 100 (jn8 1)) (jnx h) 2 (some (jnx h + 1))) 4 18008 Q
  have g3 : jsh (jsr (jnw (jg8 h 1) 100 (jn8 1)) (jnx h) 2 (some (jnx h + 1))) a = (1, 20) := by
    show jsh (jnw (jg8 h 1) 100 (jn8 1)) a = _
    rw [sh_nwn (show a ≠ jnx (jg8 h 1) from by show a ≠ jnx h + 1; omega)]
    exact ((sh_nwn (by omega) : jsh (jnw h 8 4) a = jsh h a)).trans B.2.2.1
  refine x_putR 1 1 rfl f_1_20 rfl (jfin_in TX1 RX1 20 rfl rfl rfl rfl) (congrArg Prod.fst g3) ha ?_
  exact kk _ (jBd_s B)
set_option maxRecDepth 100000 in
set_option maxHeartbeats 4000000 in
theorem ch_t2 {d a : Nat} {h0 h : jH} {Q : Option Value → jH → Prop} (hd : 2 ≤ d) (ha : Nat.ble 31 a = true) (B : jBd 2 a h0 h) (kk : ∀ h2, jBd 3 a h0 h2 → jX m_X1_init d 34 24574 50 [(0, .ref a)] [] h2 6 18132 Q) : jX m_X1_init d 34 24574 36 [(0, .ref a)] [] h 4 18008 Q := by
  have h31 := Nat.ble_eq.mp ha
  refine x_aloadn (x := a) rfl rfl ?_
  refine x_new 8 4 rfl v_1_9 ⟨by decide, by decide⟩ ?_
  refine x_dup rfl rfl ?_
  refine x_iconst (v := 2) rfl ki_2 ?_
  refine x_bipush (v := 60) rfl kb_60 ?_
  have g1 : jnx h = a + 1 + 2 * 2 := B.1
  have g2 := jwm8 2 (by decide)
  refine x_ins (N := m_X8_init) (As := [.int 2, .int 60]) (b := jnx h) (st := [.ref (jnx h), .ref a]) (dx9 := 1) (mc := 1) (ms := 120) (host := "") rfl t_X8_init ⟨Or.inl q_1_11, i_X8_init, rfl, rfl⟩ rfl (by omega) rfl rfl ⟨by decide, by decide⟩ (tb_init (by decide) (sh_nwe (h := h)) (Nat.ble_eq.mpr (by omega)) (Nat.lt_succ_self _) g2.1 g2.2.1 g2.2.2.1 g2.2.2.2 ?_)
  show jX m_X1_init d 34 24574 47 [(0, .ref a)] [.ref (jnx h), .ref a] (jsr (jnw (jg8 h 2) 100 (jn8 2)) (jnx h) 2 (some (jnx h + 1))) 6 18132 Q
  have g3 : jsh (jsr (jnw (jg8 h 2) 100 (jn8 2)) (jnx h) 2 (some (jnx h + 1))) a = (1, 20) := by
    show jsh (jnw (jg8 h 2) 100 (jn8 2)) a = _
    rw [sh_nwn (show a ≠ jnx (jg8 h 2) from by show a ≠ jnx h + 1; omega)]
    exact ((sh_nwn (by omega) : jsh (jnw h 8 4) a = jsh h a)).trans B.2.2.1
  refine x_putR 1 2 rfl f_1_23 rfl (jfin_in TX1 RX1 20 rfl rfl rfl rfl) (congrArg Prod.fst g3) ha ?_
  exact kk _ (jBd_s B)
set_option maxRecDepth 100000 in
set_option maxHeartbeats 4000000 in
theorem ch_t3 {d a : Nat} {h0 h : jH} {Q : Option Value → jH → Prop} (hd : 2 ≤ d) (ha : Nat.ble 31 a = true) (B : jBd 3 a h0 h) (kk : ∀ h2, jBd 4 a h0 h2 → jX m_X1_init d 34 24574 65 [(0, .ref a)] [] h2 8 18736 Q) : jX m_X1_init d 34 24574 50 [(0, .ref a)] [] h 6 18132 Q := by
  have h31 := Nat.ble_eq.mp ha
  refine x_aloadn (x := a) rfl rfl ?_
  refine x_new 8 4 rfl v_1_9 ⟨by decide, by decide⟩ ?_
  refine x_dup rfl rfl ?_
  refine x_iconst (v := 3) rfl ki_3 ?_
  refine x_sipush (v := 200) rfl ks_200 ?_
  have g1 : jnx h = a + 1 + 2 * 3 := B.1
  have g2 := jwm8 3 (by decide)
  refine x_ins (N := m_X8_init) (As := [.int 3, .int 200]) (b := jnx h) (st := [.ref (jnx h), .ref a]) (dx9 := 1) (mc := 1) (ms := 600) (host := "") rfl t_X8_init ⟨Or.inl q_1_11, i_X8_init, rfl, rfl⟩ rfl (by omega) rfl rfl ⟨by decide, by decide⟩ (tb_init (by decide) (sh_nwe (h := h)) (Nat.ble_eq.mpr (by omega)) (Nat.lt_succ_self _) g2.1 g2.2.1 g2.2.2.1 g2.2.2.2 ?_)
  show jX m_X1_init d 34 24574 62 [(0, .ref a)] [.ref (jnx h), .ref a] (jsr (jnw (jg8 h 3) 100 (jn8 3)) (jnx h) 2 (some (jnx h + 1))) 8 18736 Q
  have g3 : jsh (jsr (jnw (jg8 h 3) 100 (jn8 3)) (jnx h) 2 (some (jnx h + 1))) a = (1, 20) := by
    show jsh (jnw (jg8 h 3) 100 (jn8 3)) a = _
    rw [sh_nwn (show a ≠ jnx (jg8 h 3) from by show a ≠ jnx h + 1; omega)]
    exact ((sh_nwn (by omega) : jsh (jnw h 8 4) a = jsh h a)).trans B.2.2.1
  refine x_putR 1 3 rfl f_1_26 rfl (jfin_in TX1 RX1 20 rfl rfl rfl rfl) (congrArg Prod.fst g3) ha ?_
  exact kk _ (jBd_s B)
set_option maxRecDepth 100000 in
set_option maxHeartbeats 4000000 in
theorem ch_t4 {d a : Nat} {h0 h : jH} {Q : Option Value → jH → Prop} (hd : 2 ≤ d) (ha : Nat.ble 31 a = true) (B : jBd 4 a h0 h) (kk : ∀ h2, jBd 5 a h0 h2 → jX m_X1_init d 34 24574 79 [(0, .ref a)] [] h2 10 18820 Q) : jX m_X1_init d 34 24574 65 [(0, .ref a)] [] h 8 18736 Q := by
  have h31 := Nat.ble_eq.mp ha
  refine x_aloadn (x := a) rfl rfl ?_
  refine x_new 8 4 rfl v_1_9 ⟨by decide, by decide⟩ ?_
  refine x_dup rfl rfl ?_
  refine x_iconst (v := 4) rfl ki_4 ?_
  refine x_bipush (v := 20) rfl kb_20 ?_
  have g1 : jnx h = a + 1 + 2 * 4 := B.1
  have g2 := jwm8 4 (by decide)
  refine x_ins (N := m_X8_init) (As := [.int 4, .int 20]) (b := jnx h) (st := [.ref (jnx h), .ref a]) (dx9 := 1) (mc := 1) (ms := 80) (host := "") rfl t_X8_init ⟨Or.inl q_1_11, i_X8_init, rfl, rfl⟩ rfl (by omega) rfl rfl ⟨by decide, by decide⟩ (tb_init (by decide) (sh_nwe (h := h)) (Nat.ble_eq.mpr (by omega)) (Nat.lt_succ_self _) g2.1 g2.2.1 g2.2.2.1 g2.2.2.2 ?_)
  show jX m_X1_init d 34 24574 76 [(0, .ref a)] [.ref (jnx h), .ref a] (jsr (jnw (jg8 h 4) 100 (jn8 4)) (jnx h) 2 (some (jnx h + 1))) 10 18820 Q
  have g3 : jsh (jsr (jnw (jg8 h 4) 100 (jn8 4)) (jnx h) 2 (some (jnx h + 1))) a = (1, 20) := by
    show jsh (jnw (jg8 h 4) 100 (jn8 4)) a = _
    rw [sh_nwn (show a ≠ jnx (jg8 h 4) from by show a ≠ jnx h + 1; omega)]
    exact ((sh_nwn (by omega) : jsh (jnw h 8 4) a = jsh h a)).trans B.2.2.1
  refine x_putR 1 4 rfl f_1_29 rfl (jfin_in TX1 RX1 20 rfl rfl rfl rfl) (congrArg Prod.fst g3) ha ?_
  exact kk _ (jBd_s B)
set_option maxRecDepth 100000 in
set_option maxHeartbeats 4000000 in
theorem ch_t5 {d a : Nat} {h0 h : jH} {Q : Option Value → jH → Prop} (hd : 2 ≤ d) (ha : Nat.ble 31 a = true) (B : jBd 5 a h0 h) (kk : ∀ h2, jBd 6 a h0 h2 → jX m_X1_init d 34 24574 94 [(0, .ref a)] [] h2 12 19424 Q) : jX m_X1_init d 34 24574 79 [(0, .ref a)] [] h 10 18820 Q := by
  have h31 := Nat.ble_eq.mp ha
  refine x_aloadn (x := a) rfl rfl ?_
  refine x_new 8 4 rfl v_1_9 ⟨by decide, by decide⟩ ?_
  refine x_dup rfl rfl ?_
  refine x_bipush (v := 6) rfl kb_6 ?_
  refine x_bipush (v := 100) rfl kb_100 ?_
  have g1 : jnx h = a + 1 + 2 * 5 := B.1
  have g2 := jwm8 5 (by decide)
  refine x_ins (N := m_X8_init) (As := [.int 6, .int 100]) (b := jnx h) (st := [.ref (jnx h), .ref a]) (dx9 := 1) (mc := 1) (ms := 600) (host := "") rfl t_X8_init ⟨Or.inl q_1_11, i_X8_init, rfl, rfl⟩ rfl (by omega) rfl rfl ⟨by decide, by decide⟩ (tb_init (by decide) (sh_nwe (h := h)) (Nat.ble_eq.mpr (by omega)) (Nat.lt_succ_self _) g2.1 g2.2.1 g2.2.2.1 g2.2.2.2 ?_)
  show jX m_X1_init d 34 24574 91 [(0, .ref a)] [.ref (jnx h), .ref a] (jsr (jnw (jg8 h 5) 100 (jn8 5)) (jnx h) 2 (some (jnx h + 1))) 12 19424 Q
  have g3 : jsh (jsr (jnw (jg8 h 5) 100 (jn8 5)) (jnx h) 2 (some (jnx h + 1))) a = (1, 20) := by
    show jsh (jnw (jg8 h 5) 100 (jn8 5)) a = _
    rw [sh_nwn (show a ≠ jnx (jg8 h 5) from by show a ≠ jnx h + 1; omega)]
    exact ((sh_nwn (by omega) : jsh (jnw h 8 4) a = jsh h a)).trans B.2.2.1
  refine x_putR 1 5 rfl f_1_32 rfl (jfin_in TX1 RX1 20 rfl rfl rfl rfl) (congrArg Prod.fst g3) ha ?_
  exact kk _ (jBd_s B)
set_option maxRecDepth 100000 in
set_option maxHeartbeats 4000000 in
theorem ch_t6 {d a : Nat} {h0 h : jH} {Q : Option Value → jH → Prop} (hd : 2 ≤ d) (ha : Nat.ble 31 a = true) (B : jBd 6 a h0 h) (kk : ∀ h2, jBd 7 a h0 h2 → jX m_X1_init d 34 24574 108 [(0, .ref a)] [] h2 14 19548 Q) : jX m_X1_init d 34 24574 94 [(0, .ref a)] [] h 12 19424 Q := by
  have h31 := Nat.ble_eq.mp ha
  refine x_aloadn (x := a) rfl rfl ?_
  refine x_new 8 4 rfl v_1_9 ⟨by decide, by decide⟩ ?_
  refine x_dup rfl rfl ?_
  refine x_iconst (v := 3) rfl ki_3 ?_
  refine x_bipush (v := 40) rfl kb_40 ?_
  have g1 : jnx h = a + 1 + 2 * 6 := B.1
  have g2 := jwm8 6 (by decide)
  refine x_ins (N := m_X8_init) (As := [.int 3, .int 40]) (b := jnx h) (st := [.ref (jnx h), .ref a]) (dx9 := 1) (mc := 1) (ms := 120) (host := "") rfl t_X8_init ⟨Or.inl q_1_11, i_X8_init, rfl, rfl⟩ rfl (by omega) rfl rfl ⟨by decide, by decide⟩ (tb_init (by decide) (sh_nwe (h := h)) (Nat.ble_eq.mpr (by omega)) (Nat.lt_succ_self _) g2.1 g2.2.1 g2.2.2.1 g2.2.2.2 ?_)
  show jX m_X1_init d 34 24574 105 [(0, .ref a)] [.ref (jnx h), .ref a] (jsr (jnw (jg8 h 6) 100 (jn8 6)) (jnx h) 2 (some (jnx h + 1))) 14 19548 Q
  have g3 : jsh (jsr (jnw (jg8 h 6) 100 (jn8 6)) (jnx h) 2 (some (jnx h + 1))) a = (1, 20) := by
    show jsh (jnw (jg8 h 6) 100 (jn8 6)) a = _
    rw [sh_nwn (show a ≠ jnx (jg8 h 6) from by show a ≠ jnx h + 1; omega)]
    exact ((sh_nwn (by omega) : jsh (jnw h 8 4) a = jsh h a)).trans B.2.2.1
  refine x_putR 1 6 rfl f_1_35 rfl (jfin_in TX1 RX1 20 rfl rfl rfl rfl) (congrArg Prod.fst g3) ha ?_
  exact kk _ (jBd_s B)
set_option maxRecDepth 100000 in
set_option maxHeartbeats 4000000 in
theorem ch_t7 {d a : Nat} {h0 h : jH} {Q : Option Value → jH → Prop} (hd : 2 ≤ d) (ha : Nat.ble 31 a = true) (B : jBd 7 a h0 h) (kk : ∀ h2, jBd 8 a h0 h2 → jX m_X1_init d 34 24574 122 [(0, .ref a)] [] h2 16 19952 Q) : jX m_X1_init d 34 24574 108 [(0, .ref a)] [] h 14 19548 Q := by
  have h31 := Nat.ble_eq.mp ha
  refine x_aloadn (x := a) rfl rfl ?_
  refine x_new 8 4 rfl v_1_9 ⟨by decide, by decide⟩ ?_
  refine x_dup rfl rfl ?_
  refine x_iconst (v := 4) rfl ki_4 ?_
  refine x_bipush (v := 100) rfl kb_100 ?_
  have g1 : jnx h = a + 1 + 2 * 7 := B.1
  have g2 := jwm8 7 (by decide)
  refine x_ins (N := m_X8_init) (As := [.int 4, .int 100]) (b := jnx h) (st := [.ref (jnx h), .ref a]) (dx9 := 1) (mc := 1) (ms := 400) (host := "") rfl t_X8_init ⟨Or.inl q_1_11, i_X8_init, rfl, rfl⟩ rfl (by omega) rfl rfl ⟨by decide, by decide⟩ (tb_init (by decide) (sh_nwe (h := h)) (Nat.ble_eq.mpr (by omega)) (Nat.lt_succ_self _) g2.1 g2.2.1 g2.2.2.1 g2.2.2.2 ?_)
  show jX m_X1_init d 34 24574 119 [(0, .ref a)] [.ref (jnx h), .ref a] (jsr (jnw (jg8 h 7) 100 (jn8 7)) (jnx h) 2 (some (jnx h + 1))) 16 19952 Q
  have g3 : jsh (jsr (jnw (jg8 h 7) 100 (jn8 7)) (jnx h) 2 (some (jnx h + 1))) a = (1, 20) := by
    show jsh (jnw (jg8 h 7) 100 (jn8 7)) a = _
    rw [sh_nwn (show a ≠ jnx (jg8 h 7) from by show a ≠ jnx h + 1; omega)]
    exact ((sh_nwn (by omega) : jsh (jnw h 8 4) a = jsh h a)).trans B.2.2.1
  refine x_putR 1 7 rfl f_1_38 rfl (jfin_in TX1 RX1 20 rfl rfl rfl rfl) (congrArg Prod.fst g3) ha ?_
  exact kk _ (jBd_s B)
set_option maxRecDepth 100000 in
set_option maxHeartbeats 4000000 in
theorem ch_t8 {d a : Nat} {h0 h : jH} {Q : Option Value → jH → Prop} (hd : 2 ≤ d) (ha : Nat.ble 31 a = true) (B : jBd 8 a h0 h) (kk : ∀ h2, jBd 9 a h0 h2 → jX m_X1_init d 34 24574 136 [(0, .ref a)] [] h2 18 20156 Q) : jX m_X1_init d 34 24574 122 [(0, .ref a)] [] h 16 19952 Q := by
  have h31 := Nat.ble_eq.mp ha
  refine x_aloadn (x := a) rfl rfl ?_
  refine x_new 8 4 rfl v_1_9 ⟨by decide, by decide⟩ ?_
  refine x_dup rfl rfl ?_
  refine x_iconst (v := 5) rfl ki_5 ?_
  refine x_bipush (v := 40) rfl kb_40 ?_
  have g1 : jnx h = a + 1 + 2 * 8 := B.1
  have g2 := jwm8 8 (by decide)
  refine x_ins (N := m_X8_init) (As := [.int 5, .int 40]) (b := jnx h) (st := [.ref (jnx h), .ref a]) (dx9 := 1) (mc := 1) (ms := 200) (host := "") rfl t_X8_init ⟨Or.inl q_1_11, i_X8_init, rfl, rfl⟩ rfl (by omega) rfl rfl ⟨by decide, by decide⟩ (tb_init (by decide) (sh_nwe (h := h)) (Nat.ble_eq.mpr (by omega)) (Nat.lt_succ_self _) g2.1 g2.2.1 g2.2.2.1 g2.2.2.2 ?_)
  show jX m_X1_init d 34 24574 133 [(0, .ref a)] [.ref (jnx h), .ref a] (jsr (jnw (jg8 h 8) 100 (jn8 8)) (jnx h) 2 (some (jnx h + 1))) 18 20156 Q
  have g3 : jsh (jsr (jnw (jg8 h 8) 100 (jn8 8)) (jnx h) 2 (some (jnx h + 1))) a = (1, 20) := by
    show jsh (jnw (jg8 h 8) 100 (jn8 8)) a = _
    rw [sh_nwn (show a ≠ jnx (jg8 h 8) from by show a ≠ jnx h + 1; omega)]
    exact ((sh_nwn (by omega) : jsh (jnw h 8 4) a = jsh h a)).trans B.2.2.1
  refine x_putR 1 8 rfl f_1_41 rfl (jfin_in TX1 RX1 20 rfl rfl rfl rfl) (congrArg Prod.fst g3) ha ?_
  exact kk _ (jBd_s B)
set_option maxRecDepth 100000 in
set_option maxHeartbeats 4000000 in
theorem ch_t9 {d a : Nat} {h0 h : jH} {Q : Option Value → jH → Prop} (hd : 2 ≤ d) (ha : Nat.ble 31 a = true) (B : jBd 9 a h0 h) (kk : ∀ h2, jBd 10 a h0 h2 → jX m_X1_init d 34 24574 150 [(0, .ref a)] [] h2 20 20560 Q) : jX m_X1_init d 34 24574 136 [(0, .ref a)] [] h 18 20156 Q := by
  have h31 := Nat.ble_eq.mp ha
  refine x_aloadn (x := a) rfl rfl ?_
  refine x_new 8 4 rfl v_1_9 ⟨by decide, by decide⟩ ?_
  refine x_dup rfl rfl ?_
  refine x_iconst (v := 4) rfl ki_4 ?_
  refine x_bipush (v := 100) rfl kb_100 ?_
  have g1 : jnx h = a + 1 + 2 * 9 := B.1
  have g2 := jwm8 9 (by decide)
  refine x_ins (N := m_X8_init) (As := [.int 4, .int 100]) (b := jnx h) (st := [.ref (jnx h), .ref a]) (dx9 := 1) (mc := 1) (ms := 400) (host := "") rfl t_X8_init ⟨Or.inl q_1_11, i_X8_init, rfl, rfl⟩ rfl (by omega) rfl rfl ⟨by decide, by decide⟩ (tb_init (by decide) (sh_nwe (h := h)) (Nat.ble_eq.mpr (by omega)) (Nat.lt_succ_self _) g2.1 g2.2.1 g2.2.2.1 g2.2.2.2 ?_)
  show jX m_X1_init d 34 24574 147 [(0, .ref a)] [.ref (jnx h), .ref a] (jsr (jnw (jg8 h 9) 100 (jn8 9)) (jnx h) 2 (some (jnx h + 1))) 20 20560 Q
  have g3 : jsh (jsr (jnw (jg8 h 9) 100 (jn8 9)) (jnx h) 2 (some (jnx h + 1))) a = (1, 20) := by
    show jsh (jnw (jg8 h 9) 100 (jn8 9)) a = _
    rw [sh_nwn (show a ≠ jnx (jg8 h 9) from by show a ≠ jnx h + 1; omega)]
    exact ((sh_nwn (by omega) : jsh (jnw h 8 4) a = jsh h a)).trans B.2.2.1
  refine x_putR 1 9 rfl f_1_44 rfl (jfin_in TX1 RX1 20 rfl rfl rfl rfl) (congrArg Prod.fst g3) ha ?_
  exact kk _ (jBd_s B)
set_option maxRecDepth 100000 in
set_option maxHeartbeats 4000000 in
theorem ch_t10 {d a : Nat} {h0 h : jH} {Q : Option Value → jH → Prop} (hd : 2 ≤ d) (ha : Nat.ble 31 a = true) (B : jBd 10 a h0 h) (kk : ∀ h2, jBd 11 a h0 h2 → jX m_X1_init d 34 24574 164 [(0, .ref a)] [] h2 22 20724 Q) : jX m_X1_init d 34 24574 150 [(0, .ref a)] [] h 20 20560 Q := by
  have h31 := Nat.ble_eq.mp ha
  refine x_aloadn (x := a) rfl rfl ?_
  refine x_new 8 4 rfl v_1_9 ⟨by decide, by decide⟩ ?_
  refine x_dup rfl rfl ?_
  refine x_iconst (v := 4) rfl ki_4 ?_
  refine x_bipush (v := 40) rfl kb_40 ?_
  have g1 : jnx h = a + 1 + 2 * 10 := B.1
  have g2 := jwm8 10 (by decide)
  refine x_ins (N := m_X8_init) (As := [.int 4, .int 40]) (b := jnx h) (st := [.ref (jnx h), .ref a]) (dx9 := 1) (mc := 1) (ms := 160) (host := "") rfl t_X8_init ⟨Or.inl q_1_11, i_X8_init, rfl, rfl⟩ rfl (by omega) rfl rfl ⟨by decide, by decide⟩ (tb_init (by decide) (sh_nwe (h := h)) (Nat.ble_eq.mpr (by omega)) (Nat.lt_succ_self _) g2.1 g2.2.1 g2.2.2.1 g2.2.2.2 ?_)
  show jX m_X1_init d 34 24574 161 [(0, .ref a)] [.ref (jnx h), .ref a] (jsr (jnw (jg8 h 10) 100 (jn8 10)) (jnx h) 2 (some (jnx h + 1))) 22 20724 Q
  have g3 : jsh (jsr (jnw (jg8 h 10) 100 (jn8 10)) (jnx h) 2 (some (jnx h + 1))) a = (1, 20) := by
    show jsh (jnw (jg8 h 10) 100 (jn8 10)) a = _
    rw [sh_nwn (show a ≠ jnx (jg8 h 10) from by show a ≠ jnx h + 1; omega)]
    exact ((sh_nwn (by omega) : jsh (jnw h 8 4) a = jsh h a)).trans B.2.2.1
  refine x_putR 1 10 rfl f_1_47 rfl (jfin_in TX1 RX1 20 rfl rfl rfl rfl) (congrArg Prod.fst g3) ha ?_
  exact kk _ (jBd_s B)
set_option maxRecDepth 100000 in
set_option maxHeartbeats 4000000 in
theorem ch_t11 {d a : Nat} {h0 h : jH} {Q : Option Value → jH → Prop} (hd : 2 ≤ d) (ha : Nat.ble 31 a = true) (B : jBd 11 a h0 h) (kk : ∀ h2, jBd 12 a h0 h2 → jX m_X1_init d 34 24574 178 [(0, .ref a)] [] h2 24 21228 Q) : jX m_X1_init d 34 24574 164 [(0, .ref a)] [] h 22 20724 Q := by
  have h31 := Nat.ble_eq.mp ha
  refine x_aloadn (x := a) rfl rfl ?_
  refine x_new 8 4 rfl v_1_9 ⟨by decide, by decide⟩ ?_
  refine x_dup rfl rfl ?_
  refine x_iconst (v := 5) rfl ki_5 ?_
  refine x_bipush (v := 100) rfl kb_100 ?_
  have g1 : jnx h = a + 1 + 2 * 11 := B.1
  have g2 := jwm8 11 (by decide)
  refine x_ins (N := m_X8_init) (As := [.int 5, .int 100]) (b := jnx h) (st := [.ref (jnx h), .ref a]) (dx9 := 1) (mc := 1) (ms := 500) (host := "") rfl t_X8_init ⟨Or.inl q_1_11, i_X8_init, rfl, rfl⟩ rfl (by omega) rfl rfl ⟨by decide, by decide⟩ (tb_init (by decide) (sh_nwe (h := h)) (Nat.ble_eq.mpr (by omega)) (Nat.lt_succ_self _) g2.1 g2.2.1 g2.2.2.1 g2.2.2.2 ?_)
  show jX m_X1_init d 34 24574 175 [(0, .ref a)] [.ref (jnx h), .ref a] (jsr (jnw (jg8 h 11) 100 (jn8 11)) (jnx h) 2 (some (jnx h + 1))) 24 21228 Q
  have g3 : jsh (jsr (jnw (jg8 h 11) 100 (jn8 11)) (jnx h) 2 (some (jnx h + 1))) a = (1, 20) := by
    show jsh (jnw (jg8 h 11) 100 (jn8 11)) a = _
    rw [sh_nwn (show a ≠ jnx (jg8 h 11) from by show a ≠ jnx h + 1; omega)]
    exact ((sh_nwn (by omega) : jsh (jnw h 8 4) a = jsh h a)).trans B.2.2.1
  refine x_putR 1 11 rfl f_1_50 rfl (jfin_in TX1 RX1 20 rfl rfl rfl rfl) (congrArg Prod.fst g3) ha ?_
  exact kk _ (jBd_s B)
set_option maxRecDepth 100000 in
set_option maxHeartbeats 4000000 in
theorem ch_t12 {d a : Nat} {h0 h : jH} {Q : Option Value → jH → Prop} (hd : 2 ≤ d) (ha : Nat.ble 31 a = true) (B : jBd 12 a h0 h) (kk : ∀ h2, jBd 13 a h0 h2 → jX m_X1_init d 34 24574 192 [(0, .ref a)] [] h2 26 21632 Q) : jX m_X1_init d 34 24574 178 [(0, .ref a)] [] h 24 21228 Q := by
  have h31 := Nat.ble_eq.mp ha
  refine x_aloadn (x := a) rfl rfl ?_
  refine x_new 8 4 rfl v_1_9 ⟨by decide, by decide⟩ ?_
  refine x_dup rfl rfl ?_
  refine x_iconst (v := 4) rfl ki_4 ?_
  refine x_bipush (v := 100) rfl kb_100 ?_
  have g1 : jnx h = a + 1 + 2 * 12 := B.1
  have g2 := jwm8 12 (by decide)
  refine x_ins (N := m_X8_init) (As := [.int 4, .int 100]) (b := jnx h) (st := [.ref (jnx h), .ref a]) (dx9 := 1) (mc := 1) (ms := 400) (host := "") rfl t_X8_init ⟨Or.inl q_1_11, i_X8_init, rfl, rfl⟩ rfl (by omega) rfl rfl ⟨by decide, by decide⟩ (tb_init (by decide) (sh_nwe (h := h)) (Nat.ble_eq.mpr (by omega)) (Nat.lt_succ_self _) g2.1 g2.2.1 g2.2.2.1 g2.2.2.2 ?_)
  show jX m_X1_init d 34 24574 189 [(0, .ref a)] [.ref (jnx h), .ref a] (jsr (jnw (jg8 h 12) 100 (jn8 12)) (jnx h) 2 (some (jnx h + 1))) 26 21632 Q
  have g3 : jsh (jsr (jnw (jg8 h 12) 100 (jn8 12)) (jnx h) 2 (some (jnx h + 1))) a = (1, 20) := by
    show jsh (jnw (jg8 h 12) 100 (jn8 12)) a = _
    rw [sh_nwn (show a ≠ jnx (jg8 h 12) from by show a ≠ jnx h + 1; omega)]
    exact ((sh_nwn (by omega) : jsh (jnw h 8 4) a = jsh h a)).trans B.2.2.1
  refine x_putR 1 12 rfl f_1_53 rfl (jfin_in TX1 RX1 20 rfl rfl rfl rfl) (congrArg Prod.fst g3) ha ?_
  exact kk _ (jBd_s B)
set_option maxRecDepth 100000 in
set_option maxHeartbeats 4000000 in
theorem ch_t13 {d a : Nat} {h0 h : jH} {Q : Option Value → jH → Prop} (hd : 2 ≤ d) (ha : Nat.ble 31 a = true) (B : jBd 13 a h0 h) (kk : ∀ h2, jBd 14 a h0 h2 → jX m_X1_init d 34 24574 206 [(0, .ref a)] [] h2 28 21796 Q) : jX m_X1_init d 34 24574 192 [(0, .ref a)] [] h 26 21632 Q := by
  have h31 := Nat.ble_eq.mp ha
  refine x_aloadn (x := a) rfl rfl ?_
  refine x_new 8 4 rfl v_1_9 ⟨by decide, by decide⟩ ?_
  refine x_dup rfl rfl ?_
  refine x_iconst (v := 4) rfl ki_4 ?_
  refine x_bipush (v := 40) rfl kb_40 ?_
  have g1 : jnx h = a + 1 + 2 * 13 := B.1
  have g2 := jwm8 13 (by decide)
  refine x_ins (N := m_X8_init) (As := [.int 4, .int 40]) (b := jnx h) (st := [.ref (jnx h), .ref a]) (dx9 := 1) (mc := 1) (ms := 160) (host := "") rfl t_X8_init ⟨Or.inl q_1_11, i_X8_init, rfl, rfl⟩ rfl (by omega) rfl rfl ⟨by decide, by decide⟩ (tb_init (by decide) (sh_nwe (h := h)) (Nat.ble_eq.mpr (by omega)) (Nat.lt_succ_self _) g2.1 g2.2.1 g2.2.2.1 g2.2.2.2 ?_)
  show jX m_X1_init d 34 24574 203 [(0, .ref a)] [.ref (jnx h), .ref a] (jsr (jnw (jg8 h 13) 100 (jn8 13)) (jnx h) 2 (some (jnx h + 1))) 28 21796 Q
  have g3 : jsh (jsr (jnw (jg8 h 13) 100 (jn8 13)) (jnx h) 2 (some (jnx h + 1))) a = (1, 20) := by
    show jsh (jnw (jg8 h 13) 100 (jn8 13)) a = _
    rw [sh_nwn (show a ≠ jnx (jg8 h 13) from by show a ≠ jnx h + 1; omega)]
    exact ((sh_nwn (by omega) : jsh (jnw h 8 4) a = jsh h a)).trans B.2.2.1
  refine x_putR 1 13 rfl f_1_56 rfl (jfin_in TX1 RX1 20 rfl rfl rfl rfl) (congrArg Prod.fst g3) ha ?_
  exact kk _ (jBd_s B)
set_option maxRecDepth 100000 in
set_option maxHeartbeats 4000000 in
theorem ch_t14 {d a : Nat} {h0 h : jH} {Q : Option Value → jH → Prop} (hd : 2 ≤ d) (ha : Nat.ble 31 a = true) (B : jBd 14 a h0 h) (kk : ∀ h2, jBd 15 a h0 h2 → jX m_X1_init d 34 24574 220 [(0, .ref a)] [] h2 30 22200 Q) : jX m_X1_init d 34 24574 206 [(0, .ref a)] [] h 28 21796 Q := by
  have h31 := Nat.ble_eq.mp ha
  refine x_aloadn (x := a) rfl rfl ?_
  refine x_new 8 4 rfl v_1_9 ⟨by decide, by decide⟩ ?_
  refine x_dup rfl rfl ?_
  refine x_iconst (v := 4) rfl ki_4 ?_
  refine x_bipush (v := 100) rfl kb_100 ?_
  have g1 : jnx h = a + 1 + 2 * 14 := B.1
  have g2 := jwm8 14 (by decide)
  refine x_ins (N := m_X8_init) (As := [.int 4, .int 100]) (b := jnx h) (st := [.ref (jnx h), .ref a]) (dx9 := 1) (mc := 1) (ms := 400) (host := "") rfl t_X8_init ⟨Or.inl q_1_11, i_X8_init, rfl, rfl⟩ rfl (by omega) rfl rfl ⟨by decide, by decide⟩ (tb_init (by decide) (sh_nwe (h := h)) (Nat.ble_eq.mpr (by omega)) (Nat.lt_succ_self _) g2.1 g2.2.1 g2.2.2.1 g2.2.2.2 ?_)
  show jX m_X1_init d 34 24574 217 [(0, .ref a)] [.ref (jnx h), .ref a] (jsr (jnw (jg8 h 14) 100 (jn8 14)) (jnx h) 2 (some (jnx h + 1))) 30 22200 Q
  have g3 : jsh (jsr (jnw (jg8 h 14) 100 (jn8 14)) (jnx h) 2 (some (jnx h + 1))) a = (1, 20) := by
    show jsh (jnw (jg8 h 14) 100 (jn8 14)) a = _
    rw [sh_nwn (show a ≠ jnx (jg8 h 14) from by show a ≠ jnx h + 1; omega)]
    exact ((sh_nwn (by omega) : jsh (jnw h 8 4) a = jsh h a)).trans B.2.2.1
  refine x_putR 1 14 rfl f_1_59 rfl (jfin_in TX1 RX1 20 rfl rfl rfl rfl) (congrArg Prod.fst g3) ha ?_
  exact kk _ (jBd_s B)
set_option maxRecDepth 100000 in
set_option maxHeartbeats 4000000 in
theorem ch_t15 {d a : Nat} {h0 h : jH} {Q : Option Value → jH → Prop} (hd : 2 ≤ d) (ha : Nat.ble 31 a = true) (B : jBd 15 a h0 h) (kk : ∀ h2, jBd 16 a h0 h2 → jX m_X1_init d 34 24574 235 [(0, .ref a)] [] h2 32 22944 Q) : jX m_X1_init d 34 24574 220 [(0, .ref a)] [] h 30 22200 Q := by
  have h31 := Nat.ble_eq.mp ha
  refine x_aloadn (x := a) rfl rfl ?_
  refine x_new 8 4 rfl v_1_9 ⟨by decide, by decide⟩ ?_
  refine x_dup rfl rfl ?_
  refine x_iconst (v := 2) rfl ki_2 ?_
  refine x_sipush (v := 370) rfl ks_370 ?_
  have g1 : jnx h = a + 1 + 2 * 15 := B.1
  have g2 := jwm8 15 (by decide)
  refine x_ins (N := m_X8_init) (As := [.int 2, .int 370]) (b := jnx h) (st := [.ref (jnx h), .ref a]) (dx9 := 1) (mc := 1) (ms := 740) (host := "") rfl t_X8_init ⟨Or.inl q_1_11, i_X8_init, rfl, rfl⟩ rfl (by omega) rfl rfl ⟨by decide, by decide⟩ (tb_init (by decide) (sh_nwe (h := h)) (Nat.ble_eq.mpr (by omega)) (Nat.lt_succ_self _) g2.1 g2.2.1 g2.2.2.1 g2.2.2.2 ?_)
  show jX m_X1_init d 34 24574 232 [(0, .ref a)] [.ref (jnx h), .ref a] (jsr (jnw (jg8 h 15) 100 (jn8 15)) (jnx h) 2 (some (jnx h + 1))) 32 22944 Q
  have g3 : jsh (jsr (jnw (jg8 h 15) 100 (jn8 15)) (jnx h) 2 (some (jnx h + 1))) a = (1, 20) := by
    show jsh (jnw (jg8 h 15) 100 (jn8 15)) a = _
    rw [sh_nwn (show a ≠ jnx (jg8 h 15) from by show a ≠ jnx h + 1; omega)]
    exact ((sh_nwn (by omega) : jsh (jnw h 8 4) a = jsh h a)).trans B.2.2.1
  refine x_putR 1 15 rfl f_1_62 rfl (jfin_in TX1 RX1 20 rfl rfl rfl rfl) (congrArg Prod.fst g3) ha ?_
  exact kk _ (jBd_s B)
set_option maxRecDepth 100000 in
set_option maxHeartbeats 4000000 in
theorem ch_init {d a : Nat} {h0 h : jH} {Q : Option Value → jH → Prop} (hd : 2 ≤ d) (ha : Nat.ble 31 a = true) (B : jBd 0 a h0 h) (hQ : ∀ h2, jCh a h0 h2 → Q none h2) : jC m_X1_init d 34 24574 [.ref a] h Q := by
  have h31 := Nat.ble_eq.mp ha
  refine jC.of rfl k_X1_init rfl ?_
  show jX m_X1_init d 34 24574 0 [(0, .ref a)] [] _ 0 0 _
  refine x_aloadn (x := a) rfl rfl ?_
  refine x_obj rfl ⟨q_1_3, jobj_w⟩ (by omega) rfl ?_
  refine ch_t0 hd ha B (fun h B => ?_)
  refine ch_t1 hd ha B (fun h B => ?_)
  refine ch_t2 hd ha B (fun h B => ?_)
  refine ch_t3 hd ha B (fun h B => ?_)
  refine ch_t4 hd ha B (fun h B => ?_)
  refine ch_t5 hd ha B (fun h B => ?_)
  refine ch_t6 hd ha B (fun h B => ?_)
  refine ch_t7 hd ha B (fun h B => ?_)
  refine ch_t8 hd ha B (fun h B => ?_)
  refine ch_t9 hd ha B (fun h B => ?_)
  refine ch_t10 hd ha B (fun h B => ?_)
  refine ch_t11 hd ha B (fun h B => ?_)
  refine ch_t12 hd ha B (fun h B => ?_)
  refine ch_t13 hd ha B (fun h B => ?_)
  refine ch_t14 hd ha B (fun h B => ?_)
  refine ch_t15 hd ha B (fun h B => ?_)
  refine x_aloadn (x := a) rfl rfl ?_
  refine x_sipush (v := 1600) rfl ks_1600 ?_
  have g1 : jnx h = a + 33 := B.1
  refine y_newa (x := 1600) 101 1600 rfl ⟨rfl, by decide, by decide⟩ jac_long (by decide) (by decide) (by decide) ⟨by decide, by decide⟩ ?_
  refine x_putR 1 16 rfl f_1_65 rfl (jfin_in TX1 RX1 20 rfl rfl rfl rfl) (congrArg Prod.fst ((sh_nwn (h := h) (by omega)).trans B.2.2.1)) ha ?_
  refine x_aloadn (x := a) rfl rfl ?_
  refine x_bipush (v := 30) rfl kb_30 ?_
  refine y_anew (x := 30) 105 30 rfl (by decide) (fun C h => by cases h; exact w_1_69) (by decide) (by decide) (by decide) ⟨by decide, by decide⟩ ?_
  have g3 : jsh (jnw (jsr (jnw h 101 1600) a 16 (some (jnx h))) 105 30) a = (1, 20) := (sh_nwn (h := jhS h a) (by show a ≠ jnx h + 1; omega)).trans ((sh_nwn (h := h) (by omega)).trans B.2.2.1)
  refine x_putR 1 17 rfl f_1_71 rfl (jfin_in TX1 RX1 20 rfl rfl rfl rfl) (congrArg Prod.fst g3) ha ?_
  refine x_aloadn (x := a) rfl rfl ?_
  refine x_iconst (v := 0) rfl ki_0 ?_
  refine x_putI 1 18 rfl f_1_75 rfl (jfin_no TX1 RX1 20 rfl rfl) (congrArg Prod.fst g3) ha ?_
  refine x_aloadn (x := a) rfl rfl ?_
  refine x_iconst (v := 1) rfl ki_1 ?_
  refine x_putI 1 19 rfl f_1_79 rfl (jfin_no TX1 RX1 20 rfl rfl) (congrArg Prod.fst g3) ha ?_
  exact x_vret rfl rfl (hQ _ (jCh_of B))
/-- Table.copyFrom -/
theorem tb_copy {d x y cx cy N : Nat} {h : jH} {w r : Int32} {m : Int} {Q : Option Value → jH → Prop} (hd : 1 ≤ d) (sx : jsh h x = (8, 4)) (sy : jsh h y = (8, 4)) (rx : jrv h x 2 = some cx) (ry : jrv h y 2 = some cy) (tx : jsh h cx = (100, N)) (ty : jsh h cy = (100, N)) (hx : Nat.ble 31 x = true) (hcx : Nat.ble 31 cx = true) (hcy : Nat.ble 31 cy = true) (qw : jiv h y 0 = w) (qr : jiv h y 3 = r) (hw : 1 ≤ w.toInt ∧ w.toInt ≤ 20) (hr : 0 ≤ r.toInt ∧ r.toInt ≤ m) (hN : w.toInt * m = (N : Int)) (hN2 : N ≤ 20000) (hQ : Q none (jsi (jci h cy cx 0 0 (w.toInt * r.toInt).toNat) x 3 r)) : jC m_X8_copyFrom d 0 0 [.ref x, .ref y] h Q := by
  have e0 : 0 ≤ r.toInt * w.toInt := Int.mul_nonneg hr.1 (by omega)
  have e1 : r.toInt * w.toInt ≤ (N : Int) := by
    rw [← hN, Int.mul_comm w.toInt m]
    exact Int.mul_le_mul_of_nonneg_right hr.2 (by omega)
  have ec : w.toInt * r.toInt = r.toInt * w.toInt := Int.mul_comm _ _
  have nN : (nI N).toInt = (N : Int) := by
    have h1 : (nI N).toNatClampNeg = N := nI_clamp (by omega)
    have h2 := jnn (nI_pos (n := N) (by omega))
    rw [h1] at h2
    exact h2
  refine jC.of rfl k_X8_copyFrom rfl ?_
  show jX m_X8_copyFrom d 0 0 0 [(0, .ref x), (1, .ref y)] [] _ 0 0 _
  refine x_aloadn (x := y) rfl rfl ?_
  refine y_getI (v := r) 8 3 rfl f_8_7 rfl (congrArg Prod.fst sy) qr ?_
  refine x_aloadn (x := y) rfl rfl ?_
  refine y_getI (v := w) 8 0 rfl f_8_19 rfl (congrArg Prod.fst sy) qw ?_
  refine z_imul rfl rfl rfl (by omega) (fun v1 ev1 => ?_)
  refine x_istoren (lsx9 := [(2, .int v1), (0, .ref x), (1, .ref y)]) rfl rfl rfl ?_
  refine x_iloadn (x := v1) rfl rfl ?_
  refine x_iflt (tgt := 54) rfl rfl (ti_lt rfl jk_0 (br_f (by omega) ?_))
  refine x_iloadn (x := v1) rfl rfl ?_
  refine x_aloadn (x := x) rfl rfl ?_
  refine x_getR (b := cx) 8 2 rfl f_8_25 rfl (congrArg Prod.fst sx) rx ?_
  refine x_alen rfl tx (by decide) ?_
  refine x_icgt (tgt := 54) rfl rfl (ti_gt rfl nN (br_f (by omega) ?_))
  refine x_iloadn (x := v1) rfl rfl ?_
  refine x_aloadn (x := y) rfl rfl ?_
  refine x_getR (b := cy) 8 2 rfl f_8_25 rfl (congrArg Prod.fst sy) ry ?_
  refine x_alen rfl ty (by decide) ?_
  refine x_icgt (tgt := 54) rfl rfl (ti_gt rfl nN (br_f (by omega) ?_))
  refine x_aloadn (x := y) rfl rfl ?_
  refine x_getR (b := cy) 8 2 rfl f_8_25 rfl (congrArg Prod.fst sy) ry ?_
  refine x_iconst (v := 0) rfl ki_0 ?_
  refine x_aloadn (x := x) rfl rfl ?_
  refine x_getR (b := cx) 8 2 rfl f_8_25 rfl (congrArg Prod.fst sx) rx ?_
  refine x_iconst (v := 0) rfl ki_0 ?_
  refine x_iloadn (x := v1) rfl rfl ?_
  have ev2 := jcl_of (d := v1) (by omega)
  refine y_cpi (N1 := N) (N2 := N) 0 0 (w.toInt * r.toInt).toNat rfl ⟨q_8_33, jcp_w⟩ hd rfl hcy hcx ty tx (by decide) (by decide) (jnneg (by omega)) (by decide) (by decide) (by omega) (by omega) (by omega) ?_
  refine x_aloadn (x := x) rfl rfl ?_
  refine x_aloadn (x := y) rfl rfl ?_
  have ny : y ≠ cx := fun z => by rw [z, tx] at sy; cases sy
  refine y_getI (v := r) 8 3 rfl f_8_7 rfl (congrArg Prod.fst sy) (iv_ci (jbne ny) qr) ?_
  refine x_putI 8 3 rfl f_8_7 rfl (jfin_no TX8 RX8 4 rfl rfl) (congrArg Prod.fst sx) hx ?_
  exact x_vret rfl rfl hQ
/-- how a chest lies -/
def jBk (h : jH) (a : Nat) : Prop := (∀ f, f < 16 → jsh h (a + 1 + 2 * f) = (8, 4) ∧ jsh h (a + 2 + 2 * f) = (100, jn8 f) ∧ jrv h a f = some (a + 1 + 2 * f) ∧ jrv h (a + 1 + 2 * f) 2 = some (a + 2 + 2 * f) ∧ jiv h (a + 1 + 2 * f) 0 = jw8 f ∧ 0 ≤ (jiv h (a + 1 + 2 * f) 3).toInt ∧ (jiv h (a + 1 + 2 * f) 3).toInt ≤ (jm8 f).toInt) ∧ jsh h a = (1, 20) ∧ jsh h (a + 33) = (101, 1600) ∧ jsh h (a + 34) = (105, 30) ∧ jrv h a 16 = some (a + 33) ∧ jrv h a 17 = some (a + 34) ∧ ∀ t b, t < 30 → jrv h (a + 34) t = some b → (jsh h b).1 = 10
/-- the first n tables copied from Y to X -/
def ju8 (h : jH) (Y f : Nat) : Nat := ((jw8 f).toInt * (jiv h (Y + 1 + 2 * f) 3).toInt).toNat
def jCq (n X Y : Nat) (h0 h : jH) : Prop := jnx h = jnx h0 ∧ (∀ b, jsh h b = jsh h0 b) ∧ (∀ b k, jrv h b k = jrv h0 b k) ∧ (∀ b k, jlv h b k = jlv h0 b k) ∧ (∀ b, (b ≤ X ∨ X + 2 * n < b) → ∀ k, jiv h b k = jiv h0 b k) ∧ ∀ f, f < n → jiv h (X + 1 + 2 * f) 3 = jiv h0 (Y + 1 + 2 * f) 3 ∧ (∀ k, k ≠ 3 → jiv h (X + 1 + 2 * f) k = jiv h0 (X + 1 + 2 * f) k) ∧ ∀ k, jiv h (X + 2 + 2 * f) k = if k < ju8 h0 Y f then jiv h0 (Y + 2 + 2 * f) k else jiv h0 (X + 2 + 2 * f) k
theorem jCq_0 {X Y : Nat} {h : jH} : jCq 0 X Y h h := ⟨rfl, fun _ => rfl, fun _ _ => rfl, fun _ _ => rfl, fun _ _ _ => rfl, fun f hf => by omega⟩
theorem jCq_s {n X Y : Nat} {h0 h : jH} {r : Int32} (C : jCq n X Y h0 h) (hn : n < 16) (dis : X + 35 ≤ Y ∨ Y + 35 ≤ X) (hr : r = jiv h0 (Y + 1 + 2 * n) 3) : jCq (n + 1) X Y h0 (jsi (jci h (Y + 2 + 2 * n) (X + 2 + 2 * n) 0 0 ((jw8 n).toInt * r.toInt).toNat) (X + 1 + 2 * n) 3 r) := by
  obtain ⟨c1, c2, c3, c4, c5, c6⟩ := C
  have o : ∀ b, b ≠ X + 1 + 2 * n → b ≠ X + 2 + 2 * n → ∀ k, jiv (jsi (jci h (Y + 2 + 2 * n) (X + 2 + 2 * n) 0 0 ((jw8 n).toInt * r.toInt).toNat) (X + 1 + 2 * n) 3 r) b k = jiv h b k := fun b e1 e2 k => (iv_sn e1).trans (iv_ci (jbne e2) rfl)
  refine ⟨c1, c2, c3, c4, fun b hb k => (o b (by omega) (by omega) k).trans (c5 b (by omega) k), fun f hf => ?_⟩
  by_cases z : f = n
  · subst z
    refine ⟨iv_eq.trans hr, fun k hk => ?_, fun k => ?_⟩
    · refine (iv_sk (jbne hk) rfl).trans ((iv_ci (jbne (by omega)) rfl).trans (c5 _ (by omega) k))
    · refine (iv_sn (by omega)).trans ?_
      unfold ju8
      rw [← hr]
      by_cases y : k < ((jw8 f).toInt * r.toInt).toNat
      · rw [if_pos y]
        refine iv_cin (by rw [Nat.ble_eq.mpr (Nat.zero_le _), Nat.blt_eq.mpr (by omega)]; rfl) ?_
        rw [Nat.zero_add, Nat.sub_zero]
        exact c5 _ (by omega) k
      · rw [if_neg y]
        refine iv_cio ?_ (c5 _ (by omega) k)
        cases q : Nat.blt k (0 + ((jw8 f).toInt * r.toInt).toNat)
        · rw [Bool.and_false]
        · have := Nat.blt_eq.mp q
          omega
  · obtain ⟨d1, d2, d3⟩ := c6 f (by omega)
    exact ⟨(o _ (by omega) (by omega) _).trans d1, fun k hk => (o _ (by omega) (by omega) _).trans (d2 k hk), fun k => (o _ (by omega) (by omega) _).trans (d3 k)⟩
theorem jCq_y {n X Y : Nat} {h0 h : jH} (C : jCq n X Y h0 h) (hn : n ≤ 16) (dis : X + 35 ≤ Y ∨ Y + 35 ≤ X) (f : Nat) (hf : f < 16) (k : Nat) : jiv h (Y + 1 + 2 * f) k = jiv h0 (Y + 1 + 2 * f) k := C.2.2.2.2.1 _ (by omega) k
/-- the whole chest copied from Y to X -/
def jCd (X Y : Nat) (h0 h : jH) : Prop := jnx h = jnx h0 ∧ (∀ b, jsh h b = jsh h0 b) ∧ (∀ b k, b ≠ X + 34 → jrv h b k = jrv h0 b k) ∧ (∀ t, t < 30 → jrv h (X + 34) t = jrv h0 (Y + 34) t) ∧ (∀ t, 30 ≤ t → jrv h (X + 34) t = jrv h0 (X + 34) t) ∧ (∀ b k, b ≠ X + 33 → jlv h b k = jlv h0 b k) ∧ (∀ k, jlv h (X + 33) k = if k < 1600 then jlv h0 (Y + 33) k else jlv h0 (X + 33) k) ∧ (∀ b, (b < X ∨ X + 33 ≤ b) → ∀ k, jiv h b k = jiv h0 b k) ∧ jiv h X 18 = jiv h0 Y 18 ∧ (∀ k, k ≠ 18 → jiv h X k = jiv h0 X k) ∧ ∀ f, f < 16 → jiv h (X + 1 + 2 * f) 3 = jiv h0 (Y + 1 + 2 * f) 3 ∧ (∀ k, k ≠ 3 → jiv h (X + 1 + 2 * f) k = jiv h0 (X + 1 + 2 * f) k) ∧ ∀ k, jiv h (X + 2 + 2 * f) k = if k < ju8 h0 Y f then jiv h0 (Y + 2 + 2 * f) k else jiv h0 (X + 2 + 2 * f) k
/-- behind the seals: j of the TEXTS copied -/
def jCt (j X Y : Nat) (h0 h : jH) : Prop := jnx h = jnx h0 ∧ (∀ b, jsh h b = jsh h0 b) ∧ (∀ b k, b ≠ X + 34 → jrv h b k = jrv h0 b k) ∧ (∀ t, t < j → jrv h (X + 34) t = jrv h0 (Y + 34) t) ∧ (∀ t, j ≤ t → jrv h (X + 34) t = jrv h0 (X + 34) t) ∧ (∀ b k, b ≠ X + 33 → jlv h b k = jlv h0 b k) ∧ (∀ k, jlv h (X + 33) k = if k < 1600 then jlv h0 (Y + 33) k else jlv h0 (X + 33) k) ∧ (∀ b, (b ≤ X ∨ X + 33 ≤ b) → ∀ k, jiv h b k = jiv h0 b k) ∧ ∀ f, f < 16 → jiv h (X + 1 + 2 * f) 3 = jiv h0 (Y + 1 + 2 * f) 3 ∧ (∀ k, k ≠ 3 → jiv h (X + 1 + 2 * f) k = jiv h0 (X + 1 + 2 * f) k) ∧ ∀ k, jiv h (X + 2 + 2 * f) k = if k < ju8 h0 Y f then jiv h0 (Y + 2 + 2 * f) k else jiv h0 (X + 2 + 2 * f) k
theorem jCt_0 {X Y : Nat} {h0 h : jH} (C : jCq 16 X Y h0 h) (dis : X + 35 ≤ Y ∨ Y + 35 ≤ X) : jCt 0 X Y h0 (jcl h (Y + 33) (X + 33) 0 0 1600) := by
  obtain ⟨c1, c2, c3, c4, c5, c6⟩ := C
  refine ⟨c1, c2, fun b k _ => c3 b k, fun t ht => by omega, fun t _ => c3 _ _, fun b k e => (lv_cl (jbne e) rfl).trans (c4 b k), fun k => ?_, fun b hb k => c5 b (by omega) k, c6⟩
  by_cases z : k < 1600
  · rw [if_pos z]
    refine lv_cln (by rw [Nat.ble_eq.mpr (Nat.zero_le _), Nat.blt_eq.mpr (by omega)]; rfl) ?_
    rw [Nat.zero_add, Nat.sub_zero]
    exact c4 _ k
  · rw [if_neg z]
    refine lv_clo ?_ (c4 _ k)
    cases q : Nat.blt k (0 + 1600)
    · rw [Bool.and_false]
    · have := Nat.blt_eq.mp q
      omega
theorem jCt_s {j X Y : Nat} {h0 h : jH} {v : Option Nat} (C : jCt j X Y h0 h) (hv : v = jrv h0 (Y + 34) j) : jCt (j + 1) X Y h0 (jsr h (X + 34) j v) := by
  obtain ⟨c1, c2, c3, c4, c5, c6, c7, c8, c9⟩ := C
  refine ⟨c1, c2, fun b k e => (rv_sn e).trans (c3 b k e), fun t ht => ?_, fun t ht => (rv_sk (by omega)).trans (c5 t (by omega)), c6, c7, c8, c9⟩
  by_cases z : t = j
  · rw [z]; exact rv_eq.trans hv
  · exact (rv_sk z).trans (c4 t (by omega))
theorem jCd_of {X Y : Nat} {h0 h : jH} {v : Int32} (C : jCt 30 X Y h0 h) (hv : v = jiv h0 Y 18) : jCd X Y h0 (jsi h X 18 v) := by
  obtain ⟨c1, c2, c3, c4, c5, c6, c7, c8, c9⟩ := C
  refine ⟨c1, c2, c3, c4, c5, c6, c7, fun b hb k => (iv_sn (by omega)).trans (c8 b (by omega) k), iv_eq.trans hv, fun k hk => (iv_sk (jbne hk) rfl).trans (c8 _ (by omega) k), fun f hf => ?_⟩
  obtain ⟨d1, d2, d3⟩ := c9 f hf
  exact ⟨(iv_sn (by omega)).trans d1, fun k hk => (iv_sn (by omega)).trans (d2 k hk), fun k => (iv_sn (by omega)).trans (d3 k)⟩
set_option maxRecDepth 100000 in
set_option maxHeartbeats 4000000 in
theorem ch_196 {d X Y : Nat} {h0 : jH} {Q : Option Value → jH → Prop} (BX : jBk h0 X) (BY : jBk h0 Y) (hX : 31 ≤ X) (dis : X + 35 ≤ Y ∨ Y + 35 ≤ X) (hQ : ∀ h2, jCd X Y h0 h2 → Q none h2) : ∀ r : Nat, ∀ (l2 : Int32) (h : jH), 30 - l2.toInt < (r : Int) → 0 ≤ l2.toInt ∧ l2.toInt ≤ 30 → jCt l2.toNatClampNeg X Y h0 h → jX m_X1_copyFrom d 0 0 196 [(0, .ref X), (1, .ref Y), (2, .int l2)] [] h 0 0 Q := by
  intro r
  induction r with
  | zero => intro l2 h hm; intros; exfalso; omega
  | succ r ih =>
    intro l2 h hm y1 C
    have k2 := jcl_of y1.1
    have bX : Nat.ble 31 X = true := Nat.ble_eq.mpr hX
    have b34 : Nat.ble 31 (X + 34) = true := Nat.ble_eq.mpr (by omega)
    have sX : jsh h X = (1, 20) := (C.2.1 X).trans BX.2.1
    have sY : jsh h Y = (1, 20) := (C.2.1 Y).trans BY.2.1
    refine x_iloadn (x := l2) rfl rfl ?_
    refine x_bipush (v := 30) rfl kb_30 ?_
    refine x_icge (tgt := 220) rfl rfl (ti_ge rfl jk_30 ⟨fun c1 => ?_, fun c1 => ?_⟩)
    · have e30 : l2.toNatClampNeg = 30 := by omega
      rw [e30] at C
      refine x_aloadn (x := X) rfl rfl ?_
      refine x_aloadn (x := Y) rfl rfl ?_
      refine x_getI 1 18 rfl f_1_75 rfl (congrArg Prod.fst sY) ?_
      refine x_putI 1 18 rfl f_1_75 rfl (jfin_no TX1 RX1 20 rfl rfl) (congrArg Prod.fst sX) bX ?_
      exact x_vret rfl rfl (hQ _ (jCd_of C (C.2.2.2.2.2.2.2.1 Y (by omega) 18)))
    · refine x_aloadn (x := X) rfl rfl ?_
      refine x_getR (b := X + 34) 1 17 rfl f_1_71 rfl (congrArg Prod.fst sX) ((C.2.2.1 X 17 (by omega)).trans BX.2.2.2.2.2.1) ?_
      refine x_iloadn (x := l2) rfl rfl ?_
      refine x_aloadn (x := Y) rfl rfl ?_
      refine x_getR (b := Y + 34) 1 17 rfl f_1_71 rfl (congrArg Prod.fst sY) ((C.2.2.1 Y 17 (by omega)).trans BY.2.2.2.2.2.1) ?_
      refine x_iloadn (x := l2) rfl rfl ?_
      have s34 : jsh h (X + 34) = (105, 30) := (C.2.1 _).trans BX.2.2.2.1
      have t34 : jsh h (Y + 34) = (105, 30) := (C.2.1 _).trans BY.2.2.2.1
      refine x_aald (N := 30) rfl t34 (by decide) (vpi (by omega)) ⟨fun q => ?_, fun b q => ?_⟩
      · refine x_aastN (N := 30) rfl s34 (by decide) b34 (vpi (by omega)) ?_
        refine z_iinc (x := l2) (lsx9 := fun v7 => [(2, .int v7), (0, .ref X), (1, .ref Y)]) rfl rfl rfl jko_1 (by omega) rfl (fun _ => rfl) (fun v7 ev7 => ?_)
        refine x_goto (tgt := 196) rfl rfl ?_
        exact jX.sub (jsb_c rfl (jsb_c rfl (jsb_c rfl jsb_n))) (ih v7 _ (by omega) (by omega) (by rw [jcl_s (v := v7) (l := l2) (by omega)]; exact jCt_s C (q.symm.trans (C.2.2.1 _ _ (by omega)))))
      · have q0 : jrv h0 (Y + 34) l2.toNatClampNeg = some b := (C.2.2.1 _ _ (by omega)).symm.trans q
        refine x_aast (N := 30) rfl s34 (by decide) b34 ((congrArg Prod.fst (C.2.1 b)).trans (BY.2.2.2.2.2.2 _ _ (by omega) q0)) (vpi (by omega)) ?_
        refine z_iinc (x := l2) (lsx9 := fun v7 => [(2, .int v7), (0, .ref X), (1, .ref Y)]) rfl rfl rfl jko_1 (by omega) rfl (fun _ => rfl) (fun v7 ev7 => ?_)
        refine x_goto (tgt := 196) rfl rfl ?_
        exact jX.sub (jsb_c rfl (jsb_c rfl (jsb_c rfl jsb_n))) (ih v7 _ (by omega) (by omega) (by rw [jcl_s (v := v7) (l := l2) (by omega)]; exact jCt_s C q0.symm))
set_option maxRecDepth 100000 in
set_option maxHeartbeats 4000000 in
theorem ch_c0 {d X Y : Nat} {h0 h : jH} {Q : Option Value → jH → Prop} (hd : 2 ≤ d) (BX : jBk h0 X) (BY : jBk h0 Y) (hX : 31 ≤ X) (hY : 31 ≤ Y) (dis : X + 35 ≤ Y ∨ Y + 35 ≤ X) (C : jCq 0 X Y h0 h) (kk : ∀ h2, jCq 1 X Y h0 h2 → jX m_X1_copyFrom d 0 0 11 [(0, .ref X), (1, .ref Y)] [] h2 0 0 Q) : jX m_X1_copyFrom d 0 0 0 [(0, .ref X), (1, .ref Y)] [] h 0 0 Q := by
  refine x_aloadn (x := X) rfl rfl ?_
  have P := BX.1 0 (by decide)
  have R := BY.1 0 (by decide)
  have G := jwm8 0 (by decide)
  refine x_getR (b := X + 1 + 2 * 0) 1 0 rfl f_1_14 rfl (congrArg Prod.fst ((C.2.1 X).trans BX.2.1)) ((C.2.2.1 _ _).trans P.2.2.1) ?_
  refine x_aloadn (x := Y) rfl rfl ?_
  refine x_getR (b := Y + 1 + 2 * 0) 1 0 rfl f_1_14 rfl (congrArg Prod.fst ((C.2.1 Y).trans BY.2.1)) ((C.2.2.1 _ _).trans R.2.2.1) ?_
  refine x_inv (N := m_X8_copyFrom) (As := [.ref (Y + 1 + 2 * 0)]) (b := X + 1 + 2 * 0) (st := []) (dx9 := 1) (mc := 0) (ms := 0) (host := "") 8 rfl t_X8_copyFrom ⟨Or.inl q_1_82, i_X8_copyFrom.1, i_X8_copyFrom.2⟩ ⟨by decide, rfl⟩ (congrArg Prod.fst ((C.2.1 _).trans P.1)) rfl (by omega) rfl rfl ⟨by decide, by decide⟩ (tb_copy (by decide) ((C.2.1 _).trans P.1) ((C.2.1 _).trans R.1) ((C.2.2.1 _ _).trans P.2.2.2.1) ((C.2.2.1 _ _).trans R.2.2.2.1) ((C.2.1 _).trans P.2.1) ((C.2.1 _).trans R.2.1) (Nat.ble_eq.mpr (by omega)) (Nat.ble_eq.mpr (by omega)) (Nat.ble_eq.mpr (by omega)) ((jCq_y C (by decide) dis 0 (by decide) 0).trans R.2.2.2.2.1) (jCq_y C (by decide) dis 0 (by decide) 3) G.1 R.2.2.2.2.2 G.2.2.1 G.2.2.2 ?_)
  exact kk _ (jCq_s C (by decide) dis rfl)
set_option maxRecDepth 100000 in
set_option maxHeartbeats 4000000 in
theorem ch_c1 {d X Y : Nat} {h0 h : jH} {Q : Option Value → jH → Prop} (hd : 2 ≤ d) (BX : jBk h0 X) (BY : jBk h0 Y) (hX : 31 ≤ X) (hY : 31 ≤ Y) (dis : X + 35 ≤ Y ∨ Y + 35 ≤ X) (C : jCq 1 X Y h0 h) (kk : ∀ h2, jCq 2 X Y h0 h2 → jX m_X1_copyFrom d 0 0 22 [(0, .ref X), (1, .ref Y)] [] h2 0 0 Q) : jX m_X1_copyFrom d 0 0 11 [(0, .ref X), (1, .ref Y)] [] h 0 0 Q := by
  refine x_aloadn (x := X) rfl rfl ?_
  have P := BX.1 1 (by decide)
  have R := BY.1 1 (by decide)
  have G := jwm8 1 (by decide)
  refine x_getR (b := X + 1 + 2 * 1) 1 1 rfl f_1_20 rfl (congrArg Prod.fst ((C.2.1 X).trans BX.2.1)) ((C.2.2.1 _ _).trans P.2.2.1) ?_
  refine x_aloadn (x := Y) rfl rfl ?_
  refine x_getR (b := Y + 1 + 2 * 1) 1 1 rfl f_1_20 rfl (congrArg Prod.fst ((C.2.1 Y).trans BY.2.1)) ((C.2.2.1 _ _).trans R.2.2.1) ?_
  refine x_inv (N := m_X8_copyFrom) (As := [.ref (Y + 1 + 2 * 1)]) (b := X + 1 + 2 * 1) (st := []) (dx9 := 1) (mc := 0) (ms := 0) (host := "") 8 rfl t_X8_copyFrom ⟨Or.inl q_1_82, i_X8_copyFrom.1, i_X8_copyFrom.2⟩ ⟨by decide, rfl⟩ (congrArg Prod.fst ((C.2.1 _).trans P.1)) rfl (by omega) rfl rfl ⟨by decide, by decide⟩ (tb_copy (by decide) ((C.2.1 _).trans P.1) ((C.2.1 _).trans R.1) ((C.2.2.1 _ _).trans P.2.2.2.1) ((C.2.2.1 _ _).trans R.2.2.2.1) ((C.2.1 _).trans P.2.1) ((C.2.1 _).trans R.2.1) (Nat.ble_eq.mpr (by omega)) (Nat.ble_eq.mpr (by omega)) (Nat.ble_eq.mpr (by omega)) ((jCq_y C (by decide) dis 1 (by decide) 0).trans R.2.2.2.2.1) (jCq_y C (by decide) dis 1 (by decide) 3) G.1 R.2.2.2.2.2 G.2.2.1 G.2.2.2 ?_)
  exact kk _ (jCq_s C (by decide) dis rfl)
set_option maxRecDepth 100000 in
set_option maxHeartbeats 4000000 in
theorem ch_c2 {d X Y : Nat} {h0 h : jH} {Q : Option Value → jH → Prop} (hd : 2 ≤ d) (BX : jBk h0 X) (BY : jBk h0 Y) (hX : 31 ≤ X) (hY : 31 ≤ Y) (dis : X + 35 ≤ Y ∨ Y + 35 ≤ X) (C : jCq 2 X Y h0 h) (kk : ∀ h2, jCq 3 X Y h0 h2 → jX m_X1_copyFrom d 0 0 33 [(0, .ref X), (1, .ref Y)] [] h2 0 0 Q) : jX m_X1_copyFrom d 0 0 22 [(0, .ref X), (1, .ref Y)] [] h 0 0 Q := by
  refine x_aloadn (x := X) rfl rfl ?_
  have P := BX.1 2 (by decide)
  have R := BY.1 2 (by decide)
  have G := jwm8 2 (by decide)
  refine x_getR (b := X + 1 + 2 * 2) 1 2 rfl f_1_23 rfl (congrArg Prod.fst ((C.2.1 X).trans BX.2.1)) ((C.2.2.1 _ _).trans P.2.2.1) ?_
  refine x_aloadn (x := Y) rfl rfl ?_
  refine x_getR (b := Y + 1 + 2 * 2) 1 2 rfl f_1_23 rfl (congrArg Prod.fst ((C.2.1 Y).trans BY.2.1)) ((C.2.2.1 _ _).trans R.2.2.1) ?_
  refine x_inv (N := m_X8_copyFrom) (As := [.ref (Y + 1 + 2 * 2)]) (b := X + 1 + 2 * 2) (st := []) (dx9 := 1) (mc := 0) (ms := 0) (host := "") 8 rfl t_X8_copyFrom ⟨Or.inl q_1_82, i_X8_copyFrom.1, i_X8_copyFrom.2⟩ ⟨by decide, rfl⟩ (congrArg Prod.fst ((C.2.1 _).trans P.1)) rfl (by omega) rfl rfl ⟨by decide, by decide⟩ (tb_copy (by decide) ((C.2.1 _).trans P.1) ((C.2.1 _).trans R.1) ((C.2.2.1 _ _).trans P.2.2.2.1) ((C.2.2.1 _ _).trans R.2.2.2.1) ((C.2.1 _).trans P.2.1) ((C.2.1 _).trans R.2.1) (Nat.ble_eq.mpr (by omega)) (Nat.ble_eq.mpr (by omega)) (Nat.ble_eq.mpr (by omega)) ((jCq_y C (by decide) dis 2 (by decide) 0).trans R.2.2.2.2.1) (jCq_y C (by decide) dis 2 (by decide) 3) G.1 R.2.2.2.2.2 G.2.2.1 G.2.2.2 ?_)
  exact kk _ (jCq_s C (by decide) dis rfl)
set_option maxRecDepth 100000 in
set_option maxHeartbeats 4000000 in
theorem ch_c3 {d X Y : Nat} {h0 h : jH} {Q : Option Value → jH → Prop} (hd : 2 ≤ d) (BX : jBk h0 X) (BY : jBk h0 Y) (hX : 31 ≤ X) (hY : 31 ≤ Y) (dis : X + 35 ≤ Y ∨ Y + 35 ≤ X) (C : jCq 3 X Y h0 h) (kk : ∀ h2, jCq 4 X Y h0 h2 → jX m_X1_copyFrom d 0 0 44 [(0, .ref X), (1, .ref Y)] [] h2 0 0 Q) : jX m_X1_copyFrom d 0 0 33 [(0, .ref X), (1, .ref Y)] [] h 0 0 Q := by
  refine x_aloadn (x := X) rfl rfl ?_
  have P := BX.1 3 (by decide)
  have R := BY.1 3 (by decide)
  have G := jwm8 3 (by decide)
  refine x_getR (b := X + 1 + 2 * 3) 1 3 rfl f_1_26 rfl (congrArg Prod.fst ((C.2.1 X).trans BX.2.1)) ((C.2.2.1 _ _).trans P.2.2.1) ?_
  refine x_aloadn (x := Y) rfl rfl ?_
  refine x_getR (b := Y + 1 + 2 * 3) 1 3 rfl f_1_26 rfl (congrArg Prod.fst ((C.2.1 Y).trans BY.2.1)) ((C.2.2.1 _ _).trans R.2.2.1) ?_
  refine x_inv (N := m_X8_copyFrom) (As := [.ref (Y + 1 + 2 * 3)]) (b := X + 1 + 2 * 3) (st := []) (dx9 := 1) (mc := 0) (ms := 0) (host := "") 8 rfl t_X8_copyFrom ⟨Or.inl q_1_82, i_X8_copyFrom.1, i_X8_copyFrom.2⟩ ⟨by decide, rfl⟩ (congrArg Prod.fst ((C.2.1 _).trans P.1)) rfl (by omega) rfl rfl ⟨by decide, by decide⟩ (tb_copy (by decide) ((C.2.1 _).trans P.1) ((C.2.1 _).trans R.1) ((C.2.2.1 _ _).trans P.2.2.2.1) ((C.2.2.1 _ _).trans R.2.2.2.1) ((C.2.1 _).trans P.2.1) ((C.2.1 _).trans R.2.1) (Nat.ble_eq.mpr (by omega)) (Nat.ble_eq.mpr (by omega)) (Nat.ble_eq.mpr (by omega)) ((jCq_y C (by decide) dis 3 (by decide) 0).trans R.2.2.2.2.1) (jCq_y C (by decide) dis 3 (by decide) 3) G.1 R.2.2.2.2.2 G.2.2.1 G.2.2.2 ?_)
  exact kk _ (jCq_s C (by decide) dis rfl)
set_option maxRecDepth 100000 in
set_option maxHeartbeats 4000000 in
theorem ch_c4 {d X Y : Nat} {h0 h : jH} {Q : Option Value → jH → Prop} (hd : 2 ≤ d) (BX : jBk h0 X) (BY : jBk h0 Y) (hX : 31 ≤ X) (hY : 31 ≤ Y) (dis : X + 35 ≤ Y ∨ Y + 35 ≤ X) (C : jCq 4 X Y h0 h) (kk : ∀ h2, jCq 5 X Y h0 h2 → jX m_X1_copyFrom d 0 0 55 [(0, .ref X), (1, .ref Y)] [] h2 0 0 Q) : jX m_X1_copyFrom d 0 0 44 [(0, .ref X), (1, .ref Y)] [] h 0 0 Q := by
  refine x_aloadn (x := X) rfl rfl ?_
  have P := BX.1 4 (by decide)
  have R := BY.1 4 (by decide)
  have G := jwm8 4 (by decide)
  refine x_getR (b := X + 1 + 2 * 4) 1 4 rfl f_1_29 rfl (congrArg Prod.fst ((C.2.1 X).trans BX.2.1)) ((C.2.2.1 _ _).trans P.2.2.1) ?_
  refine x_aloadn (x := Y) rfl rfl ?_
  refine x_getR (b := Y + 1 + 2 * 4) 1 4 rfl f_1_29 rfl (congrArg Prod.fst ((C.2.1 Y).trans BY.2.1)) ((C.2.2.1 _ _).trans R.2.2.1) ?_
  refine x_inv (N := m_X8_copyFrom) (As := [.ref (Y + 1 + 2 * 4)]) (b := X + 1 + 2 * 4) (st := []) (dx9 := 1) (mc := 0) (ms := 0) (host := "") 8 rfl t_X8_copyFrom ⟨Or.inl q_1_82, i_X8_copyFrom.1, i_X8_copyFrom.2⟩ ⟨by decide, rfl⟩ (congrArg Prod.fst ((C.2.1 _).trans P.1)) rfl (by omega) rfl rfl ⟨by decide, by decide⟩ (tb_copy (by decide) ((C.2.1 _).trans P.1) ((C.2.1 _).trans R.1) ((C.2.2.1 _ _).trans P.2.2.2.1) ((C.2.2.1 _ _).trans R.2.2.2.1) ((C.2.1 _).trans P.2.1) ((C.2.1 _).trans R.2.1) (Nat.ble_eq.mpr (by omega)) (Nat.ble_eq.mpr (by omega)) (Nat.ble_eq.mpr (by omega)) ((jCq_y C (by decide) dis 4 (by decide) 0).trans R.2.2.2.2.1) (jCq_y C (by decide) dis 4 (by decide) 3) G.1 R.2.2.2.2.2 G.2.2.1 G.2.2.2 ?_)
  exact kk _ (jCq_s C (by decide) dis rfl)
set_option maxRecDepth 100000 in
set_option maxHeartbeats 4000000 in
theorem ch_c5 {d X Y : Nat} {h0 h : jH} {Q : Option Value → jH → Prop} (hd : 2 ≤ d) (BX : jBk h0 X) (BY : jBk h0 Y) (hX : 31 ≤ X) (hY : 31 ≤ Y) (dis : X + 35 ≤ Y ∨ Y + 35 ≤ X) (C : jCq 5 X Y h0 h) (kk : ∀ h2, jCq 6 X Y h0 h2 → jX m_X1_copyFrom d 0 0 66 [(0, .ref X), (1, .ref Y)] [] h2 0 0 Q) : jX m_X1_copyFrom d 0 0 55 [(0, .ref X), (1, .ref Y)] [] h 0 0 Q := by
  refine x_aloadn (x := X) rfl rfl ?_
  have P := BX.1 5 (by decide)
  have R := BY.1 5 (by decide)
  have G := jwm8 5 (by decide)
  refine x_getR (b := X + 1 + 2 * 5) 1 5 rfl f_1_32 rfl (congrArg Prod.fst ((C.2.1 X).trans BX.2.1)) ((C.2.2.1 _ _).trans P.2.2.1) ?_
  refine x_aloadn (x := Y) rfl rfl ?_
  refine x_getR (b := Y + 1 + 2 * 5) 1 5 rfl f_1_32 rfl (congrArg Prod.fst ((C.2.1 Y).trans BY.2.1)) ((C.2.2.1 _ _).trans R.2.2.1) ?_
  refine x_inv (N := m_X8_copyFrom) (As := [.ref (Y + 1 + 2 * 5)]) (b := X + 1 + 2 * 5) (st := []) (dx9 := 1) (mc := 0) (ms := 0) (host := "") 8 rfl t_X8_copyFrom ⟨Or.inl q_1_82, i_X8_copyFrom.1, i_X8_copyFrom.2⟩ ⟨by decide, rfl⟩ (congrArg Prod.fst ((C.2.1 _).trans P.1)) rfl (by omega) rfl rfl ⟨by decide, by decide⟩ (tb_copy (by decide) ((C.2.1 _).trans P.1) ((C.2.1 _).trans R.1) ((C.2.2.1 _ _).trans P.2.2.2.1) ((C.2.2.1 _ _).trans R.2.2.2.1) ((C.2.1 _).trans P.2.1) ((C.2.1 _).trans R.2.1) (Nat.ble_eq.mpr (by omega)) (Nat.ble_eq.mpr (by omega)) (Nat.ble_eq.mpr (by omega)) ((jCq_y C (by decide) dis 5 (by decide) 0).trans R.2.2.2.2.1) (jCq_y C (by decide) dis 5 (by decide) 3) G.1 R.2.2.2.2.2 G.2.2.1 G.2.2.2 ?_)
  exact kk _ (jCq_s C (by decide) dis rfl)
set_option maxRecDepth 100000 in
set_option maxHeartbeats 4000000 in
theorem ch_c6 {d X Y : Nat} {h0 h : jH} {Q : Option Value → jH → Prop} (hd : 2 ≤ d) (BX : jBk h0 X) (BY : jBk h0 Y) (hX : 31 ≤ X) (hY : 31 ≤ Y) (dis : X + 35 ≤ Y ∨ Y + 35 ≤ X) (C : jCq 6 X Y h0 h) (kk : ∀ h2, jCq 7 X Y h0 h2 → jX m_X1_copyFrom d 0 0 77 [(0, .ref X), (1, .ref Y)] [] h2 0 0 Q) : jX m_X1_copyFrom d 0 0 66 [(0, .ref X), (1, .ref Y)] [] h 0 0 Q := by
  refine x_aloadn (x := X) rfl rfl ?_
  have P := BX.1 6 (by decide)
  have R := BY.1 6 (by decide)
  have G := jwm8 6 (by decide)
  refine x_getR (b := X + 1 + 2 * 6) 1 6 rfl f_1_35 rfl (congrArg Prod.fst ((C.2.1 X).trans BX.2.1)) ((C.2.2.1 _ _).trans P.2.2.1) ?_
  refine x_aloadn (x := Y) rfl rfl ?_
  refine x_getR (b := Y + 1 + 2 * 6) 1 6 rfl f_1_35 rfl (congrArg Prod.fst ((C.2.1 Y).trans BY.2.1)) ((C.2.2.1 _ _).trans R.2.2.1) ?_
  refine x_inv (N := m_X8_copyFrom) (As := [.ref (Y + 1 + 2 * 6)]) (b := X + 1 + 2 * 6) (st := []) (dx9 := 1) (mc := 0) (ms := 0) (host := "") 8 rfl t_X8_copyFrom ⟨Or.inl q_1_82, i_X8_copyFrom.1, i_X8_copyFrom.2⟩ ⟨by decide, rfl⟩ (congrArg Prod.fst ((C.2.1 _).trans P.1)) rfl (by omega) rfl rfl ⟨by decide, by decide⟩ (tb_copy (by decide) ((C.2.1 _).trans P.1) ((C.2.1 _).trans R.1) ((C.2.2.1 _ _).trans P.2.2.2.1) ((C.2.2.1 _ _).trans R.2.2.2.1) ((C.2.1 _).trans P.2.1) ((C.2.1 _).trans R.2.1) (Nat.ble_eq.mpr (by omega)) (Nat.ble_eq.mpr (by omega)) (Nat.ble_eq.mpr (by omega)) ((jCq_y C (by decide) dis 6 (by decide) 0).trans R.2.2.2.2.1) (jCq_y C (by decide) dis 6 (by decide) 3) G.1 R.2.2.2.2.2 G.2.2.1 G.2.2.2 ?_)
  exact kk _ (jCq_s C (by decide) dis rfl)
set_option maxRecDepth 100000 in
set_option maxHeartbeats 4000000 in
theorem ch_c7 {d X Y : Nat} {h0 h : jH} {Q : Option Value → jH → Prop} (hd : 2 ≤ d) (BX : jBk h0 X) (BY : jBk h0 Y) (hX : 31 ≤ X) (hY : 31 ≤ Y) (dis : X + 35 ≤ Y ∨ Y + 35 ≤ X) (C : jCq 7 X Y h0 h) (kk : ∀ h2, jCq 8 X Y h0 h2 → jX m_X1_copyFrom d 0 0 88 [(0, .ref X), (1, .ref Y)] [] h2 0 0 Q) : jX m_X1_copyFrom d 0 0 77 [(0, .ref X), (1, .ref Y)] [] h 0 0 Q := by
  refine x_aloadn (x := X) rfl rfl ?_
  have P := BX.1 7 (by decide)
  have R := BY.1 7 (by decide)
  have G := jwm8 7 (by decide)
  refine x_getR (b := X + 1 + 2 * 7) 1 7 rfl f_1_38 rfl (congrArg Prod.fst ((C.2.1 X).trans BX.2.1)) ((C.2.2.1 _ _).trans P.2.2.1) ?_
  refine x_aloadn (x := Y) rfl rfl ?_
  refine x_getR (b := Y + 1 + 2 * 7) 1 7 rfl f_1_38 rfl (congrArg Prod.fst ((C.2.1 Y).trans BY.2.1)) ((C.2.2.1 _ _).trans R.2.2.1) ?_
  refine x_inv (N := m_X8_copyFrom) (As := [.ref (Y + 1 + 2 * 7)]) (b := X + 1 + 2 * 7) (st := []) (dx9 := 1) (mc := 0) (ms := 0) (host := "") 8 rfl t_X8_copyFrom ⟨Or.inl q_1_82, i_X8_copyFrom.1, i_X8_copyFrom.2⟩ ⟨by decide, rfl⟩ (congrArg Prod.fst ((C.2.1 _).trans P.1)) rfl (by omega) rfl rfl ⟨by decide, by decide⟩ (tb_copy (by decide) ((C.2.1 _).trans P.1) ((C.2.1 _).trans R.1) ((C.2.2.1 _ _).trans P.2.2.2.1) ((C.2.2.1 _ _).trans R.2.2.2.1) ((C.2.1 _).trans P.2.1) ((C.2.1 _).trans R.2.1) (Nat.ble_eq.mpr (by omega)) (Nat.ble_eq.mpr (by omega)) (Nat.ble_eq.mpr (by omega)) ((jCq_y C (by decide) dis 7 (by decide) 0).trans R.2.2.2.2.1) (jCq_y C (by decide) dis 7 (by decide) 3) G.1 R.2.2.2.2.2 G.2.2.1 G.2.2.2 ?_)
  exact kk _ (jCq_s C (by decide) dis rfl)
set_option maxRecDepth 100000 in
set_option maxHeartbeats 4000000 in
theorem ch_c8 {d X Y : Nat} {h0 h : jH} {Q : Option Value → jH → Prop} (hd : 2 ≤ d) (BX : jBk h0 X) (BY : jBk h0 Y) (hX : 31 ≤ X) (hY : 31 ≤ Y) (dis : X + 35 ≤ Y ∨ Y + 35 ≤ X) (C : jCq 8 X Y h0 h) (kk : ∀ h2, jCq 9 X Y h0 h2 → jX m_X1_copyFrom d 0 0 99 [(0, .ref X), (1, .ref Y)] [] h2 0 0 Q) : jX m_X1_copyFrom d 0 0 88 [(0, .ref X), (1, .ref Y)] [] h 0 0 Q := by
  refine x_aloadn (x := X) rfl rfl ?_
  have P := BX.1 8 (by decide)
  have R := BY.1 8 (by decide)
  have G := jwm8 8 (by decide)
  refine x_getR (b := X + 1 + 2 * 8) 1 8 rfl f_1_41 rfl (congrArg Prod.fst ((C.2.1 X).trans BX.2.1)) ((C.2.2.1 _ _).trans P.2.2.1) ?_
  refine x_aloadn (x := Y) rfl rfl ?_
  refine x_getR (b := Y + 1 + 2 * 8) 1 8 rfl f_1_41 rfl (congrArg Prod.fst ((C.2.1 Y).trans BY.2.1)) ((C.2.2.1 _ _).trans R.2.2.1) ?_
  refine x_inv (N := m_X8_copyFrom) (As := [.ref (Y + 1 + 2 * 8)]) (b := X + 1 + 2 * 8) (st := []) (dx9 := 1) (mc := 0) (ms := 0) (host := "") 8 rfl t_X8_copyFrom ⟨Or.inl q_1_82, i_X8_copyFrom.1, i_X8_copyFrom.2⟩ ⟨by decide, rfl⟩ (congrArg Prod.fst ((C.2.1 _).trans P.1)) rfl (by omega) rfl rfl ⟨by decide, by decide⟩ (tb_copy (by decide) ((C.2.1 _).trans P.1) ((C.2.1 _).trans R.1) ((C.2.2.1 _ _).trans P.2.2.2.1) ((C.2.2.1 _ _).trans R.2.2.2.1) ((C.2.1 _).trans P.2.1) ((C.2.1 _).trans R.2.1) (Nat.ble_eq.mpr (by omega)) (Nat.ble_eq.mpr (by omega)) (Nat.ble_eq.mpr (by omega)) ((jCq_y C (by decide) dis 8 (by decide) 0).trans R.2.2.2.2.1) (jCq_y C (by decide) dis 8 (by decide) 3) G.1 R.2.2.2.2.2 G.2.2.1 G.2.2.2 ?_)
  exact kk _ (jCq_s C (by decide) dis rfl)
set_option maxRecDepth 100000 in
set_option maxHeartbeats 4000000 in
theorem ch_c9 {d X Y : Nat} {h0 h : jH} {Q : Option Value → jH → Prop} (hd : 2 ≤ d) (BX : jBk h0 X) (BY : jBk h0 Y) (hX : 31 ≤ X) (hY : 31 ≤ Y) (dis : X + 35 ≤ Y ∨ Y + 35 ≤ X) (C : jCq 9 X Y h0 h) (kk : ∀ h2, jCq 10 X Y h0 h2 → jX m_X1_copyFrom d 0 0 110 [(0, .ref X), (1, .ref Y)] [] h2 0 0 Q) : jX m_X1_copyFrom d 0 0 99 [(0, .ref X), (1, .ref Y)] [] h 0 0 Q := by
  refine x_aloadn (x := X) rfl rfl ?_
  have P := BX.1 9 (by decide)
  have R := BY.1 9 (by decide)
  have G := jwm8 9 (by decide)
  refine x_getR (b := X + 1 + 2 * 9) 1 9 rfl f_1_44 rfl (congrArg Prod.fst ((C.2.1 X).trans BX.2.1)) ((C.2.2.1 _ _).trans P.2.2.1) ?_
  refine x_aloadn (x := Y) rfl rfl ?_
  refine x_getR (b := Y + 1 + 2 * 9) 1 9 rfl f_1_44 rfl (congrArg Prod.fst ((C.2.1 Y).trans BY.2.1)) ((C.2.2.1 _ _).trans R.2.2.1) ?_
  refine x_inv (N := m_X8_copyFrom) (As := [.ref (Y + 1 + 2 * 9)]) (b := X + 1 + 2 * 9) (st := []) (dx9 := 1) (mc := 0) (ms := 0) (host := "") 8 rfl t_X8_copyFrom ⟨Or.inl q_1_82, i_X8_copyFrom.1, i_X8_copyFrom.2⟩ ⟨by decide, rfl⟩ (congrArg Prod.fst ((C.2.1 _).trans P.1)) rfl (by omega) rfl rfl ⟨by decide, by decide⟩ (tb_copy (by decide) ((C.2.1 _).trans P.1) ((C.2.1 _).trans R.1) ((C.2.2.1 _ _).trans P.2.2.2.1) ((C.2.2.1 _ _).trans R.2.2.2.1) ((C.2.1 _).trans P.2.1) ((C.2.1 _).trans R.2.1) (Nat.ble_eq.mpr (by omega)) (Nat.ble_eq.mpr (by omega)) (Nat.ble_eq.mpr (by omega)) ((jCq_y C (by decide) dis 9 (by decide) 0).trans R.2.2.2.2.1) (jCq_y C (by decide) dis 9 (by decide) 3) G.1 R.2.2.2.2.2 G.2.2.1 G.2.2.2 ?_)
  exact kk _ (jCq_s C (by decide) dis rfl)
set_option maxRecDepth 100000 in
set_option maxHeartbeats 4000000 in
theorem ch_c10 {d X Y : Nat} {h0 h : jH} {Q : Option Value → jH → Prop} (hd : 2 ≤ d) (BX : jBk h0 X) (BY : jBk h0 Y) (hX : 31 ≤ X) (hY : 31 ≤ Y) (dis : X + 35 ≤ Y ∨ Y + 35 ≤ X) (C : jCq 10 X Y h0 h) (kk : ∀ h2, jCq 11 X Y h0 h2 → jX m_X1_copyFrom d 0 0 121 [(0, .ref X), (1, .ref Y)] [] h2 0 0 Q) : jX m_X1_copyFrom d 0 0 110 [(0, .ref X), (1, .ref Y)] [] h 0 0 Q := by
  refine x_aloadn (x := X) rfl rfl ?_
  have P := BX.1 10 (by decide)
  have R := BY.1 10 (by decide)
  have G := jwm8 10 (by decide)
  refine x_getR (b := X + 1 + 2 * 10) 1 10 rfl f_1_47 rfl (congrArg Prod.fst ((C.2.1 X).trans BX.2.1)) ((C.2.2.1 _ _).trans P.2.2.1) ?_
  refine x_aloadn (x := Y) rfl rfl ?_
  refine x_getR (b := Y + 1 + 2 * 10) 1 10 rfl f_1_47 rfl (congrArg Prod.fst ((C.2.1 Y).trans BY.2.1)) ((C.2.2.1 _ _).trans R.2.2.1) ?_
  refine x_inv (N := m_X8_copyFrom) (As := [.ref (Y + 1 + 2 * 10)]) (b := X + 1 + 2 * 10) (st := []) (dx9 := 1) (mc := 0) (ms := 0) (host := "") 8 rfl t_X8_copyFrom ⟨Or.inl q_1_82, i_X8_copyFrom.1, i_X8_copyFrom.2⟩ ⟨by decide, rfl⟩ (congrArg Prod.fst ((C.2.1 _).trans P.1)) rfl (by omega) rfl rfl ⟨by decide, by decide⟩ (tb_copy (by decide) ((C.2.1 _).trans P.1) ((C.2.1 _).trans R.1) ((C.2.2.1 _ _).trans P.2.2.2.1) ((C.2.2.1 _ _).trans R.2.2.2.1) ((C.2.1 _).trans P.2.1) ((C.2.1 _).trans R.2.1) (Nat.ble_eq.mpr (by omega)) (Nat.ble_eq.mpr (by omega)) (Nat.ble_eq.mpr (by omega)) ((jCq_y C (by decide) dis 10 (by decide) 0).trans R.2.2.2.2.1) (jCq_y C (by decide) dis 10 (by decide) 3) G.1 R.2.2.2.2.2 G.2.2.1 G.2.2.2 ?_)
  exact kk _ (jCq_s C (by decide) dis rfl)
set_option maxRecDepth 100000 in
set_option maxHeartbeats 4000000 in
theorem ch_c11 {d X Y : Nat} {h0 h : jH} {Q : Option Value → jH → Prop} (hd : 2 ≤ d) (BX : jBk h0 X) (BY : jBk h0 Y) (hX : 31 ≤ X) (hY : 31 ≤ Y) (dis : X + 35 ≤ Y ∨ Y + 35 ≤ X) (C : jCq 11 X Y h0 h) (kk : ∀ h2, jCq 12 X Y h0 h2 → jX m_X1_copyFrom d 0 0 132 [(0, .ref X), (1, .ref Y)] [] h2 0 0 Q) : jX m_X1_copyFrom d 0 0 121 [(0, .ref X), (1, .ref Y)] [] h 0 0 Q := by
  refine x_aloadn (x := X) rfl rfl ?_
  have P := BX.1 11 (by decide)
  have R := BY.1 11 (by decide)
  have G := jwm8 11 (by decide)
  refine x_getR (b := X + 1 + 2 * 11) 1 11 rfl f_1_50 rfl (congrArg Prod.fst ((C.2.1 X).trans BX.2.1)) ((C.2.2.1 _ _).trans P.2.2.1) ?_
  refine x_aloadn (x := Y) rfl rfl ?_
  refine x_getR (b := Y + 1 + 2 * 11) 1 11 rfl f_1_50 rfl (congrArg Prod.fst ((C.2.1 Y).trans BY.2.1)) ((C.2.2.1 _ _).trans R.2.2.1) ?_
  refine x_inv (N := m_X8_copyFrom) (As := [.ref (Y + 1 + 2 * 11)]) (b := X + 1 + 2 * 11) (st := []) (dx9 := 1) (mc := 0) (ms := 0) (host := "") 8 rfl t_X8_copyFrom ⟨Or.inl q_1_82, i_X8_copyFrom.1, i_X8_copyFrom.2⟩ ⟨by decide, rfl⟩ (congrArg Prod.fst ((C.2.1 _).trans P.1)) rfl (by omega) rfl rfl ⟨by decide, by decide⟩ (tb_copy (by decide) ((C.2.1 _).trans P.1) ((C.2.1 _).trans R.1) ((C.2.2.1 _ _).trans P.2.2.2.1) ((C.2.2.1 _ _).trans R.2.2.2.1) ((C.2.1 _).trans P.2.1) ((C.2.1 _).trans R.2.1) (Nat.ble_eq.mpr (by omega)) (Nat.ble_eq.mpr (by omega)) (Nat.ble_eq.mpr (by omega)) ((jCq_y C (by decide) dis 11 (by decide) 0).trans R.2.2.2.2.1) (jCq_y C (by decide) dis 11 (by decide) 3) G.1 R.2.2.2.2.2 G.2.2.1 G.2.2.2 ?_)
  exact kk _ (jCq_s C (by decide) dis rfl)
set_option maxRecDepth 100000 in
set_option maxHeartbeats 4000000 in
theorem ch_c12 {d X Y : Nat} {h0 h : jH} {Q : Option Value → jH → Prop} (hd : 2 ≤ d) (BX : jBk h0 X) (BY : jBk h0 Y) (hX : 31 ≤ X) (hY : 31 ≤ Y) (dis : X + 35 ≤ Y ∨ Y + 35 ≤ X) (C : jCq 12 X Y h0 h) (kk : ∀ h2, jCq 13 X Y h0 h2 → jX m_X1_copyFrom d 0 0 143 [(0, .ref X), (1, .ref Y)] [] h2 0 0 Q) : jX m_X1_copyFrom d 0 0 132 [(0, .ref X), (1, .ref Y)] [] h 0 0 Q := by
  refine x_aloadn (x := X) rfl rfl ?_
  have P := BX.1 12 (by decide)
  have R := BY.1 12 (by decide)
  have G := jwm8 12 (by decide)
  refine x_getR (b := X + 1 + 2 * 12) 1 12 rfl f_1_53 rfl (congrArg Prod.fst ((C.2.1 X).trans BX.2.1)) ((C.2.2.1 _ _).trans P.2.2.1) ?_
  refine x_aloadn (x := Y) rfl rfl ?_
  refine x_getR (b := Y + 1 + 2 * 12) 1 12 rfl f_1_53 rfl (congrArg Prod.fst ((C.2.1 Y).trans BY.2.1)) ((C.2.2.1 _ _).trans R.2.2.1) ?_
  refine x_inv (N := m_X8_copyFrom) (As := [.ref (Y + 1 + 2 * 12)]) (b := X + 1 + 2 * 12) (st := []) (dx9 := 1) (mc := 0) (ms := 0) (host := "") 8 rfl t_X8_copyFrom ⟨Or.inl q_1_82, i_X8_copyFrom.1, i_X8_copyFrom.2⟩ ⟨by decide, rfl⟩ (congrArg Prod.fst ((C.2.1 _).trans P.1)) rfl (by omega) rfl rfl ⟨by decide, by decide⟩ (tb_copy (by decide) ((C.2.1 _).trans P.1) ((C.2.1 _).trans R.1) ((C.2.2.1 _ _).trans P.2.2.2.1) ((C.2.2.1 _ _).trans R.2.2.2.1) ((C.2.1 _).trans P.2.1) ((C.2.1 _).trans R.2.1) (Nat.ble_eq.mpr (by omega)) (Nat.ble_eq.mpr (by omega)) (Nat.ble_eq.mpr (by omega)) ((jCq_y C (by decide) dis 12 (by decide) 0).trans R.2.2.2.2.1) (jCq_y C (by decide) dis 12 (by decide) 3) G.1 R.2.2.2.2.2 G.2.2.1 G.2.2.2 ?_)
  exact kk _ (jCq_s C (by decide) dis rfl)
set_option maxRecDepth 100000 in
set_option maxHeartbeats 4000000 in
theorem ch_c13 {d X Y : Nat} {h0 h : jH} {Q : Option Value → jH → Prop} (hd : 2 ≤ d) (BX : jBk h0 X) (BY : jBk h0 Y) (hX : 31 ≤ X) (hY : 31 ≤ Y) (dis : X + 35 ≤ Y ∨ Y + 35 ≤ X) (C : jCq 13 X Y h0 h) (kk : ∀ h2, jCq 14 X Y h0 h2 → jX m_X1_copyFrom d 0 0 154 [(0, .ref X), (1, .ref Y)] [] h2 0 0 Q) : jX m_X1_copyFrom d 0 0 143 [(0, .ref X), (1, .ref Y)] [] h 0 0 Q := by
  refine x_aloadn (x := X) rfl rfl ?_
  have P := BX.1 13 (by decide)
  have R := BY.1 13 (by decide)
  have G := jwm8 13 (by decide)
  refine x_getR (b := X + 1 + 2 * 13) 1 13 rfl f_1_56 rfl (congrArg Prod.fst ((C.2.1 X).trans BX.2.1)) ((C.2.2.1 _ _).trans P.2.2.1) ?_
  refine x_aloadn (x := Y) rfl rfl ?_
  refine x_getR (b := Y + 1 + 2 * 13) 1 13 rfl f_1_56 rfl (congrArg Prod.fst ((C.2.1 Y).trans BY.2.1)) ((C.2.2.1 _ _).trans R.2.2.1) ?_
  refine x_inv (N := m_X8_copyFrom) (As := [.ref (Y + 1 + 2 * 13)]) (b := X + 1 + 2 * 13) (st := []) (dx9 := 1) (mc := 0) (ms := 0) (host := "") 8 rfl t_X8_copyFrom ⟨Or.inl q_1_82, i_X8_copyFrom.1, i_X8_copyFrom.2⟩ ⟨by decide, rfl⟩ (congrArg Prod.fst ((C.2.1 _).trans P.1)) rfl (by omega) rfl rfl ⟨by decide, by decide⟩ (tb_copy (by decide) ((C.2.1 _).trans P.1) ((C.2.1 _).trans R.1) ((C.2.2.1 _ _).trans P.2.2.2.1) ((C.2.2.1 _ _).trans R.2.2.2.1) ((C.2.1 _).trans P.2.1) ((C.2.1 _).trans R.2.1) (Nat.ble_eq.mpr (by omega)) (Nat.ble_eq.mpr (by omega)) (Nat.ble_eq.mpr (by omega)) ((jCq_y C (by decide) dis 13 (by decide) 0).trans R.2.2.2.2.1) (jCq_y C (by decide) dis 13 (by decide) 3) G.1 R.2.2.2.2.2 G.2.2.1 G.2.2.2 ?_)
  exact kk _ (jCq_s C (by decide) dis rfl)
set_option maxRecDepth 100000 in
set_option maxHeartbeats 4000000 in
theorem ch_c14 {d X Y : Nat} {h0 h : jH} {Q : Option Value → jH → Prop} (hd : 2 ≤ d) (BX : jBk h0 X) (BY : jBk h0 Y) (hX : 31 ≤ X) (hY : 31 ≤ Y) (dis : X + 35 ≤ Y ∨ Y + 35 ≤ X) (C : jCq 14 X Y h0 h) (kk : ∀ h2, jCq 15 X Y h0 h2 → jX m_X1_copyFrom d 0 0 165 [(0, .ref X), (1, .ref Y)] [] h2 0 0 Q) : jX m_X1_copyFrom d 0 0 154 [(0, .ref X), (1, .ref Y)] [] h 0 0 Q := by
  refine x_aloadn (x := X) rfl rfl ?_
  have P := BX.1 14 (by decide)
  have R := BY.1 14 (by decide)
  have G := jwm8 14 (by decide)
  refine x_getR (b := X + 1 + 2 * 14) 1 14 rfl f_1_59 rfl (congrArg Prod.fst ((C.2.1 X).trans BX.2.1)) ((C.2.2.1 _ _).trans P.2.2.1) ?_
  refine x_aloadn (x := Y) rfl rfl ?_
  refine x_getR (b := Y + 1 + 2 * 14) 1 14 rfl f_1_59 rfl (congrArg Prod.fst ((C.2.1 Y).trans BY.2.1)) ((C.2.2.1 _ _).trans R.2.2.1) ?_
  refine x_inv (N := m_X8_copyFrom) (As := [.ref (Y + 1 + 2 * 14)]) (b := X + 1 + 2 * 14) (st := []) (dx9 := 1) (mc := 0) (ms := 0) (host := "") 8 rfl t_X8_copyFrom ⟨Or.inl q_1_82, i_X8_copyFrom.1, i_X8_copyFrom.2⟩ ⟨by decide, rfl⟩ (congrArg Prod.fst ((C.2.1 _).trans P.1)) rfl (by omega) rfl rfl ⟨by decide, by decide⟩ (tb_copy (by decide) ((C.2.1 _).trans P.1) ((C.2.1 _).trans R.1) ((C.2.2.1 _ _).trans P.2.2.2.1) ((C.2.2.1 _ _).trans R.2.2.2.1) ((C.2.1 _).trans P.2.1) ((C.2.1 _).trans R.2.1) (Nat.ble_eq.mpr (by omega)) (Nat.ble_eq.mpr (by omega)) (Nat.ble_eq.mpr (by omega)) ((jCq_y C (by decide) dis 14 (by decide) 0).trans R.2.2.2.2.1) (jCq_y C (by decide) dis 14 (by decide) 3) G.1 R.2.2.2.2.2 G.2.2.1 G.2.2.2 ?_)
  exact kk _ (jCq_s C (by decide) dis rfl)
set_option maxRecDepth 100000 in
set_option maxHeartbeats 4000000 in
theorem ch_c15 {d X Y : Nat} {h0 h : jH} {Q : Option Value → jH → Prop} (hd : 2 ≤ d) (BX : jBk h0 X) (BY : jBk h0 Y) (hX : 31 ≤ X) (hY : 31 ≤ Y) (dis : X + 35 ≤ Y ∨ Y + 35 ≤ X) (C : jCq 15 X Y h0 h) (kk : ∀ h2, jCq 16 X Y h0 h2 → jX m_X1_copyFrom d 0 0 176 [(0, .ref X), (1, .ref Y)] [] h2 0 0 Q) : jX m_X1_copyFrom d 0 0 165 [(0, .ref X), (1, .ref Y)] [] h 0 0 Q := by
  refine x_aloadn (x := X) rfl rfl ?_
  have P := BX.1 15 (by decide)
  have R := BY.1 15 (by decide)
  have G := jwm8 15 (by decide)
  refine x_getR (b := X + 1 + 2 * 15) 1 15 rfl f_1_62 rfl (congrArg Prod.fst ((C.2.1 X).trans BX.2.1)) ((C.2.2.1 _ _).trans P.2.2.1) ?_
  refine x_aloadn (x := Y) rfl rfl ?_
  refine x_getR (b := Y + 1 + 2 * 15) 1 15 rfl f_1_62 rfl (congrArg Prod.fst ((C.2.1 Y).trans BY.2.1)) ((C.2.2.1 _ _).trans R.2.2.1) ?_
  refine x_inv (N := m_X8_copyFrom) (As := [.ref (Y + 1 + 2 * 15)]) (b := X + 1 + 2 * 15) (st := []) (dx9 := 1) (mc := 0) (ms := 0) (host := "") 8 rfl t_X8_copyFrom ⟨Or.inl q_1_82, i_X8_copyFrom.1, i_X8_copyFrom.2⟩ ⟨by decide, rfl⟩ (congrArg Prod.fst ((C.2.1 _).trans P.1)) rfl (by omega) rfl rfl ⟨by decide, by decide⟩ (tb_copy (by decide) ((C.2.1 _).trans P.1) ((C.2.1 _).trans R.1) ((C.2.2.1 _ _).trans P.2.2.2.1) ((C.2.2.1 _ _).trans R.2.2.2.1) ((C.2.1 _).trans P.2.1) ((C.2.1 _).trans R.2.1) (Nat.ble_eq.mpr (by omega)) (Nat.ble_eq.mpr (by omega)) (Nat.ble_eq.mpr (by omega)) ((jCq_y C (by decide) dis 15 (by decide) 0).trans R.2.2.2.2.1) (jCq_y C (by decide) dis 15 (by decide) 3) G.1 R.2.2.2.2.2 G.2.2.1 G.2.2.2 ?_)
  exact kk _ (jCq_s C (by decide) dis rfl)
set_option maxRecDepth 100000 in
set_option maxHeartbeats 4000000 in
theorem ch_copy {d X Y : Nat} {h : jH} {Q : Option Value → jH → Prop} (hd : 2 ≤ d) (BX : jBk h X) (BY : jBk h Y) (hX : 31 ≤ X) (hY : 31 ≤ Y) (dis : X + 35 ≤ Y ∨ Y + 35 ≤ X) (hQ : ∀ h2, jCd X Y h h2 → Q none h2) : jC m_X1_copyFrom d 0 0 [.ref X, .ref Y] h Q := by
  obtain ⟨h0, e0⟩ : ∃ x, x = h := ⟨_, rfl⟩
  rw [← e0] at BX BY hQ
  have C : jCq 0 X Y h0 h := by rw [e0]; exact jCq_0
  clear e0
  refine jC.of rfl k_X1_copyFrom rfl ?_
  show jX m_X1_copyFrom d 0 0 0 [(0, .ref X), (1, .ref Y)] [] _ 0 0 _
  have sX := fun (g : jH) (e : ∀ b, jsh g b = jsh h0 b) => (e X).trans BX.2.1
  have sY := fun (g : jH) (e : ∀ b, jsh g b = jsh h0 b) => (e Y).trans BY.2.1
  refine ch_c0 hd BX BY hX hY dis C (fun h C => ?_)
  refine ch_c1 hd BX BY hX hY dis C (fun h C => ?_)
  refine ch_c2 hd BX BY hX hY dis C (fun h C => ?_)
  refine ch_c3 hd BX BY hX hY dis C (fun h C => ?_)
  refine ch_c4 hd BX BY hX hY dis C (fun h C => ?_)
  refine ch_c5 hd BX BY hX hY dis C (fun h C => ?_)
  refine ch_c6 hd BX BY hX hY dis C (fun h C => ?_)
  refine ch_c7 hd BX BY hX hY dis C (fun h C => ?_)
  refine ch_c8 hd BX BY hX hY dis C (fun h C => ?_)
  refine ch_c9 hd BX BY hX hY dis C (fun h C => ?_)
  refine ch_c10 hd BX BY hX hY dis C (fun h C => ?_)
  refine ch_c11 hd BX BY hX hY dis C (fun h C => ?_)
  refine ch_c12 hd BX BY hX hY dis C (fun h C => ?_)
  refine ch_c13 hd BX BY hX hY dis C (fun h C => ?_)
  refine ch_c14 hd BX BY hX hY dis C (fun h C => ?_)
  refine ch_c15 hd BX BY hX hY dis C (fun h C => ?_)
  refine x_aloadn (x := Y) rfl rfl ?_
  refine x_getR (b := Y + 33) 1 16 rfl f_1_65 rfl (congrArg Prod.fst (sY _ C.2.1)) ((C.2.2.1 _ _).trans BY.2.2.2.2.1) ?_
  refine x_iconst (v := 0) rfl ki_0 ?_
  refine x_aloadn (x := X) rfl rfl ?_
  refine x_getR (b := X + 33) 1 16 rfl f_1_65 rfl (congrArg Prod.fst (sX _ C.2.1)) ((C.2.2.1 _ _).trans BX.2.2.2.2.1) ?_
  refine x_iconst (v := 0) rfl ki_0 ?_
  refine x_aloadn (x := X) rfl rfl ?_
  refine x_getR (b := X + 33) 1 16 rfl f_1_65 rfl (congrArg Prod.fst (sX _ C.2.1)) ((C.2.2.1 _ _).trans BX.2.2.2.2.1) ?_
  refine y_alen (N := 1600) (v := 1600) rfl ((C.2.1 _).trans BX.2.2.1) (by decide) rfl ?_
  refine y_cpl (N1 := 1600) (N2 := 1600) 0 0 1600 rfl ⟨q_1_86, jcp_w⟩ (by omega) rfl (Nat.ble_eq.mpr (by omega)) (Nat.ble_eq.mpr (by omega)) ((C.2.1 _).trans BY.2.2.1) ((C.2.1 _).trans BX.2.2.1) (by decide) (by decide) (by decide) (by decide) (by decide) (by decide) (by decide) (by decide) ?_
  refine jX.ab (jCt 0 X Y h0) (jCt_0 C dis) (fun h C => ?_)
  refine x_iconst (v := 0) rfl ki_0 ?_
  refine x_istoren (lsx9 := [(2, .int 0), (0, .ref X), (1, .ref Y)]) rfl rfl rfl ?_
  exact jX.sub (jsb_c rfl (jsb_c rfl (jsb_c rfl jsb_n))) (ch_196 BX BY hX dis hQ 31 0 h (by have := jk_0; omega) (jr_of jk_0 (by omega)) (by rw [show (0 : Int32).toNatClampNeg = 0 from by decide]; exact C))
