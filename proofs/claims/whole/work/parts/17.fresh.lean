/-! a fresh pair, and what a call leaves of it -/
/-- of the cells from lo on, what a pair of new objects holds -/
def jFb (lo : Nat) (h : jH) : Prop := (∀ a s, Nat.ble lo a = true → jtS.lookup a = some s → jsh h a = s) ∧ (∀ q c, Nat.ble lo (q / 128) = true → jtR.lookup q = some c → jrv h (q / 128) (q % 128) = some c) ∧ (∀ q v, Nat.ble lo (q / 128) = true → jtI.lookup q = some v → jiv h (q / 128) (q % 128) = v) ∧ (∀ a, Nat.ble lo a = true → jtAr.contains a = true → ∀ k, jiv h a k = 0 ∧ jlv h a k = 0) ∧ (∀ q v, Nat.ble lo (q / 128) = true → jtL.lookup q = some v → jlv h (q / 128) (q % 128) = v) ∧ (∀ a, Nat.ble lo a = true → jtN.contains a = true → ∀ k, jrv h a k = none)
theorem jFb_fr {h : jH} (F : jFr h) (lo : Nat) : jFb lo h := ⟨fun a s _ => F.1 a s, fun q c _ => F.2.1 q c, fun q v _ => F.2.2.1 q v, fun a _ => F.2.2.2.1 a, fun q v _ => F.2.2.2.2.1 q v, fun a _ => F.2.2.2.2.2.1 a⟩
theorem jFb_up {h : jH} {lo : Nat} (lo' : Nat) (hl : Nat.ble lo lo' = true) (F : jFb lo h) : jFb lo' h := by
  have e : ∀ a, Nat.ble lo' a = true → Nat.ble lo a = true := fun a q => Nat.ble_eq.mpr (Nat.le_trans (Nat.ble_eq.mp hl) (Nat.ble_eq.mp q))
  exact ⟨fun a s g => F.1 a s (e a g), fun q c g => F.2.1 q c (e _ g), fun q v g => F.2.2.1 q v (e _ g), fun a g => F.2.2.2.1 a (e a g), fun q v g => F.2.2.2.2.1 q v (e _ g), fun a g => F.2.2.2.2.2 a (e a g)⟩
theorem jFb_ex {h hx9 : jH} {lo a : Nat} (ha : Nat.blt a lo = true) (hx : jEx a h hx9) (F : jFb lo h) : jFb lo hx9 := by
  have ha := Nat.blt_eq.mp ha
  have e : ∀ b, Nat.ble lo b = true → b ≠ a := fun b q => by have := Nat.ble_eq.mp q; omega
  have es : ∀ b, jsh hx9 b = jsh h b := fun b => by unfold jsh; rw [hx.1]
  refine ⟨fun b s g q => by rw [es]; exact F.1 b s g q, fun q c g w => by rw [(hx.2.2 _ (e _ g)).2.2]; exact F.2.1 q c g w, fun q v g w => by rw [(hx.2.2 _ (e _ g)).1]; exact F.2.2.1 q v g w, fun b g w k => ?_, fun q v g w => by rw [(hx.2.2 _ (e _ g)).2.1]; exact F.2.2.2.2.1 q v g w, fun b g w k => by rw [(hx.2.2 _ (e _ g)).2.2]; exact F.2.2.2.2.2 b g w k⟩
  rw [(hx.2.2 _ (e _ g)).1, (hx.2.2 _ (e _ g)).2.1]
  exact F.2.2.2.1 b g w k
theorem jFb_si {h : jH} {lo a k : Nat} {v : Int32} (ha : Nat.blt a lo = true) (F : jFb lo h) : jFb lo (jsi h a k v) := jFb_ex ha (jEx_si h a k v) F
theorem jFb_sl {h : jH} {lo a k : Nat} {v : Int64} (ha : Nat.blt a lo = true) (F : jFb lo h) : jFb lo (jsl h a k v) := jFb_ex ha (jEx_sl h a k v) F
theorem jFb_sr {h : jH} {lo a k : Nat} {v : Option Nat} (ha : Nat.blt a lo = true) (F : jFb lo h) : jFb lo (jsr h a k v) := jFb_ex ha (jEx_sr h a k v) F
theorem jFb_ci {h : jH} {lo b a i j l : Nat} (ha : Nat.blt a lo = true) (F : jFb lo h) : jFb lo (jci h b a i j l) := jFb_ex ha (jEx_ci h b a i j l) F
theorem jFb_cl {h : jH} {lo b a i j l : Nat} (ha : Nat.blt a lo = true) (F : jFb lo h) : jFb lo (jcl h b a i j l) := jFb_ex ha (jEx_cl h b a i j l) F
theorem jOl_ex {L : Nat} {xs : Nat → Int32} {h hx9 : jH} {a : Nat} (ha : Nat.ble 31 a = true) (hx : jEx a h hx9) (F : jOl L xs h) : jOl L xs hx9 := by
  have ha := Nat.ble_eq.mp ha
  intro b hb
  have e : b ≠ a := by omega
  have es : jsh hx9 b = jsh h b := by unfold jsh; rw [hx.1]
  exact ⟨es.trans (F b hb).1, fun k => ((hx.2.2 b e).1 k).trans ((F b hb).2 k)⟩
theorem jOl_si {L : Nat} {xs : Nat → Int32} {h : jH} {a k : Nat} {v : Int32} (ha : Nat.ble 31 a = true) (F : jOl L xs h) : jOl L xs (jsi h a k v) := jOl_ex ha (jEx_si h a k v) F
theorem jOl_sl {L : Nat} {xs : Nat → Int32} {h : jH} {a k : Nat} {v : Int64} (ha : Nat.ble 31 a = true) (F : jOl L xs h) : jOl L xs (jsl h a k v) := jOl_ex ha (jEx_sl h a k v) F
theorem jOl_sr {L : Nat} {xs : Nat → Int32} {h : jH} {a k : Nat} {v : Option Nat} (ha : Nat.ble 31 a = true) (F : jOl L xs h) : jOl L xs (jsr h a k v) := jOl_ex ha (jEx_sr h a k v) F
theorem jOl_ci {L : Nat} {xs : Nat → Int32} {h : jH} {b a i j l : Nat} (ha : Nat.ble 31 a = true) (F : jOl L xs h) : jOl L xs (jci h b a i j l) := jOl_ex ha (jEx_ci h b a i j l) F
theorem jOl_cl {L : Nat} {xs : Nat → Int32} {h : jH} {b a i j l : Nat} (ha : Nat.ble 31 a = true) (F : jOl L xs h) : jOl L xs (jcl h b a i j l) := jOl_ex ha (jEx_cl h b a i j l) F
theorem vpi {i : Int32} {N : Nat} (h : 0 ≤ i.toInt ∧ i.toInt < N) : vp_in i N := vp_in_iff.mpr h
theorem jp_t {P : Prop} [Decidable P] {Q : Option Value → jH → Prop} {h : jH} (hp : P) (hQ : Q (some (.int (jp P))) h) : Q (some (.int 1)) h := by
  have e : jp P = 1 := if_pos hp
  rwa [e] at hQ
theorem jp_f {P : Prop} [Decidable P] {Q : Option Value → jH → Prop} {h : jH} (hp : ¬ P) (hQ : Q (some (.int (jp P))) h) : Q (some (.int 0)) h := by
  have e : jp P = 0 := if_neg hp
  rwa [e] at hQ
theorem jp_i {P R : Prop} [Decidable P] [Decidable R] {Q : Option Value → jH → Prop} {h : jH} (e : R ↔ P) (hQ : Q (some (.int (jp P))) h) : Q (some (.int (jp R))) h := by
  have e2 : jp R = jp P := by unfold jp; simp only [e]
  rw [e2]; exact hQ
theorem jt_l (x : Int32) : x.toInt64.toInt = x.toInt := Int32.toInt_toInt64 x
theorem jt_l1 (x : Int32) : (x.toInt64 - 1).toInt = x.toInt - 1 := by
  have h1 := Int32.le_toInt x
  have h2 := Int32.toInt_lt x
  rw [Int64.toInt_sub, jt_l]
  have e : (1 : Int64).toInt = 1 := by decide
  rw [e]
  exact Int.bmod_eq_of_le (by omega) (by omega)
set_option maxRecDepth 10000 in
theorem c_X12_in {d : Nat} {h : jH} {Q : Option Value → jH → Prop} {v lo hi : Int64} {m a b : Int} (hv : v.toInt = m) (ha : lo.toInt = a) (hb : hi.toInt = b) (hQ : Q (some (.int (jp (a ≤ m ∧ m ≤ b)))) h) : jC m_X12_in d 0 0 [.long v, .long lo, .long hi] h Q := by
  refine jC.of rfl k_X12_in rfl ?_
  show jX m_X12_in d 0 0 0 [(0, .long v), (2, .long lo), (4, .long hi)] [] _ 0 0 _
  refine x_lloadn (x := v) rfl rfl ?_
  refine x_lloadn (x := lo) rfl rfl ?_
  refine x_lcmp rfl ?_
  refine x_iflt (tgt := 17) rfl rfl ⟨fun c1 => ?_, fun c1 => ?_⟩
  · rw [lg_cmp_lt, Int64.lt_iff_toInt_lt, hv, ha] at c1
    refine x_iconst (v := 0) rfl ki_0 ?_
    refine x_zret rfl rfl (by decide) ?_
    exact jp_f (by omega) hQ
  · rw [lg_cmp_lt, Int64.lt_iff_toInt_lt, hv, ha] at c1
    refine x_lloadn (x := v) rfl rfl ?_
    refine x_lload (x := hi) rfl rfl ?_
    refine x_lcmp rfl ?_
    refine x_ifgt (tgt := 17) rfl rfl ⟨fun c2 => ?_, fun c2 => ?_⟩
    · rw [lg_cmp_gt, Int64.lt_iff_toInt_lt, hv, hb] at c2
      refine x_iconst (v := 0) rfl ki_0 ?_
      refine x_zret rfl rfl (by decide) ?_
      exact jp_f (by omega) hQ
    · rw [lg_cmp_gt, Int64.lt_iff_toInt_lt, hv, hb] at c2
      refine x_iconst (v := 1) rfl ki_1 ?_
      refine x_goto (tgt := 18) rfl rfl ?_
      refine x_zret rfl rfl (by decide) ?_
      exact jp_t (by omega) hQ
set_option maxRecDepth 10000 in
theorem c_X12_isDay {d : Nat} {h : jH} {Q : Option Value → jH → Prop} {x : Int32} (hQ : Q (some (.int (jp (0 ≤ x.toInt ∧ x.toInt ≤ 146399)))) h) : jC m_X12_isDay (d + 1) 0 0 [.int x] h Q := by
  refine jC.of rfl k_X12_isDay rfl ?_
  show jX m_X12_isDay (d + 1) 0 0 0 [(0, .int x)] [] _ 0 0 _
  refine x_iloadn (x := x) rfl rfl ?_
  refine x_i2l rfl ?_
  refine x_lconst (v := 0) rfl kl_0 ?_
  refine x_ldc2 (v := 146399) rfl z_12_186 ?_
  refine x_inst (N := m_X12_in) (As := [.long x.toInt64, .long 0, .long 146399]) (st := []) (dx9 := d) (mc := 0) (ms := 0) (host := "") rfl t_X12_in ⟨Or.inl q_12_188, s_X12_in⟩ rfl (Nat.le_refl _) rfl rfl ⟨by decide, by decide⟩ (c_X12_in (a := 0) (b := 146399) (jt_l x) (by decide) (by decide) ?_)
  show jX m_X12_isDay (d + 1) 0 0 9 [(0, .int x)] [.int (jp (0 ≤ x.toInt ∧ x.toInt ≤ 146399))] _ 0 0 _
  exact x_zret rfl rfl (jp_01 _) hQ
set_option maxRecDepth 10000 in
theorem c_X12_isYear {d : Nat} {h : jH} {Q : Option Value → jH → Prop} {x : Int32} (hQ : Q (some (.int (jp (0 ≤ x.toInt ∧ x.toInt ≤ 399)))) h) : jC m_X12_isYear (d + 1) 0 0 [.int x] h Q := by
  refine jC.of rfl k_X12_isYear rfl ?_
  show jX m_X12_isYear (d + 1) 0 0 0 [(0, .int x)] [] _ 0 0 _
  refine x_iloadn (x := x) rfl rfl ?_
  refine x_i2l rfl ?_
  refine x_lconst (v := 0) rfl kl_0 ?_
  refine x_ldc2 (v := 399) rfl z_12_192 ?_
  refine x_inst (N := m_X12_in) (As := [.long x.toInt64, .long 0, .long 399]) (st := []) (dx9 := d) (mc := 0) (ms := 0) (host := "") rfl t_X12_in ⟨Or.inl q_12_188, s_X12_in⟩ rfl (Nat.le_refl _) rfl rfl ⟨by decide, by decide⟩ (c_X12_in (a := 0) (b := 399) (jt_l x) (by decide) (by decide) ?_)
  show jX m_X12_isYear (d + 1) 0 0 9 [(0, .int x)] [.int (jp (0 ≤ x.toInt ∧ x.toInt ≤ 399))] _ 0 0 _
  exact x_zret rfl rfl (jp_01 _) hQ
/-! reads through writes -/
section RD
variable {h : jH} {a b k j i l p : Nat}
theorem sh_si {s : Nat × Nat} {v : Int32} (H : jsh h a = s) : jsh (jsi h b k v) a = s := H
theorem sh_sl {s : Nat × Nat} {v : Int64} (H : jsh h a = s) : jsh (jsl h b k v) a = s := H
theorem sh_sr {s : Nat × Nat} {v : Option Nat} (H : jsh h a = s) : jsh (jsr h b k v) a = s := H
theorem sh_ci {s : Nat × Nat} {c : Nat} (H : jsh h a = s) : jsh (jci h b c i j l) a = s := H
theorem sh_cl {s : Nat × Nat} {c : Nat} (H : jsh h a = s) : jsh (jcl h b c i j l) a = s := H
theorem sh_na {s : Nat × Nat} {t n : Nat} (e : Nat.beq a b = false) (H : jsh h a = s) : jsh (jna h b t n) a = s := by
  show (if a = b then (t, n) else h.1 a) = s
  rw [if_neg (Nat.ne_of_beq_eq_false e)]; exact H
theorem ju2_ne {α : Type} {f : Nat → Nat → α} {v w : α} (e : (Nat.beq a b && Nat.beq k j) = false) (H : f a k = w) : ju2 f b j v a k = w := by
  unfold ju2
  by_cases c : a = b
  · rw [if_pos c]
    by_cases c2 : k = j
    · subst c; subst c2; rw [Nat.beq_refl, Nat.beq_refl] at e; cases e
    · rw [if_neg c2]; exact H
  · rw [if_neg c]; exact H
theorem ju2_eq {α : Type} {f : Nat → Nat → α} {v : α} : ju2 f a k v a k = v := by unfold ju2; rw [if_pos rfl, if_pos rfl]
theorem ju1_ne {α : Type} {f : Nat → Nat → α} {v : Nat → α} {w : α} (e : Nat.beq a b = false) (H : f a k = w) : ju1 f b v a k = w := by
  unfold ju1
  rw [if_neg (Nat.ne_of_beq_eq_false e)]; exact H
theorem ju1_cn {α : Type} {f : Nat → Nat → α} {w : α} (e : (Nat.ble j k && Nat.blt k (j + l)) = true) (H : f p (i + (k - j)) = w) : ju1 f a (va_cpy (f p) (f a) i j l) a k = w := by
  unfold ju1 va_cpy
  rw [if_pos rfl]
  rw [Bool.and_eq_true] at e
  have h1 := Nat.ble_eq.mp e.1
  have h2 := Nat.blt_eq.mp e.2
  rw [if_pos ⟨h1, h2⟩]; exact H
theorem ju1_co {α : Type} {f : Nat → Nat → α} {w : α} (e : (Nat.ble j k && Nat.blt k (j + l)) = false) (H : f a k = w) : ju1 f a (va_cpy (f p) (f a) i j l) a k = w := by
  unfold ju1 va_cpy
  rw [if_pos rfl, if_neg ?_]
  · exact H
  · intro c
    rw [Nat.ble_eq.mpr c.1, Nat.blt_eq.mpr c.2] at e
    cases e
theorem iv_eq {v : Int32} : jiv (jsi h a k v) a k = v := ju2_eq
theorem iv_si {v w : Int32} (e : (Nat.beq a b && Nat.beq k j) = false) (H : jiv h a k = w) : jiv (jsi h b j v) a k = w := ju2_ne e H
theorem iv_sl {v : Int64} {w : Int32} (H : jiv h a k = w) : jiv (jsl h b j v) a k = w := H
theorem iv_sr {v : Option Nat} {w : Int32} (H : jiv h a k = w) : jiv (jsr h b j v) a k = w := H
theorem iv_ci {w : Int32} (e : Nat.beq a b = false) (H : jiv h a k = w) : jiv (jci h p b i j l) a k = w := ju1_ne e H
theorem iv_cin {w : Int32} (e : (Nat.ble j k && Nat.blt k (j + l)) = true) (H : jiv h p (i + (k - j)) = w) : jiv (jci h p a i j l) a k = w := ju1_cn (f := h.2.1) e H
theorem iv_cio {w : Int32} (e : (Nat.ble j k && Nat.blt k (j + l)) = false) (H : jiv h a k = w) : jiv (jci h p a i j l) a k = w := ju1_co (f := h.2.1) e H
theorem iv_cl {w : Int32} (H : jiv h a k = w) : jiv (jcl h p b i j l) a k = w := H
theorem lv_eq {v : Int64} : jlv (jsl h a k v) a k = v := ju2_eq
theorem lv_sl {v w : Int64} (e : (Nat.beq a b && Nat.beq k j) = false) (H : jlv h a k = w) : jlv (jsl h b j v) a k = w := ju2_ne e H
theorem lv_si {v : Int32} {w : Int64} (H : jlv h a k = w) : jlv (jsi h b j v) a k = w := H
theorem lv_sr {v : Option Nat} {w : Int64} (H : jlv h a k = w) : jlv (jsr h b j v) a k = w := H
theorem lv_cl {w : Int64} (e : Nat.beq a b = false) (H : jlv h a k = w) : jlv (jcl h p b i j l) a k = w := ju1_ne e H
theorem lv_cln {w : Int64} (e : (Nat.ble j k && Nat.blt k (j + l)) = true) (H : jlv h p (i + (k - j)) = w) : jlv (jcl h p a i j l) a k = w := ju1_cn (f := h.2.2.1) e H
theorem lv_clo {w : Int64} (e : (Nat.ble j k && Nat.blt k (j + l)) = false) (H : jlv h a k = w) : jlv (jcl h p a i j l) a k = w := ju1_co (f := h.2.2.1) e H
theorem lv_ci {w : Int64} (H : jlv h a k = w) : jlv (jci h p b i j l) a k = w := H
theorem rv_eq {v : Option Nat} : jrv (jsr h a k v) a k = v := ju2_eq
theorem rv_sr {v w : Option Nat} (e : (Nat.beq a b && Nat.beq k j) = false) (H : jrv h a k = w) : jrv (jsr h b j v) a k = w := ju2_ne e H
theorem rv_si {v : Int32} {w : Option Nat} (H : jrv h a k = w) : jrv (jsi h b j v) a k = w := H
theorem rv_sl {v : Int64} {w : Option Nat} (H : jrv h a k = w) : jrv (jsl h b j v) a k = w := H
theorem rv_ci {w : Option Nat} (H : jrv h a k = w) : jrv (jci h p b i j l) a k = w := H
theorem rv_cl {w : Option Nat} (H : jrv h a k = w) : jrv (jcl h p b i j l) a k = w := H
end RD
