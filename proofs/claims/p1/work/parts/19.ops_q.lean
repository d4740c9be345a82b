/-! locals forgotten; a fresh pair but for some ints and arrays -/
theorem jX.less {M : jM} {d K S pc : Nat} {ls ls' : jL} {st : List Value} {h : jH} {k n : Nat} {Q : Option Value → jH → Prop} (hs : ∀ q ∈ ls', q ∈ ls) (kk : jX M d K S pc ls' st h k n Q) : jX M d K S pc ls st h k n Q := by
  intro p l e R s m args below meth c D lo ad H locs lA hc hV hA hP hl hL h1 h2
  refine kk p l e R s m args below meth c D lo ad H locs lA hc hV hA hP ⟨hl.1, hl.2.1, fun q hq => ?_⟩ hL h1 h2
  obtain ⟨w, hw, rfl⟩ := List.mem_map.mp hq
  exact hl.2.2 _ (List.mem_map.mpr ⟨w, hs w hw, rfl⟩)
def jFe (XI XA : List Nat) (lo : Nat) (h : jH) : Prop := (∀ a s, Nat.ble lo a = true → jtS.lookup a = some s → jsh h a = s) ∧ (∀ q c, Nat.ble lo (q / 128) = true → jtR.lookup q = some c → jrv h (q / 128) (q % 128) = some c) ∧ (∀ q v, Nat.ble lo (q / 128) = true → XI.contains q = false → jtI.lookup q = some v → jiv h (q / 128) (q % 128) = v) ∧ (∀ a, Nat.ble lo a = true → XA.contains a = false → jtAr.contains a = true → ∀ k, jiv h a k = 0 ∧ jlv h a k = 0) ∧ (∀ q v, Nat.ble lo (q / 128) = true → jtL.lookup q = some v → jlv h (q / 128) (q % 128) = v) ∧ (∀ a, Nat.ble lo a = true → jtN.contains a = true → ∀ k, jrv h a k = none)
theorem jFe_of {XI XA : List Nat} {lo : Nat} {h : jH} (F : jFb lo h) : jFe XI XA lo h := ⟨F.1, F.2.1, fun q v g _ w => F.2.2.1 q v g w, fun a g _ w => F.2.2.2.1 a g w, F.2.2.2.2⟩
theorem jcon_sub {X Y : List Nat} (e : X.all (fun q => Y.contains q) = true) {q : Nat} (g : Y.contains q = false) : X.contains q = false := by
  cases c : X.contains q
  · rfl
  · have m := List.all_eq_true.mp e q (List.contains_iff_mem.mp c)
    rw [g] at m; cases m
theorem jFe_up {XI XA YI YA : List Nat} {lo : Nat} {h : jH} (e1 : XI.all (fun q => YI.contains q) = true) (e2 : XA.all (fun q => YA.contains q) = true) (F : jFe XI XA lo h) : jFe YI YA lo h := ⟨F.1, F.2.1, fun q v g x w => F.2.2.1 q v g (jcon_sub e1 x) w, fun a g x w => F.2.2.2.1 a g (jcon_sub e2 x) w, F.2.2.2.2⟩
theorem jbne {a b : Nat} (e : a ≠ b) : Nat.beq a b = false := by
  cases c : Nat.beq a b
  · rfl
  · exact absurd (Nat.eq_of_beq_eq_true c) e
theorem jFe_sa {XI XA : List Nat} {lo a k : Nat} {h : jH} {v : Int32} (e : jtAr.contains a = true) (e2 : XA.contains a = true) (F : jFe XI XA lo h) : jFe XI XA lo (jsi h a k v) := by
  refine ⟨F.1, F.2.1, fun q u g x w => ?_, fun b g x w j => ?_, F.2.2.2.2⟩
  · refine iv_si ?_ (F.2.2.1 q u g x w)
    have m := jno_A _ (jlk_mem w)
    have n : q / 128 ≠ a := fun c => by subst c; rw [e] at m; cases m
    rw [jbne n, Bool.false_and]
  · have n : b ≠ a := fun c => by subst c; rw [x] at e2; cases e2
    refine ⟨iv_si ?_ (F.2.2.2.1 b g x w j).1, lv_si (F.2.2.2.1 b g x w j).2⟩
    rw [jbne n, Bool.false_and]
theorem jFe_sf {XI XA : List Nat} {lo a k : Nat} {h : jH} {v : Int32} (hk : Nat.blt k 128 = true) (e : jtAr.contains a = false) (e2 : XI.contains (a * 128 + k) = true) (F : jFe XI XA lo h) : jFe XI XA lo (jsi h a k v) := by
  have hk := Nat.blt_eq.mp hk
  refine ⟨F.1, F.2.1, fun q u g x w => ?_, fun b g x w j => ?_, F.2.2.2.2⟩
  · refine iv_si ?_ (F.2.2.1 q u g x w)
    have n : ¬ (q / 128 = a ∧ q % 128 = k) := fun c => by
      have c2 : q = a * 128 + k := by omega
      subst c2; rw [x] at e2; cases e2
    by_cases c : q / 128 = a
    · have c2 : q % 128 ≠ k := fun z => n ⟨c, z⟩
      rw [jbne c2, Bool.and_false]
    · rw [jbne c, Bool.false_and]
  · have n : b ≠ a := fun c => by subst c; rw [w] at e; cases e
    refine ⟨iv_si ?_ (F.2.2.2.1 b g x w j).1, lv_si (F.2.2.2.1 b g x w j).2⟩
    rw [jbne n, Bool.false_and]
theorem jnI1b (m : Nat) : nI m + 1 = nI (m + 1) := jnI1 m
theorem jinc1 {x : Int32} (h : x.toInt < 2147483647) : (x + Int32.ofInt 1).toInt = x.toInt + 1 := by
  have h1 := Int32.le_toInt x
  rw [Int32.toInt_add]
  have e : (Int32.ofInt 1).toInt = 1 := by decide
  rw [e]
  exact Int.bmod_eq_of_le (by omega) (by omega)
theorem jlinc {x : Int64} (h : 0 ≤ x.toInt ∧ x.toInt < 2147483647) : (x + 1).toInt = x.toInt + 1 := by
  rw [Int64.toInt_add]
  have e : (1 : Int64).toInt = 1 := by decide
  rw [e]
  exact Int.bmod_eq_of_le (by omega) (by omega)
theorem jlc_ne {X Y : Int64} {m n : Int} {A B : Prop} (hx : X.toInt = m) (hy : Y.toInt = n) (h : (¬ m = n → A) ∧ (m = n → B)) : (¬ lg_cmp X Y = 0 → A) ∧ (lg_cmp X Y = 0 → B) := by
  subst hx; subst hy
  rw [lg_cmp_eq, ← Int64.toInt_inj]
  exact h
theorem jd2 {D : Int64} (h : 0 < D.toInt ∧ D.toInt < 1000000000) : (2 * D).toInt = 2 * D.toInt := by
  rw [Int64.toInt_mul]
  have e : (2 : Int64).toInt = 2 := by decide
  rw [e]
  exact Int.bmod_eq_of_le (by omega) (by omega)
theorem jd2_ne {D : Int64} (h : 0 < D.toInt ∧ D.toInt < 1000000000) : ¬ 2 * D = 0 := by
  intro c
  have e := jd2 h
  rw [c] at e
  have z : (0 : Int64).toInt = 0 := by decide
  omega
theorem jfz {X D : Int64} (h : 0 < D.toInt ∧ D.toInt < 1000000000) : (((2 * 0) * X + D) / (2 * D)).toInt32 = 0 := by
  have e1 : ((2 : Int64) * 0) * X + D = D := by
    have z : (2 : Int64) * 0 = 0 := by decide
    rw [z, Int64.zero_mul, Int64.zero_add]
  have e2 : D / (2 * D) = 0 := by
    apply Int64.toInt_inj.mp
    rw [Int64.toInt_div, jd2 h]
    have e3 : D.toInt.tdiv (2 * D.toInt) = 0 := Int.tdiv_eq_zero_of_lt (by omega) (by omega)
    rw [e3]
    decide
  rw [e1, e2]
  decide
theorem jlk_out {x a b o1 o2 d : Int} (h1 : ¬ x = a) (h2 : ¬ x = b) : Op.lookupswitch.offset [(a, o1), (b, o2)] d x = d := by
  have h3 : ¬ a = x := fun e => h1 e.symm
  have h4 : ¬ b = x := fun e => h2 e.symm
  simp [Op.lookupswitch.offset, h1, h2, h3, h4]
theorem jclt {x : Int32} {m : Nat} (h : 0 ≤ x.toInt ∧ x.toInt < m) : x.toNatClampNeg < m := by
  show x.toInt.toNat < m
  omega
theorem jarr1 {h : jH} {a m : Nat} {c : Int32} (hm : (nI m).toInt = (m : Int)) (H : ∀ j, j < m → jiv h a j = c) : ∀ j, j < m + 1 → jiv (jsi h a (nI m).toNatClampNeg c) a j = c := by
  intro j hj
  rw [jclv hm]
  by_cases e : j = m
  · subst e; exact iv_eq
  · refine iv_si ?_ (H j (by omega))
    rw [jbne e, Bool.and_false]
theorem jarr0 {h : jH} {a : Nat} {c : Int32} : ∀ j, j < 0 → jiv h a j = c := fun j hj => absurd hj (Nat.not_lt_zero _)
theorem jFb_xh {h h' : jH} {lo a : Nat} (ha : Nat.ble 174 a = true) (hx : jEx a h h') (F : jFb lo h) : jFb lo h' := by
  have ha := Nat.ble_eq.mp ha
  have e : ∀ b, b < 174 → b ≠ a := fun b q => by omega
  have es : ∀ b, jsh h' b = jsh h b := fun b => by unfold jsh; rw [hx.1]
  refine ⟨fun b s g q => by rw [es]; exact F.1 b s g q, fun q c g w => by rw [(hx.2.2 _ (e _ (jlt_R _ (jlk_mem w)))).2.2]; exact F.2.1 q c g w, fun q v g w => by rw [(hx.2.2 _ (e _ (jlt_I _ (jlk_mem w)))).1]; exact F.2.2.1 q v g w, fun b g w k => ?_, fun q v g w => by rw [(hx.2.2 _ (e _ (jlt_L _ (jlk_mem w)))).2.1]; exact F.2.2.2.2.1 q v g w, fun b g w k => by rw [(hx.2.2 _ (e _ (jlt_N _ (List.contains_iff_mem.mp w)))).2.2]; exact F.2.2.2.2.2 b g w k⟩
  have m := e _ (jlt_A _ (List.contains_iff_mem.mp w))
  rw [(hx.2.2 _ m).1, (hx.2.2 _ m).2.1]
  exact F.2.2.2.1 b g w k
theorem jFh_si {h : jH} {lo a k : Nat} {v : Int32} (ha : Nat.ble 174 a = true) (F : jFb lo h) : jFb lo (jsi h a k v) := jFb_xh ha (jEx_si h a k v) F
theorem jFh_sl {h : jH} {lo a k : Nat} {v : Int64} (ha : Nat.ble 174 a = true) (F : jFb lo h) : jFb lo (jsl h a k v) := jFb_xh ha (jEx_sl h a k v) F
theorem jFh_sr {h : jH} {lo a k : Nat} {v : Option Nat} (ha : Nat.ble 174 a = true) (F : jFb lo h) : jFb lo (jsr h a k v) := jFb_xh ha (jEx_sr h a k v) F
theorem jFh_ci {h : jH} {lo b a i j l : Nat} (ha : Nat.ble 174 a = true) (F : jFb lo h) : jFb lo (jci h b a i j l) := jFb_xh ha (jEx_ci h b a i j l) F
theorem jFh_cl {h : jH} {lo b a i j l : Nat} (ha : Nat.ble 174 a = true) (F : jFb lo h) : jFb lo (jcl h b a i j l) := jFb_xh ha (jEx_cl h b a i j l) F

def jXI0 : List Nat := [9997]
def jXA0 : List Nat := [86]
def jXIt : List Nat := [12554, 12555, 13711, 13712, 9997]
def jXAt : List Nat := [86, 101, 115, 116, 117, 118, 119]
def jXIm : List Nat := [16000, 16028, 16031, 16057]
def jXAm : List Nat := [168, 169]
theorem ks_366 : (Int16.ofInt 366).toInt32 = 366 := by decide
theorem ks_3660 : (Int16.ofInt 3660).toInt32 = 3660 := by decide
theorem ks_720 : (Int16.ofInt 720).toInt32 = 720 := by decide
