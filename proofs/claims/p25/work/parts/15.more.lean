/-! more rows: cells at places that are told, numbers of tests -/
def jna (h : jH) (a t n : Nat) : jH := ((fun b => if b = a then (t, n) else h.1 b), ju1 h.2.1 a (fun _ => 0), ju1 h.2.2.1 a (fun _ => 0), ju1 h.2.2.2.1 a (fun _ => none), a + 1)
theorem jna_eq {h : jH} {a : Nat} (e : jnx h = a) (t n : Nat) : jnw h t n = jna h a t n := by subst e; rfl
/-- the number of a test -/
def jp (P : Prop) [Decidable P] : Int32 := if P then 1 else 0
theorem jp_01 (P : Prop) [Decidable P] : jp P = 0 ∨ jp P = 1 := by unfold jp; split <;> simp
theorem jpe {P A B : Prop} [Decidable P] (h : (¬ P → A) ∧ (P → B)) : (jp P = 0 → A) ∧ (¬ jp P = 0 → B) := by
  by_cases hp : P
  · have e : jp P = 1 := if_pos hp
    exact ⟨fun q => absurd (e.symm.trans q) (by decide), fun _ => h.2 hp⟩
  · have e : jp P = 0 := if_neg hp
    exact ⟨fun _ => h.1 hp, fun q => absurd e q⟩
theorem jpn {P A B : Prop} [Decidable P] (h : (P → A) ∧ (¬ P → B)) : (¬ jp P = 0 → A) ∧ (jp P = 0 → B) := ⟨(jpe ⟨h.2, h.1⟩).2, (jpe ⟨h.2, h.1⟩).1⟩
theorem jpe_t {P A B : Prop} [Decidable P] (hp : P) (h : B) : (jp P = 0 → A) ∧ (¬ jp P = 0 → B) := jpe ⟨fun q => absurd hp q, fun _ => h⟩
theorem jpe_f {P A B : Prop} [Decidable P] (hp : ¬ P) (h : A) : (jp P = 0 → A) ∧ (¬ jp P = 0 → B) := jpe ⟨fun _ => h, fun q => absurd q hp⟩
theorem jpn_t {P A B : Prop} [Decidable P] (hp : P) (h : A) : (¬ jp P = 0 → A) ∧ (jp P = 0 → B) := jpn ⟨fun _ => h, fun q => absurd hp q⟩
theorem jpn_f {P A B : Prop} [Decidable P] (hp : ¬ P) (h : B) : (¬ jp P = 0 → A) ∧ (jp P = 0 → B) := jpn ⟨fun q => absurd q hp, fun _ => h⟩
theorem bn_t {c A B : Prop} (h : ¬ c) (a : A) : (¬ c → A) ∧ (c → B) := ⟨fun _ => a, fun q => absurd q h⟩
theorem bn_f {c A B : Prop} (h : c) (b : B) : (¬ c → A) ∧ (c → B) := ⟨fun q => absurd h q, fun _ => b⟩
section TI
variable {x y : Int32} {m n : Int} {A B : Prop}
theorem ti_eq (hx : x.toInt = m) (hy : y.toInt = n) (h : (m = n → A) ∧ (¬ m = n → B)) : (x = y → A) ∧ (¬ x = y → B) := by
  have e : x = y ↔ m = n := by rw [← hx, ← hy]; exact Int32.toInt_inj.symm
  rw [e]; exact h
theorem ti_ne (hx : x.toInt = m) (hy : y.toInt = n) (h : (¬ m = n → A) ∧ (m = n → B)) : (¬ x = y → A) ∧ (x = y → B) := by
  have e : x = y ↔ m = n := by rw [← hx, ← hy]; exact Int32.toInt_inj.symm
  rw [e]; exact h
theorem ti_lt (hx : x.toInt = m) (hy : y.toInt = n) (h : (m < n → A) ∧ (¬ m < n → B)) : (x < y → A) ∧ (¬ x < y → B) := by
  rw [Int32.lt_iff_toInt_lt, hx, hy]; exact h
theorem ti_le (hx : x.toInt = m) (hy : y.toInt = n) (h : (m ≤ n → A) ∧ (¬ m ≤ n → B)) : (x ≤ y → A) ∧ (¬ x ≤ y → B) := by
  rw [Int32.le_iff_toInt_le, hx, hy]; exact h
theorem ti_gt (hx : x.toInt = m) (hy : y.toInt = n) (h : (n < m → A) ∧ (¬ n < m → B)) : (y < x → A) ∧ (¬ y < x → B) := by
  rw [Int32.lt_iff_toInt_lt, hx, hy]; exact h
theorem ti_ge (hx : x.toInt = m) (hy : y.toInt = n) (h : (n ≤ m → A) ∧ (¬ n ≤ m → B)) : (y ≤ x → A) ∧ (¬ y ≤ x → B) := by
  rw [Int32.le_iff_toInt_le, hx, hy]; exact h
end TI
section R9
variable {M : jM} {d K S pc : Nat} {ls : jL} {st : List Value} {h : jH} {k n : Nat} {Q : Option Value → jH → Prop}
theorem y_new {idx : Nat} (a c N : Nat) (hat : jat M pc = some (.new idx, 3)) (hw : jNw M idx c N) (ha : jnx h = a) (g3 : k + 1 ≤ K ∧ n + N ≤ S) (kk : jX M d K S (pc + 3) ls (.ref a :: st) (jna h a c N) (k + 1) (n + N) Q) : jX M d K S pc ls st h k n Q :=
  x_new c N hat hw g3 (by rw [jna_eq ha, ha]; exact kk)
theorem y_newa2 {v : Int32} {t : ArrayType} (a tag N : Nat) (hat : jat M pc = some (.newarray t, 2)) (ht : jtA tag = newarray.typeOf t ∧ 100 ≤ tag ∧ tag < 104) (hw : Cond.arrayClass (newarray.typeOf t) ∈ lw_tbl) (hx : ¬ v < 0) (hN : v.toNatClampNeg = N) (hb : N * 8 ≤ 536870912) (ha : jnx h = a) (g3 : k + 1 ≤ K ∧ n + N ≤ S)
    (kk : jX M d K S (pc + 2) ls (.ref a :: st) (jna h a tag N) (k + 1) (n + N) Q) : jX M d K S pc ls (.int v :: st) h k n Q :=
  y_newa tag N hat ht hw hx hN hb g3 (by rw [jna_eq ha, ha]; exact kk)
theorem y_anew2 {idx : Nat} {v : Int32} (a tag N : Nat) (hat : jat M pc = some (.anewarray idx, 3)) (ht : tag = 104 ∨ tag = 105) (hw : ∀ C, jtA tag = .object C → Cond.classLink M.2.1.cls idx C ∈ lw_tbl) (hx : ¬ v < 0) (hN : v.toNatClampNeg = N) (hb : N * 4 ≤ 536870912) (ha : jnx h = a) (g3 : k + 1 ≤ K ∧ n + N ≤ S)
    (kk : jX M d K S (pc + 3) ls (.ref a :: st) (jna h a tag N) (k + 1) (n + N) Q) : jX M d K S pc ls (.int v :: st) h k n Q :=
  y_anew tag N hat ht hw hx hN hb g3 (by rw [jna_eq ha, ha]; exact kk)
theorem y_alen {a t N : Nat} {v : Int32} (hat : jat M pc = some (.arraylength, 1)) (hs : jsh h a = (t, N)) (ht : 100 ≤ t ∧ t < 106) (hv : nI N = v) (kk : jX M d K S (pc + 1) ls (.int v :: st) h k n Q) : jX M d K S pc ls (.ref a :: st) h k n Q := x_alen hat hs ht (hv ▸ kk)
theorem y_aaldN {i : Int32} {a N : Nat} (t j : Nat) (hat : jat M pc = some (.aaload, 1)) (hs : jsh h a = (t, N)) (ht : t = 104 ∨ t = 105) (hi : vp_in i N) (hj : i.toNatClampNeg = j) (hr : jrv h a j = none) (kk : jX M d K S (pc + 1) ls (.null :: st) h k n Q) : jX M d K S pc ls (.int i :: .ref a :: st) h k n Q := by
  subst hj; exact x_aald hat hs ht hi ⟨fun _ => kk, (fun b e => by rw [hr] at e; cases e)⟩
theorem y_aaldR {i : Int32} {a b N : Nat} (t j : Nat) (hat : jat M pc = some (.aaload, 1)) (hs : jsh h a = (t, N)) (ht : t = 104 ∨ t = 105) (hi : vp_in i N) (hj : i.toNatClampNeg = j) (hr : jrv h a j = some b) (kk : jX M d K S (pc + 1) ls (.ref b :: st) h k n Q) : jX M d K S pc ls (.int i :: .ref a :: st) h k n Q := by
  subst hj; exact x_aald hat hs ht hi ⟨(fun e => by rw [hr] at e; cases e), (fun b e => by rw [hr] at e; cases e; exact kk)⟩
theorem y_aastN {i : Int32} {a N : Nat} (t j : Nat) (hat : jat M pc = some (.aastore, 1)) (hs : jsh h a = (t, N)) (ht : t = 104 ∨ t = 105) (ha : Nat.ble 31 a = true) (hi : vp_in i N) (hj : i.toNatClampNeg = j) (kk : jX M d K S (pc + 1) ls st (jsr h a j none) k n Q) : jX M d K S pc ls (.null :: .int i :: .ref a :: st) h k n Q := by
  subst hj; exact x_aastN hat hs ht ha hi kk
theorem y_aast {i : Int32} {a b N : Nat} (t j : Nat) (hat : jat M pc = some (.aastore, 1)) (hs : jsh h a = (t, N)) (ht : t = 104 ∨ t = 105) (ha : Nat.ble 31 a = true) (hb : (jsh h b).1 = jcA t) (hi : vp_in i N) (hj : i.toNatClampNeg = j) (kk : jX M d K S (pc + 1) ls st (jsr h a j (some b)) k n Q) : jX M d K S pc ls (.ref b :: .int i :: .ref a :: st) h k n Q := by
  subst hj; exact x_aast hat hs ht ha hb hi kk
theorem y_cpi {idx a b N1 N2 : Nat} {sp dp ln : Int32} (i j l : Nat) (hat : jat M pc = some (.invokestatic idx, 3)) (hw : jCp M idx) (hd : 1 ≤ d) (hst : Nat.ble (st.map fun v => v.category).sum 8 = true) (ha : Nat.ble 31 a = true) (hb : Nat.ble 31 b = true) (hs1 : jsh h a = (100, N1)) (hs2 : jsh h b = (100, N2)) (h1 : ¬ sp < 0) (h2 : ¬ dp < 0) (h3 : ¬ ln < 0) (e1 : sp.toNatClampNeg = i) (e2 : dp.toNatClampNeg = j) (e3 : ln.toNatClampNeg = l) (h4 : i + l ≤ N1) (h5 : j + l ≤ N2)
    (kk : jX M d K S (pc + 3) ls st (jci h a b i j l) k n Q) : jX M d K S pc ls (.int ln :: .int dp :: .ref b :: .int sp :: .ref a :: st) h k n Q := by
  subst e1; subst e2; subst e3; exact x_cpi hat hw hd hst ha hb hs1 hs2 h1 h2 h3 h4 h5 kk
theorem y_cpl {idx a b N1 N2 : Nat} {sp dp ln : Int32} (i j l : Nat) (hat : jat M pc = some (.invokestatic idx, 3)) (hw : jCp M idx) (hd : 1 ≤ d) (hst : Nat.ble (st.map fun v => v.category).sum 8 = true) (ha : Nat.ble 31 a = true) (hb : Nat.ble 31 b = true) (hs1 : jsh h a = (101, N1)) (hs2 : jsh h b = (101, N2)) (h1 : ¬ sp < 0) (h2 : ¬ dp < 0) (h3 : ¬ ln < 0) (e1 : sp.toNatClampNeg = i) (e2 : dp.toNatClampNeg = j) (e3 : ln.toNatClampNeg = l) (h4 : i + l ≤ N1) (h5 : j + l ≤ N2)
    (kk : jX M d K S (pc + 3) ls st (jcl h a b i j l) k n Q) : jX M d K S pc ls (.int ln :: .int dp :: .ref b :: .int sp :: .ref a :: st) h k n Q := by
  subst e1; subst e2; subst e3; exact x_cpl hat hw hd hst ha hb hs1 hs2 h1 h2 h3 h4 h5 kk
end R9
theorem ki_m1 : Int32.ofInt (-1) = -1 := by decide
theorem ki_0 : Int32.ofInt 0 = 0 := by decide
theorem ki_1 : Int32.ofInt 1 = 1 := by decide
theorem ki_2 : Int32.ofInt 2 = 2 := by decide
theorem ki_3 : Int32.ofInt 3 = 3 := by decide
theorem ki_4 : Int32.ofInt 4 = 4 := by decide
theorem ki_5 : Int32.ofInt 5 = 5 := by decide
theorem kl_0 : Int64.ofNat ((0 : Fin 2) : Nat) = 0 := by decide
theorem kl_1 : Int64.ofNat ((1 : Fin 2) : Nat) = 1 := by decide
def jst_1 : String × String × String × Nat := ("ParishChest", "ROLES_OF", "[I", 1)
def jst_2 : String × String × String × Nat := ("ParishChest", "FIRST_CODE", "[I", 2)
def jst_3 : String × String × String × Nat := ("ParishChest$Clerk", "KIND_OF", "[I", 3)
def jst_4 : String × String × String × Nat := ("ParishChest$Clerk", "WHICH_OF", "[I", 4)
def jstr_0 : String × Nat × String × Nat := ("ParishChest$Clerk", 65, "belong exempt rate relief badge turn fee seat strike ", 5)
