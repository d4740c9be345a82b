/-! Math.max, min, abs -/
section R10
variable {M : jM} {d K S pc : Nat} {ls : jL} {st : List Value} {h : jH} {k n : Nat} {Q : Option Value → jH → Prop}
theorem jcat_sum (ad : Nat → Nat) (st : List Value) : ((st.map (jv ad)).map fun v => v.category).sum = (st.map fun v => v.category).sum := by
  rw [List.map_map]
  have e2 : ((fun v => v.category) ∘ jv ad) = fun v : Value => v.category := by funext v; exact jv_cat ad v
  rw [e2]
theorem x_mmax {idx : Nat} {x y : Int32} (hat : jat M pc = some (.invokestatic idx, 3)) (hw : Cond.methodLink M.2.1.cls idx yJ9_max_7cf53 ∈ lw_tbl) (hd : 1 ≤ d) (hst : Nat.ble (st.map fun v => v.category).sum 8 = true) (kk : (x < y → jX M d K S (pc + 3) ls (.int y :: st) h k n Q) ∧ (¬ x < y → jX M d K S (pc + 3) ls (.int x :: st) h k n Q)) : jX M d K S pc ls (.int y :: .int x :: st) h k n Q := by
  have kk2 : jX M d K S (pc + 3) ls (.int (if x < y then y else x) :: st) h k n Q := by
    by_cases c : x < y
    · rw [if_pos c]; exact kk.1 c
    · rw [if_neg c]; exact kk.2 c
  intro p l e R s m args below meth cd D lo ad H locs lA hc hV hA hP hl hL g1 g2
  have hc2 := hc
  obtain ⟨c1, c2, c3, c4, c5, c6, c7, c8, c9, c10, c11, c12, c13⟩ := hc
  have hst := Nat.ble_eq.mp hst
  have hok : ∀ w, w ∈ lw_tbl → goodWord w = true → w.before args s = true := fun w h1 h2 => c8 w (jtb_of h1 h2)
  exact va_mmax c1 c2 (by rw [c3]; exact hl.1.symm) c7 (hok _ hw rfl) (hok _ s_J9_max_7cf53 rfl) (hok _ t_J9_max_7cf53.1.2 rfl) (hok _ t_J9_max_7cf53.1.1 rfl) (by omega) (by rw [jcat_sum]; omega) (by omega) (by omega) (jok_at c13 hat) (kk2 p l e R s m args below meth cd D lo ad H locs lA hc2 hV hA hP hl hL g1 g2)
theorem x_mmin {idx : Nat} {x y : Int32} (hat : jat M pc = some (.invokestatic idx, 3)) (hw : Cond.methodLink M.2.1.cls idx yJ9_min_7cf53 ∈ lw_tbl) (hd : 1 ≤ d) (hst : Nat.ble (st.map fun v => v.category).sum 8 = true) (kk : (y < x → jX M d K S (pc + 3) ls (.int y :: st) h k n Q) ∧ (¬ y < x → jX M d K S (pc + 3) ls (.int x :: st) h k n Q)) : jX M d K S pc ls (.int y :: .int x :: st) h k n Q := by
  have kk2 : jX M d K S (pc + 3) ls (.int (if y < x then y else x) :: st) h k n Q := by
    by_cases c : y < x
    · rw [if_pos c]; exact kk.1 c
    · rw [if_neg c]; exact kk.2 c
  intro p l e R s m args below meth cd D lo ad H locs lA hc hV hA hP hl hL g1 g2
  have hc2 := hc
  obtain ⟨c1, c2, c3, c4, c5, c6, c7, c8, c9, c10, c11, c12, c13⟩ := hc
  have hst := Nat.ble_eq.mp hst
  have hok : ∀ w, w ∈ lw_tbl → goodWord w = true → w.before args s = true := fun w h1 h2 => c8 w (jtb_of h1 h2)
  exact va_mmin c1 c2 (by rw [c3]; exact hl.1.symm) c7 (hok _ hw rfl) (hok _ s_J9_min_7cf53 rfl) (hok _ t_J9_min_7cf53.1.2 rfl) (hok _ t_J9_min_7cf53.1.1 rfl) (by omega) (by rw [jcat_sum]; omega) (by omega) (by omega) (jok_at c13 hat) (kk2 p l e R s m args below meth cd D lo ad H locs lA hc2 hV hA hP hl hL g1 g2)
theorem x_mabs {idx : Nat} {x : Int32} (hat : jat M pc = some (.invokestatic idx, 3)) (hw : Cond.methodLink M.2.1.cls idx yJ9_abs_0f7a4 ∈ lw_tbl) (hd : 1 ≤ d) (hst : Nat.ble (st.map fun v => v.category).sum 8 = true) (kk : (0 ≤ x → jX M d K S (pc + 3) ls (.int x :: st) h k n Q) ∧ (¬ 0 ≤ x → jX M d K S (pc + 3) ls (.int (0 - x) :: st) h k n Q)) : jX M d K S pc ls (.int x :: st) h k n Q := by
  have kk2 : jX M d K S (pc + 3) ls (.int (if 0 ≤ x then x else 0 - x) :: st) h k n Q := by
    by_cases c : 0 ≤ x
    · rw [if_pos c]; exact kk.1 c
    · rw [if_neg c]; exact kk.2 c
  intro p l e R s m args below meth cd D lo ad H locs lA hc hV hA hP hl hL g1 g2
  have hc2 := hc
  obtain ⟨c1, c2, c3, c4, c5, c6, c7, c8, c9, c10, c11, c12, c13⟩ := hc
  have hst := Nat.ble_eq.mp hst
  have hok : ∀ w, w ∈ lw_tbl → goodWord w = true → w.before args s = true := fun w h1 h2 => c8 w (jtb_of h1 h2)
  exact va_mabs c1 c2 (by rw [c3]; exact hl.1.symm) c7 (hok _ hw rfl) (hok _ s_J9_abs_0f7a4 rfl) (hok _ t_J9_abs_0f7a4.1.2 rfl) (hok _ t_J9_abs_0f7a4.1.1 rfl) (by omega) (by rw [jcat_sum]; omega) (by omega) (by omega) (jok_at c13 hat) (kk2 p l e R s m args below meth cd D lo ad H locs lA hc2 hV hA hP hl hL g1 g2)
theorem x_lmax {idx : Nat} {x y : Int64} (hat : jat M pc = some (.invokestatic idx, 3)) (hw : Cond.methodLink M.2.1.cls idx yJ9_max_f86c9 ∈ lw_tbl) (hd : 1 ≤ d) (hst : Nat.ble (st.map fun v => v.category).sum 8 = true) (kk : (y < x → jX M d K S (pc + 3) ls (.long x :: st) h k n Q) ∧ (¬ y < x → jX M d K S (pc + 3) ls (.long y :: st) h k n Q)) : jX M d K S pc ls (.long y :: .long x :: st) h k n Q := by
  have kk2 : jX M d K S (pc + 3) ls (.long (if y < x then x else y) :: st) h k n Q := by
    by_cases c : y < x
    · rw [if_pos c]; exact kk.1 c
    · rw [if_neg c]; exact kk.2 c
  intro p l e R s m args below meth cd D lo ad H locs lA hc hV hA hP hl hL g1 g2
  have hc2 := hc
  obtain ⟨c1, c2, c3, c4, c5, c6, c7, c8, c9, c10, c11, c12, c13⟩ := hc
  have hst := Nat.ble_eq.mp hst
  have hok : ∀ w, w ∈ lw_tbl → goodWord w = true → w.before args s = true := fun w h1 h2 => c8 w (jtb_of h1 h2)
  exact va_mmax_long c1 c2 (by rw [c3]; exact hl.1.symm) c7 (hok _ hw rfl) (hok _ s_J9_max_f86c9 rfl) (hok _ t_J9_max_f86c9.1.2 rfl) (hok _ t_J9_max_f86c9.1.1 rfl) (by omega) (by rw [jcat_sum]; omega) (by omega) (by omega) (jok_at c13 hat) (kk2 p l e R s m args below meth cd D lo ad H locs lA hc2 hV hA hP hl hL g1 g2)
theorem x_lmin {idx : Nat} {x y : Int64} (hat : jat M pc = some (.invokestatic idx, 3)) (hw : Cond.methodLink M.2.1.cls idx yJ9_min_f86c9 ∈ lw_tbl) (hd : 1 ≤ d) (hst : Nat.ble (st.map fun v => v.category).sum 8 = true) (kk : (y < x → jX M d K S (pc + 3) ls (.long y :: st) h k n Q) ∧ (¬ y < x → jX M d K S (pc + 3) ls (.long x :: st) h k n Q)) : jX M d K S pc ls (.long y :: .long x :: st) h k n Q := by
  have kk2 : jX M d K S (pc + 3) ls (.long (if y < x then y else x) :: st) h k n Q := by
    by_cases c : y < x
    · rw [if_pos c]; exact kk.1 c
    · rw [if_neg c]; exact kk.2 c
  intro p l e R s m args below meth cd D lo ad H locs lA hc hV hA hP hl hL g1 g2
  have hc2 := hc
  obtain ⟨c1, c2, c3, c4, c5, c6, c7, c8, c9, c10, c11, c12, c13⟩ := hc
  have hst := Nat.ble_eq.mp hst
  have hok : ∀ w, w ∈ lw_tbl → goodWord w = true → w.before args s = true := fun w h1 h2 => c8 w (jtb_of h1 h2)
  exact va_mmin_long c1 c2 (by rw [c3]; exact hl.1.symm) c7 (hok _ hw rfl) (hok _ s_J9_min_f86c9 rfl) (hok _ t_J9_min_f86c9.1.2 rfl) (hok _ t_J9_min_f86c9.1.1 rfl) (by omega) (by rw [jcat_sum]; omega) (by omega) (by omega) (jok_at c13 hat) (kk2 p l e R s m args below meth cd D lo ad H locs lA hc2 hV hA hP hl hL g1 g2)
theorem x_labs {idx : Nat} {x : Int64} (hat : jat M pc = some (.invokestatic idx, 3)) (hw : Cond.methodLink M.2.1.cls idx yJ9_abs_067f4 ∈ lw_tbl) (hd : 1 ≤ d) (hst : Nat.ble (st.map fun v => v.category).sum 8 = true) (kk : (0 < x → jX M d K S (pc + 3) ls (.long x :: st) h k n Q) ∧ (¬ 0 < x → jX M d K S (pc + 3) ls (.long (-x) :: st) h k n Q)) : jX M d K S pc ls (.long x :: st) h k n Q := by
  have kk2 : jX M d K S (pc + 3) ls (.long (if 0 < x then x else -x) :: st) h k n Q := by
    by_cases c : 0 < x
    · rw [if_pos c]; exact kk.1 c
    · rw [if_neg c]; exact kk.2 c
  intro p l e R s m args below meth cd D lo ad H locs lA hc hV hA hP hl hL g1 g2
  have hc2 := hc
  obtain ⟨c1, c2, c3, c4, c5, c6, c7, c8, c9, c10, c11, c12, c13⟩ := hc
  have hst := Nat.ble_eq.mp hst
  have hok : ∀ w, w ∈ lw_tbl → goodWord w = true → w.before args s = true := fun w h1 h2 => c8 w (jtb_of h1 h2)
  exact va_mabs_long c1 c2 (by rw [c3]; exact hl.1.symm) c7 (hok _ hw rfl) (hok _ s_J9_abs_067f4 rfl) (hok _ t_J9_abs_067f4.1.2 rfl) (hok _ t_J9_abs_067f4.1.1 rfl) (by omega) (by rw [jcat_sum]; omega) (by omega) (by omega) (jok_at c13 hat) (kk2 p l e R s m args below meth cd D lo ad H locs lA hc2 hV hA hP hl hL g1 g2)
end R10
