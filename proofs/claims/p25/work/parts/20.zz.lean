/-! text: behindTest, behindSum, what is wanting -/
theorem jmu_1 {a : Nat} {o : Int} {h0 h : jH} {b : Int32} (M : jMu a o h0 h) (qb : jiv h 125 14 = b) (zb : b.toInt = 0) : jTu 1 h a o := by
  rcases M.2.2.2 with z | z
  · rw [qb] at z; exact absurd zb z
  · exact z.1
theorem jtw_c {k : Int} {h : jH} {c f : Int32} (W : jTw k h) (qc : jiv h 125 49 = c) (qf : jiv h 125 9 = f) : c.toInt + k ≤ f.toInt := by
  have := W.2.2.1
  have n := jct_nn (P := jiv h 150) (jnL h)
  rw [qc, qf] at this
  omega
def jB47 (a : Nat) (h0 h : jH) : Prop := jTu 0 h a 1 ∧ ((jiv h 125 14).toInt ≠ 0 ∨ jNsq h) ∧ jFm 0 a h0 h ∧ jiv h 125 9 = jiv h0 125 9
theorem bt_47 {a : Nat} {e : Int} {h0 h h1 : jH} (N : (jiv h0 125 14).toInt ≠ 0 ∨ jNsq h0) (S : jSa h0 h) (P : jSf 0 e a h h1) (p9 : jiv h1 125 9 = jiv h 125 9) (p14 : jiv h1 125 14 = jiv h 125 14) : jB47 a h0 h1 := by
  refine ⟨P.1.1, ?_, jse_fm (jsa_fm S) P.1 p9 p14, by rw [p9]; exact S.2.2.2.2.2.2.1⟩
  rw [p14, S.2.2.2.2.2.2.2]
  exact N.imp id (fun n => jns_se P.1 (jns_sa S n))
theorem jb66_c {a : Nat} {h0 h3 : jH} {c : Int32} (B : jB66 a h0 h3) (qc : jiv h3 125 49 = c) : c.toInt < 400 := by
  obtain ⟨h, h1, h2, l, l', x, cc, b1, b2, b3, b4, b5, b6, w1, w2, w3, hl, hx, c4⟩ := B
  have : cc = c := by rw [← b6, ← qc]; exact (jmo w3 rfl (jmo w2 rfl (jmo w1 rfl rfl))).symm
  rw [← this]
  exact c4
/-- what behindSum and behindTest say: u, v: the turns that may take nothing off the tape -/
def jBp (u v : Int) (a : Nat) (h0 : jH) (t : Int) (h : jH) : Prop := jTn a t h ∧ jFm 0 a h0 h ∧ (jFm 1 a h0 h ∨ t = u ∨ t = v)
theorem jfm_0 {a : Nat} {h0 h : jH} (F : jFm 1 a h0 h) : jFm 0 a h0 h := ⟨F.1, F.2.1, F.2.2.imp id (fun z => ⟨z.1, z.2.1, by have := z.2.2; omega⟩)⟩
theorem jbp_1 {a : Nat} {u v t : Int} {h0 h : jH} (P : jTn a t h ∧ jFm 1 a h0 h) : jBp u v a h0 t h := ⟨P.1, jfm_0 P.2, Or.inl P.2⟩
theorem jbp_u {a : Nat} {u v t : Int} {h0 h : jH} (P : jTn a t h ∧ jFm 0 a h0 h) (e : t = u ∨ t = v) : jBp u v a h0 t h := ⟨P.1, P.2, Or.inr e⟩
theorem jir_bk {h0 h : jH} {v : Int32} (e : jEq 150 (fun _ => True) h h0) (q : jiv h 125 55 = jiv h0 125 55) (I : jIr (jiv h 150) v (jnL h)) : jIr (jiv h0 150) v (jnL h0) := by
  have n : jnL h = jnL h0 := by unfold jnL; rw [q]
  rw [n, show jiv h 150 = jiv h0 150 from funext fun i => e i trivial] at I
  exact I
theorem jir_30 {P : Nat → Int32} {v : Int32} {n : Nat} (I : jIr P v n) (hv : v.toInt ≠ -1) : 30 ≤ v.toInt := by
  rcases I with c | ⟨b, b1, b2, b3, b4⟩
  · exact absurd c.1 hv
  · exact b3
theorem cl_l {a : Nat} {e : Int} {h0 h h1 : jH} {l v b : Int32} (M : jMu a 1 h0 h) (qb : jiv h 125 14 = b) (zb : b.toInt = 0) (I : jIr (jiv h0 150) v (jnL h0)) (P : jSf 1 e a h h1) (he : (e = 5 ∧ v.toInt = 31) ∨ (e = 1 ∧ 30 ≤ v.toInt)) (ql : jiv h1 125 55 = l) : 1 ≤ l.toInt := by
  rcases M.2.2.2 with c | ⟨t1, e0, e1, e2, l5, c9, f⟩
  · rw [qb] at c; exact absurd zb c
  · have X := t1.2.resolve_left (by rw [qb]; omega)
    have I1 := jir_mv e2 l5 I
    have tp : 1 ≤ jnL h1 := by
      rcases he with ⟨r1, r2⟩ | ⟨r1, r2⟩
      · subst r1
        exact (jsf_top5 P X I1 r2).1
      · subst r1
        exact (jsf_top1 P t1.1 I1 r2).1
    have t2 := P.1.1.1.2.1
    rw [ql] at t2
    have el := jcl_of t2
    have nl : jnL h1 = l.toNatClampNeg := by unfold jnL; rw [ql]
    omega
/-- the same by 'no SQUARE' alone -/
theorem bs_told2 {a : Nat} {h0 h : jH} (T : jTu 0 h0 a 1) (S : jSa h0 h) (N : (jiv h0 125 14).toInt ≠ 0 ∨ jNsq h0) : jTn a 2 h ∧ jFm 0 a h0 h := by
  refine ⟨jtn_1 (by omega) (jtu_sa T S) ?_, jsa_fm S⟩
  rw [S.2.2.2.2.2.2.2]
  exact N.imp id (fun n => ⟨fun _ => jns_sa S n, fun c => by omega⟩)
theorem bs_cmp2 {a : Nat} {h0 h h1 h2 h3 h4 : jH} {l l' x y b : Int32} (M : jMu a 1 h0 h) (qb : jiv h 125 14 = b) (zb : b.toInt = 0) (N : (jiv h0 125 14).toInt ≠ 0 ∨ jNsq h0) (P : jSf 1 5 a h h1) (p9 : jiv h1 125 9 = jiv h 125 9) (p14 : jiv h1 125 14 = jiv h 125 14) (ql : jiv h1 125 55 = l) (w1 : h2 = jsi h1 150 l.toNatClampNeg x) (w2 : h3 = jsi h2 151 l.toNatClampNeg y) (w3 : h4 = jsi h3 125 55 l') (hl : l'.toInt = l.toInt + 1) (hx : 10 ≤ x.toInt ∧ x.toInt ≤ 12) : jTn a 1 h4 ∧ jFm 1 a h0 h4 := by
  have M0 := M
  obtain ⟨m1, m2, m3, m4⟩ := M
  rcases m4 with c | ⟨t1, e0, e1, e2, l5, c9, f⟩
  · rw [qb] at c; exact absurd zb c
  · have b0 : ¬ (jiv h 125 14).toInt ≠ 0 := by rw [qb]; omega
    have n0 : jNsq h0 := N.resolve_left (fun n => b0 (m2 n))
    have nh : jNsq h := fun i hi => by
      rw [e2 i trivial]
      exact n0 i (by have : jnL h = jnL h0 := by unfold jnL; rw [l5]
                     omega)
    obtain ⟨r1, r2, r3, r4, r5⟩ := bn_push P.1.1 ql w1 w2 w3 hl ⟨by omega, hx.2⟩ (Or.inr (Or.inl (jns_se P.1 nh)))
    have F1 := jse_fm (jmu_fm M0) P.1 p9 p14
    exact ⟨jtn_0 (Or.inr rfl) r1 (Or.inr (fun z => by omega)), jfm_mv F1 r2 r3 r5 rfl r4 (by omega) (by omega)⟩
theorem jns_62 {a : Nat} {h0 h : jH} {v : Int32} (T : jTu 0 h0 a 1) (S : jSa h0 h) (I : jIr (jiv h 150) v (jnL h)) (hv : v.toInt ≠ 31) : (jiv h0 125 14).toInt ≠ 0 ∨ jNsq h0 := by
  rcases T.2 with z | z
  · exact Or.inl z
  · exact Or.inr (jns_ir z (jir_bk S.2.2.1 S.2.2.2.2.2.1 I) hv)
/-! readExpression -/
def jrw (t : Int) : Int := if t = 3 then 2 else if t = 2 then 1 else 0
def jrj (t : Int) (h : jH) : Int := if (jiv h 125 14).toInt ≠ 0 ∨ t = 4 then 0 else 1 + 4 * (401 - (jiv h 125 9).toInt) + jrw t
theorem jrw_b (t : Int) : 0 ≤ jrw t ∧ jrw t ≤ 2 := by unfold jrw; split; omega; split <;> omega
theorem jrj_b {t : Int} {h : jH} (hf : 0 ≤ (jiv h 125 9).toInt ∧ (jiv h 125 9).toInt ≤ 400) : 0 ≤ jrj t h ∧ jrj t h ≤ 1610 := by
  have := jrw_b t
  unfold jrj
  split <;> omega
/-- a step that takes of the tape -/
theorem jrj_1 {a : Nat} {t t' : Int} {h0 h : jH} (F : jFm 1 a h0 h) (b : (jiv h0 125 14).toInt = 0) (ht : t ≠ 4) (hf : (jiv h0 125 9).toInt ≤ 400) : jrj t' h < jrj t h0 := by
  have r := jrw_b t
  have r' := jrw_b t'
  unfold jrj
  rw [if_neg (show ¬ ((jiv h0 125 14).toInt ≠ 0 ∨ t = 4) from by omega)]
  split
  · omega
  · rename_i c
    rcases F.2.2 with z | z
    · exact absurd (Or.inl z) c
    · have := z.2.2
      omega
/-- a step that only turns: SUMMED to TOLD or OVER, TOLD to OVER -/
theorem jrj_0 {a : Nat} {t t' : Int} {h0 h : jH} (F : jFm 0 a h0 h) (b : (jiv h0 125 14).toInt = 0) (ht : (t = 3 ∧ (t' = 2 ∨ t' = 4)) ∨ (t = 2 ∧ t' = 4)) (hf : (jiv h0 125 9).toInt ≤ 400) : jrj t' h < jrj t h0 := by
  have r := jrw_b t
  unfold jrj
  rw [if_neg (show ¬ ((jiv h0 125 14).toInt ≠ 0 ∨ t = 4) from by omega)]
  split
  · omega
  · rename_i c
    have q := F.2.1
    have e : jrw 3 = 2 := by decide
    have e2 : jrw 2 = 1 := by decide
    rcases ht with ⟨rfl, rfl | rfl⟩ | ⟨rfl, rfl⟩
    · rw [e, e2]; omega
    · exact absurd (Or.inr rfl) c
    · exact absurd (Or.inr rfl) c
/-- a SUM or TEST that is read: bad, or its code can be gone through -/
def jRe (a : Nat) (h0 h : jH) : Prop := jFm 0 a h0 h ∧ (jiv h 125 49).toInt ≤ (jiv h 125 9).toInt ∧ ((jiv h 125 14).toInt ≠ 0 ∨ jPn_ (jiv h 148) (jiv h 149) a (jnC h))
theorem jre_of {a : Nat} {h0 h h1 : jH} (F : jFm 0 a h0 h) (T : jTn a 4 h ∨ (jiv h 125 14).toInt ≠ 0) (P : jSf 0 1 a h h1) (W : jTw 0 h) (p9 : jiv h1 125 9 = jiv h 125 9) (p14 : jiv h1 125 14 = jiv h 125 14) (hf : (jiv h1 125 9).toInt ≤ 400) : jRe a h0 h1 := by
  have w1 := P.1.1.1
  have n := jct_nn (P := jiv h1 150) (jnL h1)
  refine ⟨jse_fm F P.1 p9 p14, by have := w1.2.2.1; omega, ?_⟩
  rcases P.1.1.2 with z | z
  · exact Or.inl z
  · by_cases y : (jiv h 125 14).toInt = 0
    · rcases T with T | T
      · rcases T.2 with c | c
        · exact absurd y c
        · have e := jsf_end P W (c.2 rfl)
          refine Or.inr ?_
          unfold jTz at z
          rw [e] at z
          have ec := jcl_of w1.1
          refine jXp_end z ?_
          have := w1.2.2.1
          unfold jnC
          omega
      · exact absurd y T
    · exact Or.inl (by rw [p14]; exact y)
theorem re_0 {a : Nat} {t : Int} {h0 h1 h2 : jH} {x : Int32} (e : t = 0 ∨ t = 1) (hA : a = jnC h0) (hC : (jiv h0 125 49).toInt ≤ (jiv h0 125 9).toInt) (h49 : 0 ≤ (jiv h0 125 49).toInt) (w1 : h1 = jsi h0 125 55 0) (w2 : h2 = jsi h1 125 56 x) : jTn a t h2 ∧ jFm 0 a h0 h2 := by
  have f55 : jiv h2 125 55 = 0 := jmo w2 rfl (jmw w1)
  have f49 : jiv h2 125 49 = jiv h0 125 49 := jmo w2 rfl (jmo w1 rfl rfl)
  have f9 : jiv h2 125 9 = jiv h0 125 9 := jmo w2 rfl (jmo w1 rfl rfl)
  have f14 : jiv h2 125 14 = jiv h0 125 14 := jmo w2 rfl (jmo w1 rfl rfl)
  have z0 : (0 : Int32).toInt = 0 := by decide
  have nl : jnL h2 = 0 := by unfold jnL; rw [f55]; decide
  have nc : jnC h2 = a := by rw [hA]; unfold jnC; rw [f49]
  refine ⟨jtn_0 e ⟨⟨by rw [f49]; exact h49, by rw [f55, z0]; omega, ?_, by rw [f55, f9, z0]; omega, fun i hi => by omega⟩, Or.inr ?_⟩ (Or.inr (fun _ i hi => by omega)), fun z => by rw [f14]; exact z, by rw [f9]; exact Int.le_refl _, Or.inr ⟨fun i _ => jmo w2 rfl (jmo w1 rfl rfl), fun i _ => jmo w2 rfl (jmo w1 rfl rfl), by rw [f9]; omega⟩⟩
  · rw [f49, f9, nl]
    show _ + 0 + 0 ≤ _
    omega
  · unfold jTz
    rw [nl, nc]
    exact jXp_new
theorem jtn_u0 {a : Nat} {t : Int} {h : jH} (T : jTn a t h) (e : t = 0 ∨ t = 1) : jTu 0 h a 0 := by
  have := T.1
  rw [if_pos e] at this
  exact this
theorem jtn_u1 {a : Nat} {t : Int} {h : jH} (T : jTn a t h) (e : ¬ (t = 0 ∨ t = 1)) : jTu 0 h a 1 := by
  have := T.1
  rw [if_neg e] at this
  exact this
theorem jtn_n {a : Nat} {t : Int} {h : jH} (T : jTn a t h) (e : t = 0 ∨ t = 2) : (jiv h 125 14).toInt ≠ 0 ∨ jNsq h := T.2.imp id (fun z => z.1 e)
theorem jfm_tr {a : Nat} {d : Int} {h0 h h1 : jH} (F : jFm 0 a h0 h) (G : jFm d a h h1) (hd : 0 ≤ d) : jFm 0 a h0 h1 := by
  refine ⟨fun z => G.1 (F.1 z), by have := F.2.1; have := G.2.1; omega, ?_⟩
  rcases G.2.2 with z | z
  · exact Or.inl z
  · rcases F.2.2 with y | y
    · exact Or.inl (G.1 y)
    · exact Or.inr ⟨fun i hi => (z.1 i hi).trans (y.1 i hi), fun i hi => (z.2.1 i hi).trans (y.2.1 i hi), by have := y.2.2; have := z.2.2; omega⟩
theorem re_bp {a : Nat} {u v t t' : Int} {h0 h h1 : jH} (F : jFm 0 a h0 h) (B : jBp u v a h t' h1) (b : (jiv h 125 14).toInt = 0) (ht : (t = 3 ∧ u = 2 ∧ v = 4) ∨ (t = 2 ∧ u = 4 ∧ v = 4)) (hf : (jiv h 125 9).toInt ≤ 400) : (jTn a t' h1 ∧ jFm 0 a h0 h1) ∧ jrj t' h1 < jrj t h := by
  refine ⟨⟨B.1, jfm_tr F B.2.1 (by omega)⟩, ?_⟩
  rcases B.2.2 with z | z
  · exact jrj_1 z b (by omega) hf
  · exact jrj_0 B.2.1 b (by omega) hf
theorem re_rd {a : Nat} {t t' : Int} {h0 h h1 : jH} (F : jFm 0 a h0 h) (B : jTn a t' h1 ∧ jFm 1 a h h1) (b : (jiv h 125 14).toInt = 0) (ht : t ≠ 4) (hf : (jiv h 125 9).toInt ≤ 400) : (jTn a t' h1 ∧ jFm 0 a h0 h1) ∧ jrj t' h1 < jrj t h := ⟨⟨B.1, jfm_tr F B.2 (by omega)⟩, jrj_1 B.2 b ht hf⟩
