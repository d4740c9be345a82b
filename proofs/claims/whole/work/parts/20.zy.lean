/-! text: turns of the parser -/
def jTn (a : Nat) (t : Int) (h : jH) : Prop := jTu 0 h a (if t = 0 ∨ t = 1 then 0 else 1) ∧ ((jiv h 125 14).toInt ≠ 0 ∨ ((t = 0 ∨ t = 2 → jNsq h) ∧ (t = 4 → jNbr h)))
theorem jtn_0 {a : Nat} {t : Int} {h : jH} (e : t = 0 ∨ t = 1) (T : jTu 0 h a 0) (N : (jiv h 125 14).toInt ≠ 0 ∨ (t = 0 → jNsq h)) : jTn a t h := by
  refine ⟨by rw [if_pos e]; exact T, N.imp id (fun n => ⟨fun c => n (by omega), fun c => by omega⟩)⟩
theorem jtn_1 {a : Nat} {t : Int} {h : jH} (e : ¬ (t = 0 ∨ t = 1)) (T : jTu 0 h a 1) (N : (jiv h 125 14).toInt ≠ 0 ∨ ((t = 2 → jNsq h) ∧ (t = 4 → jNbr h))) : jTn a t h := by
  refine ⟨by rw [if_neg e]; exact T, N.imp id (fun n => ⟨fun c => n.1 (by omega), n.2⟩)⟩
theorem jsa_fm {a : Nat} {h0 h : jH} (S : jSa h0 h) : jFm 0 a h0 h := by
  obtain ⟨s1, s2, s3, s4, s5, s6, s7, s8⟩ := S
  exact ⟨fun z => by rw [s8]; exact z, by rw [s7]; exact Int.le_refl _, Or.inr ⟨fun i _ => s1 i trivial, fun i _ => s2 i trivial, by rw [s7]; omega⟩⟩
theorem jns_sa {h0 h : jH} (S : jSa h0 h) (N : jNsq h0) : jNsq h := by
  intro i hi
  have n : jnL h = jnL h0 := by unfold jnL; rw [S.2.2.2.2.2.1]
  rw [S.2.2.1 i trivial]
  exact N i (by omega)
/-- behindTest: nothing is open, the TEST is over -/
theorem bt_over {a : Nat} {h0 h : jH} {v : Int32} (T : jTu 0 h0 a 1) (S : jSa h0 h) (I : jIr (jiv h 150) v (jnL h)) (hv : v.toInt = -1) : jTn a 4 h ∧ jFm 0 a h0 h :=
  ⟨jtn_1 (by omega) (jtu_sa T S) (Or.inr ⟨fun c => by omega, fun _ => jnb_ir I hv⟩), jsa_fm S⟩
/-- close: what was open is shut; e is 1 or 5 -/
theorem cl_pop {a : Nat} {k e : Int} {h0 h1 h2 : jH} {l u : Int32} (P : jSf k e a h0 h1) (tp : 1 ≤ jnL h1 ∧ 30 ≤ (jiv h1 150 (jnL h1 - 1)).toInt) (ql : jiv h1 125 55 = l) (w : h2 = jsi h1 125 55 u) (hu : u.toInt = l.toInt - 1) : 1 ≤ l.toInt ∧ jTu k h2 a 1 := by
  have t2 := P.1.1.1.2.1
  rw [ql] at t2
  have el := jcl_of t2
  have nl : jnL h1 = l.toNatClampNeg := by unfold jnL; rw [ql]
  have l1 : 1 ≤ l.toInt := by omega
  have eu := jcl_of (d := u) (by omega)
  refine ⟨l1, jtu_pop P.1.1 ql l1 w hu ?_⟩
  rw [show u.toNatClampNeg = jnL h1 - 1 from by omega]
  exact tp.2
/-- a mark is put on the pile, and what stays as it was -/
theorem mk_push {k : Int} {a : Nat} {h h1 h2 h3 : jH} {l l' x y : Int32} (T : jTu k h a 0) (ql : jiv h 125 55 = l) (w1 : h1 = jsi h 150 l.toNatClampNeg x) (w2 : h2 = jsi h1 151 l.toNatClampNeg y) (w3 : h3 = jsi h2 125 55 l') (hl : l'.toInt = l.toInt + 1) (hx : x.toInt = 18 ∨ x.toInt = 30 ∨ x.toInt = 31) (hs : (jiv h 125 14).toInt ≠ 0 ∨ jNsq h ∨ x.toInt = 31) : jTu (k - 1) h3 a 0 ∧ (jNsq h → x.toInt ≠ 31 → jNsq h3) ∧ jEq 148 (fun _ => True) h3 h ∧ jEq 149 (fun _ => True) h3 h ∧ jiv h3 125 9 = jiv h 125 9 ∧ jiv h3 125 14 = jiv h 125 14 := by
  have na : ¬ jAo_ x := by unfold jAo_; omega
  have ps := jtu_psh T.1 ql w1 w2 w3 hl (by unfold jplx; omega) (fun c => absurd c na)
  refine ⟨jtu_mark T ql w1 w2 w3 hl hx hs, fun N n31 i hi c => ?_, fun i _ => by rw [ps.2.2.2.2.2.2.2.1], fun i _ => by rw [ps.2.2.2.2.2.2.2.2.1], jmo w3 rfl (jmo w2 rfl (jmo w1 rfl rfl)), ps.2.2.2.2.2.2.2.2.2.2⟩
  by_cases z : i = l.toNatClampNeg
  · rw [z, ps.2.2.2.1] at c
    exact n31 c
  · have nl := ps.2.1
    have nl3 := ps.2.2.1
    rw [ps.2.2.2.2.2.1 i (by omega)] at c
    exact N i (by omega) c
/-- readPlain: a NOT -/
theorem rp_not {a : Nat} {h0 h1 h2 h3 h : jH} {l l' y f f' : Int32} (T : jTu 0 h0 a 0) (N : (jiv h0 125 14).toInt ≠ 0 ∨ jNsq h0) (ql : jiv h0 125 55 = l) (w1 : h1 = jsi h0 150 l.toNatClampNeg 18) (w2 : h2 = jsi h1 151 l.toNatClampNeg y) (w3 : h3 = jsi h2 125 55 l') (hl : l'.toInt = l.toInt + 1) (e0 : jEq 148 (fun _ => True) h h3) (e1 : jEq 149 (fun _ => True) h h3) (e2 : jEq 150 (fun _ => True) h h3) (e3 : jEq 151 (fun _ => True) h h3) (c : jiv h 125 49 = jiv h3 125 49) (q5 : jiv h 125 55 = jiv h3 125 55) (b : jiv h 125 14 = jiv h3 125 14) (qf : jiv h0 125 9 = f) (qf' : jiv h 125 9 = f') (hf : f.toInt + 1 ≤ f'.toInt) : jTn a 0 h ∧ jFm 1 a h0 h := by
  have e18 : (18 : Int32).toInt = 18 := by decide
  obtain ⟨m1, m2, m3, m4, m5, m6⟩ := mk_push T ql w1 w2 w3 hl (Or.inl e18) (N.imp id Or.inl)
  have T2 : jTu 0 h a 0 := jtu_mv m1 e0 e1 e2 e3 c q5 (fun z => by rw [b]; exact z) (m5.trans qf) qf' (by omega)
  have n2 : jnL h = jnL h3 := by unfold jnL; rw [q5]
  refine ⟨jtn_0 (Or.inl rfl) T2 ?_, fun z => by rw [b, m6]; exact z, by rw [qf, qf']; omega, Or.inr ⟨fun i _ => (e0 i trivial).trans (m3 i trivial), fun i _ => (e1 i trivial).trans (m4 i trivial), by rw [qf, qf']; exact hf⟩⟩
  rw [b, m6]
  refine N.imp id (fun n _ i hi => ?_)
  rw [e2 i trivial]
  exact m2 n (by omega) i (by omega)
/-- open behind must: t is the turn behind it -/
theorem op_mark {a : Nat} {t : Int} {h0 h h1 h2 h3 h4 : jH} {l l' x y z b : Int32} (M : jMu a 0 h0 h) (qb : jiv h 125 14 = b) (zb : b.toInt = 0) (w0 : h1 = jsi h 125 56 z) (ql : jiv h1 125 55 = l) (w1 : h2 = jsi h1 150 l.toNatClampNeg x) (w2 : h3 = jsi h2 151 l.toNatClampNeg y) (w3 : h4 = jsi h3 125 55 l') (hl : l'.toInt = l.toInt + 1) (hx : (x.toInt = 30 ∧ t = 0) ∨ (x.toInt = 31 ∧ t = 1)) (N : x.toInt = 31 ∨ (jiv h0 125 14).toInt ≠ 0 ∨ jNsq h0) : jTn a t h4 ∧ jFm 1 a h0 h4 := by
  obtain ⟨m1, m2, m3, m4⟩ := M
  rcases m4 with c | ⟨t1, e0, e1, e2, l5, c9, f⟩
  · rw [qb] at c; exact absurd zb c
  · have T1 := (jpo_mv (d := 0) (h0 := h) (o := 0) (a := a) (f := 56) ⟨m1, fun z => z, Int.le_refl _, Or.inr ⟨jeq_0, jeq_0, by omega⟩⟩ w0 rfl).1
    have g : ∀ k, (Nat.beq k 56) = false → jiv h1 125 k = jiv h 125 k := fun k hk => jmo w0 (by rw [hk]; rfl) rfl
    have T2 : jTu 1 h1 a 0 := jtu_mv t1 (jeq_o w0 rfl jeq_0) (jeq_o w0 rfl jeq_0) (jeq_o w0 rfl jeq_0) (jeq_o w0 rfl jeq_0) (g 49 rfl) (g 55 rfl) (fun z => by rw [g 14 rfl]; exact z) rfl (g 9 rfl) (by omega)
    have b0 : ¬ (jiv h 125 14).toInt ≠ 0 := by rw [qb]; omega
    have ns : x.toInt = 31 ∨ jNsq h1 := by
      rcases N with n | n | n
      · exact Or.inl n
      · exact absurd (m2 n) b0
      · refine Or.inr (fun i hi => ?_)
        have n1 : jnL h1 = jnL h0 := by unfold jnL; rw [g 55 rfl, l5]
        rw [jeq_o w0 rfl (jeq_0 (P := fun _ => True)) i trivial, e2 i trivial]
        exact n i (by omega)
    obtain ⟨p1, p2, p3, p4, p5, p6⟩ := mk_push T2 ql w1 w2 w3 hl (by omega) (Or.inr ns.symm)
    have b4 : jiv h4 125 14 = jiv h 125 14 := p6.trans (g 14 rfl)
    have f4 : jiv h4 125 9 = jiv h 125 9 := p5.trans (g 9 rfl)
    refine ⟨jtn_0 (by omega) p1 (Or.inr (fun c => p2 (ns.resolve_left (by omega)) (by omega))), fun z => by rw [b4]; exact m2 z, by rw [f4]; exact m3, Or.inr ⟨fun i _ => ?_, fun i _ => ?_, by rw [f4]; exact f⟩⟩
    · rw [p3 i trivial, jeq_o w0 rfl (jeq_0 (P := fun _ => True)) i trivial, e0 i trivial]
    · rw [p4 i trivial, jeq_o w0 rfl (jeq_0 (P := fun _ => True)) i trivial, e1 i trivial]
theorem bn_push {k : Int} {a : Nat} {h h1 h2 h3 : jH} {l l' x y : Int32} (T : jTu k h a 1) (ql : jiv h 125 55 = l) (w1 : h1 = jsi h 150 l.toNatClampNeg x) (w2 : h2 = jsi h1 151 l.toNatClampNeg y) (w3 : h3 = jsi h2 125 55 l') (hl : l'.toInt = l.toInt + 1) (hx : 6 ≤ x.toInt ∧ x.toInt ≤ 12) (hs : (jiv h 125 14).toInt ≠ 0 ∨ jNsq h ∨ x.toInt ≤ 9) : jTu (k - 1) h3 a 0 ∧ jEq 148 (fun _ => True) h3 h ∧ jEq 149 (fun _ => True) h3 h ∧ jiv h3 125 9 = jiv h 125 9 ∧ jiv h3 125 14 = jiv h 125 14 := by
  have na : ¬ jAo_ x := by unfold jAo_; omega
  have ps := jtu_psh T.1 ql w1 w2 w3 hl (Or.inl hx) (fun c => absurd c na)
  exact ⟨jtu_bin T ql w1 w2 w3 hl hx hs, fun i _ => by rw [ps.2.2.2.2.2.2.2.1], fun i _ => by rw [ps.2.2.2.2.2.2.2.2.1], jmo w3 rfl (jmo w2 rfl (jmo w1 rfl rfl)), ps.2.2.2.2.2.2.2.2.2.2⟩
/-- settle writes neither bad nor where the tape is read -/
theorem jse_fm {k e d : Int} {a : Nat} {h0 h h1 : jH} (F : jFm d a h0 h) (S : jSe k e a h h1) (f : jiv h1 125 9 = jiv h 125 9) (b : jiv h1 125 14 = jiv h 125 14) : jFm d a h0 h1 := by
  refine ⟨fun z => by rw [b]; exact F.1 z, by rw [f]; exact F.2.1, ?_⟩
  rw [b, f]
  rcases F.2.2 with z | z
  · exact Or.inl z
  · rcases S.2.2.2.2.2 with y | y
    · rw [b] at y; exact Or.inl y
    · exact Or.inr ⟨fun i hi => (y.1 i hi).trans (z.1 i hi), fun i hi => (y.2 i hi).trans (z.2.1 i hi), z.2.2⟩
theorem jfm_mv {d dx9 : Int} {a : Nat} {h0 h h1 : jH} {f f' : Int32} (F : jFm d a h0 h) (e0 : jEq 148 (fun _ => True) h1 h) (e1 : jEq 149 (fun _ => True) h1 h) (b : jiv h1 125 14 = jiv h 125 14) (qf : jiv h 125 9 = f) (qf' : jiv h1 125 9 = f') (hd : dx9 + f.toInt ≤ d + f'.toInt) (hf : f.toInt ≤ f'.toInt) : jFm dx9 a h0 h1 := by
  refine ⟨fun z => by rw [b]; exact F.1 z, ?_, ?_⟩
  · have := F.2.1
    rw [qf] at this
    rw [qf']
    omega
  · rw [b]
    refine F.2.2.imp id (fun z => ⟨fun i hi => (e0 i trivial).trans (z.1 i hi), fun i hi => (e1 i trivial).trans (z.2.1 i hi), ?_⟩)
    have := z.2.2
    rw [qf] at this
    rw [qf']
    omega
/-- behindSum: a sign of a SUM -/
theorem bs_arith {a : Nat} {e : Int} {h0 h h1 h2 h3 h4 h5 : jH} {l l' x y f f' : Int32} (T : jTu 0 h0 a 1) (S : jSa h0 h) (P : jSf 0 e a h h1) (p9 : jiv h1 125 9 = jiv h 125 9) (p14 : jiv h1 125 14 = jiv h 125 14) (ql : jiv h1 125 55 = l) (w1 : h2 = jsi h1 150 l.toNatClampNeg x) (w2 : h3 = jsi h2 151 l.toNatClampNeg y) (w3 : h4 = jsi h3 125 55 l') (hl : l'.toInt = l.toInt + 1) (hx : 6 ≤ x.toInt ∧ x.toInt ≤ 9) (e0 : jEq 148 (fun _ => True) h5 h4) (e1 : jEq 149 (fun _ => True) h5 h4) (e2 : jEq 150 (fun _ => True) h5 h4) (e3 : jEq 151 (fun _ => True) h5 h4) (c : jiv h5 125 49 = jiv h4 125 49) (q5 : jiv h5 125 55 = jiv h4 125 55) (b : jiv h5 125 14 = jiv h4 125 14) (qf : jiv h1 125 9 = f) (qf' : jiv h5 125 9 = f') (hf : f.toInt + 1 ≤ f'.toInt) : jTn a 1 h5 ∧ jFm 1 a h0 h5 := by
  obtain ⟨m1, m2, m3, m4, m5⟩ := bn_push P.1.1 ql w1 w2 w3 hl ⟨hx.1, by omega⟩ (Or.inr (Or.inr hx.2))
  have T2 : jTu 0 h5 a 0 := jtu_mv m1 e0 e1 e2 e3 c q5 (fun z => by rw [b]; exact z) (m4.trans qf) qf' (by omega)
  have F1 := jse_fm (jsa_fm (a := a) S) P.1 p9 p14
  have F2 : jFm 0 a h0 h4 := jfm_mv F1 m2 m3 m5 qf (m4.trans qf) (by omega) (by omega)
  exact ⟨jtn_0 (Or.inr rfl) T2 (Or.inr (fun z => by omega)), jfm_mv F2 e0 e1 b (m4.trans qf) qf' (by omega) (by omega)⟩
/-- behindSum: over; or what was compared is a TEST -/
theorem bs_told {a : Nat} {h0 h : jH} {v : Int32} (T : jTu 0 h0 a 1) (S : jSa h0 h) (I : jIr (jiv h 150) v (jnL h)) (hv : v.toInt ≠ 31) : jTn a 2 h ∧ jFm 0 a h0 h := by
  have T1 := jtu_sa T S
  exact ⟨jtn_1 (by omega) T1 (T1.2.imp id (fun z => ⟨fun _ => jns_ir z I hv, fun c => by omega⟩)), jsa_fm S⟩
/-- what inner said still holds where pile and its height are the same -/
theorem jir_mv {h h1 : jH} {v : Int32} (e : jEq 150 (fun _ => True) h1 h) (q : jiv h1 125 55 = jiv h 125 55) (I : jIr (jiv h 150) v (jnL h)) : jIr (jiv h1 150) v (jnL h1) := by
  have n : jnL h1 = jnL h := by unfold jnL; rw [q]
  rw [n, show jiv h1 150 = jiv h 150 from funext fun i => e i trivial]
  exact I
/-- a mark is shut behind must: e is 5 (SQUARE) or 1 (ROUND) -/
theorem cl_mark {a : Nat} {e t : Int} {h0 h h1 h2 h3 : jH} {l u z v b : Int32} (M : jMu a 1 h0 h) (qb : jiv h 125 14 = b) (zb : b.toInt = 0) (I : jIr (jiv h0 150) v (jnL h0)) (P : jSf 1 e a h h1) (p9 : jiv h1 125 9 = jiv h 125 9) (p14 : jiv h1 125 14 = jiv h 125 14) (he : (e = 5 ∧ v.toInt = 31 ∧ t = 3) ∨ (e = 1 ∧ 30 ≤ v.toInt ∧ t = 2)) (N : t = 3 ∨ (jiv h0 125 14).toInt ≠ 0 ∨ jNsq h0) (ql : jiv h1 125 55 = l) (w : h2 = jsi h1 125 55 u) (hu : u.toInt = l.toInt - 1) (w2 : h3 = jsi h2 125 56 z) : 1 ≤ l.toInt ∧ jTn a t h3 ∧ jFm 1 a h0 h3 := by
  have M0 := M
  obtain ⟨m1, m2, m3, m4⟩ := M
  rcases m4 with c | ⟨t1, e0, e1, e2, l5, c9, f⟩
  · rw [qb] at c; exact absurd zb c
  · have b0 : ¬ (jiv h 125 14).toInt ≠ 0 := by rw [qb]; omega
    have X := t1.2.resolve_left b0
    have I1 := jir_mv e2 l5 I
    have tp : 1 ≤ jnL h1 ∧ jiv h1 150 (jnL h1 - 1) = v := by
      rcases he with ⟨r1, r2, r3⟩ | ⟨r1, r2, r3⟩
      · subst r1
        exact jsf_top5 P X I1 r2
      · subst r1
        exact jsf_top1 P t1.1 I1 r2
    have v30 : 30 ≤ v.toInt := by omega
    obtain ⟨q1, q2⟩ := cl_pop P ⟨tp.1, by rw [tp.2]; exact v30⟩ ql w hu
    have F1 := jse_fm (jmu_fm M0) P.1 p9 p14
    have F2 : jFm 1 a h0 h2 := jfm_mv F1 (jeq_o w rfl jeq_0) (jeq_o w rfl jeq_0) (jmo w rfl rfl) rfl (jmo w rfl rfl) (by omega) (by omega)
    have q20 : jTu 0 h2 a 1 := jtu_mv q2 jeq_0 jeq_0 jeq_0 jeq_0 rfl rfl (fun z => z) rfl rfl (by omega)
    have R := jpo_mv ⟨q20, F2⟩ w2 rfl
    refine ⟨q1, jtn_1 (by omega) R.1 ?_, R.2⟩
    refine Or.inr ⟨fun c i hi => ?_, fun c => by omega⟩
    have ns : jNsq h0 := by
      rcases N with n | n | n
      · omega
      · exact absurd (m2 n) b0
      · exact n
    have el := jcl_of (d := u) (by omega)
    have el2 := jcl_of (d := l) (by omega)
    have n3 : jnL h3 = u.toNatClampNeg := by unfold jnL; rw [show jiv h3 125 55 = u from jmo w2 rfl (jmw w)]
    have n1 : jnL h1 = l.toNatClampNeg := by unfold jnL; rw [ql]
    have nh : jnL h = jnL h0 := by unfold jnL; rw [l5]
    have le := P.1.2.1
    rw [show jiv h3 150 i = jiv h1 150 i from jmo w2 rfl (jmo w rfl rfl), P.1.2.2.1 i trivial, e2 i trivial]
    exact ns i (by omega)
/-- behindSum: a sign that compares -/
theorem bs_cmp {a : Nat} {h0 h h1 h2 h3 h4 : jH} {l l' x y v b : Int32} (M : jMu a 1 h0 h) (qb : jiv h 125 14 = b) (zb : b.toInt = 0) (I : jIr (jiv h0 150) v (jnL h0)) (hv : v.toInt ≠ 31) (P : jSf 1 5 a h h1) (p9 : jiv h1 125 9 = jiv h 125 9) (p14 : jiv h1 125 14 = jiv h 125 14) (ql : jiv h1 125 55 = l) (w1 : h2 = jsi h1 150 l.toNatClampNeg x) (w2 : h3 = jsi h2 151 l.toNatClampNeg y) (w3 : h4 = jsi h3 125 55 l') (hl : l'.toInt = l.toInt + 1) (hx : 10 ≤ x.toInt ∧ x.toInt ≤ 12) : jTn a 1 h4 ∧ jFm 1 a h0 h4 := by
  have M0 := M
  obtain ⟨m1, m2, m3, m4⟩ := M
  rcases m4 with c | ⟨t1, e0, e1, e2, l5, c9, f⟩
  · rw [qb] at c; exact absurd zb c
  · have b0 : ¬ (jiv h 125 14).toInt ≠ 0 := by rw [qb]; omega
    have X := t1.2.resolve_left b0
    have ns := jns_se P.1 (jns_ir X (jir_mv e2 l5 I) hv)
    obtain ⟨r1, r2, r3, r4, r5⟩ := bn_push P.1.1 ql w1 w2 w3 hl ⟨by omega, hx.2⟩ (Or.inr (Or.inl ns))
    have F1 := jse_fm (jmu_fm M0) P.1 p9 p14
    exact ⟨jtn_0 (Or.inr rfl) r1 (Or.inr (fun z => by omega)), jfm_mv F1 r2 r3 r5 rfl r4 (by omega) (by omega)⟩
/-- bad: any turn -/
theorem jmu_tb {a : Nat} {o t : Int} {h0 h : jH} {b : Int32} (M : jMu a o h0 h) (qb : jiv h 125 14 = b) (zb : b.toInt ≠ 0) : jTn a t h ∧ jFm 1 a h0 h := by
  have z : (jiv h 125 14).toInt ≠ 0 := by rw [qb]; exact zb
  refine ⟨⟨⟨M.1.1, Or.inl z⟩, Or.inl z⟩, jmu_fm M⟩
theorem rs_part {a : Nat} {h0 h : jH} (P : jTu 0 h a 1 ∧ jFm 1 a h0 h) : jTn a 3 h ∧ jFm 1 a h0 h := ⟨jtn_1 (by omega) P.1 (Or.inr ⟨fun c => by omega, fun c => by omega⟩), P.2⟩
/-- readPlain: a word that holds or not -/
theorem rp_plain {a : Nat} {h0 h h1 h2 h3 h4 : jH} {c c' x y b z : Int32} (M : jMu a 0 h0 h) (N : (jiv h0 125 14).toInt ≠ 0 ∨ jNsq h0) (qb : jiv h 125 14 = b) (zb : b.toInt = 0) (qc : jiv h 125 49 = c) (w1 : h1 = jsi h 148 c.toNatClampNeg x) (w2 : h2 = jsi h1 149 c.toNatClampNeg y) (w3 : h3 = jsi h2 125 49 c') (hc : c'.toInt = c.toInt + 1) (hx : 13 ≤ x.toInt ∧ x.toInt < 18) (w4 : h4 = jsi h3 125 52 z) : jTn a 2 h4 ∧ jFm 1 a h0 h4 := by
  have R := jpo_mv (jmu_leaf M qb zb qc w1 w2 w3 hc (Or.inr hx)) w4 rfl
  refine ⟨jtn_1 (by omega) R.1 ?_, R.2⟩
  obtain ⟨m1, m2, m3, m4⟩ := M
  rcases m4 with q | ⟨t1, e0, e1, e2, l5, c9, f⟩
  · rw [qb] at q; exact absurd zb q
  · have b0 : ¬ (jiv h 125 14).toInt ≠ 0 := by rw [qb]; omega
    have ns : jNsq h0 := N.resolve_left (fun n => b0 (m2 n))
    refine Or.inr ⟨fun _ i hi => ?_, fun c => by omega⟩
    have n4 : jnL h4 = jnL h0 := by unfold jnL; rw [show jiv h4 125 55 = jiv h 125 55 from jmo w4 rfl (jmo w3 rfl (jmo w2 rfl (jmo w1 rfl rfl))), l5]
    rw [show jiv h4 150 i = jiv h 150 i from jmo w4 rfl (jmo w3 rfl (jmo w2 rfl (jmo w1 rfl rfl))), e2 i trivial]
    exact ns i (by omega)
/-- behindTest: an AND or OR; the pushed stands, the code is to come -/
def jB66 (a : Nat) (h0 h3 : jH) : Prop := ∃ (h h1 h2 : jH) (l l' x c : Int32), jTu 0 h a 1 ∧ ((jiv h 125 14).toInt ≠ 0 ∨ jNsq h) ∧ jFm 0 a h0 h ∧ jiv h 125 9 = jiv h0 125 9 ∧ jiv h 125 55 = l ∧ jiv h 125 49 = c ∧ h1 = jsi h 150 l.toNatClampNeg x ∧ h2 = jsi h1 151 l.toNatClampNeg c ∧ h3 = jsi h2 125 55 l' ∧ l'.toInt = l.toInt + 1 ∧ jAo_ x ∧ c.toInt < 400
theorem bt_ao {a : Nat} {h0 h3 h4 h5 h6 h7 : jH} {y c c' f f' : Int32} (B : jB66 a h0 h3) (qc : jiv h3 125 49 = c) (w4 : h4 = jsi h3 148 c.toNatClampNeg y) (w5 : h5 = jsi h4 149 c.toNatClampNeg 0) (w6 : h6 = jsi h5 125 49 c') (hc : c'.toInt = c.toInt + 1) (hy : jAo_ y) (e0 : jEq 148 (fun _ => True) h7 h6) (e1 : jEq 149 (fun _ => True) h7 h6) (e2 : jEq 150 (fun _ => True) h7 h6) (e3 : jEq 151 (fun _ => True) h7 h6) (k9 : jiv h7 125 49 = jiv h6 125 49) (q5 : jiv h7 125 55 = jiv h6 125 55) (b : jiv h7 125 14 = jiv h6 125 14) (qf : jiv h3 125 9 = f) (qf' : jiv h7 125 9 = f') (hf : f.toInt + 1 ≤ f'.toInt) : jTn a 0 h7 ∧ jFm 1 a h0 h7 := by
  obtain ⟨h, h1, h2, l, l', x, cc, b1, b2, b3, b4, b5, b6, w1, w2, w3, hl, hx, c4⟩ := B
  have : cc = c := by rw [← b6, ← qc]; exact (jmo w3 rfl (jmo w2 rfl (jmo w1 rfl rfl))).symm
  subst this
  have T6 := jtu_ao b1 b5 b6 w1 w2 w3 hl w4 w5 w6 hc hx hy c4 b2
  have f6 : jiv h6 125 9 = jiv h3 125 9 := jmo w6 rfl (jmo w5 rfl (jmo w4 rfl rfl))
  have f3 : jiv h3 125 9 = jiv h 125 9 := jmo w3 rfl (jmo w2 rfl (jmo w1 rfl rfl))
  have b63 : jiv h6 125 14 = jiv h 125 14 := jmo w6 rfl (jmo w5 rfl (jmo w4 rfl (jmo w3 rfl (jmo w2 rfl (jmo w1 rfl rfl)))))
  have T7 : jTu 0 h7 a 0 := jtu_mv T6 e0 e1 e2 e3 k9 q5 (fun z => by rw [b]; exact z) (f6.trans qf) qf' (by omega)
  have t1 := b1.1.1
  rw [b6] at t1
  have ec := jcl_of t1
  have t2 := b1.1.2.1
  rw [b5] at t2
  have el := jcl_of t2
  have el' := jcl_of (d := l') (by omega)
  have qf0 : (jiv h0 125 9).toInt = f.toInt := by rw [← b4, ← f3, qf]
  refine ⟨jtn_0 (Or.inl rfl) T7 ?_, fun z => by rw [b, b63]; exact b3.1 z, by rw [qf0, qf']; omega, ?_⟩
  · rw [b, b63]
    refine b2.imp id (fun n _ i hi q => ?_)
    have n7 : jnL h7 = l.toNatClampNeg + 1 := by unfold jnL; rw [q5, show jiv h6 125 55 = l' from jmo w6 rfl (jmo w5 rfl (jmo w4 rfl (jmw w3)))]; omega
    have nh : jnL h = l.toNatClampNeg := by unfold jnL; rw [b5]
    rw [e2 i trivial, show jiv h6 150 i = jiv h1 150 i from jmo w6 rfl (jmo w5 rfl (jmo w4 rfl (jmo w3 rfl (jmo w2 rfl rfl))))] at q
    by_cases z : i = l.toNatClampNeg
    · rw [z, jmw w1] at q
      rcases hx with r | r <;> omega
    · rw [jmo w1 (show (Nat.beq 150 150 && Nat.beq i l.toNatClampNeg) = false from by rw [jbne z, Bool.and_false]) rfl] at q
      exact n i (by omega) q
  · rw [b, b63]
    rcases b1.2 with z | z
    · exact Or.inl z
    · rcases b3.2.2 with y | y
      · exact Or.inl y
      · have ac := z.1
        have nc : jnC h = cc.toNatClampNeg := by unfold jnC; rw [b6]
        rw [nc] at ac
        refine Or.inr ⟨fun i hi => ?_, fun i hi => ?_, by rw [qf0, qf']; exact hf⟩
        · rw [e0 i trivial, show jiv h6 148 i = jiv h 148 i from jmo w6 rfl (jmo w5 rfl (jmo w4 (by rw [jbne (a := i) (b := cc.toNatClampNeg) (by omega), Bool.and_false]) (jmo w3 rfl (jmo w2 rfl (jmo w1 rfl rfl)))))]
          exact y.1 i hi
        · rw [e1 i trivial, show jiv h6 149 i = jiv h 149 i from jmo w6 rfl (jmo w5 (by rw [jbne (a := i) (b := cc.toNatClampNeg) (by omega), Bool.and_false]) (jmo w4 rfl (jmo w3 rfl (jmo w2 rfl (jmo w1 rfl rfl)))))]
          exact y.2.1 i hi
theorem jtw_l {k : Int} {h : jH} {l f : Int32} (W : jTw k h) (ql : jiv h 125 55 = l) (qf : jiv h 125 9 = f) : l.toInt + k ≤ f.toInt := by
  have := W.2.2.2.1
  rw [ql, qf] at this
  exact this
theorem jmu_l {a : Nat} {o : Int} {h0 h : jH} {l b : Int32} (M : jMu a o h0 h) (qb : jiv h 125 14 = b) (zb : b.toInt = 0) (ql : jiv h 125 55 = l) (hf : (jiv h 125 9).toInt ≤ 400) : l.toInt ≤ 399 := by
  rcases M.2.2.2 with z | z
  · rw [qb] at z; exact absurd zb z
  · have := z.1.1.2.2.2.1
    rw [ql] at this
    omega
