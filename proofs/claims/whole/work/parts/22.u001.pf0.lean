/-! frames of denotations -/
def pc (l : List (Nat × Nat)) (c k : Nat) : Bool := l.any fun q => Nat.beq q.1 c && (Nat.beq q.2 0 || Nat.beq q.2 (k + 1))
def pcw (l : List (Nat × Nat)) (c : Nat) : Bool := l.any fun q => Nat.beq q.1 c && Nat.beq q.2 0
def psb (l m : List (Nat × Nat)) : Bool := l.all fun q => m.any fun p => Nat.beq p.1 q.1 && (Nat.beq p.2 0 || Nat.beq p.2 q.2)
def pF (l : List (Nat × Nat)) (W V : jW) : Prop := (∀ c k, pc l c k = false → V.1 c k = W.1 c k) ∧ (∀ c k, pc l c k = false → V.2.1 c k = W.2.1 c k) ∧ (∀ c k, pc l c k = false → V.2.2.1 c k = W.2.2.1 c k) ∧ V.2.2.2 = W.2.2.2
theorem pF_r {l : List (Nat × Nat)} {W : jW} : pF l W W := ⟨fun _ _ _ => rfl, fun _ _ _ => rfl, fun _ _ _ => rfl, rfl⟩
theorem pF_t {l : List (Nat × Nat)} {W V U : jW} (h : pF l W V) (g : pF l V U) : pF l W U := ⟨fun c k e => (g.1 c k e).trans (h.1 c k e), fun c k e => (g.2.1 c k e).trans (h.2.1 c k e), fun c k e => (g.2.2.1 c k e).trans (h.2.2.1 c k e), g.2.2.2.trans h.2.2.2⟩
theorem pF_i {l : List (Nat × Nat)} {W A B : jW} {c : Prop} [Decidable c] (h : pF l W A) (g : pF l W B) : pF l W (if c then A else B) := by
  by_cases e : c
  · rw [if_pos e]; exact h
  · rw [if_neg e]; exact g
theorem pF_i2 {l : List (Nat × Nat)} {W : jW} {A B : Int × jW} {c : Prop} [Decidable c] (h : pF l W A.2) (g : pF l W B.2) : pF l W (if c then A else B).2 := by
  by_cases e : c
  · rw [if_pos e]; exact h
  · rw [if_neg e]; exact g
theorem pcw_k {l : List (Nat × Nat)} {a : Nat} (h : pcw l a = true) (k : Nat) : pc l a k = true := by
  unfold pcw at h
  unfold pc
  rw [List.any_eq_true] at h ⊢
  rcases h with ⟨q, q1, q2⟩
  refine ⟨q, q1, ?_⟩
  rw [Bool.and_eq_true] at q2
  rw [q2.1, q2.2]
  rfl
theorem psb_k {l m : List (Nat × Nat)} (h : psb l m = true) {c k : Nat} (e : pc m c k = false) : pc l c k = false := by
  cases g : pc l c k with
  | false => rfl
  | true =>
    exfalso
    unfold psb at h
    unfold pc at g e
    rw [List.all_eq_true] at h
    rw [List.any_eq_true] at g
    rcases g with ⟨q, q1, q2⟩
    have z := h q q1
    rw [List.any_eq_true] at z
    rcases z with ⟨p, p1, p2⟩
    have w : (m.any fun q => Nat.beq q.1 c && (Nat.beq q.2 0 || Nat.beq q.2 (k + 1))) = true := by
      rw [List.any_eq_true]
      refine ⟨p, p1, ?_⟩
      rw [Bool.and_eq_true, Bool.or_eq_true] at p2 q2 ⊢
      have a1 := Nat.eq_of_beq_eq_true p2.1
      have a2 := Nat.eq_of_beq_eq_true q2.1
      refine ⟨by rw [a1, a2]; exact Nat.beq_refl c, ?_⟩
      rcases p2.2 with b | b
      · exact Or.inl b
      · have b' := Nat.eq_of_beq_eq_true b
        rcases q2.2 with d | d
        · left; rw [b']; exact d
        · right; rw [b']; exact d
    rw [w] at e
    exact absurd e (by decide)
theorem pF_m {l m : List (Nat × Nat)} {W V : jW} (s : psb l m = true) (h : pF l W V) : pF m W V := ⟨fun c k e => h.1 c k (psb_k s e), fun c k e => h.2.1 c k (psb_k s e), fun c k e => h.2.2.1 c k (psb_k s e), h.2.2.2⟩
theorem pcn {l : List (Nat × Nat)} {a k b j : Nat} (e : pc l a k = true) (f : pc l b j = false) : ¬ (b = a ∧ j = k) := by
  intro h
  rw [h.1, h.2, e] at f
  exact absurd f (by decide)
theorem pF_u {l : List (Nat × Nat)} {W V : jW} {a k : Nat} {x : Int} (h : pF l W V) (e : pc l a k = true) : pF l W (vu V a k x) := ⟨fun c j f => (if_neg (pcn e f)).trans (h.1 c j f), h.2⟩
theorem pF_v {l : List (Nat × Nat)} {W V : jW} {a k : Nat} {x : Int} (h : pF l W V) (e : pcw l a = true) : pF l W (vu V a k x) := pF_u h (pcw_k e k)
theorem pF_uL {l : List (Nat × Nat)} {W V : jW} {a k : Nat} {x : Int} (h : pF l W V) (e : pc l a k = true) : pF l W (vuL V a k x) := ⟨h.1, fun c j f => (if_neg (pcn e f)).trans (h.2.1 c j f), h.2.2⟩
theorem pF_vL {l : List (Nat × Nat)} {W V : jW} {a k : Nat} {x : Int} (h : pF l W V) (e : pcw l a = true) : pF l W (vuL V a k x) := pF_uL h (pcw_k e k)
theorem pF_uR {l : List (Nat × Nat)} {W V : jW} {a k : Nat} {x : Option Nat} (h : pF l W V) (e : pc l a k = true) : pF l W (vuR V a k x) := ⟨h.1, h.2.1, fun c j f => (if_neg (pcn e f)).trans (h.2.2.1 c j f), h.2.2.2⟩
theorem pF_vR {l : List (Nat × Nat)} {W V : jW} {a k : Nat} {x : Option Nat} (h : pF l W V) (e : pcw l a = true) : pF l W (vuR V a k x) := pF_uR h (pcw_k e k)
theorem pF_vC {l : List (Nat × Nat)} {W V : jW} {a b i j n : Nat} (h : pF l W V) (e : pcw l b = true) : pF l W (vuC V a b i j n) := ⟨fun c m f => (if_neg (fun z => pcn (pcw_k e m) f ⟨z.1, rfl⟩)).trans (h.1 c m f), h.2⟩
