section jG50
/-! pure: pairs of pieces: questions, NOT -/
theorem pP_q {cd : Nat → Int} {op ar : Int → Int} {a k w : Int} (ha : 0 ≤ a) (hk : 0 ≤ k) (h : cd a.toNat = 2) (h1 : cd (a + 1).toNat = w) (hw : 0 ≤ w ∧ w ≤ 9) (h2 : op k = (if w < 5 then w + 1 else w + 8)) : pPc cd op ar a (a + 2) 1 k (k + 1) (5 ≤ w) := fun q hq => by
  have x := xP_q (q := q) ha h
  rw [h1] at x
  refine ⟨some (q w), x, ?_, fun z hz => ?_⟩
  · by_cases c : w < 5
    · rw [if_pos c] at h2
      have m := mP_l (q := q) (ar := ar) hk (Or.inl ⟨by omega, by omega⟩ : 0 ≤ op k ∧ op k ≤ 5 ∨ 13 ≤ op k ∧ op k ≤ 17)
      unfold mLv at m
      rw [if_neg (by omega), if_neg (by omega), h2, j_is (by omega) (by omega) (by omega), show w + 1 - 1 = w from by omega] at m
      exact m
    · rw [if_neg c] at h2
      have m := mP_l (q := q) (ar := ar) hk (Or.inr ⟨by omega, by omega⟩ : 0 ≤ op k ∧ op k ≤ 5 ∨ 13 ≤ op k ∧ op k ≤ 17)
      unfold mLv at m
      rw [if_neg (by omega), if_pos (by omega), h2, show w + 8 - 13 + 5 = w from by omega] at m
      exact m
  · rw [← Option.some.inj hz]
    exact hq w hw.1 hw.2
theorem l_1 {x : Int} (h : rg x) : j_lsub 1 x = 1 - x := by
  unfold rg at h
  exact l_s (by omega) (by omega) (by omega)
theorem pP_n {cd : Nat → Int} {op ar : Int → Int} {a b m k l : Int} (P : pPc cd op ar a b m k l True) (h : cd b.toNat = 10) (h2 : op l = 18) : pPc cd op ar a (b + 1) m k (l + 1) True := fun q hq => by
  obtain ⟨v, X, M, R⟩ := P q hq
  refine ⟨_, xP_n X h, mP_n M h2, fun z hz => ?_⟩
  cases v with
  | none => exact oNS hz
  | some x =>
    have r := R x rfl
    have z2 : j_lsub 1 x = z := Option.some.inj hz
    rw [← z2, l_1 r.1]
    have t := r.2 trivial
    refine ⟨?_, fun _ => by omega⟩
    unfold rg
    omega
/-- NOT NOT: the reference has both, the class none -/
theorem pP_nn {cd : Nat → Int} {op ar : Int → Int} {a b m k l : Int} (P : pPc cd op ar a b m k l True) (h2 : op l = 18) (h3 : op (l + 1) = 18) : pPc cd op ar a b m k (l + 1 + 1) True := fun q hq => by
  obtain ⟨v, X, M, R⟩ := P q hq
  refine ⟨v, X, ?_, R⟩
  have m := mP_n (mP_n M h2) h3
  cases v with
  | none => exact m
  | some x =>
    have r := R x rfl
    have t := r.2 trivial
    have r2 : rg (1 - x) := by
      unfold rg
      omega
    have e : j_lsub 1 (j_lsub 1 x) = x := by
      rw [l_1 r.1, l_1 r2]
      omega
    have m2 : mPc q op ar k (l + 1 + 1) (some (j_lsub 1 (j_lsub 1 x))) := m
    rw [e] at m2
    exact m2
/-- a TEST is a piece like another -/
theorem pP_w {cd : Nat → Int} {op ar : Int → Int} {a b m k l : Int} {ts t2 : Prop} (h : t2 → ts) (P : pPc cd op ar a b m k l ts) : pPc cd op ar a b m k l t2 := fun q hq => by
  obtain ⟨v, X, M, R⟩ := P q hq
  exact ⟨v, X, M, fun x hx => ⟨(R x hx).1, fun z => (R x hx).2 (h z)⟩⟩
end jG50

section jG51
/-! pure: words and NUMBERS of a TEXT on both sides -/
def gW (s : Nat → Int) (n : Int) (b : Nat → Int) (fr to : Int) : Nat → Int → Int → Int → Int → Int
  | 0, _, _, _, _ => 0
  | r + 1, l2, l3, l4, l5 => (if n ≤ l5 then (-1) else (if (j_iand (s l5.toNat) 255) = 32 then (if l4 = 0 then gW s n b fr to r (j_iadd l2 1) fr 1 (l5 + 1) else (if l3 = to then l2 else gW s n b fr to r (j_iadd l2 1) fr 1 (l5 + 1))) else (if l4 = 0 then gW s n b fr to r l2 (l3 + 1) 0 (l5 + 1) else (if to ≤ l3 then gW s n b fr to r l2 (l3 + 1) 0 (l5 + 1) else (if (b l3.toNat) = (j_iand (s l5.toNat) 255) then gW s n b fr to r l2 (l3 + 1) 1 (l5 + 1) else gW s n b fr to r l2 (l3 + 1) 0 (l5 + 1))))))
def gL (b : Nat → Int) (fr to : Int) : List Int → Int → Int → Int → Int
  | [], _, _, _ => -1
  | c :: cs, l2, l3, l4 => (if c = 32 then (if l4 = 0 then gL b fr to cs (l2 + 1) fr 1 else (if l3 = to then l2 else gL b fr to cs (l2 + 1) fr 1)) else (if l4 = 0 then gL b fr to cs l2 (l3 + 1) 0 else (if to ≤ l3 then gL b fr to cs l2 (l3 + 1) 0 else (if b l3.toNat = c then gL b fr to cs l2 (l3 + 1) 1 else gL b fr to cs l2 (l3 + 1) 0))))
theorem ia_255 {c : Int} (h : 0 ≤ c ∧ c < 256) : j_iand c 255 = c := by
  have k : ∀ n : Fin 256, j_iand (n.val : Int) 255 = (n.val : Int) := by decide +kernel
  have e := k ⟨c.toNat, by omega⟩
  have z : ((c.toNat : Nat) : Int) = c := by omega
  exact (congrArg (fun x => j_iand x 255) z.symm).trans (e.trans z)
theorem gW_L {s : Nat → Int} {n : Int} {b : Nat → Int} {fr to : Int} : ∀ (cs : List Int) (r : Nat) (l2 l3 l4 l5 : Int), 0 ≤ l5 → l5 + cs.length = n → cs.length < r → (∀ i : Nat, i < cs.length → s (l5.toNat + i) = cs.getD i 0) → (∀ i : Nat, i < cs.length → 0 ≤ cs.getD i 0 ∧ cs.getD i 0 < 256) → 0 ≤ l2 → l2 + cs.length ≤ 1000000 → gW s n b fr to r l2 l3 l4 l5 = gL b fr to cs l2 l3 l4
  | [], r + 1, l2, l3, l4, l5, h0, h1, h2, h3, h4, h5, h6 => if_pos (by have : ([] : List Int).length = 0 := rfl; omega)
  | c :: cs, r + 1, l2, l3, l4, l5, h0, h1, h2, h3, h4, h5, h6 => by
    have hl : (c :: cs).length = cs.length + 1 := rfl
    rw [hl] at h1 h2 h3 h4 h6
    have e0 : s l5.toNat = c := h3 0 (by omega)
    have e1 := h4 0 (by omega)
    have e2 : j_iand (s l5.toNat) 255 = c := by rw [e0]; exact ia_255 e1
    have ih : ∀ l2 l3 l4 : Int, 0 ≤ l2 → l2 + cs.length ≤ 1000000 → gW s n b fr to r l2 l3 l4 (l5 + 1) = gL b fr to cs l2 l3 l4 := fun a d e g k => gW_L cs r a d e (l5 + 1) (by omega) (by omega) (by omega) (fun i hi => by rw [show (l5 + 1).toNat + i = l5.toNat + (i + 1) from by omega]; exact h3 (i + 1) (by omega)) (fun i hi => h4 (i + 1) (by omega)) g k
    have ja : j_iadd l2 1 = l2 + 1 := j_ia (by omega) (by omega) (by omega)
    unfold gW gL
    rw [if_neg (show ¬ n ≤ l5 from by omega), e2, ja, ih (l2 + 1) fr 1 (by omega) (by omega), ih l2 (l3 + 1) 0 h5 (by omega), ih l2 (l3 + 1) 1 h5 (by omega)]
/-- the word w stands in b from l3 up to to -/
def mt (b : Nat → Int) (to : Int) : List Int → Int → Prop
  | [], l3 => l3 = to
  | c :: w, l3 => l3 < to ∧ b l3.toNat = c ∧ mt b to w (l3 + 1)
theorem gL_0 {b : Nat → Int} {fr to : Int} {rest : List Int} : ∀ (w : List Int) (i l3 : Int), (∀ c ∈ w, c ≠ 32) → gL b fr to (w ++ 32 :: rest) i l3 0 = gL b fr to rest (i + 1) fr 1
  | [], i, l3, h => (if_pos rfl).trans (if_pos rfl)
  | c :: w, i, l3, h => by
    have e := gL_0 (fr := fr) (to := to) (b := b) (rest := rest) w i (l3 + 1) (fun d hd => h d (List.mem_cons_of_mem _ hd))
    show (if c = 32 then _ else (if (0 : Int) = 0 then gL b fr to (w ++ 32 :: rest) i (l3 + 1) 0 else _)) = _
    rw [if_neg (h c (List.mem_cons_self ..)), if_pos rfl]
    exact e
theorem gL_1 {b : Nat → Int} {fr to : Int} {rest : List Int} : ∀ (w : List Int) (i l3 : Int), (∀ c ∈ w, c ≠ 32) → (mt b to w l3 → gL b fr to (w ++ 32 :: rest) i l3 1 = i) ∧ (¬ mt b to w l3 → gL b fr to (w ++ 32 :: rest) i l3 1 = gL b fr to rest (i + 1) fr 1)
  | [], i, l3, h => ⟨fun m => (if_pos rfl).trans ((if_neg (by decide)).trans (if_pos m)), fun m => (if_pos rfl).trans ((if_neg (by decide)).trans (if_neg m))⟩
  | c :: w, i, l3, h => by
    have hc := h c (List.mem_cons_self ..)
    have hw : ∀ d ∈ w, d ≠ 32 := fun d hd => h d (List.mem_cons_of_mem _ hd)
    have e := gL_1 (fr := fr) (to := to) (b := b) (rest := rest) w i (l3 + 1) hw
    have z := gL_0 (fr := fr) (to := to) (b := b) (rest := rest) w i (l3 + 1) hw
    have u : gL b fr to (c :: w ++ 32 :: rest) i l3 1 = (if to ≤ l3 then gL b fr to (w ++ 32 :: rest) i (l3 + 1) 0 else (if b l3.toNat = c then gL b fr to (w ++ 32 :: rest) i (l3 + 1) 1 else gL b fr to (w ++ 32 :: rest) i (l3 + 1) 0)) := by
      show (if c = 32 then _ else (if (1 : Int) = 0 then _ else _)) = _
      rw [if_neg hc, if_neg (by decide)]
      rfl
    rw [u]
    constructor
    · intro m
      rw [if_neg (show ¬ to ≤ l3 from by have := m.1; omega), if_pos m.2.1]
      exact e.1 m.2.2
    · intro m
      by_cases c1 : to ≤ l3
      · rw [if_pos c1]; exact z
      · rw [if_neg c1]
        by_cases c2 : b l3.toNat = c
        · rw [if_pos c2]; exact e.2 (fun q => m ⟨by omega, c2, q⟩)
        · rw [if_neg c2]; exact z
/-- a word's number -/
def cwf (w : Nat → Int) : Nat → Int
  | 0 => 0
  | k + 1 => cwf w k * 32 + w k - 96
theorem cwf_p {w : Nat → Int} : ∀ m : Nat, (∀ k : Nat, k < m → 97 ≤ w k ∧ w k ≤ 122) → (0 ≤ cwf w m ∧ (m ≠ 0 → 1 ≤ cwf w m))
  | 0, _ => ⟨Int.le_refl 0, fun h => absurd rfl h⟩
  | m + 1, h => by
    have a := cwf_p m (fun k hk => h k (by omega))
    have c := h m (by omega)
    show 0 ≤ cwf w m * 32 + w m - 96 ∧ (m + 1 ≠ 0 → 1 ≤ cwf w m * 32 + w m - 96)
    omega
theorem wrd_b {b : Nat → Int} {f : Nat} : ∀ n : Nat, n ≤ 12 → (∀ k : Nat, k < n → 97 ≤ b (f + k) ∧ b (f + k) ≤ 122) → 0 ≤ wrd b f n ∧ wrd b f n + 1 ≤ ((32 ^ n : Nat) : Int) ∧ (∀ m : Nat, n = m + 1 → wrd b f n = wrd b f m * 32 + b (f + m) - 96)
  | 0, _, _ => ⟨Int.le_refl 0, by show (0 : Int) + 1 ≤ ((32 ^ 0 : Nat) : Int); decide, fun m h => absurd h (by omega)⟩
  | n + 1, h, hl => by
    obtain ⟨a1, a2, _⟩ := wrd_b n (by omega) (fun k hk => hl k (by omega))
    have c := hl n (by omega)
    have q : (32 ^ n : Nat) ≤ 32 ^ 11 := Nat.pow_le_pow_right (by decide) (by omega)
    have q2 : (32 ^ 11 : Nat) = 36028797018963968 := by decide
    have q3 : (32 ^ (n + 1) : Nat) = 32 ^ n * 32 := Nat.pow_succ ..
    have e : wrd b f (n + 1) = wrd b f n * 32 + b (f + n) - 96 := by
      show (if 12 ≤ n then (-1 : Int) else j_lsub (j_ladd (j_lmul (wrd b f n) 32) (b (f + n))) 96) = _
      rw [if_neg (by omega), l_m (by omega) (by omega) (by omega), l_a (by omega) (by omega) (by omega), l_s (by omega) (by omega) (by omega)]
    rw [e, q3]
    refine ⟨by omega, by omega, fun m hm => ?_⟩
    have : n = m := by omega
    rw [← this]
theorem wrd_e {b : Nat → Int} {f : Nat} {w : Nat → Int} : ∀ (n m : Nat), m ≤ 12 → (∀ k : Nat, k < m → 97 ≤ w k ∧ w k ≤ 122) → (∀ k : Nat, k < n → 97 ≤ b (f + k) ∧ b (f + k) ≤ 122) → (wrd b f n = cwf w m ↔ n = m ∧ ∀ k : Nat, k < m → b (f + k) = w k)
  | 0, 0, _, _, _ => ⟨fun _ => ⟨rfl, fun k hk => absurd hk (by omega)⟩, fun _ => rfl⟩
  | 0, m + 1, hm, hw, hl => by
    have a := (cwf_p (m + 1) hw).2 (by omega)
    have z : wrd b f 0 = 0 := rfl
    rw [z]
    exact ⟨fun h => absurd h (by omega), fun h => absurd h.1 (by omega)⟩
  | n + 1, m, hm, hw, hl => by
    by_cases c : 12 ≤ n
    · have z : wrd b f (n + 1) = -1 := if_pos c
      have a := (cwf_p m hw).1
      rw [z]
      exact ⟨fun h => absurd h (by omega), fun h => absurd h.1 (by omega)⟩
    · have e := (wrd_b (n + 1) (by omega) hl).2.2 n rfl
      have a := (wrd_b n (by omega) (fun k hk => hl k (by omega))).1
      have cn := hl n (by omega)
      rw [e]
      cases m with
      | zero =>
        have z : cwf w 0 = 0 := rfl
        rw [z]
        exact ⟨fun h => absurd h (by omega), fun h => absurd h.1 (by omega)⟩
      | succ m =>
        have z : cwf w (m + 1) = cwf w m * 32 + w m - 96 := rfl
        have a2 := (cwf_p m (fun k hk => hw k (by omega))).1
        have cw := hw m (by omega)
        have ih := wrd_e (b := b) (f := f) (w := w) n m (by omega) (fun k hk => hw k (by omega)) (fun k hk => hl k (by omega))
        rw [z]
        constructor
        · intro h
          have h1 : wrd b f n = cwf w m := by omega
          have h2 : b (f + n) = w m := by omega
          obtain ⟨g1, g2⟩ := ih.1 h1
          refine ⟨by omega, fun k hk => ?_⟩
          by_cases ck : k = m
          · rw [ck, ← g1, h2, g1]
          · exact g2 k (by omega)
        · intro h
          have h1 := ih.2 ⟨by omega, fun k hk => h.2 k (by omega)⟩
          have h2 := h.2 m (by omega)
          have h3 : n = m := by omega
          rw [h3] at h1 ⊢
          omega
theorem mt_e {b : Nat → Int} {to : Int} : ∀ (w : List Int) (l3 : Int), 0 ≤ l3 → (mt b to w l3 ↔ to = l3 + w.length ∧ ∀ k : Nat, k < w.length → b (l3.toNat + k) = w.getD k 0)
  | [], l3, h => by
    have z : ([] : List Int).length = 0 := rfl
    rw [z]
    exact ⟨fun m => ⟨by have : l3 = to := m; omega, fun k hk => absurd hk (by omega)⟩, fun m => show l3 = to from by omega⟩
  | c :: w, l3, h => by
    have ih := mt_e (b := b) (to := to) w (l3 + 1) (by omega)
    have z : (c :: w).length = w.length + 1 := rfl
    rw [z]
    constructor
    · intro m
      obtain ⟨g1, g2⟩ := ih.1 m.2.2
      refine ⟨by omega, fun k hk => ?_⟩
      cases k with
      | zero => exact m.2.1
      | succ k =>
        have := g2 k (by omega)
        rw [show (l3 + 1).toNat + k = l3.toNat + (k + 1) from by omega] at this
        exact this
    · intro m
      refine ⟨by omega, m.2 0 (by omega), ih.2 ⟨by omega, fun k hk => ?_⟩⟩
      have := m.2 (k + 1) (by omega)
      rw [show (l3 + 1).toNat + k = l3.toNat + (k + 1) from by omega]
      exact this
def wOk (w : List Int) : Prop := w.length ≤ 12 ∧ ∀ k : Nat, k < w.length → 97 ≤ w.getD k 0 ∧ w.getD k 0 ≤ 122
/-- a word by its number -/
theorem mt_w {b : Nat → Int} {f t : Int} (hf : 0 ≤ f) (hft : f < t) (hl : ∀ i : Nat, f ≤ (i : Int) → (i : Int) < t → 97 ≤ b i ∧ b i ≤ 122) {w : List Int} (hw : wOk w) : mt b t w f ↔ wrd b f.toNat (t - f).toNat = cwf (fun k => w.getD k 0) w.length := by
  rw [mt_e w f hf, wrd_e (t - f).toNat w.length hw.1 hw.2 (fun k hk => hl (f.toNat + k) (by omega) (by omega))]
  constructor
  · intro h
    exact ⟨by omega, h.2⟩
  · intro h
    exact ⟨by omega, h.2⟩
def wIx (w : Int) : List Int → Int → Int
  | [], _ => -1
  | c :: cs, i => if w = c then i else wIx w cs (i + 1)
def cwl (w : List Int) : Int := cwf (fun k => w.getD k 0) w.length
def wJn : List (List Int) → List Int
  | [] => []
  | w :: ws => w ++ 32 :: wJn ws
theorem wOk_32 {w : List Int} (h : wOk w) : ∀ c ∈ w, c ≠ 32 := by
  intro c hc
  obtain ⟨k, hk, e⟩ := List.mem_iff_getElem.1 hc
  have := h.2 k hk
  rw [List.getD_eq_getElem?_getD, List.getElem?_eq_getElem hk] at this
  have z : w[k] = c := e
  have y : (some w[k]).getD 0 = c := z
  rw [y] at this
  omega
theorem gL_x {b : Nat → Int} {f t : Int} (hf : 0 ≤ f) (hft : f < t) (hl : ∀ i : Nat, f ≤ (i : Int) → (i : Int) < t → 97 ≤ b i ∧ b i ≤ 122) : ∀ (ws : List (List Int)) (i : Int), (∀ w ∈ ws, wOk w) → gL b f t (wJn ws) i f 1 = wIx (wrd b f.toNat (t - f).toNat) (ws.map cwl) i
  | [], i, h => rfl
  | w :: ws, i, h => by
    have hw := h w (List.mem_cons_self ..)
    have e := gL_1 (b := b) (fr := f) (to := t) (rest := wJn ws) w i f (wOk_32 hw)
    have m : mt b t w f ↔ wrd b f.toNat (t - f).toNat = cwl w := mt_w hf hft hl hw
    have ih := gL_x hf hft hl ws (i + 1) (fun v hv => h v (List.mem_cons_of_mem _ hv))
    show gL b f t (w ++ 32 :: wJn ws) i f 1 = (if wrd b f.toNat (t - f).toNat = cwl w then i else wIx _ (ws.map cwl) (i + 1))
    by_cases c : mt b t w f
    · rw [if_pos (m.1 c), e.1 c]
    · rw [if_neg (fun q => c (m.2 q)), e.2 c, ih]
def wSt (X : jW) (c : Nat) (s : List Int) : Prop := ∀ i : Nat, i < s.length → X.1 c i = s.getD i 0
theorem wO_e {X M : jW} (T : pTk X M) {c : Nat} (ws : List (List Int)) (hw : ∀ w ∈ ws, wOk w) (S : wSt X c (wJn ws)) (hb : ∀ i : Nat, i < (wJn ws).length → 0 ≤ (wJn ws).getD i 0 ∧ (wJn ws).getD i 0 < 256) {r : Nat} {n : Int} (hn : n = (wJn ws).length) (hr : (wJn ws).length < r) (hs : (wJn ws).length ≤ 1000) : (if X.1 68 5 = 1 then gW (X.1 c) n (X.1 69) (X.1 68 3) (X.1 68 4) r 0 (X.1 68 3) 1 0 else -1) = (if M.1 125 11 = 1 then wIx (M.2.1 125 12) (ws.map cwl) 0 else -1) := by
  obtain ⟨Tp, t3, t4, t5, tr, tk⟩ := T
  rw [t3, t4, t5]
  by_cases c1 : M.1 125 11 = 1
  · rw [if_pos c1, if_pos c1]
    rcases tk with ⟨a, _⟩ | ⟨a, _⟩ | ⟨_, a2, a3, a4⟩ | ⟨a, _⟩
    · omega
    · omega
    · have e := gW_L (s := X.1 c) (n := n) (b := X.1 69) (fr := M.1 125 9) (to := M.1 125 10) (wJn ws) r 0 (M.1 125 9) 1 0 (by omega) (by omega) hr (fun i hi => by rw [show (0 : Int).toNat + i = i from by omega]; exact S i hi) hb (by omega) (by omega)
      have hx : ∀ i : Nat, M.1 125 9 ≤ (i : Int) → (i : Int) < M.1 125 10 → X.1 69 i = M.1 131 i := fun i h1 h2 => Tp.2.2 i (by have := Tp.2.1; omega)
      have hq : wrd (X.1 69) (M.1 125 9).toNat (M.1 125 10 - M.1 125 9).toNat = M.2.1 125 12 := by
        rw [a3]
        have key : ∀ n : Nat, (n : Int) ≤ M.1 125 10 - M.1 125 9 → wrd (X.1 69) (M.1 125 9).toNat n = wrd (M.1 131) (M.1 125 9).toNat n := by
          intro n
          induction n with
          | zero => intro _; rfl
          | succ n ih =>
            intro h
            show (if 12 ≤ n then (-1 : Int) else j_lsub (j_ladd (j_lmul (wrd (X.1 69) (M.1 125 9).toNat n) 32) (X.1 69 ((M.1 125 9).toNat + n))) 96) = (if 12 ≤ n then (-1 : Int) else j_lsub (j_ladd (j_lmul (wrd (M.1 131) (M.1 125 9).toNat n) 32) (M.1 131 ((M.1 125 9).toNat + n))) 96)
            rw [ih (by omega), hx ((M.1 125 9).toNat + n) (by omega) (by omega)]
        exact key _ (by omega)
      rw [e, gL_x (by omega) a2 (fun i h1 h2 => by rw [hx i h1 h2]; exact a4 i h1 h2) ws 0 hw, hq]
    · omega
  · rw [if_neg c1, if_neg c1]

def ws_5 : List (List Int) := [[98, 101, 108, 111, 110, 103], [101, 120, 101, 109, 112, 116], [114, 97, 116, 101], [114, 101, 108, 105, 101, 102], [98, 97, 100, 103, 101], [116, 117, 114, 110], [102, 101, 101], [115, 101, 97, 116], [115, 116, 114, 105, 107, 101]]
def ws_6 : List (List Int) := [[99, 108, 97, 117, 115, 101]]
def ws_7 : List (List Int) := [[98, 105, 114, 116, 104], [104, 105, 114, 101], [114, 101, 110, 116], [111, 102, 102, 105, 99, 101], [119, 101, 100], [112, 97, 114, 101, 110, 116, 115]]
def ws_8 : List (List Int) := [[99, 104, 117, 114, 99, 104], [119, 97, 121], [112, 111, 111, 114]]
def ws_9 : List (List Int) := [[99, 111, 110, 115, 116, 97, 98, 108, 101], [115, 117, 114, 118, 101, 121, 111, 114], [111, 118, 101, 114, 115, 101, 101, 114], [119, 97, 114, 100, 101, 110]]
def ws_10 : List (List Int) := [[98, 101, 108, 108], [103, 114, 97, 118, 101], [119, 101, 100, 100, 105, 110, 103]]
def ws_11 : List (List Int) := [[97, 103, 101], [99, 104, 105, 108, 100, 114, 101, 110], [118, 97, 108, 117, 101], [121, 101, 97, 114, 115], [114, 101, 108, 105, 101, 118, 101, 100]]
def ws_12 : List (List Int) := [[105, 102]]
def ws_13 : List (List Int) := [[117, 110, 108, 101, 115, 115]]
def ws_14 : List (List Int) := [[110, 111, 116]]
def ws_15 : List (List Int) := [[109, 97, 114, 114, 105, 101, 100], [100, 101, 97, 100], [112, 111, 111, 114], [104, 111, 108, 100, 115], [99, 101, 114, 116, 105, 102, 105, 101, 100]]
def ws_16 : List (List Int) := [[97, 110, 100]]
def ws_17 : List (List Int) := [[111, 114]]
/-- what the class's words stand in -/
def pWs (X : jW) : Prop := wSt X 18 (wJn ws_5) ∧ wSt X 19 (wJn ws_6) ∧ wSt X 20 (wJn ws_7) ∧ wSt X 21 (wJn ws_8) ∧ wSt X 22 (wJn ws_9) ∧ wSt X 23 (wJn ws_10) ∧ wSt X 24 (wJn ws_11) ∧ wSt X 25 (wJn ws_12) ∧ wSt X 26 (wJn ws_13) ∧ wSt X 27 (wJn ws_14) ∧ wSt X 28 (wJn ws_15) ∧ wSt X 29 (wJn ws_16) ∧ wSt X 30 (wJn ws_17)
theorem wk_5 {W : jW} : ∀ (r : Nat) (l2 l3 l4 l5 : Int), d_X9_wordOf_r68_r5d_23 r l2 l3 l4 l5 W = gW (W.1 18) 53 (W.1 69) (W.1 68 3) (W.1 68 4) r l2 l3 l4 l5
  | 0, _, _, _, _ => rfl
  | r + 1, l2, l3, l4, l5 => by
    show (if 53 ≤ l5 then (-1) else (if (j_iand (W.1 18 l5.toNat) 255) = 32 then (if l4 = 0 then d_X9_wordOf_r68_r5d_23 r (j_iadd l2 1) (W.1 68 3) 1 (l5 + 1) W else (if l3 = (W.1 68 4) then l2 else d_X9_wordOf_r68_r5d_23 r (j_iadd l2 1) (W.1 68 3) 1 (l5 + 1) W)) else (if l4 = 0 then d_X9_wordOf_r68_r5d_23 r l2 (l3 + 1) 0 (l5 + 1) W else (if (W.1 68 4) ≤ l3 then d_X9_wordOf_r68_r5d_23 r l2 (l3 + 1) 0 (l5 + 1) W else (if (W.1 69 l3.toNat) = (j_iand (W.1 18 l5.toNat) 255) then d_X9_wordOf_r68_r5d_23 r l2 (l3 + 1) 1 (l5 + 1) W else d_X9_wordOf_r68_r5d_23 r l2 (l3 + 1) 0 (l5 + 1) W))))) = _
    rw [wk_5 r (j_iadd l2 1) (W.1 68 3) 1 (l5 + 1), wk_5 r l2 (l3 + 1) 0 (l5 + 1), wk_5 r l2 (l3 + 1) 1 (l5 + 1)]
    rfl
theorem wo_5 {X M : jW} (T : pTk X M) (S : pWs X) : d_X9_wordOf_r68_r5d X = (if M.1 125 11 = 1 then wIx (M.2.1 125 12) [72760775, 193115668, 591493, 609625254, 2134245, 677454, 6309, 627764, 659105125] 0 else -1) := by
  have h := wO_e T ws_5 (by unfold ws_5 wOk; decide) S.1 (by decide) (r := 54) (n := 53) (by decide) (by decide) (by decide)
  have e : ws_5.map cwl = [72760775, 193115668, 591493, 609625254, 2134245, 677454, 6309, 627764, 659105125] := by decide
  rw [e] at h
  rw [← h]
  unfold d_X9_wordOf_r68_r5d
  rw [wk_5]
theorem wk_6 {W : jW} : ∀ (r : Nat) (l2 l3 l4 l5 : Int), d_X9_wordOf_r68_r6d_23 r l2 l3 l4 l5 W = gW (W.1 19) 7 (W.1 69) (W.1 68 3) (W.1 68 4) r l2 l3 l4 l5
  | 0, _, _, _, _ => rfl
  | r + 1, l2, l3, l4, l5 => by
    show (if 7 ≤ l5 then (-1) else (if (j_iand (W.1 19 l5.toNat) 255) = 32 then (if l4 = 0 then d_X9_wordOf_r68_r6d_23 r (j_iadd l2 1) (W.1 68 3) 1 (l5 + 1) W else (if l3 = (W.1 68 4) then l2 else d_X9_wordOf_r68_r6d_23 r (j_iadd l2 1) (W.1 68 3) 1 (l5 + 1) W)) else (if l4 = 0 then d_X9_wordOf_r68_r6d_23 r l2 (l3 + 1) 0 (l5 + 1) W else (if (W.1 68 4) ≤ l3 then d_X9_wordOf_r68_r6d_23 r l2 (l3 + 1) 0 (l5 + 1) W else (if (W.1 69 l3.toNat) = (j_iand (W.1 19 l5.toNat) 255) then d_X9_wordOf_r68_r6d_23 r l2 (l3 + 1) 1 (l5 + 1) W else d_X9_wordOf_r68_r6d_23 r l2 (l3 + 1) 0 (l5 + 1) W))))) = _
    rw [wk_6 r (j_iadd l2 1) (W.1 68 3) 1 (l5 + 1), wk_6 r l2 (l3 + 1) 0 (l5 + 1), wk_6 r l2 (l3 + 1) 1 (l5 + 1)]
    rfl
theorem wo_6 {X M : jW} (T : pTk X M) (S : pWs X) : d_X9_wordOf_r68_r6d X = (if M.1 125 11 = 1 then wIx (M.2.1 125 12) [113301093] 0 else -1) := by
  have h := wO_e T ws_6 (by unfold ws_6 wOk; decide) S.2.1 (by decide) (r := 8) (n := 7) (by decide) (by decide) (by decide)
  have e : ws_6.map cwl = [113301093] := by decide
  rw [e] at h
  rw [← h]
  unfold d_X9_wordOf_r68_r6d
  rw [wk_6]
theorem wk_7 {W : jW} : ∀ (r : Nat) (l2 l3 l4 l5 : Int), d_X9_wordOf_r68_r7d_23 r l2 l3 l4 l5 W = gW (W.1 20) 35 (W.1 69) (W.1 68 3) (W.1 68 4) r l2 l3 l4 l5
  | 0, _, _, _, _ => rfl
  | r + 1, l2, l3, l4, l5 => by
    show (if 35 ≤ l5 then (-1) else (if (j_iand (W.1 20 l5.toNat) 255) = 32 then (if l4 = 0 then d_X9_wordOf_r68_r7d_23 r (j_iadd l2 1) (W.1 68 3) 1 (l5 + 1) W else (if l3 = (W.1 68 4) then l2 else d_X9_wordOf_r68_r7d_23 r (j_iadd l2 1) (W.1 68 3) 1 (l5 + 1) W)) else (if l4 = 0 then d_X9_wordOf_r68_r7d_23 r l2 (l3 + 1) 0 (l5 + 1) W else (if (W.1 68 4) ≤ l3 then d_X9_wordOf_r68_r7d_23 r l2 (l3 + 1) 0 (l5 + 1) W else (if (W.1 69 l3.toNat) = (j_iand (W.1 20 l5.toNat) 255) then d_X9_wordOf_r68_r7d_23 r l2 (l3 + 1) 1 (l5 + 1) W else d_X9_wordOf_r68_r7d_23 r l2 (l3 + 1) 0 (l5 + 1) W))))) = _
    rw [wk_7 r (j_iadd l2 1) (W.1 68 3) 1 (l5 + 1), wk_7 r l2 (l3 + 1) 0 (l5 + 1), wk_7 r l2 (l3 + 1) 1 (l5 + 1)]
    rfl
theorem wo_7 {X M : jW} (T : pTk X M) (S : pWs X) : d_X9_wordOf_r68_r7d X = (if M.1 125 11 = 1 then wIx (M.2.1 125 12) [2411144, 271941, 595412, 509813861, 23716, 17232476819] 0 else -1) := by
  have h := wO_e T ws_7 (by unfold ws_7 wOk; decide) S.2.2.1 (by decide) (r := 36) (n := 35) (by decide) (by decide) (by decide)
  have e : ws_7.map cwl = [2411144, 271941, 595412, 509813861, 23716, 17232476819] := by decide
  rw [e] at h
  rw [← h]
  unfold d_X9_wordOf_r68_r7d
  rw [wk_7]
theorem wk_8 {W : jW} : ∀ (r : Nat) (l2 l3 l4 l5 : Int), d_X9_wordOf_r68_r8d_23 r l2 l3 l4 l5 W = gW (W.1 21) 16 (W.1 69) (W.1 68 3) (W.1 68 4) r l2 l3 l4 l5
  | 0, _, _, _, _ => rfl
  | r + 1, l2, l3, l4, l5 => by
    show (if 16 ≤ l5 then (-1) else (if (j_iand (W.1 21 l5.toNat) 255) = 32 then (if l4 = 0 then d_X9_wordOf_r68_r8d_23 r (j_iadd l2 1) (W.1 68 3) 1 (l5 + 1) W else (if l3 = (W.1 68 4) then l2 else d_X9_wordOf_r68_r8d_23 r (j_iadd l2 1) (W.1 68 3) 1 (l5 + 1) W)) else (if l4 = 0 then d_X9_wordOf_r68_r8d_23 r l2 (l3 + 1) 0 (l5 + 1) W else (if (W.1 68 4) ≤ l3 then d_X9_wordOf_r68_r8d_23 r l2 (l3 + 1) 0 (l5 + 1) W else (if (W.1 69 l3.toNat) = (j_iand (W.1 21 l5.toNat) 255) then d_X9_wordOf_r68_r8d_23 r l2 (l3 + 1) 1 (l5 + 1) W else d_X9_wordOf_r68_r8d_23 r l2 (l3 + 1) 0 (l5 + 1) W))))) = _
    rw [wk_8 r (j_iadd l2 1) (W.1 68 3) 1 (l5 + 1), wk_8 r l2 (l3 + 1) 0 (l5 + 1), wk_8 r l2 (l3 + 1) 1 (l5 + 1)]
    rfl
theorem wo_8 {X M : jW} (T : pTk X M) (S : pWs X) : d_X9_wordOf_r68_r8d X = (if M.1 125 11 = 1 then wIx (M.2.1 125 12) [109758568, 23609, 540146] 0 else -1) := by
  have h := wO_e T ws_8 (by unfold ws_8 wOk; decide) S.2.2.2.1 (by decide) (r := 17) (n := 16) (by decide) (by decide) (by decide)
  have e : ws_8.map cwl = [109758568, 23609, 540146] := by decide
  rw [e] at h
  rw [← h]
  unfold d_X9_wordOf_r68_r8d
  rw [wk_8]
theorem wk_9 {W : jW} : ∀ (r : Nat) (l2 l3 l4 l5 : Int), d_X9_wordOf_r68_r9d_23 r l2 l3 l4 l5 W = gW (W.1 22) 35 (W.1 69) (W.1 68 3) (W.1 68 4) r l2 l3 l4 l5
  | 0, _, _, _, _ => rfl
  | r + 1, l2, l3, l4, l5 => by
    show (if 35 ≤ l5 then (-1) else (if (j_iand (W.1 22 l5.toNat) 255) = 32 then (if l4 = 0 then d_X9_wordOf_r68_r9d_23 r (j_iadd l2 1) (W.1 68 3) 1 (l5 + 1) W else (if l3 = (W.1 68 4) then l2 else d_X9_wordOf_r68_r9d_23 r (j_iadd l2 1) (W.1 68 3) 1 (l5 + 1) W)) else (if l4 = 0 then d_X9_wordOf_r68_r9d_23 r l2 (l3 + 1) 0 (l5 + 1) W else (if (W.1 68 4) ≤ l3 then d_X9_wordOf_r68_r9d_23 r l2 (l3 + 1) 0 (l5 + 1) W else (if (W.1 69 l3.toNat) = (j_iand (W.1 22 l5.toNat) 255) then d_X9_wordOf_r68_r9d_23 r l2 (l3 + 1) 1 (l5 + 1) W else d_X9_wordOf_r68_r9d_23 r l2 (l3 + 1) 0 (l5 + 1) W))))) = _
    rw [wk_9 r (j_iadd l2 1) (W.1 68 3) 1 (l5 + 1), wk_9 r l2 (l3 + 1) 0 (l5 + 1), wk_9 r l2 (l3 + 1) 1 (l5 + 1)]
    rfl
theorem wo_9 {X M : jW} (T : pTk X M) (S : pWs X) : d_X9_wordOf_r68_r9d X = (if M.1 125 11 = 1 then wIx (M.2.1 125 12) [3829621885317, 676010845682, 539205670066, 773394606] 0 else -1) := by
  have h := wO_e T ws_9 (by unfold ws_9 wOk; decide) S.2.2.2.2.1 (by decide) (r := 36) (n := 35) (by decide) (by decide) (by decide)
  have e : ws_9.map cwl = [3829621885317, 676010845682, 539205670066, 773394606] := by decide
  rw [e] at h
  rw [← h]
  unfold d_X9_wordOf_r68_r9d
  rw [wk_9]
theorem wk_10 {W : jW} : ∀ (r : Nat) (l2 l3 l4 l5 : Int), d_X9_wordOf_r68_r10d_23 r l2 l3 l4 l5 W = gW (W.1 23) 19 (W.1 69) (W.1 68 3) (W.1 68 4) r l2 l3 l4 l5
  | 0, _, _, _, _ => rfl
  | r + 1, l2, l3, l4, l5 => by
    show (if 19 ≤ l5 then (-1) else (if (j_iand (W.1 23 l5.toNat) 255) = 32 then (if l4 = 0 then d_X9_wordOf_r68_r10d_23 r (j_iadd l2 1) (W.1 68 3) 1 (l5 + 1) W else (if l3 = (W.1 68 4) then l2 else d_X9_wordOf_r68_r10d_23 r (j_iadd l2 1) (W.1 68 3) 1 (l5 + 1) W)) else (if l4 = 0 then d_X9_wordOf_r68_r10d_23 r l2 (l3 + 1) 0 (l5 + 1) W else (if (W.1 68 4) ≤ l3 then d_X9_wordOf_r68_r10d_23 r l2 (l3 + 1) 0 (l5 + 1) W else (if (W.1 69 l3.toNat) = (j_iand (W.1 23 l5.toNat) 255) then d_X9_wordOf_r68_r10d_23 r l2 (l3 + 1) 1 (l5 + 1) W else d_X9_wordOf_r68_r10d_23 r l2 (l3 + 1) 0 (l5 + 1) W))))) = _
    rw [wk_10 r (j_iadd l2 1) (W.1 68 3) 1 (l5 + 1), wk_10 r l2 (l3 + 1) 0 (l5 + 1), wk_10 r l2 (l3 + 1) 1 (l5 + 1)]
    rfl
theorem wo_10 {X M : jW} (T : pTk X M) (S : pWs X) : d_X9_wordOf_r68_r10d X = (if M.1 125 11 = 1 then wIx (M.2.1 125 12) [71052, 7931589, 24868169159] 0 else -1) := by
  have h := wO_e T ws_10 (by unfold ws_10 wOk; decide) S.2.2.2.2.2.1 (by decide) (r := 20) (n := 19) (by decide) (by decide) (by decide)
  have e : ws_10.map cwl = [71052, 7931589, 24868169159] := by decide
  rw [e] at h
  rw [← h]
  unfold d_X9_wordOf_r68_r10d
  rw [wk_10]
theorem wk_11 {W : jW} : ∀ (r : Nat) (l2 l3 l4 l5 : Int), d_X9_wordOf_r68_r11d_23 r l2 l3 l4 l5 W = gW (W.1 24) 34 (W.1 69) (W.1 68 3) (W.1 68 4) r l2 l3 l4 l5
  | 0, _, _, _, _ => rfl
  | r + 1, l2, l3, l4, l5 => by
    show (if 34 ≤ l5 then (-1) else (if (j_iand (W.1 24 l5.toNat) 255) = 32 then (if l4 = 0 then d_X9_wordOf_r68_r11d_23 r (j_iadd l2 1) (W.1 68 3) 1 (l5 + 1) W else (if l3 = (W.1 68 4) then l2 else d_X9_wordOf_r68_r11d_23 r (j_iadd l2 1) (W.1 68 3) 1 (l5 + 1) W)) else (if l4 = 0 then d_X9_wordOf_r68_r11d_23 r l2 (l3 + 1) 0 (l5 + 1) W else (if (W.1 68 4) ≤ l3 then d_X9_wordOf_r68_r11d_23 r l2 (l3 + 1) 0 (l5 + 1) W else (if (W.1 69 l3.toNat) = (j_iand (W.1 24 l5.toNat) 255) then d_X9_wordOf_r68_r11d_23 r l2 (l3 + 1) 1 (l5 + 1) W else d_X9_wordOf_r68_r11d_23 r l2 (l3 + 1) 0 (l5 + 1) W))))) = _
    rw [wk_11 r (j_iadd l2 1) (W.1 68 3) 1 (l5 + 1), wk_11 r l2 (l3 + 1) 0 (l5 + 1), wk_11 r l2 (l3 + 1) 1 (l5 + 1)]
    rfl
theorem wo_11 {X M : jW} (T : pTk X M) (S : pWs X) : d_X9_wordOf_r68_r11d X = (if M.1 125 11 = 1 then wIx (M.2.1 125 12) [1253, 111983872174, 23114405, 26379859, 624256276644] 0 else -1) := by
  have h := wO_e T ws_11 (by unfold ws_11 wOk; decide) S.2.2.2.2.2.2.1 (by decide) (r := 35) (n := 34) (by decide) (by decide) (by decide)
  have e : ws_11.map cwl = [1253, 111983872174, 23114405, 26379859, 624256276644] := by decide
  rw [e] at h
  rw [← h]
  unfold d_X9_wordOf_r68_r11d
  rw [wk_11]
theorem wk_12 {W : jW} : ∀ (r : Nat) (l2 l3 l4 l5 : Int), d_X9_wordOf_r68_r12d_23 r l2 l3 l4 l5 W = gW (W.1 25) 3 (W.1 69) (W.1 68 3) (W.1 68 4) r l2 l3 l4 l5
  | 0, _, _, _, _ => rfl
  | r + 1, l2, l3, l4, l5 => by
    show (if 3 ≤ l5 then (-1) else (if (j_iand (W.1 25 l5.toNat) 255) = 32 then (if l4 = 0 then d_X9_wordOf_r68_r12d_23 r (j_iadd l2 1) (W.1 68 3) 1 (l5 + 1) W else (if l3 = (W.1 68 4) then l2 else d_X9_wordOf_r68_r12d_23 r (j_iadd l2 1) (W.1 68 3) 1 (l5 + 1) W)) else (if l4 = 0 then d_X9_wordOf_r68_r12d_23 r l2 (l3 + 1) 0 (l5 + 1) W else (if (W.1 68 4) ≤ l3 then d_X9_wordOf_r68_r12d_23 r l2 (l3 + 1) 0 (l5 + 1) W else (if (W.1 69 l3.toNat) = (j_iand (W.1 25 l5.toNat) 255) then d_X9_wordOf_r68_r12d_23 r l2 (l3 + 1) 1 (l5 + 1) W else d_X9_wordOf_r68_r12d_23 r l2 (l3 + 1) 0 (l5 + 1) W))))) = _
    rw [wk_12 r (j_iadd l2 1) (W.1 68 3) 1 (l5 + 1), wk_12 r l2 (l3 + 1) 0 (l5 + 1), wk_12 r l2 (l3 + 1) 1 (l5 + 1)]
    rfl
theorem wo_12 {X M : jW} (T : pTk X M) (S : pWs X) : d_X9_wordOf_r68_r12d X = (if M.1 125 11 = 1 then wIx (M.2.1 125 12) [294] 0 else -1) := by
  have h := wO_e T ws_12 (by unfold ws_12 wOk; decide) S.2.2.2.2.2.2.2.1 (by decide) (r := 4) (n := 3) (by decide) (by decide) (by decide)
  have e : ws_12.map cwl = [294] := by decide
  rw [e] at h
  rw [← h]
  unfold d_X9_wordOf_r68_r12d
  rw [wk_12]
theorem wk_13 {W : jW} : ∀ (r : Nat) (l2 l3 l4 l5 : Int), d_X9_wordOf_r68_r13d_23 r l2 l3 l4 l5 W = gW (W.1 26) 7 (W.1 69) (W.1 68 3) (W.1 68 4) r l2 l3 l4 l5
  | 0, _, _, _, _ => rfl
  | r + 1, l2, l3, l4, l5 => by
    show (if 7 ≤ l5 then (-1) else (if (j_iand (W.1 26 l5.toNat) 255) = 32 then (if l4 = 0 then d_X9_wordOf_r68_r13d_23 r (j_iadd l2 1) (W.1 68 3) 1 (l5 + 1) W else (if l3 = (W.1 68 4) then l2 else d_X9_wordOf_r68_r13d_23 r (j_iadd l2 1) (W.1 68 3) 1 (l5 + 1) W)) else (if l4 = 0 then d_X9_wordOf_r68_r13d_23 r l2 (l3 + 1) 0 (l5 + 1) W else (if (W.1 68 4) ≤ l3 then d_X9_wordOf_r68_r13d_23 r l2 (l3 + 1) 0 (l5 + 1) W else (if (W.1 69 l3.toNat) = (j_iand (W.1 26 l5.toNat) 255) then d_X9_wordOf_r68_r13d_23 r l2 (l3 + 1) 1 (l5 + 1) W else d_X9_wordOf_r68_r13d_23 r l2 (l3 + 1) 0 (l5 + 1) W))))) = _
    rw [wk_13 r (j_iadd l2 1) (W.1 68 3) 1 (l5 + 1), wk_13 r l2 (l3 + 1) 0 (l5 + 1), wk_13 r l2 (l3 + 1) 1 (l5 + 1)]
    rfl
theorem wo_13 {X M : jW} (T : pTk X M) (S : pWs X) : d_X9_wordOf_r68_r13d X = (if M.1 125 11 = 1 then wIx (M.2.1 125 12) [719722099] 0 else -1) := by
  have h := wO_e T ws_13 (by unfold ws_13 wOk; decide) S.2.2.2.2.2.2.2.2.1 (by decide) (r := 8) (n := 7) (by decide) (by decide) (by decide)
  have e : ws_13.map cwl = [719722099] := by decide
  rw [e] at h
  rw [← h]
  unfold d_X9_wordOf_r68_r13d
  rw [wk_13]
theorem wk_14 {W : jW} : ∀ (r : Nat) (l2 l3 l4 l5 : Int), d_X9_wordOf_r68_r14d_23 r l2 l3 l4 l5 W = gW (W.1 27) 4 (W.1 69) (W.1 68 3) (W.1 68 4) r l2 l3 l4 l5
  | 0, _, _, _, _ => rfl
  | r + 1, l2, l3, l4, l5 => by
    show (if 4 ≤ l5 then (-1) else (if (j_iand (W.1 27 l5.toNat) 255) = 32 then (if l4 = 0 then d_X9_wordOf_r68_r14d_23 r (j_iadd l2 1) (W.1 68 3) 1 (l5 + 1) W else (if l3 = (W.1 68 4) then l2 else d_X9_wordOf_r68_r14d_23 r (j_iadd l2 1) (W.1 68 3) 1 (l5 + 1) W)) else (if l4 = 0 then d_X9_wordOf_r68_r14d_23 r l2 (l3 + 1) 0 (l5 + 1) W else (if (W.1 68 4) ≤ l3 then d_X9_wordOf_r68_r14d_23 r l2 (l3 + 1) 0 (l5 + 1) W else (if (W.1 69 l3.toNat) = (j_iand (W.1 27 l5.toNat) 255) then d_X9_wordOf_r68_r14d_23 r l2 (l3 + 1) 1 (l5 + 1) W else d_X9_wordOf_r68_r14d_23 r l2 (l3 + 1) 0 (l5 + 1) W))))) = _
    rw [wk_14 r (j_iadd l2 1) (W.1 68 3) 1 (l5 + 1), wk_14 r l2 (l3 + 1) 0 (l5 + 1), wk_14 r l2 (l3 + 1) 1 (l5 + 1)]
    rfl
theorem wo_14 {X M : jW} (T : pTk X M) (S : pWs X) : d_X9_wordOf_r68_r14d X = (if M.1 125 11 = 1 then wIx (M.2.1 125 12) [14836] 0 else -1) := by
  have h := wO_e T ws_14 (by unfold ws_14 wOk; decide) S.2.2.2.2.2.2.2.2.2.1 (by decide) (r := 5) (n := 4) (by decide) (by decide) (by decide)
  have e : ws_14.map cwl = [14836] := by decide
  rw [e] at h
  rw [← h]
  unfold d_X9_wordOf_r68_r14d
  rw [wk_14]
theorem wk_15 {W : jW} : ∀ (r : Nat) (l2 l3 l4 l5 : Int), d_X9_wordOf_r68_r15d_23 r l2 l3 l4 l5 W = gW (W.1 28) 34 (W.1 69) (W.1 68 3) (W.1 68 4) r l2 l3 l4 l5
  | 0, _, _, _, _ => rfl
  | r + 1, l2, l3, l4, l5 => by
    show (if 34 ≤ l5 then (-1) else (if (j_iand (W.1 28 l5.toNat) 255) = 32 then (if l4 = 0 then d_X9_wordOf_r68_r15d_23 r (j_iadd l2 1) (W.1 68 3) 1 (l5 + 1) W else (if l3 = (W.1 68 4) then l2 else d_X9_wordOf_r68_r15d_23 r (j_iadd l2 1) (W.1 68 3) 1 (l5 + 1) W)) else (if l4 = 0 then d_X9_wordOf_r68_r15d_23 r l2 (l3 + 1) 0 (l5 + 1) W else (if (W.1 68 4) ≤ l3 then d_X9_wordOf_r68_r15d_23 r l2 (l3 + 1) 0 (l5 + 1) W else (if (W.1 69 l3.toNat) = (j_iand (W.1 28 l5.toNat) 255) then d_X9_wordOf_r68_r15d_23 r l2 (l3 + 1) 1 (l5 + 1) W else d_X9_wordOf_r68_r15d_23 r l2 (l3 + 1) 0 (l5 + 1) W))))) = _
    rw [wk_15 r (j_iadd l2 1) (W.1 68 3) 1 (l5 + 1), wk_15 r l2 (l3 + 1) 0 (l5 + 1), wk_15 r l2 (l3 + 1) 1 (l5 + 1)]
    rfl
theorem wo_15 {X M : jW} (T : pTk X M) (S : pWs X) : d_X9_wordOf_r68_r15d X = (if M.1 125 11 = 1 then wIx (M.2.1 125 12) [14011671716, 136228, 540146, 8892563, 3490341659812] 0 else -1) := by
  have h := wO_e T ws_15 (by unfold ws_15 wOk; decide) S.2.2.2.2.2.2.2.2.2.2.1 (by decide) (r := 35) (n := 34) (by decide) (by decide) (by decide)
  have e : ws_15.map cwl = [14011671716, 136228, 540146, 8892563, 3490341659812] := by decide
  rw [e] at h
  rw [← h]
  unfold d_X9_wordOf_r68_r15d
  rw [wk_15]
theorem wk_16 {W : jW} : ∀ (r : Nat) (l2 l3 l4 l5 : Int), d_X9_wordOf_r68_r16d_23 r l2 l3 l4 l5 W = gW (W.1 29) 4 (W.1 69) (W.1 68 3) (W.1 68 4) r l2 l3 l4 l5
  | 0, _, _, _, _ => rfl
  | r + 1, l2, l3, l4, l5 => by
    show (if 4 ≤ l5 then (-1) else (if (j_iand (W.1 29 l5.toNat) 255) = 32 then (if l4 = 0 then d_X9_wordOf_r68_r16d_23 r (j_iadd l2 1) (W.1 68 3) 1 (l5 + 1) W else (if l3 = (W.1 68 4) then l2 else d_X9_wordOf_r68_r16d_23 r (j_iadd l2 1) (W.1 68 3) 1 (l5 + 1) W)) else (if l4 = 0 then d_X9_wordOf_r68_r16d_23 r l2 (l3 + 1) 0 (l5 + 1) W else (if (W.1 68 4) ≤ l3 then d_X9_wordOf_r68_r16d_23 r l2 (l3 + 1) 0 (l5 + 1) W else (if (W.1 69 l3.toNat) = (j_iand (W.1 29 l5.toNat) 255) then d_X9_wordOf_r68_r16d_23 r l2 (l3 + 1) 1 (l5 + 1) W else d_X9_wordOf_r68_r16d_23 r l2 (l3 + 1) 0 (l5 + 1) W))))) = _
    rw [wk_16 r (j_iadd l2 1) (W.1 68 3) 1 (l5 + 1), wk_16 r l2 (l3 + 1) 0 (l5 + 1), wk_16 r l2 (l3 + 1) 1 (l5 + 1)]
    rfl
theorem wo_16 {X M : jW} (T : pTk X M) (S : pWs X) : d_X9_wordOf_r68_r16d X = (if M.1 125 11 = 1 then wIx (M.2.1 125 12) [1476] 0 else -1) := by
  have h := wO_e T ws_16 (by unfold ws_16 wOk; decide) S.2.2.2.2.2.2.2.2.2.2.2.1 (by decide) (r := 5) (n := 4) (by decide) (by decide) (by decide)
  have e : ws_16.map cwl = [1476] := by decide
  rw [e] at h
  rw [← h]
  unfold d_X9_wordOf_r68_r16d
  rw [wk_16]
theorem wk_17 {W : jW} : ∀ (r : Nat) (l2 l3 l4 l5 : Int), d_X9_wordOf_r68_r17d_23 r l2 l3 l4 l5 W = gW (W.1 30) 3 (W.1 69) (W.1 68 3) (W.1 68 4) r l2 l3 l4 l5
  | 0, _, _, _, _ => rfl
  | r + 1, l2, l3, l4, l5 => by
    show (if 3 ≤ l5 then (-1) else (if (j_iand (W.1 30 l5.toNat) 255) = 32 then (if l4 = 0 then d_X9_wordOf_r68_r17d_23 r (j_iadd l2 1) (W.1 68 3) 1 (l5 + 1) W else (if l3 = (W.1 68 4) then l2 else d_X9_wordOf_r68_r17d_23 r (j_iadd l2 1) (W.1 68 3) 1 (l5 + 1) W)) else (if l4 = 0 then d_X9_wordOf_r68_r17d_23 r l2 (l3 + 1) 0 (l5 + 1) W else (if (W.1 68 4) ≤ l3 then d_X9_wordOf_r68_r17d_23 r l2 (l3 + 1) 0 (l5 + 1) W else (if (W.1 69 l3.toNat) = (j_iand (W.1 30 l5.toNat) 255) then d_X9_wordOf_r68_r17d_23 r l2 (l3 + 1) 1 (l5 + 1) W else d_X9_wordOf_r68_r17d_23 r l2 (l3 + 1) 0 (l5 + 1) W))))) = _
    rw [wk_17 r (j_iadd l2 1) (W.1 68 3) 1 (l5 + 1), wk_17 r l2 (l3 + 1) 0 (l5 + 1), wk_17 r l2 (l3 + 1) 1 (l5 + 1)]
    rfl
theorem wo_17 {X M : jW} (T : pTk X M) (S : pWs X) : d_X9_wordOf_r68_r17d X = (if M.1 125 11 = 1 then wIx (M.2.1 125 12) [498] 0 else -1) := by
  have h := wO_e T ws_17 (by unfold ws_17 wOk; decide) S.2.2.2.2.2.2.2.2.2.2.2.2 (by decide) (r := 4) (n := 3) (by decide) (by decide) (by decide)
  have e : ws_17.map cwl = [498] := by decide
  rw [e] at h
  rw [← h]
  unfold d_X9_wordOf_r68_r17d
  rw [wk_17]
/-! NUMBERS -/
theorem nt_e {W : jW} {b : Nat → Int} {f : Nat} (hd : ∀ i : Nat, (f : Int) ≤ (i : Int) → (i : Int) < W.1 68 4 → W.1 69 i = b i ∧ 48 ≤ b i ∧ b i ≤ 57) {a1 : Int} (ha : 0 ≤ a1 ∧ a1 < 1000000) : ∀ (j r k : Nat), (f : Int) + k + j = W.1 68 4 → j < r → (0 ≤ nmb b f k ∧ nmb b f k ≤ 100000000) → d_X9_numberTo_r68d_17 r a1 (min 1000000 (nmb b f k)) ((f + k : Nat) : Int) W = if nmb b f (k + j) ≤ a1 then nmb b f (k + j) else -1
  | 0, r + 1, k, h, hr, hb => by
    show (if (W.1 68 4) ≤ ((f + k : Nat) : Int) then (if a1 < (min 1000000 (nmb b f k)) then (-1) else (min 1000000 (nmb b f k))) else _) = _
    rw [if_pos (by omega), show k + 0 = k from rfl]
    by_cases c : nmb b f k ≤ a1
    · rw [if_neg (by omega), if_pos c]
      show min 1000000 (nmb b f k) = nmb b f k
      omega
    · rw [if_pos (by omega), if_neg c]
  | j + 1, r + 1, k, h, hr, hb => by
    show (if (W.1 68 4) ≤ ((f + k : Nat) : Int) then _ else (d_X9_numberTo_r68d_17 r a1 (min 1000000 (j_isub (j_iadd (j_imul (min 1000000 (nmb b f k)) 10) (W.1 69 ((f + k : Nat) : Int).toNat)) 48)) (((f + k : Nat) : Int) + 1) W)) = _
    have d := hd (f + k) (by omega) (by omega)
    rw [if_neg (by omega), show ((f + k : Nat) : Int).toNat = f + k from by omega, d.1, j_im (by omega) (by omega) (by omega), j_ia (by omega) (by omega) (by omega), j_is (by omega) (by omega) (by omega)]
    have e : nmb b f (k + 1) = if nmb b f k ≤ 1000000 then nmb b f k * 10 + b (f + k) - 48 else nmb b f k := rfl
    have e2 : min 1000000 (min 1000000 (nmb b f k) * 10 + b (f + k) - 48) = min 1000000 (nmb b f (k + 1)) := by
      rw [e]
      by_cases c : nmb b f k ≤ 1000000
      · rw [if_pos c]; omega
      · rw [if_neg c]; omega
    have e3 : 0 ≤ nmb b f (k + 1) ∧ nmb b f (k + 1) ≤ 100000000 := by
      rw [e]
      by_cases c : nmb b f k ≤ 1000000
      · rw [if_pos c]; omega
      · rw [if_neg c]; omega
    have ih := nt_e hd ha j r (k + 1) (by omega) (by omega) e3
    rw [e2, show ((f + k : Nat) : Int) + 1 = ((f + (k + 1) : Nat) : Int) from by omega, ih, show k + 1 + j = k + (j + 1) from by omega]
theorem no_e {X M : jW} (T : pTk X M) {a1 : Int} (ha : 0 ≤ a1 ∧ a1 < 1000000) : d_X9_numberTo_r68d a1 X = (if M.1 125 11 = 2 then (if M.2.1 125 12 ≤ a1 then M.2.1 125 12 else -1) else -1) ∧ (M.1 125 11 = 2 → 0 ≤ M.2.1 125 12) := by
  obtain ⟨Tp, t3, t4, t5, tr, tk⟩ := T
  by_cases c1 : M.1 125 11 = 2
  · rw [if_pos c1]
    rcases tk with ⟨a, _⟩ | ⟨a, _⟩ | ⟨a, _⟩ | ⟨_, a2, a3, a4⟩
    · omega
    · omega
    · omega
    · have tp := Tp.2.1
      have e := nt_e (W := X) (b := M.1 131) (f := (M.1 125 9).toNat) (fun i h1 h2 => ⟨Tp.2.2 i (by omega), a4 i (by omega) (by omega)⟩) ha (M.1 125 10 - M.1 125 9).toNat 401 0 (by omega) (by omega) ⟨Int.le_refl 0, show (0 : Int) ≤ 100000000 from by decide⟩
      have z : (((M.1 125 9).toNat + 0 : Nat) : Int) = X.1 68 3 := by omega
      have y : min (1000000 : Int) (nmb (M.1 131) (M.1 125 9).toNat 0) = 0 := show min (1000000 : Int) 0 = 0 from by decide
      rw [z, y, show 0 + (M.1 125 10 - M.1 125 9).toNat = (M.1 125 10 - M.1 125 9).toNat from by omega, ← a3] at e
      have n0 : ∀ k : Nat, (k : Int) ≤ M.1 125 10 - M.1 125 9 → 0 ≤ nmb (M.1 131) (M.1 125 9).toNat k := by
        intro k
        induction k with
        | zero => intro _; exact Int.le_refl 0
        | succ k ih =>
          intro h
          have i2 := ih (by omega)
          have d := a4 ((M.1 125 9).toNat + k) (by omega) (by omega)
          show 0 ≤ (if nmb (M.1 131) (M.1 125 9).toNat k ≤ 1000000 then nmb (M.1 131) (M.1 125 9).toNat k * 10 + M.1 131 ((M.1 125 9).toNat + k) - 48 else nmb (M.1 131) (M.1 125 9).toNat k)
          by_cases c : nmb (M.1 131) (M.1 125 9).toNat k ≤ 1000000
          · rw [if_pos c]; omega
          · rw [if_neg c]; omega
      refine ⟨?_, fun _ => by rw [a3]; exact n0 _ (by omega)⟩
      unfold d_X9_numberTo_r68d
      rw [t5, if_pos c1]
      exact e
  · refine ⟨?_, fun h => absurd h c1⟩
    unfold d_X9_numberTo_r68d
    rw [t5, if_neg c1, if_neg c1]
end jG51

section jG52
/-! pure: the reference's pile of signs as a list, settle -/
def pbd (o : Int) : Int := if 30 ≤ o then 0 else if o = 20 then 1 else if o = 19 then 2 else if o = 18 then 3 else if 10 ≤ o then 4 else if 8 ≤ o then 6 else 5
abbrev yC := Int × (Nat → Int) × (Nat → Int)
abbrev yL := List (Int × Int)
def yE (o a : Int) (c : yC) : yC := (c.1 + 1, sU c.2.1 c.1.toNat o, sU c.2.2 c.1.toNat a)
def yP (k : Int) (c : yC) : yC := (c.1, c.2.1, sU c.2.2 k.toNat c.1)
def yse (k : Int) : yL → yC → yL × yC
  | [], c => ([], c)
  | p :: l, c => if k ≤ pbd p.1 then (if p.1 = 19 ∨ p.1 = 20 then yse k l (yP p.2 c) else yse k l (yE p.1 0 c)) else (p :: l, c)
def pL (pl pa : Nat → Int) : yL → Prop
  | [] => True
  | p :: l => pl l.length = p.1 ∧ pa l.length = p.2 ∧ pL pl pa l
theorem pL_c {pl pa ql qa : Nat → Int} : ∀ {l : yL}, pL pl pa l → (∀ i : Nat, i < l.length → ql i = pl i ∧ qa i = pa i) → pL ql qa l
  | [], _, _ => trivial
  | p :: l, h, e => by
    have z : (p :: l).length = l.length + 1 := rfl
    rw [z] at e
    have q := e l.length (by omega)
    exact ⟨q.1.trans h.1, q.2.trans h.2.1, pL_c h.2.2 (fun i hi => e i (by omega))⟩
def pY (M : jW) (l : yL) (c : yC) : Prop := M.1 125 55 = (l.length : Int) ∧ pL (M.1 150) (M.1 151) l ∧ M.1 125 49 = c.1 ∧ M.1 148 = c.2.1 ∧ M.1 149 = c.2.2
def mEm (W : jW) (o : Int) : jW := vu (vu (vu (vu W 125 55 ((W.1 125 55) - 1)) 148 (W.1 125 49).toNat o) 149 (W.1 125 49).toNat 0) 125 49 ((W.1 125 49) + 1)
def mPt (W : jW) : jW := vu (vu W 125 55 ((W.1 125 55) - 1)) 149 ((vu W 125 55 ((W.1 125 55) - 1)).1 151 ((vu W 125 55 ((W.1 125 55) - 1)).1 125 55).toNat).toNat ((vu W 125 55 ((W.1 125 55) - 1)).1 125 49)
theorem st_s {r : Nat} {a1 o : Int} {W : jW} (ho : W.1 150 (W.1 125 55 - 1).toNat = o) (ha : 1 ≤ a1 ∧ a1 ≤ 6) : d_X12_settle_r125d_0 (r + 1) a1 W = if W.1 125 55 ≤ 0 then W else if a1 ≤ pbd o then (if o = 19 ∨ o = 20 then d_X12_settle_r125d_0 r a1 (mPt W) else d_X12_settle_r125d_0 r a1 (mEm W o)) else W := by
  rw [d_X12_settle_r125d_0, ho]
  by_cases z : W.1 125 55 ≤ 0
  · rw [if_pos z, if_pos z]; rfl
  rw [if_neg z, if_neg z]
  by_cases h1 : o < 30
  · rw [if_pos h1]
    by_cases h2 : o = 20
    · have hp : pbd o = 1 := by unfold pbd; rw [if_neg (by omega), if_pos h2]
      rw [if_pos h2, hp, if_pos (show o = 19 ∨ o = 20 from Or.inr h2), if_neg (show ¬ o = 19 from by omega), if_pos h2]
      by_cases h : 1 < a1
      · rw [if_pos h, if_neg (by omega)]; rfl
      · rw [if_neg h, if_pos (by omega)]; rfl
    rw [if_neg h2]
    by_cases h3 : o = 19
    · have hp : pbd o = 2 := by unfold pbd; rw [if_neg (by omega), if_neg h2, if_pos h3]
      rw [if_pos h3, hp, if_pos (show o = 19 ∨ o = 20 from Or.inl h3), if_pos h3]
      by_cases h : 2 < a1
      · rw [if_pos h, if_neg (by omega)]; rfl
      · rw [if_neg h, if_pos (by omega)]; rfl
    rw [if_neg h3]
    have hn : ¬ (o = 19 ∨ o = 20) := by omega
    by_cases h4 : o = 18
    · have hp : pbd o = 3 := by unfold pbd; rw [if_neg (by omega), if_neg h2, if_neg h3, if_pos h4]
      rw [if_pos h4, hp, if_neg hn, if_neg h3, if_neg h2]
      by_cases h : 3 < a1
      · rw [if_pos h, if_neg (by omega)]; rfl
      · rw [if_neg h, if_pos (by omega)]; rfl
    rw [if_neg h4]
    by_cases h5 : o < 10
    · rw [if_pos h5]
      by_cases h6 : o < 8
      · have hp : pbd o = 5 := by unfold pbd; rw [if_neg (by omega), if_neg h2, if_neg h3, if_neg h4, if_neg (by omega), if_neg (by omega)]
        rw [if_pos h6, hp, if_neg hn, if_neg h3, if_neg h2]
        by_cases h : 5 < a1
        · rw [if_pos h, if_neg (by omega)]; rfl
        · rw [if_neg h, if_pos (by omega)]; rfl
      · have hp : pbd o = 6 := by unfold pbd; rw [if_neg (by omega), if_neg h2, if_neg h3, if_neg h4, if_neg (by omega), if_pos (by omega)]
        rw [if_neg h6, hp, if_neg hn, if_neg h3, if_neg h2, if_pos (show a1 ≤ 6 from ha.2)]
        rfl
    · have hp : pbd o = 4 := by unfold pbd; rw [if_neg (by omega), if_neg h2, if_neg h3, if_neg h4, if_pos (by omega)]
      rw [if_neg h5, hp, if_neg hn, if_neg h3, if_neg h2]
      by_cases h : 4 < a1
      · rw [if_pos h, if_neg (by omega)]; rfl
      · rw [if_neg h, if_pos (by omega)]; rfl
  · have hp : pbd o = 0 := if_pos (by omega)
    rw [if_neg h1, hp, if_neg (show ¬ a1 ≤ 0 from by omega)]; rfl
theorem st_y {k : Int} (hk : 1 ≤ k ∧ k ≤ 6) : ∀ (l : yL) (r : Nat) (M : jW) (c : yC), l.length < r → pY M l c → pY (d_X12_settle_r125d_0 r k M) (yse k l c).1 (yse k l c).2
  | [], r + 1, M, c, _, h => by
    have z : M.1 125 55 ≤ 0 := by have e : M.1 125 55 = ((([] : yL).length : Nat) : Int) := h.1; have e2 : ([] : yL).length = 0 := rfl; rw [e2] at e; omega
    rw [st_s rfl hk, if_pos z]
    exact h
  | p :: l, r + 1, M, c, hr, h => by
    have e2 : (p :: l).length = l.length + 1 := rfl
    obtain ⟨h1, h2, h3, h4, h5⟩ := h
    rw [e2] at hr h1
    have n1 : (M.1 125 55 - 1).toNat = l.length := by omega
    have ho : M.1 150 (M.1 125 55 - 1).toNat = p.1 := by rw [n1]; exact h2.1
    rw [st_s ho hk, if_neg (by omega)]
    show pY _ (if k ≤ pbd p.1 then (if p.1 = 19 ∨ p.1 = 20 then yse k l (yP p.2 c) else yse k l (yE p.1 0 c)) else (p :: l, c)).1 (if k ≤ pbd p.1 then (if p.1 = 19 ∨ p.1 = 20 then yse k l (yP p.2 c) else yse k l (yE p.1 0 c)) else (p :: l, c)).2
    by_cases c1 : k ≤ pbd p.1
    · rw [if_pos c1, if_pos c1]
      by_cases c2 : p.1 = 19 ∨ p.1 = 20
      · rw [if_pos c2, if_pos c2]
        have e5 : (vu M 125 55 (M.1 125 55 - 1)).1 125 55 = M.1 125 55 - 1 := vu_e rfl
        have e6 : (vu M 125 55 (M.1 125 55 - 1)).1 151 (M.1 125 55 - 1).toNat = p.2 := by rw [vu_n (by omega), n1]; exact h2.2.1
        have e7 : (vu M 125 55 (M.1 125 55 - 1)).1 125 49 = c.1 := (vu_n (by omega)).trans h3
        refine st_y hk l r (mPt M) (yP p.2 c) (by omega) ?_
        unfold mPt
        rw [e5, e6, e7]
        refine ⟨by rw [vu_n (by omega), e5]; omega, ?_, by rw [vu_n (by omega)]; exact e7, ?_, ?_⟩
        · rw [vu_c (by omega), vu_c (by omega), vu_c (by omega), vu_c (by omega)]; exact h2.2.2
        · rw [vu_c (by omega), vu_c (by omega)]; exact h4
        · show (vu (vu M 125 55 (M.1 125 55 - 1)) 149 p.2.toNat c.1).1 149 = sU c.2.2 p.2.toNat c.1
          funext i
          by_cases ci : i = p.2.toNat
          · rw [vu_e ci, sU_e ci]
          · rw [vu_n (by omega), sU_n ci, vu_n (by omega), h5]
      · rw [if_neg c2, if_neg c2]
        refine st_y hk l r (mEm M p.1) (yE p.1 0 c) (by omega) ?_
        unfold mEm
        rw [h3]
        refine ⟨?_, ?_, vu_e rfl, ?_, ?_⟩
        · rw [vu_n (by omega), vu_n (by omega), vu_n (by omega), vu_e rfl]; omega
        · rw [vu_c (by omega), vu_c (by omega), vu_c (by omega), vu_c (by omega), vu_c (by omega), vu_c (by omega), vu_c (by omega), vu_c (by omega)]; exact h2.2.2
        · show _ = sU c.2.1 c.1.toNat p.1
          funext i
          by_cases ci : i = c.1.toNat
          · rw [vu_n (by omega), vu_n (by omega), vu_e ci, sU_e ci]
          · rw [vu_n (by omega), vu_n (by omega), vu_n (by omega), sU_n ci, vu_n (by omega), h4]
        · show _ = sU c.2.2 c.1.toNat 0
          funext i
          by_cases ci : i = c.1.toNat
          · rw [vu_n (by omega), vu_e ci, sU_e ci]
          · rw [vu_n (by omega), vu_n (by omega), vu_n (by omega), sU_n ci, vu_n (by omega), h5]
    · rw [if_neg c1, if_neg c1]
      exact ⟨h1, h2, h3, h4, h5⟩
theorem se_y {k : Int} (hk : 1 ≤ k ∧ k ≤ 6) {l : yL} {M : jW} {c : yC} (hl : (l.length : Int) ≤ 400) (h : pY M l c) : pY (d_X12_settle_r125d k M) (yse k l c).1 (yse k l c).2 := st_y hk l 401 M c (by omega) h
/-- settling twice -/
theorem yse_t {a b : Int} (h : a ≤ b) : ∀ (l : yL) (c : yC), yse a (yse b l c).1 (yse b l c).2 = yse a l c
  | [], _ => rfl
  | p :: l, c => by
    by_cases c1 : b ≤ pbd p.1
    · by_cases c2 : p.1 = 19 ∨ p.1 = 20
      · have e : yse b (p :: l) c = yse b l (yP p.2 c) := (if_pos c1).trans (if_pos c2)
        have e2 : yse a (p :: l) c = yse a l (yP p.2 c) := (if_pos (by omega)).trans (if_pos c2)
        rw [e, e2]
        exact yse_t h l _
      · have e : yse b (p :: l) c = yse b l (yE p.1 0 c) := (if_pos c1).trans (if_neg c2)
        have e2 : yse a (p :: l) c = yse a l (yE p.1 0 c) := (if_pos (by omega)).trans (if_neg c2)
        rw [e, e2]
        exact yse_t h l _
    · have e : yse b (p :: l) c = (p :: l, c) := if_neg c1
      rw [e]
theorem yse_l {k : Int} : ∀ (l : yL) (c : yC), (yse k l c).1.length ≤ l.length ∧ (yse k l c).2.1 + (yse k l c).1.length ≤ c.1 + l.length
  | [], _ => ⟨Nat.le_refl _, Int.le_refl _⟩
  | p :: l, c => by
    have z : (p :: l).length = l.length + 1 := rfl
    by_cases c1 : k ≤ pbd p.1
    · by_cases c2 : p.1 = 19 ∨ p.1 = 20
      · have e : yse k (p :: l) c = yse k l (yP p.2 c) := (if_pos c1).trans (if_pos c2)
        have i := yse_l (k := k) l (yP p.2 c)
        have y : (yP p.2 c).1 = c.1 := rfl
        rw [y] at i
        rw [e, z]
        omega
      · have e : yse k (p :: l) c = yse k l (yE p.1 0 c) := (if_pos c1).trans (if_neg c2)
        have i := yse_l (k := k) l (yE p.1 0 c)
        have y : (yE p.1 0 c).1 = c.1 + 1 := rfl
        rw [y] at i
        rw [e, z]
        omega
    · have e : yse k (p :: l) c = (p :: l, c) := if_neg c1
      rw [e]
      exact ⟨Nat.le_refl _, Int.le_refl _⟩
/-- the innermost bracket -/
def yIn : yL → Int
  | [] => -1
  | p :: l => if 30 ≤ p.1 then p.1 else yIn l
theorem in_s {r : Nat} {l1 l2 : Int} {W : jW} : d_X12_inner_r125d_4 (r + 1) l1 l2 W = if W.1 125 55 ≤ l2 then l1 else d_X12_inner_r125d_4 r (if W.1 150 l2.toNat < 30 then l1 else W.1 150 l2.toNat) (l2 + 1) W := by
  show (if W.1 125 55 ≤ l2 then l1 else (if W.1 150 l2.toNat < 30 then d_X12_inner_r125d_4 r l1 (l2 + 1) W else d_X12_inner_r125d_4 r (W.1 150 l2.toNat) (l2 + 1) W)) = _
  by_cases c : W.1 150 l2.toNat < 30
  · rw [if_pos c, if_pos c]
  · rw [if_neg c, if_neg c]
def bIn (pl : Nat → Int) : Nat → Int
  | 0 => -1
  | j + 1 => if pl j < 30 then bIn pl j else pl j
theorem in_b {W : jW} {n : Nat} (hn : W.1 125 55 = (n : Int)) : ∀ (m r j : Nat), j + m = n → m < r → d_X12_inner_r125d_4 r (bIn (W.1 150) j) (j : Int) W = bIn (W.1 150) n
  | 0, r + 1, j, h, _ => by
    rw [in_s, if_pos (by omega), show j = n from by omega]
  | m + 1, r + 1, j, h, hr => by
    rw [in_s, if_neg (by omega)]
    exact in_b hn m r (j + 1) (by omega) (by omega)
theorem bIn_y {pl pa : Nat → Int} : ∀ (l : yL), pL pl pa l → bIn pl l.length = yIn l
  | [], _ => rfl
  | p :: l, h => by
    have ih := bIn_y l h.2.2
    show (if pl l.length < 30 then bIn pl l.length else pl l.length) = (if 30 ≤ p.1 then p.1 else yIn l)
    rw [h.1, ih]
    by_cases c : 30 ≤ p.1
    · rw [if_pos c, if_neg (by omega)]
    · rw [if_neg c, if_pos (by omega)]
theorem in_e {M : jW} {l : yL} {c : yC} (hl : (l.length : Int) ≤ 400) (h : pY M l c) : d_X12_inner_r125d M = yIn l := by
  rw [← bIn_y l h.2.1]
  exact in_b h.1 l.length 401 0 (by omega) (by omega)
/-- is a comparison open -/
def yCo : yL → Int
  | [] => 0
  | p :: l => if 6 ≤ p.1 ∧ p.1 ≤ 9 then yCo l else if 10 ≤ p.1 ∧ p.1 ≤ 12 then 1 else 0
theorem yc_s {r : Nat} {l1 : Int} {W : jW} : d_X12_isCompared_r125d_7 (r + 1) l1 W = if l1 < 0 then 0 else if 6 ≤ W.1 150 l1.toNat ∧ W.1 150 l1.toNat ≤ 9 then d_X12_isCompared_r125d_7 r (l1 + (-1)) W else if 10 ≤ W.1 150 l1.toNat ∧ W.1 150 l1.toNat ≤ 12 then 1 else 0 := by
  show (if l1 < 0 then (if l1 < 0 then 0 else (if 10 ≤ (W.1 150 l1.toNat) ∧ (W.1 150 l1.toNat) ≤ 12 then 1 else 0)) else (if 6 ≤ (W.1 150 l1.toNat) ∧ (W.1 150 l1.toNat) ≤ 9 then d_X12_isCompared_r125d_7 r (l1 + (-1)) W else (if l1 < 0 then 0 else (if 10 ≤ (W.1 150 l1.toNat) ∧ (W.1 150 l1.toNat) ≤ 12 then 1 else 0)))) = _
  by_cases c : l1 < 0
  · rw [if_pos c, if_pos c, if_pos c]
  · rw [if_neg c, if_neg c, if_neg c]
theorem yc_y {W : jW} : ∀ (l : yL) (r : Nat), pL (W.1 150) (W.1 151) l → l.length < r → d_X12_isCompared_r125d_7 r ((l.length : Int) - 1) W = yCo l
  | [], r + 1, _, _ => by
    have z : (([] : yL).length : Int) - 1 < 0 := by have e : ([] : yL).length = 0 := rfl; rw [e]; omega
    rw [yc_s, if_pos z]
    rfl
  | p :: l, r + 1, h, hr => by
    have z : (p :: l).length = l.length + 1 := rfl
    rw [z] at hr ⊢
    have n1 : ((l.length + 1 : Nat) : Int) - 1 = (l.length : Int) := by omega
    have n2 : ((l.length : Nat) : Int).toNat = l.length := by omega
    rw [n1, yc_s, if_neg (by omega), n2, h.1]
    show _ = (if 6 ≤ p.1 ∧ p.1 ≤ 9 then yCo l else if 10 ≤ p.1 ∧ p.1 ≤ 12 then 1 else 0)
    rw [show ((l.length : Nat) : Int) + (-1) = (l.length : Int) - 1 from by omega, yc_y l r h.2.2 (by omega)]
theorem yc_e {M : jW} {l : yL} {c : yC} (hl : (l.length : Int) ≤ 400) (h : pY M l c) : d_X12_isCompared_r125d M = yCo l := by
  have e := yc_y (W := M) l 401 h.2.1 (by omega)
  rw [← h.1] at e
  exact e
/-- push and emit -/
def mPu (M : jW) (o a : Int) : jW := vu (vu (vu M 150 (M.1 125 55).toNat o) 151 (M.1 125 55).toNat a) 125 55 (M.1 125 55 + 1)
def mEt (M : jW) (o a : Int) : jW := vu (vu (vu M 148 (M.1 125 49).toNat o) 149 (M.1 125 49).toNat a) 125 49 (M.1 125 49 + 1)
theorem pu_y {M : jW} {l : yL} {c : yC} {o a : Int} (h : pY M l c) : pY (mPu M o a) ((o, a) :: l) c := by
  obtain ⟨h1, h2, h3, h4, h5⟩ := h
  have n1 : (M.1 125 55).toNat = l.length := by omega
  have z : ((o, a) :: l).length = l.length + 1 := rfl
  unfold mPu
  rw [n1]
  refine ⟨by rw [vu_e rfl, z]; omega, ⟨?_, ?_, ?_⟩, ?_, ?_, ?_⟩
  · rw [vu_n (by omega), vu_n (by omega), vu_e rfl]
  · rw [vu_n (by omega), vu_e rfl]
  · exact pL_c h2 (fun i hi => ⟨by rw [vu_n (by omega), vu_n (by omega), vu_n (by omega)], by rw [vu_n (by omega), vu_n (by omega), vu_n (by omega)]⟩)
  · rw [vu_n (by omega), vu_n (by omega), vu_n (by omega)]; exact h3
  · rw [vu_c (by omega), vu_c (by omega), vu_c (by omega)]; exact h4
  · rw [vu_c (by omega), vu_c (by omega), vu_c (by omega)]; exact h5
theorem et_y {M : jW} {l : yL} {c : yC} {o a : Int} (h : pY M l c) : pY (mEt M o a) l (yE o a c) := by
  obtain ⟨h1, h2, h3, h4, h5⟩ := h
  unfold mEt
  rw [h3]
  refine ⟨by rw [vu_n (by omega), vu_n (by omega), vu_n (by omega)]; exact h1, ?_, vu_e rfl, ?_, ?_⟩
  · rw [vu_c (by omega), vu_c (by omega), vu_c (by omega), vu_c (by omega), vu_c (by omega), vu_c (by omega)]; exact h2
  · show _ = sU c.2.1 c.1.toNat o
    funext i
    by_cases ci : i = c.1.toNat
    · rw [vu_n (by omega), vu_n (by omega), vu_e ci, sU_e ci]
    · rw [vu_n (by omega), vu_n (by omega), vu_n (by omega), sU_n ci, h4]
  · show _ = sU c.2.2 c.1.toNat a
    funext i
    by_cases ci : i = c.1.toNat
    · rw [vu_n (by omega), vu_e ci, sU_e ci]
    · rw [vu_n (by omega), vu_n (by omega), vu_n (by omega), sU_n ci, h5]
theorem po_y {M : jW} {l : yL} {c : yC} {p : Int × Int} (h : pY M (p :: l) c) : pY (vu M 125 55 (M.1 125 55 - 1)) l c := by
  obtain ⟨h1, h2, h3, h4, h5⟩ := h
  have z : (p :: l).length = l.length + 1 := rfl
  rw [z] at h1
  refine ⟨by rw [vu_e rfl]; omega, ?_, by rw [vu_n (by omega)]; exact h3, ?_, ?_⟩
  · rw [vu_c (by omega), vu_c (by omega)]; exact h2.2.2
  · rw [vu_c (by omega)]; exact h4
  · rw [vu_c (by omega)]; exact h5
/-- other fields of the object do not matter -/
theorem py_c {M N : jW} {l : yL} {c : yC} (h : pY M l c) (e1 : N.1 125 55 = M.1 125 55) (e2 : N.1 125 49 = M.1 125 49) (e3 : N.1 148 = M.1 148) (e4 : N.1 149 = M.1 149) (e5 : N.1 150 = M.1 150) (e6 : N.1 151 = M.1 151) : pY N l c := by
  unfold pY at h ⊢
  rw [e1, e2, e3, e4, e5, e6]
  exact h
end jG52

section jG53
/-! pure: the two readers of a TEXT side by side: what holds between them -/
theorem nf_243 : ∀ (r : Nat) (W : jW), (d_X12_next_r125d_243 r W).1 125 9 = W.1 125 9
  | 0, _ => rfl
  | r + 1, W => by
    rw [tn_s]
    by_cases c1 : W.1 125 11 = 2
    · rw [if_pos c1]
      by_cases c2 : W.1 125 8 ≤ W.1 125 10
      · rw [if_pos c2]
      rw [if_neg c2]
      by_cases c3 : W.1 131 (W.1 125 10).toNat < 48
      · rw [if_pos c3]
      rw [if_neg c3]
      by_cases c4 : 57 < W.1 131 (W.1 125 10).toNat
      · rw [if_pos c4]
      rw [if_neg c4]
      by_cases c5 : W.2.1 125 12 ≤ 1000000
      · rw [if_pos c5, nf_243 r]
        exact vu_n (by omega)
      · rw [if_neg c5, nf_243 r]
        exact vu_n (by omega)
    · rw [if_neg c1]
theorem nf_149 : ∀ (r : Nat) (W : jW), (d_X12_next_r125d_149 r W).1 125 9 = W.1 125 9
  | 0, _ => rfl
  | r + 1, W => by
    rw [tm_s]
    by_cases c1 : W.1 125 11 = 1
    · rw [if_pos c1]
      by_cases c2 : W.1 125 8 ≤ W.1 125 10
      · rw [if_pos c2]; exact nf_243 _ _
      rw [if_neg c2]
      by_cases c3 : W.1 131 (W.1 125 10).toNat < 97
      · rw [if_pos c3]; exact nf_243 _ _
      rw [if_neg c3]
      by_cases c4 : 122 < W.1 131 (W.1 125 10).toNat
      · rw [if_pos c4]; exact nf_243 _ _
      rw [if_neg c4]
      by_cases c5 : 12 ≤ W.1 125 10 - W.1 125 9
      · rw [if_pos c5, nf_149 r]
        exact vu_n (by omega)
      · rw [if_neg c5, nf_149 r]
        exact vu_n (by omega)
    · rw [if_neg c1]; exact nf_243 _ _
theorem nf_46 (W : jW) : (d_X12_next_r125d_46 W).1 125 9 = W.1 125 9 := by
  have a (s : Int) : (d_X12_next_r125d_149 401 (vu (vuL (vu W 125 10 (W.1 125 9)) 125 12 0) 125 11 s)).1 125 9 = W.1 125 9 := by
    rw [nf_149, vu_n (by omega)]
    exact (show (vu W 125 10 (W.1 125 9)).1 125 9 = W.1 125 9 from vu_n (by omega))
  have b : (d_X12_next_r125d_500114 (vuL (vu W 125 10 (W.1 125 9)) 125 12 0)).1 125 9 = W.1 125 9 := by
    unfold d_X12_next_r125d_500114
    rw [nf_149, vu_n (by omega)]
    show (vu (vuL (vu W 125 10 (W.1 125 9)) 125 12 0) 125 11 3).1 125 9 = _
    rw [vu_n (by omega)]
    exact (show (vu W 125 10 (W.1 125 9)).1 125 9 = W.1 125 9 from vu_n (by omega))
  unfold d_X12_next_r125d_46
  by_cases c1 : W.1 125 9 = W.1 125 8
  · rw [if_pos c1]; exact a 0
  rw [if_neg c1]
  by_cases c2 : W.1 131 (W.1 125 9).toNat < 97
  · rw [if_pos c2]
    by_cases c3 : W.1 131 (W.1 125 9).toNat < 48
    · rw [if_pos c3]; exact b
    rw [if_neg c3]
    by_cases c4 : 57 < W.1 131 (W.1 125 9).toNat
    · rw [if_pos c4]; exact b
    · rw [if_neg c4]; exact a 2
  rw [if_neg c2]
  by_cases c5 : 122 < W.1 131 (W.1 125 9).toNat
  · rw [if_pos c5]; exact b
  · rw [if_neg c5]; exact a 1
theorem nf_8 : ∀ (r : Nat) (W : jW), W.1 125 9 ≤ (d_X12_next_r125d_8 r W).1 125 9
  | 0, _ => Int.le_refl _
  | r + 1, W => by
    rw [ty_s]
    by_cases c1 : W.1 125 8 ≤ W.1 125 9
    · rw [if_pos c1, nf_46]; exact Int.le_refl _
    rw [if_neg c1]
    by_cases c2 : W.1 131 (W.1 125 9).toNat = 32
    · rw [if_pos c2]
      have e := nf_8 r (vu W 125 9 (W.1 125 9 + 1))
      have z : (vu W 125 9 (W.1 125 9 + 1)).1 125 9 = W.1 125 9 + 1 := vu_e rfl
      omega
    · rw [if_neg c2, nf_46]; exact Int.le_refl _
theorem nx_9 (M : jW) : M.1 125 10 ≤ (d_X12_next_r125d M).1 125 9 := by
  have e := nf_8 401 (vu M 125 9 (M.1 125 10))
  have z : (vu M 125 9 (M.1 125 10)).1 125 9 = M.1 125 10 := vu_e rfl
  rw [z] at e
  exact e
/-- tokens alike, words known, pile l and code c of the reference, parts alike, room -/
def pA (X M : jW) (l : yL) (c : yC) : Prop := pTk X M ∧ pY M l c ∧ M.1 125 14 = 0 ∧ X.1 95 5 = M.1 125 52 ∧ (0 ≤ M.1 125 52 ∧ M.1 125 52 ≤ 60) ∧ (0 ≤ c.1 ∧ c.1 + l.length ≤ M.1 125 9) ∧ pWs X ∧ 0 ≤ X.1 95 4
theorem pA_9 {X M : jW} {l : yL} {c : yC} (h : pA X M l c) : 0 ≤ M.1 125 9 ∧ M.1 125 9 ≤ 400 ∧ (l.length : Int) ≤ 400 ∧ (M.1 125 11 ≠ 0 → M.1 125 9 < M.1 125 10) := by
  obtain ⟨⟨t1, _, _, _, t5, t6⟩, _, _, _, _, h6, _⟩ := h
  have := t1.2.1
  refine ⟨by omega, by omega, by omega, fun n => ?_⟩
  rcases t6 with a | a | a | a
  · exact absurd a.1 n
  · omega
  · exact a.2.1
  · exact a.2.1
/-- what a view of the class holds that reading a sign leaves as it is -/
def pXr (X Y : jW) : Prop := (∀ c : Nat, 18 ≤ c → c ≤ 30 → Y.1 c = X.1 c)
theorem pWs_c {X Y : jW} (h : pWs X) (e : pXr X Y) : pWs Y := by
  unfold pWs wSt at h ⊢
  rw [e 18 (by omega) (by omega), e 19 (by omega) (by omega), e 20 (by omega) (by omega), e 21 (by omega) (by omega), e 22 (by omega) (by omega), e 23 (by omega) (by omega), e 24 (by omega) (by omega), e 25 (by omega) (by omega), e 26 (by omega) (by omega), e 27 (by omega) (by omega), e 28 (by omega) (by omega), e 29 (by omega) (by omega), e 30 (by omega) (by omega)]
  exact h
theorem pXr_f {X Y : jW} {f : List (Nat × Nat)} (F : pF f X Y) (h : (f.all fun q => Nat.ble 31 q.1) = true) : pXr X Y := by
  intro c h1 h2
  refine pF_c F ?_
  cases e : (f.any fun q => Nat.beq q.1 c) with
  | false => rfl
  | true =>
    exfalso
    rw [List.any_eq_true] at e
    obtain ⟨q, q1, q2⟩ := e
    rw [List.all_eq_true] at h
    have a := Nat.le_of_ble_eq_true (h q q1)
    have b := Nat.eq_of_beq_eq_true q2
    omega
/-- the next TOKEN on both sides -/
theorem pA_n {X M : jW} {l : yL} {c : yC} (h : pA X M l c) : pA (d_X9_step_r68d X) (d_X12_next_r125d M) l c ∧ M.1 125 10 ≤ (d_X12_next_r125d M).1 125 9 ∧ (d_X9_step_r68d X).1 97 = X.1 97 ∧ (d_X9_step_r68d X).1 95 = X.1 95 ∧ (d_X12_next_r125d M).1 125 56 = M.1 125 56 ∧ (d_X12_next_r125d M).1 125 52 = M.1 125 52 ∧ (d_X12_next_r125d M).1 125 14 = M.1 125 14 := by
  obtain ⟨⟨t1, t2, t3, t4, t5, t6⟩, h2, h3, h4, h5, h6, h7, h8⟩ := h
  have F := fr_d_X12_next_r125d M
  have G := fr_d_X9_step_r68d X
  have n := nx_9 M
  have e97 : (d_X9_step_r68d X).1 97 = X.1 97 := pF_c G rfl
  have e95 : (d_X9_step_r68d X).1 95 = X.1 95 := pF_c G rfl
  have f52 := F.1 125 52 rfl
  have f14 := F.1 125 14 rfl
  refine ⟨⟨tk_n t1 t3 (by omega) (by omega), py_c h2 (F.1 125 55 rfl) (F.1 125 49 rfl) (pF_c F rfl) (pF_c F rfl) (pF_c F rfl) (pF_c F rfl), f14.trans h3, by rw [e95, f52]; exact h4, by rw [f52]; exact h5, by omega, pWs_c h7 (pXr_f G rfl), by rw [e95]; exact h8⟩, n, e97, e95, F.1 125 56 rfl, f52, f14⟩
/-- the reference's pile and code change, its tokens stay -/
def pMt (M N : jW) : Prop := N.1 125 8 = M.1 125 8 ∧ N.1 125 9 = M.1 125 9 ∧ N.1 125 10 = M.1 125 10 ∧ N.1 125 11 = M.1 125 11 ∧ N.2.1 125 12 = M.2.1 125 12 ∧ N.1 131 = M.1 131
theorem pTk_m {X M N : jW} (h : pTk X M) (e : pMt M N) : pTk X N := by
  obtain ⟨e1, e2, e3, e4, e5, e6⟩ := e
  unfold pTk pTp at h ⊢
  rw [e1, e2, e3, e4, e5, e6]
  exact h
theorem pMt_f {M N : jW} {f : List (Nat × Nat)} (F : pF f M N) (h : (pc f 125 8 || pc f 125 9 || pc f 125 10 || pc f 125 11 || pc f 125 12 || (f.any fun q => Nat.beq q.1 131)) = false) : pMt M N := by
  rw [Bool.or_eq_false_iff, Bool.or_eq_false_iff, Bool.or_eq_false_iff, Bool.or_eq_false_iff, Bool.or_eq_false_iff] at h
  exact ⟨F.1 _ _ h.1.1.1.1.1, F.1 _ _ h.1.1.1.1.2, F.1 _ _ h.1.1.1.2, F.1 _ _ h.1.1.2, F.2.1 _ _ h.1.2, pF_c F h.2⟩
theorem pMt_u {M : jW} {k : Nat} {x : Int} (h : k < 8 ∨ 13 ≤ k) : pMt M (vu M 125 k x) := ⟨vu_n (by omega), vu_n (by omega), vu_n (by omega), vu_n (by omega), rfl, vu_c (by decide)⟩
theorem pMt_v {M : jW} {a k : Nat} {x : Int} (h : a ≠ 125 ∧ a ≠ 131) : pMt M (vu M a k x) := ⟨vu_n (by omega), vu_n (by omega), vu_n (by omega), vu_n (by omega), rfl, vu_c (by omega)⟩
theorem pMt_t {M N P : jW} (h : pMt M N) (g : pMt N P) : pMt M P := ⟨g.1.trans h.1, g.2.1.trans h.2.1, g.2.2.1.trans h.2.2.1, g.2.2.2.1.trans h.2.2.2.1, g.2.2.2.2.1.trans h.2.2.2.2.1, g.2.2.2.2.2.trans h.2.2.2.2.2⟩
theorem pMt_pu {M : jW} {o a : Int} : pMt M (mPu M o a) := pMt_t (pMt_t (pMt_v (by omega)) (pMt_v (by omega))) (pMt_u (by omega))
theorem pMt_et {M : jW} {o a : Int} : pMt M (mEt M o a) := pMt_t (pMt_t (pMt_v (by omega)) (pMt_v (by omega))) (pMt_u (by omega))
theorem pMt_se {M : jW} {k : Int} : pMt M (d_X12_settle_r125d k M) := pMt_f (fr_d_X12_settle_r125d k M) rfl
/-- its fields that say something of reading: bad, parts, open brackets -/
def pMo (M N : jW) : Prop := N.1 125 14 = M.1 125 14 ∧ N.1 125 52 = M.1 125 52 ∧ N.1 125 56 = M.1 125 56 ∧ N.1 125 13 = M.1 125 13
theorem pMo_t {M N P : jW} (h : pMo M N) (g : pMo N P) : pMo M P := ⟨g.1.trans h.1, g.2.1.trans h.2.1, g.2.2.1.trans h.2.2.1, g.2.2.2.trans h.2.2.2⟩
theorem pMo_u {M : jW} {k : Nat} {x : Int} (h : k ≠ 14 ∧ k ≠ 52 ∧ k ≠ 56 ∧ k ≠ 13) : pMo M (vu M 125 k x) := ⟨vu_n (by omega), vu_n (by omega), vu_n (by omega), vu_n (by omega)⟩
theorem pMo_v {M : jW} {a k : Nat} {x : Int} (h : a ≠ 125) : pMo M (vu M a k x) := ⟨vu_n (by omega), vu_n (by omega), vu_n (by omega), vu_n (by omega)⟩
theorem pMo_pu {M : jW} {o a : Int} : pMo M (mPu M o a) := pMo_t (pMo_t (pMo_v (by omega)) (pMo_v (by omega))) (pMo_u (by omega))
theorem pMo_et {M : jW} {o a : Int} : pMo M (mEt M o a) := pMo_t (pMo_t (pMo_v (by omega)) (pMo_v (by omega))) (pMo_u (by omega))
theorem pMo_se {M : jW} {k : Int} : pMo M (d_X12_settle_r125d k M) := by
  have F := fr_d_X12_settle_r125d k M
  exact ⟨F.1 _ _ rfl, F.1 _ _ rfl, F.1 _ _ rfl, F.1 _ _ rfl⟩
theorem pMo_nx {M : jW} : pMo M (d_X12_next_r125d M) := by
  have F := fr_d_X12_next_r125d M
  exact ⟨F.1 _ _ rfl, F.1 _ _ rfl, F.1 _ _ rfl, F.1 _ _ rfl⟩
theorem pA_m {X M N : jW} {l l2 : yL} {c c2 : yC} (h : pA X M l c) (t : pMt M N) (o : pMo M N) (y : pY N l2 c2) (b : 0 ≤ c2.1 ∧ c2.1 + l2.length ≤ M.1 125 9) : pA X N l2 c2 := by
  obtain ⟨h1, h2, h3, h4, h5, h6, h7, h8⟩ := h
  exact ⟨pTk_m h1 t, y, o.1.trans h3, h4.trans o.2.1.symm, by rw [o.2.1]; exact h5, by rw [t.2.1]; exact b, h7, h8⟩
/-- emission by the class -/
theorem em_e {X : jW} {o : Int} (h : 0 ≤ X.1 95 4 ∧ X.1 95 4 < 1200) : (d_X2_emit_r95d o X).1 95 4 = X.1 95 4 + 1 ∧ (∀ i : Nat, (i : Int) < X.1 95 4 → (d_X2_emit_r95d o X).1 97 i = X.1 97 i) ∧ (d_X2_emit_r95d o X).1 97 (X.1 95 4).toNat = o ∧ (d_X2_emit_r95d o X).1 95 5 = X.1 95 5 ∧ (d_X2_emit_r95d o X).1 68 = X.1 68 ∧ (d_X2_emit_r95d o X).1 69 = X.1 69 ∧ pXr X (d_X2_emit_r95d o X) := by
  have F := fr_d_X2_emit_r95d o X
  have e : d_X2_emit_r95d o X = vu (vu X 97 (X.1 95 4).toNat o) 95 4 (X.1 95 4 + 1) := by
    unfold d_X2_emit_r95d
    rw [if_neg (by omega)]
    rfl
  refine ⟨by rw [e]; exact vu_e rfl, fun i hi => ?_, ?_, F.1 95 5 rfl, pF_c F rfl, pF_c F rfl, pXr_f F rfl⟩
  · rw [e, vu_n (by omega)]
    exact vu_n (by omega)
  · rw [e, vu_n (by omega)]
    exact vu_e rfl
theorem pTk_x {X Y M : jW} (h : pTk X M) (e1 : Y.1 68 = X.1 68) (e2 : Y.1 69 = X.1 69) : pTk Y M := by
  unfold pTk pTp at h ⊢
  rw [e1, e2]
  exact h
theorem pA_em {X M : jW} {l : yL} {c : yC} {o : Int} (h : pA X M l c) (b : X.1 95 4 < 1200) : pA (d_X2_emit_r95d o X) M l c := by
  obtain ⟨h1, h2, h3, h4, h5, h6, h7, h8⟩ := h
  obtain ⟨e1, e2, e3, e4, e5, e6, e7⟩ := em_e (o := o) ⟨h8, b⟩
  exact ⟨pTk_x h1 e5 e6, h2, h3, e4.trans h4, h5, h6, pWs_c h7 e7, by omega⟩
/-- pieces hang on their own places alone -/
theorem xPc_c {q : Int → Int} {cd ce : Nat → Int} {a b m : Int} {v : Option Int} (h : xPc q cd a b m v) (e : ∀ i : Nat, a ≤ i → i < b → ce i = cd i) : xPc q ce a b m v :=
  ⟨h.1, h.2.1, h.2.2.1, fun cf L hf => h.2.2.2 cf L (fun i h1 h2 => (hf i h1 h2).trans (e i h1 h2))⟩
theorem mPc_c {q : Int → Int} {op ar op2 ar2 : Int → Int} {k l : Int} {v : Option Int} (h : mPc q op ar k l v) (e : ∀ i : Int, k ≤ i → i < l → op2 i = op i ∧ ar2 i = ar i) : mPc q op2 ar2 k l v :=
  ⟨h.1, h.2.1, fun r t last v0 hf => h.2.2 r t last v0 (fun i h1 h2 => ⟨(hf i h1 h2).1.trans (e i h1 h2).1, (hf i h1 h2).2.trans (e i h1 h2).2⟩)⟩
theorem pPc_c {cd ce : Nat → Int} {op ar op2 ar2 : Int → Int} {a b m k l : Int} {ts : Prop} (h : pPc cd op ar a b m k l ts) (e : ∀ i : Nat, a ≤ i → i < b → ce i = cd i) (g : ∀ i : Int, k ≤ i → i < l → op2 i = op i ∧ ar2 i = ar i) : pPc ce op2 ar2 a b m k l ts := fun q hq => by
  obtain ⟨v, x, y, z⟩ := h q hq
  exact ⟨v, xPc_c x e, mPc_c y g, z⟩
theorem pPc_l {cd : Nat → Int} {op ar : Int → Int} {a b m k l : Int} {ts : Prop} (h : pPc cd op ar a b m k l ts) : 0 ≤ a ∧ a < b ∧ 1 ≤ m ∧ 0 ≤ k ∧ k < l := by
  obtain ⟨v, x, y, z⟩ := h (fun _ => 0) (fun w _ _ => ⟨⟨show (-1000000000000 : Int) ≤ 0 from by decide, show (0 : Int) ≤ 1000000000000 from by decide⟩, fun _ => Or.inl rfl⟩)
  exact ⟨x.1, x.2.1, x.2.2.1, y.1, y.2.1⟩
/-- a piece of the class's code cd and of the reference's code c -/
def yPc (cd : Nat → Int) (c : yC) (a b m k l : Int) (ts : Prop) : Prop := pPc cd (fun i => c.2.1 i.toNat) (fun i => c.2.2 i.toNat) a b m k l ts
/-- c2 holds what c held up to k -/
def yUp (k : Int) (c c2 : yC) : Prop := ∀ i : Nat, (i : Int) < k → c2.2.1 i = c.2.1 i ∧ c2.2.2 i = c.2.2 i
theorem yPc_c {cd ce : Nat → Int} {c c2 : yC} {a b m k l n : Int} {ts : Prop} (h : yPc cd c a b m k l ts) (e : ∀ i : Nat, (i : Int) < b → ce i = cd i) (g : yUp n c c2) (hn : l ≤ n) : yPc ce c2 a b m k l ts := by
  have z := pPc_l h
  exact pPc_c h (fun i _ h2 => e i h2) (fun i h1 h2 => g i.toNat (by omega))
end jG53

section jG54
/-! pure: SUMS read by both: the class's loops by one function, and what one factor gives -/
def xEm (o : Int) (X : jW) : jW := if o = -1 then X else d_X2_emit_r95d o X
def yEm (o : Int) (c : yC) : yC := if o = -1 then c else yE (o + 3) 0 c
def yPn (o : Int) (l : yL) : yL := if o = -1 then l else (o + 3, 0) :: l
def g115 (K4 : Int → Int → jW → Int × jW) (l3 : Int) (W : jW) : Int × jW := if d_X9_isSign_r68d 43 W = 0 then (if d_X9_isSign_r68d 45 W = 0 then (1, W) else K4 4 (l3 + 1) (d_X9_step_r68d W)) else K4 3 (l3 + 1) (d_X9_step_r68d W)
def g105 (K4 : Int → Int → jW → Int × jW) (l2 l3 : Int) (W : jW) : Int × jW := g115 K4 l3 (xEm l2 W)
def g47 (K4 : Int → Int → jW → Int × jW) (K17 : Int → Int → Int → Int → jW → Int × jW) (l2 l3 l5 : Int) (W : jW) : Int × jW := if d_X9_isSign_r68d 42 W = 0 then (if d_X9_isSign_r68d 47 W = 0 then g105 K4 l2 l3 W else K17 l2 l3 6 (l5 + 1) (d_X9_step_r68d W)) else K17 l2 l3 5 (l5 + 1) (d_X9_step_r68d W)
def gS17 (F : jW → Int × jW) (K4 : Int → Int → jW → Int × jW) : Nat → Int → Int → Int → Int → jW → Int × jW
  | 0, _, _, _, _, W => (0, W)
  | r + 1, l2, l3, l4, l5, W => if 400 ≤ l5 then g105 K4 l2 l3 W else if (F W).1 = 0 then (0, (F W).2) else g47 K4 (fun l2 l3 l4 l5 W => gS17 F K4 r l2 l3 l4 l5 W) l2 l3 l5 (xEm l4 (F W).2)
def gS4 (F : jW → Int × jW) : Nat → Int → Int → jW → Int × jW
  | 0, _, _, W => (0, W)
  | r + 1, l2, l3, W => if 400 ≤ l3 then (0, vu W 68 2 (W.1 68 3)) else gS17 F (fun l2 l3 W => gS4 F r l2 l3 W) 401 l2 l3 (-1) 0 W
def gSm (F : jW → Int × jW) (W : jW) : Int × jW := gS4 F 401 (-1) 0 W
/-- both have failed at the same place -/
def pBd (X W : jW) : Prop := W.1 125 14 = 1 ∧ W.1 125 13 = X.1 68 2
def pGo (X Y : jW) (c e : yC) (ts : Prop) : Prop := (∀ i : Nat, (i : Int) < X.1 95 4 → Y.1 97 i = X.1 97 i) ∧ yUp c.1 c e ∧ yPc (Y.1 97) e (X.1 95 4) (Y.1 95 4) (Y.1 95 5 - X.1 95 5) c.1 e.1 ts
def pFa (F : jW → Int × jW) (d : Int) : Prop := ∀ (X M : jW) (l : yL) (c : yC) (r : Nat) (t : Int), pA X M l c → M.1 125 56 = d → X.1 95 4 + l.length ≤ 2 * M.1 125 9 → 812 ≤ (r : Int) + 2 * M.1 125 9 → ((F X).1 = 0 ∧ pBd (F X).2 (d_X12_readExpression_r125d_20 r t 1 M)) ∨ ((F X).1 = 1 ∧ ∃ (N : jW) (s : Nat) (e : yC), d_X12_readExpression_r125d_20 r t 1 M = d_X12_readExpression_r125d_20 s t 3 N ∧ (r : Int) + 2 * M.1 125 9 ≤ (s : Int) + 2 * N.1 125 9 ∧ pA (F X).2 N l e ∧ N.1 125 56 = d ∧ M.1 125 9 < N.1 125 9 ∧ (F X).2.1 95 4 + l.length ≤ 2 * N.1 125 9 ∧ pGo X (F X).2 c e False)
def yst (l : yL) : Prop := ∀ (k : Int) (c : yC), 5 ≤ k → yse k l c = (l, c)
def nOs (N : jW) : Prop := N.1 125 11 = 3 → N.2.1 125 12 ≠ 43 ∧ N.2.1 125 12 ≠ 45 ∧ N.2.1 125 12 ≠ 42 ∧ N.2.1 125 12 ≠ 47
/-- how a SUM ends -/
def pSo (t d : Int) (l : yL) (cd : Nat → Int) (a lf : Int) (c : yC) (f B : Int) (xr : Int × jW) (W : jW) : Prop := (xr.1 = 0 ∧ pBd xr.2 W) ∨ (xr.1 = 1 ∧ ∃ (N : jW) (s : Nat) (k : yL) (e g : yC), W = d_X12_readExpression_r125d_20 s t 3 N ∧ B ≤ (s : Int) + 2 * N.1 125 9 ∧ pA xr.2 N k e ∧ N.1 125 56 = d ∧ f < N.1 125 9 ∧ yse 5 k e = (l, g) ∧ xr.2.1 95 4 + l.length ≤ 2 * N.1 125 9 ∧ (∀ i : Nat, (i : Int) < a → xr.2.1 97 i = cd i) ∧ yUp c.1 c g ∧ yPc (xr.2.1 97) g a (xr.2.1 95 4) (xr.2.1 95 5 - lf) c.1 g.1 False ∧ yIn k = yIn l ∧ yCo k = yCo l ∧ nOs N)
def pSm (S : jW → Int × jW) (d : Int) : Prop := ∀ (X M : jW) (l : yL) (c : yC) (r : Nat) (t : Int), pA X M l c → M.1 125 56 = d → X.1 95 4 + l.length ≤ 2 * M.1 125 9 → 812 ≤ (r : Int) + 2 * M.1 125 9 → yst l → pSo t d l (X.1 97) (X.1 95 4) (X.1 95 5) c (M.1 125 9) ((r : Int) + 2 * M.1 125 9) (S X) (d_X12_readExpression_r125d_20 r t 1 M)
/-- a sign that waits, with what stands ahead of it -/
def pPd (cd : Nat → Int) (c : yC) (o a b m k l : Int) : Prop := (o = -1 ∧ a = b ∧ k = l ∧ m = 0) ∨ (3 ≤ o ∧ o ≤ 6 ∧ yPc cd c a b m k l False)
theorem yUp_t {k n : Int} {c d e : yC} (h : yUp k c d) (g : yUp n d e) (hk : k ≤ n) : yUp k c e := fun i hi => ⟨(g i (by omega)).1.trans (h i hi).1, (g i (by omega)).2.trans (h i hi).2⟩
theorem yUp_r {k : Int} {c : yC} : yUp k c c := fun _ _ => ⟨rfl, rfl⟩
theorem pd_c {cd ce : Nat → Int} {c e : yC} {o a b m k l n : Int} (h : pPd cd c o a b m k l) (x : ∀ i : Nat, (i : Int) < b → ce i = cd i) (g : yUp n c e) (hn : l ≤ n) : pPd ce e o a b m k l := by
  rcases h with h | ⟨h1, h2, h3⟩
  · exact Or.inl h
  · exact Or.inr ⟨h1, h2, yPc_c h3 x g hn⟩
theorem pd_l {cd : Nat → Int} {c : yC} {o a b m k l : Int} (h : pPd cd c o a b m k l) : a ≤ b ∧ 0 ≤ m ∧ k ≤ l := by
  rcases h with ⟨h1, h2, h3, h4⟩ | ⟨h1, h2, h3⟩
  · omega
  · have := pPc_l h3
    omega
def o01 (o : Int) : Int := if o = -1 then 0 else 1
theorem o01_n {o : Int} (h : o ≠ -1) : o01 o = 1 := if_neg h
theorem yE_u {o a : Int} {c : yC} (h : 0 ≤ c.1) : yUp c.1 c (yE o a c) := fun i hi => ⟨sU_n (by omega), sU_n (by omega)⟩
theorem pd_j {X : jW} {c : yC} {o a b m n k l : Int} (P : pPd (X.1 97) c o a b m k l) (R : yPc (X.1 97) c b (X.1 95 4) n l c.1 False) (h : 0 ≤ X.1 95 4 ∧ X.1 95 4 < 1200) (hc : 0 ≤ c.1) : yPc ((xEm o X).1 97) (yEm o c) a ((xEm o X).1 95 4) (m + n) k (yEm o c).1 False ∧ (∀ i : Nat, (i : Int) < X.1 95 4 → (xEm o X).1 97 i = X.1 97 i) ∧ yUp c.1 c (yEm o c) ∧ (xEm o X).1 95 5 = X.1 95 5 ∧ (xEm o X).1 95 4 = X.1 95 4 + o01 o ∧ (yEm o c).1 = c.1 + o01 o ∧ ∀ (M : jW) (l : yL) (e : yC), pA X M l e → pA (xEm o X) M l e := by
  by_cases c1 : o = -1
  · have x : xEm o X = X := if_pos c1
    have y : yEm o c = c := if_pos c1
    have z : o01 o = 0 := if_pos c1
    rw [x, y, z]
    rcases P with ⟨p1, p2, p3, p4⟩ | ⟨p1, p2, p3⟩
    · rw [p2, p3, p4, Int.zero_add]
      exact ⟨R, fun _ _ => rfl, yUp_r, rfl, by omega, by omega, fun _ _ _ q => q⟩
    · omega
  · have x : xEm o X = d_X2_emit_r95d o X := if_neg c1
    have y : yEm o c = yE (o + 3) 0 c := if_neg c1
    have z : o01 o = 1 := if_neg c1
    rw [x, y, z]
    rcases P with ⟨p1, p2, p3, p4⟩ | ⟨p1, p2, p3⟩
    · exact absurd p1 c1
    · obtain ⟨e1, e2, e3, e4, e5, e6, e7⟩ := em_e (o := o) h
      have u : yUp c.1 c (yE (o + 3) 0 c) := yE_u hc
      have q1 := pPc_l R
      have A := yPc_c p3 (fun i hi => e2 i (by omega)) u (by omega)
      have B := yPc_c R (fun i hi => e2 i hi) u (Int.le_refl _)
      have ho : (yE (o + 3) 0 c).2.1 c.1.toNat = o + 3 := sU_e rfl
      have J := pP_b A B (show 6 ≤ (yE (o + 3) 0 c).2.1 c.1.toNat ∧ (yE (o + 3) 0 c).2.1 c.1.toNat ≤ 12 from by rw [ho]; omega) (show _ = (yE (o + 3) 0 c).2.1 c.1.toNat - 3 from by rw [ho, e3]; omega)
      refine ⟨?_, fun i hi => e2 i hi, u, e4, e1, rfl, fun M l e q => pA_em q h.2⟩
      rw [e1]
      exact pP_w (fun f => f.elim) J
theorem pn_l {o : Int} {l : yL} : ((yPn o l).length : Int) = l.length + o01 o := by
  unfold yPn o01
  by_cases c : o = -1
  · rw [if_pos c, if_pos c]; omega
  · rw [if_neg c, if_neg c]
    show ((l.length + 1 : Nat) : Int) = _
    omega
theorem ys_6 {l : yL} (h : yst l) {l2 l4 : Int} (h2 : l2 = -1 ∨ l2 = 3 ∨ l2 = 4) (h4 : l4 = -1 ∨ l4 = 5 ∨ l4 = 6) (c : yC) : yse 6 (yPn l4 (yPn l2 l)) c = (yPn l2 l, yEm l4 c) := by
  have A : ∀ e : yC, yse 6 (yPn l2 l) e = (yPn l2 l, e) := by
    intro e
    rcases h2 with q | q | q
    · rw [q]; exact h 6 e (by decide)
    · rw [q]; exact if_neg (by decide)
    · rw [q]; exact if_neg (by decide)
  rcases h4 with q | q | q
  · rw [q]; exact A c
  · rw [q]; exact (if_pos (by decide)).trans ((if_neg (by decide)).trans (A _))
  · rw [q]; exact (if_pos (by decide)).trans ((if_neg (by decide)).trans (A _))
theorem ys_5 {l : yL} (h : yst l) {l2 l4 : Int} (h2 : l2 = -1 ∨ l2 = 3 ∨ l2 = 4) (h4 : l4 = -1 ∨ l4 = 5 ∨ l4 = 6) (c : yC) : yse 5 (yPn l4 (yPn l2 l)) c = (l, yEm l2 (yEm l4 c)) := by
  have A : ∀ e : yC, yse 5 (yPn l2 l) e = (l, yEm l2 e) := by
    intro e
    rcases h2 with q | q | q
    · rw [q]; exact h 5 e (by decide)
    · rw [q]; exact (if_pos (by decide)).trans ((if_neg (by decide)).trans (h 5 _ (by decide)))
    · rw [q]; exact (if_pos (by decide)).trans ((if_neg (by decide)).trans (h 5 _ (by decide)))
  rcases h4 with q | q | q
  · rw [q]; exact A c
  · rw [q]; exact (if_pos (by decide)).trans ((if_neg (by decide)).trans (A _))
  · rw [q]; exact (if_pos (by decide)).trans ((if_neg (by decide)).trans (A _))
theorem yi_n {l : yL} {o : Int} (h : o = -1 ∨ 3 ≤ o ∧ o ≤ 6) : yIn (yPn o l) = yIn l ∧ yCo (yPn o l) = yCo l := by
  unfold yPn
  by_cases c : o = -1
  · rw [if_pos c]; exact ⟨rfl, rfl⟩
  · rw [if_neg c]
    exact ⟨if_neg (by show ¬ 30 ≤ o + 3; omega), if_pos (by show 6 ≤ o + 3 ∧ o + 3 ≤ 9; omega)⟩
/-- pile and code change, then the next TOKEN -/
theorem pA_mn {X M N : jW} {l l2 : yL} {c c2 : yC} (h : pA X M l c) (t : pMt M N) (o : pMo M N) (y : pY N l2 c2) (b : 0 ≤ c2.1 ∧ c2.1 + l2.length ≤ M.1 125 10) : pA (d_X9_step_r68d X) (d_X12_next_r125d N) l2 c2 ∧ M.1 125 10 ≤ (d_X12_next_r125d N).1 125 9 ∧ (d_X9_step_r68d X).1 97 = X.1 97 ∧ (d_X9_step_r68d X).1 95 = X.1 95 ∧ (d_X12_next_r125d N).1 125 56 = M.1 125 56 := by
  obtain ⟨h1, h2, h3, h4, h5, h6, h7, h8⟩ := h
  obtain ⟨t1, t2, t3, t4, t5, t6⟩ := pTk_m h1 t
  have F := fr_d_X12_next_r125d N
  have G := fr_d_X9_step_r68d X
  have n := nx_9 N
  rw [t.2.2.1] at n
  have e97 : (d_X9_step_r68d X).1 97 = X.1 97 := pF_c G rfl
  have e95 : (d_X9_step_r68d X).1 95 = X.1 95 := pF_c G rfl
  have f52 := (F.1 125 52 rfl).trans o.2.1
  have f14 := (F.1 125 14 rfl).trans o.1
  refine ⟨⟨tk_n t1 t3 (by omega) (by omega), py_c y (F.1 125 55 rfl) (F.1 125 49 rfl) (pF_c F rfl) (pF_c F rfl) (pF_c F rfl) (pF_c F rfl), f14.trans h3, by rw [e95, f52]; exact h4, by rw [f52]; exact h5, by omega, pWs_c h7 (pXr_f G rfl), by rw [e95]; exact h8⟩, n, e97, e95, (F.1 125 56 rfl).trans o.2.2.1⟩
theorem pA_op {X M : jW} {l l2 : yL} {c c2 : yC} {k o : Int} (h : pA X M l c) (hk : 1 ≤ k ∧ k ≤ 6) (ht : M.1 125 11 ≠ 0) (e : yse k l c = (l2, c2)) (hc : 0 ≤ c2.1) : pA (d_X9_step_r68d X) (d_X12_next_r125d (mPu (d_X12_settle_r125d k M) o 0)) ((o, 0) :: l2) c2 ∧ M.1 125 9 < (d_X12_next_r125d (mPu (d_X12_settle_r125d k M) o 0)).1 125 9 ∧ (d_X9_step_r68d X).1 97 = X.1 97 ∧ (d_X9_step_r68d X).1 95 = X.1 95 ∧ (d_X12_next_r125d (mPu (d_X12_settle_r125d k M) o 0)).1 125 56 = M.1 125 56 := by
  have p9 := pA_9 h
  have q := p9.2.2.2 ht
  have s := se_y hk p9.2.2.1 h.2.1
  have b := yse_l (k := k) l c
  rw [e] at s b
  have b2 := h.2.2.2.2.2.1
  have z : ((o, (0 : Int)) :: l2).length = l2.length + 1 := rfl
  have b1 : c2.1 + (l2.length : Int) ≤ c.1 + l.length := b.2
  have s2 : pY (d_X12_settle_r125d k M) l2 c2 := s
  obtain ⟨a1, a2, a3⟩ := pA_mn h (pMt_t pMt_se (pMt_pu (o := o) (a := 0))) (pMo_t pMo_se (pMo_pu (o := o) (a := 0))) (pu_y s2) ⟨hc, by rw [z]; omega⟩
  exact ⟨a1, by omega, a3⟩
/-- the reference's turns -/
theorem yx_s {r : Nat} {t : Int} {M : jW} (h : M.1 125 14 = 0) : d_X12_readExpression_r125d_20 (r + 1) t 3 M = d_X12_readExpression_r125d_20 r t (d_X12_behindSum_r125d t M).1 (d_X12_behindSum_r125d t M).2 ∧ d_X12_readExpression_r125d_20 (r + 1) t 1 M = d_X12_readExpression_r125d_20 r t (d_X12_readSum_r125d M).1 (d_X12_readSum_r125d M).2 ∧ d_X12_readExpression_r125d_20 (r + 1) t 0 M = d_X12_readExpression_r125d_20 r t (d_X12_readPlain_r125d M).1 (d_X12_readPlain_r125d M).2 ∧ d_X12_readExpression_r125d_20 (r + 1) t 2 M = d_X12_readExpression_r125d_20 r t (d_X12_behindTest_r125d M).1 (d_X12_behindTest_r125d M).2 ∧ d_X12_readExpression_r125d_20 (r + 1) t 4 M = d_X12_settle_r125d 1 M :=
  ⟨if_pos h, if_pos h, if_pos h, if_pos h, if_pos h⟩
theorem bs_o {t : Int} {M : jW} (h : M.1 125 11 = 3) : (M.2.1 125 12 = 43 → d_X12_behindSum_r125d t M = (1, d_X12_next_r125d (mPu (d_X12_settle_r125d 5 M) 6 0))) ∧ (M.2.1 125 12 = 45 → d_X12_behindSum_r125d t M = (1, d_X12_next_r125d (mPu (d_X12_settle_r125d 5 M) 7 0))) ∧ (M.2.1 125 12 = 42 → d_X12_behindSum_r125d t M = (1, d_X12_next_r125d (mPu (d_X12_settle_r125d 6 M) 8 0))) ∧ (M.2.1 125 12 = 47 → d_X12_behindSum_r125d t M = (1, d_X12_next_r125d (mPu (d_X12_settle_r125d 6 M) 9 0))) :=
  ⟨fun e => (if_pos h).trans (if_pos e), fun e => (if_pos h).trans ((if_neg (by omega)).trans (if_pos e)), fun e => (if_pos h).trans ((if_neg (by omega)).trans ((if_neg (by omega)).trans (if_pos e))), fun e => (if_pos h).trans ((if_neg (by omega)).trans ((if_neg (by omega)).trans ((if_neg (by omega)).trans (if_pos e))))⟩
end jG54

section jG55
/-! pure: a SUM read by both -/
theorem sm_17 {F : jW → Int × jW} {d t : Int} (hF : pFa F d) {l : yL} (hl : yst l) {cd : Nat → Int} {a lf f B : Int} {c0 : yC} (hB : 812 ≤ B) : ∀ (n : Nat) (X M : jW) (l2 l3 l4 l5 : Int) (r4 r17 r : Nat) (c : yC) (b1 k1 m1 m2 : Int), 401 - M.1 125 9 ≤ n → pA X M (yPn l4 (yPn l2 l)) c → M.1 125 56 = d → X.1 95 4 + (yPn l4 (yPn l2 l)).length ≤ 2 * M.1 125 9 → B ≤ (r : Int) + 2 * M.1 125 9 → (l2 = -1 ∨ l2 = 3 ∨ l2 = 4) → (l4 = -1 ∨ l4 = 5 ∨ l4 = 6) → pPd (X.1 97) c l2 a b1 m1 c0.1 k1 → pPd (X.1 97) c l4 b1 (X.1 95 4) m2 k1 c.1 → (0 ≤ l3 ∧ 2 * l3 ≤ M.1 125 9 ∧ (r4 : Int) + l3 = 400) → (0 ≤ l5 ∧ 2 * l5 ≤ M.1 125 9 ∧ (r17 : Int) + l5 = 401) → lf + m1 + m2 = X.1 95 5 → (∀ i : Nat, (i : Int) < a → X.1 97 i = cd i) → yUp c0.1 c0 c → f ≤ M.1 125 9 → pSo t d l cd a lf c0 f B (gS17 F (fun l2 l3 W => gS4 F r4 l2 l3 W) r17 l2 l3 l4 l5 X) (d_X12_readExpression_r125d_20 r t 1 M) := by
  intro n
  induction n with
  | zero =>
    intro X M l2 l3 l4 l5 r4 r17 r c b1 k1 m1 m2 hn hA
    have := pA_9 hA
    omega
  | succ n ih =>
    intro X M l2 l3 l4 l5 r4 r17 r c b1 k1 m1 m2 hn hA hd hb hr h2 h4 P2 P4 i3 i5 hlf hcd hup hf
    have p9 := pA_9 hA
    obtain ⟨q, rfl⟩ : ∃ q, r17 = q + 1 := ⟨r17 - 1, by omega⟩
    show pSo t d l cd a lf c0 f B (if 400 ≤ l5 then _ else if (F X).1 = 0 then (0, (F X).2) else g47 (fun l2 l3 W => gS4 F r4 l2 l3 W) (fun l2 l3 l4 l5 W => gS17 F (fun l2 l3 W => gS4 F r4 l2 l3 W) q l2 l3 l4 l5 W) l2 l3 l5 (xEm l4 (F X).2)) _
    rw [if_neg (show ¬ 400 ≤ l5 from by omega)]
    rcases hF X M _ c r t hA hd hb (by omega) with ⟨z, bd⟩ | ⟨z, N, s, e, eq, bg, A1, d1, f1, b1', G1, G2, G3⟩
    · rw [if_pos z]
      exact Or.inl ⟨rfl, bd⟩
    rw [if_neg (show ¬ (F X).1 = 0 from by omega), eq]
    generalize (F X).2 = X1 at *
    have p1 := pA_9 A1
    have hc1 := A1.2.2.2.2.2.1.1
    have hx1 : 0 ≤ X1.1 95 4 ∧ X1.1 95 4 < 1200 := ⟨A1.2.2.2.2.2.2.2, by omega⟩
    have l4p := pd_l P4
    have l2p := pd_l P2
    have P4a : pPd (X1.1 97) e l4 b1 (X.1 95 4) m2 k1 c.1 := pd_c P4 (fun i hi => G1 i hi) G2 (Int.le_refl _)
    obtain ⟨J1, J2, J3, J4, J5, J6, J7⟩ := pd_j P4a G3 hx1 hc1
    have A2 := J7 N _ e A1
    generalize hX2 : xEm l4 X1 = X2 at *
    generalize hc2 : yEm l4 e = c2 at *
    have P2a : pPd (X2.1 97) c2 l2 a b1 m1 c0.1 k1 := pd_c P2 (fun i hi => (J2 i (by have := pPc_l G3; omega)).trans (G1 i (by omega))) (yUp_t G2 J3 (by have := pPc_l G3; omega)) (by omega)
    have len : ((yPn l4 (yPn l2 l)).length : Int) = (yPn l2 l).length + o01 l4 := pn_l
    have len2 : ((yPn l2 l).length : Int) = l.length + o01 l2 := pn_l
    have o4 : 0 ≤ o01 l4 ∧ o01 l4 ≤ 1 := by unfold o01; split <;> omega
    have o2 : 0 ≤ o01 l2 ∧ o01 l2 ≤ 1 := by unfold o01; split <;> omega
    have hG3 := pPc_l G3
    have hJ1 := pPc_l J1
    have cdX2 : ∀ i : Nat, (i : Int) < a → X2.1 97 i = cd i := fun i hi => (J2 i (by omega)).trans ((G1 i (by omega)).trans (hcd i hi))
    have upc2 : yUp c0.1 c0 c2 := yUp_t (yUp_t hup G2 (by omega)) J3 (by omega)
    have bad := A1.2.2.1
    obtain ⟨s1, rfl⟩ : ∃ s1, s = s1 + 1 := ⟨s - 1, by omega⟩
    have ys6 := ys_6 hl h2 h4 e
    have ys5 := ys_5 hl h2 h4 e
    rw [hc2] at ys6 ys5
    have key : ∀ (o : Int), (o = 5 ∨ o = 6) → N.1 125 11 = 3 → d_X12_behindSum_r125d t N = (1, d_X12_next_r125d (mPu (d_X12_settle_r125d 6 N) (o + 3) 0)) → pSo t d l cd a lf c0 f B (gS17 F (fun l2 l3 W => gS4 F r4 l2 l3 W) q l2 l3 o (l5 + 1) (d_X9_step_r68d X2)) (d_X12_readExpression_r125d_20 (s1 + 1) t 3 N) := by
      intro o ho h3 hbs
      rw [(yx_s bad).1, hbs]
      obtain ⟨a1, a2, a3, a4, a5⟩ := pA_op (o := o + 3) A2 ⟨by decide, by decide⟩ (by omega) ys6 (by omega)
      show pSo t d l cd a lf c0 f B _ (d_X12_readExpression_r125d_20 s1 t 1 (d_X12_next_r125d (mPu (d_X12_settle_r125d 6 N) (o + 3) 0)))
      generalize d_X12_next_r125d (mPu (d_X12_settle_r125d 6 N) (o + 3) 0) = M2 at *
      have pn : yPn o (yPn l2 l) = (o + 3, 0) :: yPn l2 l := if_neg (by omega)
      have pl : ((yPn o (yPn l2 l)).length : Int) = (yPn l2 l).length + o01 o := pn_l
      have oo : o01 o = 1 := o01_n (by omega)
      refine ih (d_X9_step_r68d X2) M2 l2 l3 o (l5 + 1) r4 q s1 c2 b1 k1 m1 (m2 + (X1.1 95 5 - X.1 95 5)) (by omega) (by rw [pn]; exact a1) (a5.trans d1) ?_ (by omega) h2 (Or.inr ho) (by rw [a3]; exact P2a) ?_ ⟨i3.1, by omega, i3.2.2⟩ ⟨by omega, by omega, by omega⟩ ?_ (by rw [a3]; exact cdX2) upc2 (by omega)
      · rw [a4, pl, J5]; omega
      · rw [a3, a4]; exact Or.inr ⟨by omega, by omega, J1⟩
      · rw [a4, J4]; omega
    unfold g47
    rw [sg_e A2.1]
    by_cases t42 : N.1 125 11 = 3 ∧ N.2.1 125 12 = 42
    · rw [if_pos t42, if_neg (by decide)]
      exact key 5 (Or.inl rfl) t42.1 ((bs_o t42.1).2.2.1 t42.2)
    rw [if_neg t42, if_pos rfl, sg_e A2.1]
    by_cases t47 : N.1 125 11 = 3 ∧ N.2.1 125 12 = 47
    · rw [if_pos t47, if_neg (by decide)]
      exact key 6 (Or.inr rfl) t47.1 ((bs_o t47.1).2.2.2 t47.2)
    rw [if_neg t47, if_pos rfl]
    unfold g105 g115
    have hx2 : 0 ≤ X2.1 95 4 ∧ X2.1 95 4 < 1200 := ⟨A2.2.2.2.2.2.2.2, by omega⟩
    obtain ⟨K1, K2, K3, K4, K5, K6, K7⟩ := pd_j P2a J1 hx2 (by omega)
    have A3 := K7 N _ e A2
    generalize hX3 : xEm l2 X2 = X3 at *
    generalize hc3 : yEm l2 c2 = c3 at *
    have cdX3 : ∀ i : Nat, (i : Int) < a → X3.1 97 i = cd i := fun i hi => (K2 i (by omega)).trans (cdX2 i hi)
    have upc3 : yUp c0.1 c0 c3 := yUp_t upc2 K3 (by omega)
    have hK1 := pPc_l K1
    have key5 : ∀ (o : Int), (o = 3 ∨ o = 4) → N.1 125 11 = 3 → d_X12_behindSum_r125d t N = (1, d_X12_next_r125d (mPu (d_X12_settle_r125d 5 N) (o + 3) 0)) → pSo t d l cd a lf c0 f B (gS4 F r4 o (l3 + 1) (d_X9_step_r68d X3)) (d_X12_readExpression_r125d_20 (s1 + 1) t 3 N) := by
      intro o ho h3 hbs
      rw [(yx_s bad).1, hbs]
      obtain ⟨a1, a2, a3, a4, a5⟩ := pA_op (o := o + 3) A3 ⟨by decide, by decide⟩ (by omega) ys5 (by omega)
      show pSo t d l cd a lf c0 f B _ (d_X12_readExpression_r125d_20 s1 t 1 (d_X12_next_r125d (mPu (d_X12_settle_r125d 5 N) (o + 3) 0)))
      generalize d_X12_next_r125d (mPu (d_X12_settle_r125d 5 N) (o + 3) 0) = M2 at *
      have pn : yPn (-1) (yPn o l) = (o + 3, 0) :: l := (if_pos rfl).trans (if_neg (by omega))
      obtain ⟨q4, rfl⟩ : ∃ q4, r4 = q4 + 1 := ⟨r4 - 1, by omega⟩
      show pSo t d l cd a lf c0 f B (if 400 ≤ l3 + 1 then _ else gS17 F (fun l2 l3 W => gS4 F q4 l2 l3 W) 401 o (l3 + 1) (-1) 0 (d_X9_step_r68d X3)) _
      rw [if_neg (show ¬ 400 ≤ l3 + 1 from by omega)]
      refine ih (d_X9_step_r68d X3) M2 o (l3 + 1) (-1) 0 q4 401 s1 c3 (X3.1 95 4) c3.1 (m1 + (m2 + (X1.1 95 5 - X.1 95 5))) 0 (by omega) (by rw [pn]; exact a1) (a5.trans d1) ?_ (by omega) (Or.inr ho) (Or.inl rfl) ?_ ?_ ⟨by omega, by omega, by omega⟩ ⟨by omega, by omega, by omega⟩ ?_ (by rw [a3]; exact cdX3) upc3 (by omega)
      · rw [a4, pn, K5, J5]
        have z : ((o + 3, (0 : Int)) :: l).length = l.length + 1 := rfl
        rw [z]; omega
      · rw [a3]; exact Or.inr ⟨by omega, by omega, K1⟩
      · exact Or.inl ⟨rfl, by rw [a4], rfl, rfl⟩
      · rw [a4, K4, J4]; omega
    rw [sg_e A3.1]
    by_cases t43 : N.1 125 11 = 3 ∧ N.2.1 125 12 = 43
    · rw [if_pos t43, if_neg (by decide)]
      exact key5 3 (Or.inl rfl) t43.1 ((bs_o t43.1).1 t43.2)
    rw [if_neg t43, if_pos rfl, sg_e A3.1]
    by_cases t45 : N.1 125 11 = 3 ∧ N.2.1 125 12 = 45
    · rw [if_pos t45, if_neg (by decide)]
      exact key5 4 (Or.inr rfl) t45.1 ((bs_o t45.1).2.1 t45.2)
    rw [if_neg t45, if_pos rfl]
    have y4 := yi_n (l := yPn l2 l) (o := l4) (by omega)
    have y2 := yi_n (l := l) (o := l2) (by omega)
    refine Or.inr ⟨rfl, N, s1 + 1, _, e, c3, rfl, by omega, A3, d1, by omega, ys5, ?_, cdX3, upc3, ?_, y4.1.trans y2.1, y4.2.trans y2.2, fun h3 => ⟨fun h => t43 ⟨h3, h⟩, fun h => t45 ⟨h3, h⟩, fun h => t42 ⟨h3, h⟩, fun h => t47 ⟨h3, h⟩⟩⟩
    · show X3.1 95 4 + (l.length : Int) ≤ _
      omega
    · show yPc (X3.1 97) c3 a (X3.1 95 4) (X3.1 95 5 - lf) c0.1 c3.1 False
      rw [K4, J4, show X1.1 95 5 - lf = m1 + (m2 + (X1.1 95 5 - X.1 95 5)) from by omega]
      exact K1
theorem sm_e {F : jW → Int × jW} {d : Int} (hF : pFa F d) : pSm (gSm F) d := by
  intro X M l c r t hA hd hb hr hl
  have p9 := pA_9 hA
  show pSo t d l _ _ _ c _ _ (if (400 : Int) ≤ 0 then (0, vu X 68 2 (X.1 68 3)) else gS17 F (fun l2 l3 W => gS4 F 400 l2 l3 W) 401 (-1) 0 (-1) 0 X) _
  rw [if_neg (by decide)]
  have pn : yPn (-1) (yPn (-1) l) = l := (if_pos rfl).trans (if_pos rfl)
  exact sm_17 hF hl hr 401 X M (-1) 0 (-1) 0 400 401 r c (X.1 95 4) c.1 0 0 (by omega) (by rw [pn]; exact hA) hd (by rw [pn]; exact hb) (Int.le_refl _) (Or.inl rfl) (Or.inl rfl) (Or.inl ⟨rfl, rfl, rfl, rfl⟩) (Or.inl ⟨rfl, rfl, rfl, rfl⟩) ⟨by decide, by omega, by decide⟩ ⟨by decide, by omega, by decide⟩ (by omega) (fun _ _ => rfl) yUp_r (Int.le_refl _)
end jG55

section jG56
/-! pure: a factor read by both -/
def mBad (M : jW) : jW := vu (vu M 125 14 1) 125 13 (M.1 125 9)
def mLf (M : jW) (o a : Int) : jW := vu (mEt (d_X12_next_r125d M) o a) 125 52 ((d_X12_next_r125d M).1 125 52 + 1)
theorem bd_e {X M : jW} (T : pTk X M) {r : Nat} {t u : Int} : pBd (vu X 68 2 (X.1 68 3)) (d_X12_readExpression_r125d_20 (r + 1) t u (mBad M)) := by
  have e1 : (mBad M).1 125 14 = 1 := (vu_n (by omega)).trans (vu_e rfl)
  have e2 : (mBad M).1 125 13 = M.1 125 9 := vu_e rfl
  have e : d_X12_readExpression_r125d_20 (r + 1) t u (mBad M) = d_X12_settle_r125d 1 (mBad M) := if_neg (by omega)
  have o := pMo_se (M := mBad M) (k := 1)
  rw [e]
  refine ⟨o.1.trans e1, (o.2.2.2.trans e2).trans ?_⟩
  rw [vu_e rfl]
  exact T.2.1.symm
theorem rp_28 {M : jW} (b : M.1 125 14 = 0) {l1 : Int} (h : 1 ≤ l1) : d_X12_readPart_r125d_28 l1 M = if 60 ≤ M.1 125 52 then mBad M else mLf M l1 0 := by
  show (if l1 = (-1) then _ else (if 60 ≤ (M.1 125 52) then (if (M.1 125 14) = 0 then mBad M else M) else (if (M.1 125 14) = 0 then (if l1 = (-1) then _ else mLf M l1 0) else M))) = _
  rw [if_neg (show ¬ l1 = -1 from by omega), if_pos b, if_pos b, if_neg (show ¬ l1 = -1 from by omega)]
theorem rp_n {M : jW} (b : M.1 125 14 = 0) : d_X12_readPart_r125d_28 (-1) M = mBad M := by
  unfold d_X12_readPart_r125d_28 d_X12_readPart_r125d_200029 d_X12_readPart_r125d_200043 d_X12_readPart_r125d_67 d_X12_readPart_r125d_200068
  rw [if_pos rfl, if_pos b]
  rfl
theorem rp_d {M : jW} (b : M.1 125 14 = 0) : d_X12_readPart_r125d_300029 M = if 60 ≤ M.1 125 52 then mBad M else mLf M 0 (j_l2i (M.2.1 125 12)) := by
  show (if 60 ≤ (M.1 125 52) then (if (M.1 125 14) = 0 then mBad M else M) else (if (M.1 125 14) = 0 then (if (-1 : Int) = (-1) then mLf M 0 (j_l2i (M.2.1 125 12)) else _) else M)) = _
  rw [if_pos b, if_pos b, if_pos rfl]
theorem rp_1 {M : jW} (b : M.1 125 14 = 0) (h : M.1 125 11 = 1) : d_X12_readPart_r125d M = if wIx (M.2.1 125 12) [1253, 111983872174, 23114405, 26379859, 624256276644] 0 = -1 then mBad M else if 60 ≤ M.1 125 52 then mBad M else mLf M (wIx (M.2.1 125 12) [1253, 111983872174, 23114405, 26379859, 624256276644] 0 + 1) 0 := by
  unfold d_X12_readPart_r125d
  rw [if_pos h]
  show _ = if (if M.2.1 125 12 = 1253 then 0 else if M.2.1 125 12 = 111983872174 then 1 else if M.2.1 125 12 = 23114405 then 2 else if M.2.1 125 12 = 26379859 then 3 else if M.2.1 125 12 = 624256276644 then 4 else -1) = (-1 : Int) then mBad M else if 60 ≤ M.1 125 52 then mBad M else mLf M ((if M.2.1 125 12 = 1253 then 0 else if M.2.1 125 12 = 111983872174 then 1 else if M.2.1 125 12 = 23114405 then 2 else if M.2.1 125 12 = 26379859 then 3 else if M.2.1 125 12 = 624256276644 then 4 else -1) + 1) 0
  by_cases c1 : M.2.1 125 12 = 1253
  · rw [if_pos c1, if_pos c1, rp_28 b (by decide), if_neg (show ¬ (0 : Int) = -1 from by decide)]; rfl
  rw [if_neg c1, if_neg c1]
  by_cases c2 : M.2.1 125 12 = 111983872174
  · rw [if_pos c2, if_pos c2, rp_28 b (by decide), if_neg (show ¬ (1 : Int) = -1 from by decide)]; rfl
  rw [if_neg c2, if_neg c2]
  by_cases c3 : M.2.1 125 12 = 23114405
  · rw [if_pos c3, if_pos c3, rp_28 b (by decide), if_neg (show ¬ (2 : Int) = -1 from by decide)]; rfl
  rw [if_neg c3, if_neg c3]
  by_cases c4 : M.2.1 125 12 = 26379859
  · rw [if_pos c4, if_pos c4, rp_28 b (by decide), if_neg (show ¬ (3 : Int) = -1 from by decide)]; rfl
  rw [if_neg c4, if_neg c4]
  by_cases c5 : M.2.1 125 12 = 624256276644
  · rw [if_pos c5, if_pos c5, rp_28 b (by decide), if_neg (show ¬ (4 : Int) = -1 from by decide)]; rfl
  · rw [if_neg c5, if_neg c5, rp_n b, if_pos rfl]
theorem rp_2 {M : jW} (b : M.1 125 14 = 0) (h : M.1 125 11 = 2) : d_X12_readPart_r125d M = if 100000 < M.2.1 125 12 then mBad M else if 60 ≤ M.1 125 52 then mBad M else mLf M 0 (j_l2i (M.2.1 125 12)) := by
  have n : ¬ M.1 125 11 = 1 := by omega
  unfold d_X12_readPart_r125d
  rw [if_neg n, if_neg n, if_neg n, if_neg n, if_neg n, if_pos h, rp_n b, rp_d b]
theorem rp_0 {M : jW} (b : M.1 125 14 = 0) (h1 : M.1 125 11 ≠ 1) (h2 : M.1 125 11 ≠ 2) : d_X12_readPart_r125d M = mBad M := by
  unfold d_X12_readPart_r125d
  rw [if_neg h1, if_neg h1, if_neg h1, if_neg h1, if_neg h1, if_neg h2, rp_n b]
theorem yp_e {X : jW} {a1 a2 : Int} (h : 0 ≤ X.1 95 4 ∧ X.1 95 4 + 1 < 1200) : (d_X9_step_r68d (d_X2_emit_r95d a2 (d_X2_emit_r95d a1 (vu X 95 5 (X.1 95 5 + 1))))).1 95 4 = X.1 95 4 + 2 ∧ (∀ i : Nat, (i : Int) < X.1 95 4 → (d_X9_step_r68d (d_X2_emit_r95d a2 (d_X2_emit_r95d a1 (vu X 95 5 (X.1 95 5 + 1))))).1 97 i = X.1 97 i) ∧ (d_X9_step_r68d (d_X2_emit_r95d a2 (d_X2_emit_r95d a1 (vu X 95 5 (X.1 95 5 + 1))))).1 97 (X.1 95 4).toNat = a1 ∧ (d_X9_step_r68d (d_X2_emit_r95d a2 (d_X2_emit_r95d a1 (vu X 95 5 (X.1 95 5 + 1))))).1 97 (X.1 95 4 + 1).toNat = a2 ∧ (d_X9_step_r68d (d_X2_emit_r95d a2 (d_X2_emit_r95d a1 (vu X 95 5 (X.1 95 5 + 1))))).1 95 5 = X.1 95 5 + 1 ∧ (d_X2_emit_r95d a2 (d_X2_emit_r95d a1 (vu X 95 5 (X.1 95 5 + 1)))).1 68 = X.1 68 ∧ (d_X2_emit_r95d a2 (d_X2_emit_r95d a1 (vu X 95 5 (X.1 95 5 + 1)))).1 69 = X.1 69 ∧ pXr X (d_X9_step_r68d (d_X2_emit_r95d a2 (d_X2_emit_r95d a1 (vu X 95 5 (X.1 95 5 + 1))))) := by
  have v4 : (vu X 95 5 (X.1 95 5 + 1)).1 95 4 = X.1 95 4 := vu_n (by omega)
  have v5 : (vu X 95 5 (X.1 95 5 + 1)).1 95 5 = X.1 95 5 + 1 := vu_e rfl
  have v97 : (vu X 95 5 (X.1 95 5 + 1)).1 97 = X.1 97 := vu_c (by decide)
  have v68 : (vu X 95 5 (X.1 95 5 + 1)).1 68 = X.1 68 := vu_c (by decide)
  have v69 : (vu X 95 5 (X.1 95 5 + 1)).1 69 = X.1 69 := vu_c (by decide)
  obtain ⟨a1', a2', a3', a4', a5', a6', a7'⟩ := em_e (o := a1) (X := vu X 95 5 (X.1 95 5 + 1)) (by omega)
  obtain ⟨b1, b2, b3, b4, b5, b6, b7⟩ := em_e (o := a2) (X := d_X2_emit_r95d a1 (vu X 95 5 (X.1 95 5 + 1))) (by omega)
  have G := fr_d_X9_step_r68d (d_X2_emit_r95d a2 (d_X2_emit_r95d a1 (vu X 95 5 (X.1 95 5 + 1))))
  have e97 := pF_c G (c := 97) rfl
  have e95 := pF_c G (c := 95) rfl
  rw [e97, e95]
  refine ⟨by omega, fun i hi => ?_, ?_, ?_, by omega, b5.trans (a5'.trans v68), b6.trans (a6'.trans v69), fun c h1 h2 => ?_⟩
  · rw [b2 i (by omega), a2' i (by omega), v97]
  · rw [b2 _ (by omega)]
    rw [v4] at a3'
    exact a3'
  · rw [a1', v4] at b3
    exact b3
  · rw [pXr_f G rfl c h1 h2, b7 c h1 h2, a7' c h1 h2]
    exact vu_c (by omega)
theorem lf_e {X M : jW} {l : yL} {c : yC} {a1 a2 o a : Int} (h : pA X M l c) (ht : M.1 125 11 ≠ 0) (h60 : M.1 125 52 < 60) (hb : X.1 95 4 + l.length ≤ 2 * M.1 125 9) : pA (d_X9_step_r68d (d_X2_emit_r95d a2 (d_X2_emit_r95d a1 (vu X 95 5 (X.1 95 5 + 1))))) (mLf M o a) l (yE o a c) ∧ M.1 125 9 < (mLf M o a).1 125 9 ∧ (mLf M o a).1 125 56 = M.1 125 56 ∧ (d_X9_step_r68d (d_X2_emit_r95d a2 (d_X2_emit_r95d a1 (vu X 95 5 (X.1 95 5 + 1))))).1 95 4 + l.length ≤ 2 * (mLf M o a).1 125 9 := by
  have p9 := pA_9 h
  have q := p9.2.2.2 ht
  obtain ⟨h1, h2, h3, h4, h5, h6, h7, h8⟩ := h
  obtain ⟨x1, x2, x3, x4, x5, x6, x7, x8⟩ := yp_e (a1 := a1) (a2 := a2) (X := X) (by omega)
  have T1 := pTk_x h1 x6 x7
  generalize d_X2_emit_r95d a2 (d_X2_emit_r95d a1 (vu X 95 5 (X.1 95 5 + 1))) = X1 at *
  obtain ⟨t1, t2, t3, t4, t5, t6⟩ := T1
  have tk := tk_n t1 t3 (by omega) (by omega)
  have n := nx_9 M
  have F := fr_d_X12_next_r125d M
  have y1 : pY (d_X12_next_r125d M) l c := py_c h2 (F.1 125 55 rfl) (F.1 125 49 rfl) (pF_c F rfl) (pF_c F rfl) (pF_c F rfl) (pF_c F rfl)
  have mt : pMt (d_X12_next_r125d M) (mLf M o a) := pMt_t pMt_et (pMt_u (by omega))
  have f52 := F.1 125 52 rfl
  have g52 : (mLf M o a).1 125 52 = (d_X12_next_r125d M).1 125 52 + 1 := vu_e rfl
  have g14 : (mLf M o a).1 125 14 = 0 := (vu_n (by omega)).trans ((pMo_et (M := d_X12_next_r125d M) (o := o) (a := a)).1.trans ((F.1 125 14 rfl).trans h3))
  have g56 : (mLf M o a).1 125 56 = M.1 125 56 := (vu_n (by omega)).trans ((pMo_et (M := d_X12_next_r125d M) (o := o) (a := a)).2.2.1.trans (F.1 125 56 rfl))
  have g9 : (mLf M o a).1 125 9 = (d_X12_next_r125d M).1 125 9 := mt.2.1
  have y2 : pY (mLf M o a) l (yE o a c) := py_c (et_y y1) (vu_n (by omega)) (vu_n (by omega)) (vu_c (by decide)) (vu_c (by decide)) (vu_c (by decide)) (vu_c (by decide))
  refine ⟨⟨pTk_m tk mt, y2, g14, by omega, by omega, ?_, pWs_c h7 x8, by omega⟩, by omega, g56, by omega⟩
  show 0 ≤ c.1 + 1 ∧ c.1 + 1 + (l.length : Int) ≤ _
  omega
def gLf (W : jW) : Int × jW := if d_X9_numberTo_r68d 100000 W = -1 then (if d_X9_wordOf_r68_r11d W = -1 then (0, vu W 68 2 (W.1 68 3)) else d_X2_readPart_r95d 2 (d_X9_wordOf_r68_r11d W) W) else d_X2_readPart_r95d 1 (d_X9_numberTo_r68d 100000 W) W
def gFa (Br : jW → Int × jW) (W : jW) : Int × jW := if d_X9_isSign_r68d 91 W = 0 then gLf W else Br W
def gBr (S : jW → Int × jW) (W : jW) : Int × jW := if (S (d_X9_step_r68d W)).1 = 0 then (0, (S (d_X9_step_r68d W)).2) else if d_X9_isSign_r68d 93 (S (d_X9_step_r68d W)).2 = 0 then (0, vu (S (d_X9_step_r68d W)).2 68 2 ((S (d_X9_step_r68d W)).2.1 68 3)) else (1, d_X9_step_r68d (S (d_X9_step_r68d W)).2)
/-- how a factor ends -/
def pFo (t d : Int) (l : yL) (X : jW) (c : yC) (f B : Int) (xr : Int × jW) (W : jW) : Prop := (xr.1 = 0 ∧ pBd xr.2 W) ∨ (xr.1 = 1 ∧ ∃ (N : jW) (s : Nat) (e : yC), W = d_X12_readExpression_r125d_20 s t 3 N ∧ B ≤ (s : Int) + 2 * N.1 125 9 ∧ pA xr.2 N l e ∧ N.1 125 56 = d ∧ f < N.1 125 9 ∧ xr.2.1 95 4 + l.length ≤ 2 * N.1 125 9 ∧ pGo X xr.2 c e False)
theorem wIx_r {w : Int} : ∀ (cs : List Int) (i : Int), 0 ≤ i → (wIx w cs i = -1 ∨ i ≤ wIx w cs i ∧ wIx w cs i < i + cs.length)
  | [], _, _ => Or.inl rfl
  | c :: cs, i, h => by
    have z : (c :: cs).length = cs.length + 1 := rfl
    show (if w = c then i else wIx w cs (i + 1)) = -1 ∨ i ≤ (if w = c then i else wIx w cs (i + 1)) ∧ (if w = c then i else wIx w cs (i + 1)) < _
    rw [z]
    by_cases e : w = c
    · rw [if_pos e]; right; omega
    · rw [if_neg e]
      rcases wIx_r (w := w) cs (i + 1) (by omega) with q | q
      · exact Or.inl q
      · right; omega
theorem l2i_e {x : Int} (h : 0 ≤ x ∧ x ≤ 100000) : j_l2i x = x := by
  unfold j_l2i
  rw [Int64.toInt_toInt32, l_of (by omega)]
  exact Int.bmod_eq_of_le (by omega) (by omega)
theorem lf_c {X M : jW} {l : yL} {c : yC} {r : Nat} {t d : Int} (hA : pA X M l c) (hd : M.1 125 56 = d) (hb : X.1 95 4 + l.length ≤ 2 * M.1 125 9) (hr : 812 ≤ (r : Int) + 2 * M.1 125 9) (hs : ¬ (M.1 125 11 = 3 ∧ M.2.1 125 12 = 91)) : pFo t d l X c (M.1 125 9) ((r : Int) + 2 * M.1 125 9) (gLf X) (d_X12_readExpression_r125d_20 r t 1 M) := by
  have p9 := pA_9 hA
  have bad := hA.2.2.1
  have lv := hA.2.2.2.1
  obtain ⟨s, rfl⟩ : ∃ s, r = s + 1 + 1 := ⟨r - 2, by omega⟩
  have rs : d_X12_readSum_r125d M = (3, d_X12_readPart_r125d M) := by
    unfold d_X12_readSum_r125d
    by_cases c1 : M.1 125 11 = 3
    · rw [if_pos c1, if_neg (fun h => hs ⟨c1, h⟩)]
    · rw [if_neg c1]
  rw [(yx_s bad).2.1, rs]
  have nb := no_e hA.1 (a1 := 100000) ⟨by decide, by decide⟩
  have wo := wo_11 hA.1 hA.2.2.2.2.2.2.1
  have fail : ∀ xr : Int × jW, xr = (0, vu X 68 2 (X.1 68 3)) → ∀ W, W = mBad M → pFo t d l X c (M.1 125 9) (((s + 1 + 1 : Nat) : Int) + 2 * M.1 125 9) xr (d_X12_readExpression_r125d_20 (s + 1) t 3 W) := by
    intro xr h1 W h2
    rw [h1, h2]
    exact Or.inl ⟨rfl, bd_e hA.1⟩
  have good : ∀ a1 a2 o a : Int, M.1 125 11 ≠ 0 → M.1 125 52 < 60 → (∀ Y : jW, Y.1 97 (X.1 95 4).toNat = a1 → Y.1 97 (X.1 95 4 + 1).toNat = a2 → yPc (Y.1 97) (yE o a c) (X.1 95 4) (X.1 95 4 + 2) 1 c.1 (c.1 + 1) False) → pFo t d l X c (M.1 125 9) (((s + 1 + 1 : Nat) : Int) + 2 * M.1 125 9) (1, d_X9_step_r68d (d_X2_emit_r95d a2 (d_X2_emit_r95d a1 (vu X 95 5 (X.1 95 5 + 1))))) (d_X12_readExpression_r125d_20 (s + 1) t 3 (mLf M o a)) := by
    intro a1 a2 o a ht h60 hp
    obtain ⟨L1, L2, L3, L4⟩ := lf_e (a1 := a1) (a2 := a2) (o := o) (a := a) hA ht h60 hb
    obtain ⟨x1, x2, x3, x4, x5, x6, x7, x8⟩ := yp_e (a1 := a1) (a2 := a2) (X := X) ⟨hA.2.2.2.2.2.2.2, by omega⟩
    refine Or.inr ⟨rfl, mLf M o a, s + 1, yE o a c, rfl, by omega, L1, L3.trans hd, L2, L4, fun i hi => x2 i hi, yE_u hA.2.2.2.2.2.1.1, ?_⟩
    show yPc _ _ (X.1 95 4) ((d_X9_step_r68d (d_X2_emit_r95d a2 (d_X2_emit_r95d a1 (vu X 95 5 (X.1 95 5 + 1))))).1 95 4) ((d_X9_step_r68d (d_X2_emit_r95d a2 (d_X2_emit_r95d a1 (vu X 95 5 (X.1 95 5 + 1))))).1 95 5 - X.1 95 5) _ _ False
    rw [x1, x5, show X.1 95 5 + 1 - X.1 95 5 = 1 from by omega]
    exact hp _ x3 x4
  unfold gLf
  rw [nb.1, wo]
  have rpx : ∀ a1 a2 : Int, d_X2_readPart_r95d a1 a2 X = if M.1 125 52 < 60 then (1, d_X9_step_r68d (d_X2_emit_r95d a2 (d_X2_emit_r95d a1 (vu X 95 5 (X.1 95 5 + 1))))) else (0, vu X 68 2 (X.1 68 3)) := by
    intro a1 a2
    unfold d_X2_readPart_r95d
    rw [lv]
  have hc0 := hA.2.2.2.2.2.1.1
  have hx0 := hA.2.2.2.2.2.2.2
  have oe : ∀ o a : Int, (yE o a c).2.1 c.1.toNat = o ∧ (yE o a c).2.2 c.1.toNat = a := fun o a => ⟨sU_e rfl, sU_e rfl⟩
  by_cases k2 : M.1 125 11 = 2
  · rw [if_pos k2, rp_2 bad k2]
    have n0 := nb.2 k2
    by_cases w : M.2.1 125 12 ≤ 100000
    · rw [if_pos w, if_neg (by omega), if_neg (by omega), rpx]
      by_cases h60 : M.1 125 52 < 60
      · rw [if_pos h60, if_neg (by omega), l2i_e ⟨n0, w⟩]
        refine good 1 (M.2.1 125 12) 0 (M.2.1 125 12) (by omega) h60 (fun Y y1 y2 => ?_)
        refine pP_p hx0 hc0 y1 (oe 0 _).1 ?_ ?_
        · rw [(oe 0 _).2, y2]
        · rw [y2]; unfold rg; omega
      · rw [if_neg h60, if_pos (by omega)]
        exact fail _ rfl _ rfl
    · rw [if_neg w, if_pos rfl, if_neg (show ¬ M.1 125 11 = 1 from by omega), if_pos rfl, if_pos (show 100000 < M.2.1 125 12 from by omega)]
      exact fail _ rfl _ rfl
  rw [if_neg k2, if_pos rfl]
  by_cases k1 : M.1 125 11 = 1
  · rw [if_pos k1, rp_1 bad k1]
    have wr := wIx_r (w := M.2.1 125 12) [1253, 111983872174, 23114405, 26379859, 624256276644] 0 (by decide)
    generalize wIx (M.2.1 125 12) [1253, 111983872174, 23114405, 26379859, 624256276644] 0 = w at *
    have wl : ([1253, 111983872174, 23114405, 26379859, 624256276644] : List Int).length = 5 := rfl
    rw [wl] at wr
    by_cases cw : w = -1
    · rw [if_pos cw, if_pos cw]
      exact fail _ rfl _ rfl
    · rw [if_neg cw, if_neg cw, rpx]
      by_cases h60 : M.1 125 52 < 60
      · rw [if_pos h60, if_neg (by omega)]
        refine good 2 w (w + 1) 0 (by omega) h60 (fun Y y1 y2 => ?_)
        refine pP_w (fun f => f.elim) (pP_q hx0 hc0 y1 y2 (by omega) ?_)
        rw [(oe _ 0).1, if_pos (by omega)]
      · rw [if_neg h60, if_pos (by omega)]
        exact fail _ rfl _ rfl
  · rw [if_neg k1, if_pos rfl, rp_0 bad k1 k2]
    exact fail _ rfl _ rfl
theorem bs_n {t : Int} {N : jW} (h : nOs N) : d_X12_behindSum_r125d t N = d_X12_behindSum_r125d_100062 t (d_X12_inner_r125d N) N := by
  unfold d_X12_behindSum_r125d
  by_cases c : N.1 125 11 = 3
  · obtain ⟨h1, h2, h3, h4⟩ := h c
    rw [if_pos c, if_neg h1, if_neg h2, if_neg h3, if_neg h4]
  · rw [if_neg c]
def mOp (M : jW) (o : Int) : jW := vu (vu (vu (vu (d_X12_next_r125d M) 125 56 (M.1 125 56 + 1)) 150 (M.1 125 55).toNat o) 151 (M.1 125 55).toNat 0) 125 55 (M.1 125 55 + 1)
def mCl (N : jW) (j : Int) : jW := vu (vu (d_X12_settle_r125d j (d_X12_next_r125d N)) 125 55 ((d_X12_settle_r125d j (d_X12_next_r125d N)).1 125 55 - 1)) 125 56 (j_isub (N.1 125 56) 1)
theorem bs_31 {t : Int} {N : jW} (b : N.1 125 14 = 0) : d_X12_behindSum_r125d_100062 t 31 N = if N.1 125 11 = 3 ∧ N.2.1 125 12 = 93 then (3, mCl N 5) else (3, mBad N) := by
  show (if (31 : Int) = 31 then (if N.1 125 11 = 3 then (if N.2.1 125 12 = 93 then (if N.1 125 14 = 0 then (3, mCl N 5) else (3, N)) else (if N.1 125 14 = 0 then (3, mBad N) else (3, N))) else (if N.1 125 14 = 0 then (3, mBad N) else (3, N))) else _) = _
  rw [if_pos rfl, if_pos b, if_pos b]
  by_cases c1 : N.1 125 11 = 3
  · rw [if_pos c1]
    by_cases c2 : N.2.1 125 12 = 93
    · rw [if_pos c2, if_pos ⟨c1, c2⟩]
    · rw [if_neg c2, if_neg (fun h => c2 h.2)]
  · rw [if_neg c1, if_neg (fun h => c1 h.1)]
/-- a bracket opens: o is 30 or 31 -/
theorem op_e {X M : jW} {l : yL} {c : yC} {o d : Int} (hA : pA X M l c) (ht : M.1 125 11 ≠ 0) (hd : M.1 125 56 = d) : pA (d_X9_step_r68d X) (mOp M o) ((o, 0) :: l) c ∧ M.1 125 9 < (mOp M o).1 125 9 ∧ (mOp M o).1 125 56 = d + 1 ∧ (d_X9_step_r68d X).1 97 = X.1 97 ∧ (d_X9_step_r68d X).1 95 = X.1 95 := by
  have p9 := pA_9 hA
  have q := p9.2.2.2 ht
  obtain ⟨a1, a2, a3, a4, a5, a6, a7⟩ := pA_n hA
  have F := fr_d_X12_next_r125d M
  have e55 : (vu (d_X12_next_r125d M) 125 56 (M.1 125 56 + 1)).1 125 55 = M.1 125 55 := (vu_n (by omega)).trans (F.1 125 55 rfl)
  have eq : mOp M o = mPu (vu (d_X12_next_r125d M) 125 56 (M.1 125 56 + 1)) o 0 := by
    unfold mOp mPu
    rw [e55]
  rw [eq]
  have mt : pMt (d_X12_next_r125d M) (mPu (vu (d_X12_next_r125d M) 125 56 (M.1 125 56 + 1)) o 0) := pMt_t (pMt_u (by omega)) pMt_pu
  have y : pY (mPu (vu (d_X12_next_r125d M) 125 56 (M.1 125 56 + 1)) o 0) ((o, 0) :: l) c := pu_y (py_c a1.2.1 (vu_n (by omega)) (vu_n (by omega)) (vu_c (by decide)) (vu_c (by decide)) (vu_c (by decide)) (vu_c (by decide)))
  obtain ⟨h1, h2, h3, h4, h5, h6, h7, h8⟩ := a1
  have o1 := pMo_pu (M := vu (d_X12_next_r125d M) 125 56 (M.1 125 56 + 1)) (o := o) (a := 0)
  have z : ((o, (0 : Int)) :: l).length = l.length + 1 := rfl
  have b6 := hA.2.2.2.2.2.1
  have g52 : (mPu (vu (d_X12_next_r125d M) 125 56 (M.1 125 56 + 1)) o 0).1 125 52 = (d_X12_next_r125d M).1 125 52 := o1.2.1.trans (vu_n (by omega))
  refine ⟨⟨pTk_m h1 mt, y, (o1.1.trans (vu_n (by omega))).trans h3, by omega, by omega, ?_, h7, h8⟩, ?_, ?_, a3, a4⟩
  · rw [mt.2.1, z]; omega
  · rw [mt.2.1]; omega
  · rw [o1.2.2.1, vu_e rfl, hd]
/-- a bracket closes, behind settle k -/
theorem cl_e {X N : jW} {l k : yL} {e g : yC} {p : Int × Int} {j d : Int} (hA : pA X N k e) (hj : 1 ≤ j ∧ j ≤ 6) (ht : N.1 125 11 ≠ 0) (hd : N.1 125 56 = d + 1) (h0 : 0 ≤ d ∧ d ≤ 8) (hy : yse j k e = (p :: l, g)) (hg : 0 ≤ g.1) : pA (d_X9_step_r68d X) (mCl N j) l g ∧ N.1 125 9 < (mCl N j).1 125 9 ∧ (mCl N j).1 125 56 = d ∧ (d_X9_step_r68d X).1 97 = X.1 97 ∧ (d_X9_step_r68d X).1 95 = X.1 95 := by
  have p9 := pA_9 hA
  have q := p9.2.2.2 ht
  obtain ⟨a1, a2, a3, a4, a5, a6, a7⟩ := pA_n hA
  have s := se_y hj (pA_9 a1).2.2.1 a1.2.1
  have b := yse_l (k := j) k e
  rw [hy] at s b
  have z : (p :: l).length = l.length + 1 := rfl
  have b1 : g.1 + ((p :: l).length : Int) ≤ e.1 + k.length := b.2
  rw [z] at b1
  have b6 := hA.2.2.2.2.2.1
  have mt : pMt (d_X12_next_r125d N) (mCl N j) := pMt_t pMt_se (pMt_t (pMt_u (by omega)) (pMt_u (by omega)))
  have y := py_c (N := mCl N j) (po_y s) (vu_n (by omega)) (vu_n (by omega)) (vu_c (by decide)) (vu_c (by decide)) (vu_c (by decide)) (vu_c (by decide))
  obtain ⟨h1, h2, h3, h4, h5, h6, h7, h8⟩ := a1
  have o1 := pMo_se (M := d_X12_next_r125d N) (k := j)
  have u (i : Nat) (hi : i ≠ 55 ∧ i ≠ 56) : (mCl N j).1 125 i = (d_X12_settle_r125d j (d_X12_next_r125d N)).1 125 i := (vu_n (by omega)).trans (vu_n (by omega))
  have g52 := (u 52 (by omega)).trans o1.2.1
  refine ⟨⟨pTk_m h1 mt, y, ((u 14 (by omega)).trans o1.1).trans h3, by omega, by omega, ?_, h7, h8⟩, ?_, ?_, a3, a4⟩
  · rw [mt.2.1]; omega
  · rw [mt.2.1]; omega
  · unfold mCl
    rw [vu_e rfl, hd, j_is (by omega) (by omega) (by omega)]; omega
theorem fa_e {S : jW → Int × jW} {d : Int} (h0 : 0 ≤ d ∧ d < 8) (hS : pSm S (d + 1)) : pFa (gFa (gBr S)) d := by
  intro X M l c r t hA hd hb hr
  show pFo t d l X c (M.1 125 9) ((r : Int) + 2 * M.1 125 9) (gFa (gBr S) X) (d_X12_readExpression_r125d_20 r t 1 M)
  unfold gFa
  rw [sg_e hA.1]
  by_cases hs : M.1 125 11 = 3 ∧ M.2.1 125 12 = 91
  · rw [if_pos hs, if_neg (by decide)]
    have p9 := pA_9 hA
    have bad := hA.2.2.1
    obtain ⟨s, rfl⟩ : ∃ s, r = s + 1 := ⟨r - 1, by omega⟩
    obtain ⟨O1, O2, O3, O4, O5⟩ := op_e (o := 31) hA (by omega) hd
    have rs : d_X12_readSum_r125d M = (1, mOp M 31) := by
      unfold d_X12_readSum_r125d
      rw [if_pos hs.1, if_pos hs.2, if_neg (by omega), if_pos bad]
      rfl
    rw [(yx_s bad).2.1, rs]
    show pFo t d l X c (M.1 125 9) _ _ (d_X12_readExpression_r125d_20 s t 1 (mOp M 31))
    generalize mOp M 31 = M2 at *
    have z : ((31, (0 : Int)) :: l).length = l.length + 1 := rfl
    have R := hS (d_X9_step_r68d X) M2 ((31, 0) :: l) c s t O1 O3 (by rw [O5, z]; omega) (by omega) (fun k e hk => if_neg (by show ¬ k ≤ 0; omega))
    unfold gBr
    show pFo t d l X c (M.1 125 9) _ _ (d_X12_readExpression_r125d_20 s t 1 M2)
    rcases R with ⟨z0, bd⟩ | ⟨z1, N, s2, k, e, g, R1, R2, R3, R4, R5, R6, R7, R8, R9, R10, R11, R12, R13⟩
    · rw [if_pos z0]
      exact Or.inl ⟨rfl, bd⟩
    rw [if_neg (show ¬ (S (d_X9_step_r68d X)).1 = 0 from by omega), R1]
    generalize (S (d_X9_step_r68d X)).2 = X2 at *
    have pN := pA_9 R3
    have badN := R3.2.2.1
    obtain ⟨s3, rfl⟩ : ∃ s3, s2 = s3 + 1 + 1 := ⟨s2 - 2, by omega⟩
    have inn : d_X12_inner_r125d N = 31 := (in_e pN.2.2.1 R3.2.1).trans (R11.trans (if_pos (by decide)))
    rw [(yx_s badN).1, bs_n R13, inn, bs_31 badN, sg_e R3.1]
    have hP := pPc_l R10
    by_cases h93 : N.1 125 11 = 3 ∧ N.2.1 125 12 = 93
    · rw [if_pos h93, if_pos h93, if_neg (by decide)]
      obtain ⟨C1, C2, C3, C4, C5⟩ := cl_e R3 ⟨by decide, by decide⟩ (by omega) R4 (by omega) R6 (by omega)
      show pFo t d l X c (M.1 125 9) _ _ (d_X12_readExpression_r125d_20 (s3 + 1) t 3 (mCl N 5))
      generalize mCl N 5 = N3 at *
      rw [z] at R7
      rw [O4] at R8
      rw [O5] at R8 R10
      refine Or.inr ⟨rfl, N3, s3 + 1, g, rfl, by omega, C1, C3, by omega, ?_, fun i hi => ?_, R9, ?_⟩
      · show (d_X9_step_r68d X2).1 95 4 + (l.length : Int) ≤ _
        rw [C5]; omega
      · show (d_X9_step_r68d X2).1 97 i = _
        rw [C4]; exact R8 i hi
      · show yPc ((d_X9_step_r68d X2).1 97) g (X.1 95 4) ((d_X9_step_r68d X2).1 95 4) ((d_X9_step_r68d X2).1 95 5 - X.1 95 5) c.1 g.1 False
        rw [C4, C5]; exact R10
    · rw [if_neg h93, if_neg h93, if_pos rfl]
      exact Or.inl ⟨rfl, bd_e R3.1⟩
  · rw [if_neg hs, if_pos rfl]
    exact lf_c hA hd hb hr hs
theorem fa_8 : pFa (gFa fun W => (0, vu W 68 2 (W.1 68 3))) 8 := by
  intro X M l c r t hA hd hb hr
  show pFo t 8 l X c (M.1 125 9) ((r : Int) + 2 * M.1 125 9) (gFa (fun W => (0, vu W 68 2 (W.1 68 3))) X) (d_X12_readExpression_r125d_20 r t 1 M)
  unfold gFa
  rw [sg_e hA.1]
  by_cases hs : M.1 125 11 = 3 ∧ M.2.1 125 12 = 91
  · rw [if_pos hs, if_neg (by decide)]
    have p9 := pA_9 hA
    have bad := hA.2.2.1
    obtain ⟨s, rfl⟩ : ∃ s, r = s + 1 + 1 := ⟨r - 2, by omega⟩
    have rs : d_X12_readSum_r125d M = (1, mBad M) := by
      unfold d_X12_readSum_r125d
      rw [if_pos hs.1, if_pos hs.2, if_pos (by omega), if_pos bad]
      rfl
    rw [(yx_s bad).2.1, rs]
    exact Or.inl ⟨rfl, bd_e hA.1⟩
  · rw [if_neg hs, if_pos rfl]
    exact lf_c hA hd hb hr hs
end jG56

section jG57
/-! pure: a PLAIN TEST read by both -/
/-- how a TEST ends -/
def pTo (d k0 : Int) (l : yL) (cd : Nat → Int) (a lf : Int) (c : yC) (f B : Int) (xr : Int × jW) (W : jW) (Q : jW → Prop) : Prop := (xr.1 = 0 ∧ pBd xr.2 W) ∨ (xr.1 = 1 ∧ ∃ (N : jW) (s : Nat) (k : yL) (e g : yC), W = d_X12_readExpression_r125d_20 s 1 2 N ∧ B ≤ (s : Int) + 2 * N.1 125 9 ∧ pA xr.2 N k e ∧ N.1 125 56 = d ∧ f < N.1 125 9 ∧ yse k0 k e = (l, g) ∧ xr.2.1 95 4 + l.length ≤ 2 * N.1 125 9 ∧ (∀ i : Nat, (i : Int) < a → xr.2.1 97 i = cd i) ∧ yUp c.1 c g ∧ yPc (xr.2.1 97) g a (xr.2.1 95 4) (xr.2.1 95 5 - lf) c.1 g.1 True ∧ yIn k = yIn l ∧ Q N)
/-- no more AND, no OR -/
def nAo (N : jW) : Prop := N.1 125 11 = 1 → N.2.1 125 12 ≠ 1476 ∧ N.2.1 125 12 ≠ 498
def yS2 (l : yL) : Prop := ∀ (k : Int) (c : yC), 3 ≤ k → yse k l c = (l, c)
def yS0 (l : yL) : Prop := ∀ (k : Int) (c : yC), 1 ≤ k → yse k l c = (l, c)
def pPl (P : jW → Int × jW) (d : Int) : Prop := ∀ (X M : jW) (l : yL) (c : yC) (r : Nat), pA X M l c → M.1 125 56 = d → X.1 95 4 + l.length ≤ 2 * M.1 125 9 → 812 ≤ (r : Int) + 2 * M.1 125 9 → yS2 l → yIn l ≠ 31 → yCo l = 0 → pTo d 3 l (X.1 97) (X.1 95 4) (X.1 95 5) c (M.1 125 9) ((r : Int) + 2 * M.1 125 9) (P X) (d_X12_readExpression_r125d_20 r 1 0 M) fun _ => True
def pTz (T : jW → Int × jW) (d : Int) : Prop := ∀ (X M : jW) (l : yL) (c : yC) (r : Nat), pA X M l c → M.1 125 56 = d → X.1 95 4 + l.length ≤ 2 * M.1 125 9 → 812 ≤ (r : Int) + 2 * M.1 125 9 → yS0 l → yIn l ≠ 31 → yCo l = 0 → pTo d 1 l (X.1 97) (X.1 95 4) (X.1 95 5) c (M.1 125 9) ((r : Int) + 2 * M.1 125 9) (T X) (d_X12_readExpression_r125d_20 r 1 0 M) nAo
/-- NOTs that wait -/
def yNo (l : yL) : Nat → yL
  | 0 => l
  | n + 1 => (18, 0) :: yNo l n
def yEn (c : yC) : Nat → yC
  | 0 => c
  | n + 1 => yE 18 0 (yEn c n)
theorem yEn_s {c : yC} : ∀ n : Nat, yEn (yE 18 0 c) n = yE 18 0 (yEn c n)
  | 0 => rfl
  | n + 1 => congrArg (yE 18 0) (yEn_s n)
theorem yEn_1 {c : yC} : ∀ n : Nat, (yEn c n).1 = c.1 + n
  | 0 => by show c.1 = c.1 + ((0 : Nat) : Int); omega
  | n + 1 => by
    have := yEn_1 (c := c) n
    show (yEn c n).1 + 1 = c.1 + ((n + 1 : Nat) : Int)
    omega
theorem yEn_u {c : yC} (h : 0 ≤ c.1) : ∀ n : Nat, yUp c.1 c (yEn c n)
  | 0 => yUp_r
  | n + 1 => yUp_t (yEn_u h n) (yE_u (by rw [yEn_1]; omega)) (by rw [yEn_1]; omega)
theorem yno_3 {l : yL} (h : yS2 l) : ∀ (n : Nat) (c : yC), yse 3 (yNo l n) c = (l, yEn c n)
  | 0, c => h 3 c (by decide)
  | n + 1, c => by
    have e : yse 3 (yNo l (n + 1)) c = yse 3 (yNo l n) (yE 18 0 c) := (if_pos (by decide)).trans (if_neg (by decide))
    rw [e, yno_3 h n, yEn_s]
    rfl
theorem yno_4 {l : yL} (h : yS2 l) {k : Int} (hk : 4 ≤ k) : ∀ (n : Nat) (c : yC), yse k (yNo l n) c = (yNo l n, c)
  | 0, c => h k c (by omega)
  | n + 1, c => if_neg (by show ¬ k ≤ 3; omega)
theorem yno_i {l : yL} : ∀ n : Nat, yIn (yNo l n) = yIn l ∧ (yCo l = 0 → yCo (yNo l n) = 0) ∧ ((yNo l n).length : Int) = l.length + n
  | 0 => ⟨rfl, fun h => h, by show (l.length : Int) = l.length + ((0 : Nat) : Int); omega⟩
  | n + 1 => by
    have i := yno_i (l := l) n
    refine ⟨(if_neg (by decide)).trans i.1, fun _ => (if_neg (by decide)).trans (if_neg (by decide)), ?_⟩
    show (((yNo l n).length + 1 : Nat) : Int) = l.length + ((n + 1 : Nat) : Int)
    omega
theorem no_p {cd : Nat → Int} {a b m k : Int} : ∀ (n : Nat) {c : yC}, 0 ≤ c.1 → yPc cd c a b m k c.1 True → (n % 2 = 0 → yPc cd (yEn c n) a b m k (yEn c n).1 True) ∧ (n % 2 = 1 → cd b.toNat = 10 → yPc cd (yEn c n) a (b + 1) m k (yEn c n).1 True)
  | 0, c, h, P => ⟨fun _ => P, fun e => absurd e (by decide)⟩
  | 1, c, h, P => by
    refine ⟨fun e => absurd e (by decide), fun _ hb => ?_⟩
    have u := yPc_c P (ce := cd) (c2 := yE 18 0 c) (fun _ _ => rfl) (yE_u h) (Int.le_refl _)
    exact pP_n u hb (sU_e rfl)
  | n + 2, c, h, P => by
    have ih := no_p (cd := cd) (a := a) (b := b) (m := m) (k := k) n h P
    have e1 := yEn_1 (c := c) n
    have z : (yE 18 0 (yEn c n)).1 = (yEn c n).1 + 1 := rfl
    have up : yUp (yEn c n).1 (yEn c n) (yEn c (n + 2)) := yUp_t (yE_u (by omega)) (yE_u (by omega)) (by omega)
    have key : ∀ b2 : Int, yPc cd (yEn c n) a b2 m k (yEn c n).1 True → yPc cd (yEn c (n + 2)) a b2 m k (yEn c (n + 2)).1 True := by
      intro b2 Q
      have u := yPc_c Q (ce := cd) (c2 := yEn c (n + 2)) (fun _ _ => rfl) up (Int.le_refl _)
      have o1 : (yEn c (n + 2)).2.1 (yEn c n).1.toNat = 18 := by
        show sU (yE 18 0 (yEn c n)).2.1 (yE 18 0 (yEn c n)).1.toNat 18 _ = 18
        rw [sU_n (by omega)]
        exact sU_e rfl
      have o2 : (yEn c (n + 2)).2.1 ((yEn c n).1 + 1).toNat = 18 := sU_e rfl
      exact pP_nn u o1 o2
    exact ⟨fun e => key b (ih.1 (by omega)), fun e hb => key (b + 1) (ih.2 (by omega) hb)⟩
/-- the body of a PLAIN TEST, its NOTs aside -/
def gCm (S : jW → Int × jW) (o : Int) (W : jW) : Int × jW := if (S (d_X9_step_r68d W)).1 = 0 then (0, (S (d_X9_step_r68d W)).2) else (1, d_X2_emit_r95d o (S (d_X9_step_r68d W)).2)
def gBo (S Br : jW → Int × jW) (W : jW) : Int × jW := if d_X9_isSign_r68d 40 W = 0 then (if d_X9_wordOf_r68_r15d W = -1 then (if (S W).1 = 0 then (0, (S W).2) else if d_X9_isSign_r68d 60 (S W).2 = 0 then (if d_X9_isSign_r68d 62 (S W).2 = 0 then (if d_X9_isSign_r68d 61 (S W).2 = 0 then (0, vu (S W).2 68 2 ((S W).2.1 68 3)) else gCm S 9 (S W).2) else gCm S 8 (S W).2) else gCm S 7 (S W).2) else d_X2_readPart_r95d 2 (j_iadd 5 (d_X9_wordOf_r68_r15d W)) W) else Br W
def gTb (T : jW → Int × jW) (W : jW) : Int × jW := if (T (d_X9_step_r68d W)).1 = 0 then (0, (T (d_X9_step_r68d W)).2) else if d_X9_isSign_r68d 41 (T (d_X9_step_r68d W)).2 = 0 then (0, vu (T (d_X9_step_r68d W)).2 68 2 ((T (d_X9_step_r68d W)).2.1 68 3)) else (1, d_X9_step_r68d (T (d_X9_step_r68d W)).2)
/-- the reference's turns at a PLAIN TEST -/
theorem rl_n {M : jW} (h : M.1 125 11 = 1) (e : M.2.1 125 12 = 14836) : d_X12_readPlain_r125d M = (0, d_X12_next_r125d (mPu M 18 0)) := (if_pos h).trans (if_pos e)
theorem rl_w {M : jW} (b : M.1 125 14 = 0) (h : M.1 125 11 = 1) (e : M.2.1 125 12 ≠ 14836) (ew : wIx (M.2.1 125 12) [14011671716, 136228, 540146, 8892563, 3490341659812] 0 ≠ -1) : d_X12_readPlain_r125d M = if 60 ≤ M.1 125 52 then (2, mBad M) else (2, mLf M (wIx (M.2.1 125 12) [14011671716, 136228, 540146, 8892563, 3490341659812] 0 + 13) 0) := by
  have k : ∀ o : Int, (if 60 ≤ M.1 125 52 then d_X12_readPlain_r125d_200065 o M else d_X12_readPlain_r125d_300065 o M) = if 60 ≤ M.1 125 52 then (2, mBad M) else (2, mLf M o 0) := by
    intro o
    have F := fr_d_X12_next_r125d M
    have f49 : (d_X12_next_r125d M).1 125 49 = M.1 125 49 := F.1 125 49 rfl
    have f52 : (d_X12_next_r125d M).1 125 52 = M.1 125 52 := F.1 125 52 rfl
    have e1 : d_X12_readPlain_r125d_200065 o M = (2, mBad M) := if_pos b
    have e2 : d_X12_readPlain_r125d_300065 o M = (2, mLf M o 0) := by
      unfold mLf mEt
      rw [f49, f52]
      exact if_pos b
    rw [e1, e2]
  unfold d_X12_readPlain_r125d
  rw [if_pos h, if_neg e]
  have u : wIx (M.2.1 125 12) [14011671716, 136228, 540146, 8892563, 3490341659812] 0 = (if M.2.1 125 12 = 14011671716 then 0 else if M.2.1 125 12 = 136228 then 1 else if M.2.1 125 12 = 540146 then 2 else if M.2.1 125 12 = 8892563 then 3 else if M.2.1 125 12 = 3490341659812 then 4 else -1) := rfl
  rw [u] at ew ⊢
  by_cases c1 : M.2.1 125 12 = 14011671716
  · rw [if_pos c1, if_pos c1, k]; rfl
  rw [if_neg c1, if_neg c1]
  rw [if_neg c1] at ew
  by_cases c2 : M.2.1 125 12 = 136228
  · rw [if_pos c2, if_pos c2, k]; rfl
  rw [if_neg c2, if_neg c2]
  rw [if_neg c2] at ew
  by_cases c3 : M.2.1 125 12 = 540146
  · rw [if_pos c3, if_pos c3, k]; rfl
  rw [if_neg c3, if_neg c3]
  rw [if_neg c3] at ew
  by_cases c4 : M.2.1 125 12 = 8892563
  · rw [if_pos c4, if_pos c4, k]; rfl
  rw [if_neg c4, if_neg c4]
  rw [if_neg c4] at ew
  by_cases c5 : M.2.1 125 12 = 3490341659812
  · rw [if_pos c5, if_pos c5, k]; rfl
  · rw [if_neg c5] at ew
    exact absurd rfl ew
theorem ry_s {M : jW} (e : M.1 125 11 = 1 → M.2.1 125 12 ≠ 14836 ∧ wIx (M.2.1 125 12) [14011671716, 136228, 540146, 8892563, 3490341659812] 0 = -1) (hs : ¬ (M.1 125 11 = 3 ∧ M.2.1 125 12 = 40)) : d_X12_readPlain_r125d M = d_X12_readSum_r125d M := by
  unfold d_X12_readPlain_r125d
  by_cases h : M.1 125 11 = 1
  · obtain ⟨e1, e2⟩ := e h
    have u : wIx (M.2.1 125 12) [14011671716, 136228, 540146, 8892563, 3490341659812] 0 = (if M.2.1 125 12 = 14011671716 then 0 else if M.2.1 125 12 = 136228 then 1 else if M.2.1 125 12 = 540146 then 2 else if M.2.1 125 12 = 8892563 then 3 else if M.2.1 125 12 = 3490341659812 then 4 else -1) := rfl
    rw [u] at e2
    by_cases c1 : M.2.1 125 12 = 14011671716
    · rw [if_pos c1] at e2; exact absurd e2 (by decide)
    rw [if_neg c1] at e2
    by_cases c2 : M.2.1 125 12 = 136228
    · rw [if_pos c2] at e2; exact absurd e2 (by decide)
    rw [if_neg c2] at e2
    by_cases c3 : M.2.1 125 12 = 540146
    · rw [if_pos c3] at e2; exact absurd e2 (by decide)
    rw [if_neg c3] at e2
    by_cases c4 : M.2.1 125 12 = 8892563
    · rw [if_pos c4] at e2; exact absurd e2 (by decide)
    rw [if_neg c4] at e2
    by_cases c5 : M.2.1 125 12 = 3490341659812
    · rw [if_pos c5] at e2; exact absurd e2 (by decide)
    rw [if_pos h, if_neg e1, if_neg c1, if_neg c2, if_neg c3, if_neg c4, if_neg c5]
  · rw [if_neg h]
    by_cases h3 : M.1 125 11 = 3
    · rw [if_pos h3, if_neg (fun z => hs ⟨h3, z⟩)]
    · rw [if_neg h3, if_neg h, if_neg h, if_neg h, if_neg h, if_neg h]
theorem rl_b {M : jW} (b : M.1 125 14 = 0) (hs : M.1 125 11 = 3 ∧ M.2.1 125 12 = 40) : d_X12_readPlain_r125d M = if 8 ≤ M.1 125 56 then (0, mBad M) else (0, mOp M 30) := by
  unfold d_X12_readPlain_r125d
  rw [if_neg (show ¬ M.1 125 11 = 1 from by omega), if_pos hs.1, if_pos hs.2, if_pos b, if_pos b]
  rfl
/-- behind a SUM of a TEST -/
theorem bs_t {N : jW} {i : Int} (hi : i ≠ 31) : d_X12_behindSum_r125d_100062 1 i N = d_X12_behindSum_r125d_129 N := by
  show (if i = 31 then _ else (if i = (-1) then (if (1 : Int) = 0 then (4, N) else d_X12_behindSum_r125d_129 N) else d_X12_behindSum_r125d_129 N)) = _
  rw [if_neg hi]
  by_cases c : i = -1
  · rw [if_pos c, if_neg (by decide)]
  · rw [if_neg c]
theorem bs_1 {N : jW} (h : d_X12_isCompared_r125d N = 1) : d_X12_behindSum_r125d_129 N = (2, N) := if_neg (by omega)
theorem bs_c {N : jW} (b : N.1 125 14 = 0) (h : d_X12_isCompared_r125d N = 0) : (∀ w o : Int, (w = 60 ∧ o = 10 ∨ w = 62 ∧ o = 11 ∨ w = 61 ∧ o = 12) → N.1 125 11 = 3 → N.2.1 125 12 = w → d_X12_behindSum_r125d_129 N = (1, mPu (d_X12_settle_r125d 5 (d_X12_next_r125d N)) o 0)) ∧ (¬ (N.1 125 11 = 3 ∧ (N.2.1 125 12 = 60 ∨ N.2.1 125 12 = 62 ∨ N.2.1 125 12 = 61)) → d_X12_behindSum_r125d_129 N = (1, mBad N)) := by
  have g : ∀ o : Int, d_X12_behindSum_r125d_300190 o N = (1, mPu (d_X12_settle_r125d 5 (d_X12_next_r125d N)) o 0) := fun o => if_pos b
  have g2 : ∀ o : Int, d_X12_behindSum_r125d_200190 o N = (1, mBad N) := fun o => if_pos b
  have s : ∀ o : Int, d_X12_behindSum_r125d_168 o N = if o = 12 then (if N.1 125 11 = 3 then (if N.2.1 125 12 = 61 then d_X12_behindSum_r125d_300190 o N else d_X12_behindSum_r125d_200190 o N) else d_X12_behindSum_r125d_200190 o N) else d_X12_behindSum_r125d_300190 o N := fun _ => rfl
  constructor
  · intro w o hw h3 h4
    unfold d_X12_behindSum_r125d_129
    rw [if_pos h, if_pos h3]
    rcases hw with ⟨w1, w2⟩ | ⟨w1, w2⟩ | ⟨w1, w2⟩
    · rw [if_pos (show N.2.1 125 12 = 60 from by omega), s, if_neg (by decide), g, w2]
    · rw [if_neg (show ¬ N.2.1 125 12 = 60 from by omega), if_pos (show N.2.1 125 12 = 62 from by omega), s, if_neg (by decide), g, w2]
    · rw [if_neg (show ¬ N.2.1 125 12 = 60 from by omega), if_neg (show ¬ N.2.1 125 12 = 62 from by omega), s, if_pos rfl, if_pos h3, if_pos (show N.2.1 125 12 = 61 from by omega), g, w2]
  · intro hn
    unfold d_X12_behindSum_r125d_129
    rw [if_pos h]
    by_cases h3 : N.1 125 11 = 3
    · rw [if_pos h3, if_neg (fun z => hn ⟨h3, Or.inl z⟩), if_neg (fun z => hn ⟨h3, Or.inr (Or.inl z)⟩), s, if_pos rfl, if_pos h3, if_neg (fun z => hn ⟨h3, Or.inr (Or.inr z)⟩), g2]
    · rw [if_neg h3, s, if_pos rfl, if_neg h3, g2]
end jG57

section jG58
/-! pure: a PLAIN TEST read by both: its body, its NOTs -/
/-- words of more than one letter -/
theorem wd_2 {X M : jW} (T : pTk X M) (h : M.1 125 11 = 1) (hw : 27 ≤ M.2.1 125 12) : M.1 125 9 + 2 ≤ M.1 125 10 := by
  obtain ⟨Tp, t3, t4, t5, tr, tk⟩ := T
  rcases tk with ⟨a, _⟩ | ⟨a, _⟩ | ⟨_, a2, a3, a4⟩ | ⟨a, _⟩
  · omega
  · omega
  · refine Decidable.byContradiction (fun z => ?_)
    have n1 : (M.1 125 10 - M.1 125 9).toNat = 0 + 1 := by omega
    have l0 := a4 (M.1 125 9).toNat (by omega) (by omega)
    have b := (wrd_b (b := M.1 131) (f := (M.1 125 9).toNat) (0 + 1) (by decide) (fun k hk => by rw [show k = 0 from by omega]; exact l0)).2.2 0 rfl
    have w0 : wrd (M.1 131) (M.1 125 9).toNat 0 = 0 := rfl
    have l1 : (M.1 131) ((M.1 125 9).toNat + 0) ≤ 122 := l0.2
    rw [n1, b, w0] at a3
    omega
  · omega
def yS4 (l : yL) : Prop := ∀ (k : Int) (c : yC), 4 ≤ k → yse k l c = (l, c)
def pBk (Br : jW → Int × jW) (d : Int) : Prop := ∀ (X M : jW) (l : yL) (c : yC) (r : Nat), pA X M l c → M.1 125 56 = d → X.1 95 4 + l.length ≤ 2 * M.1 125 9 → 812 ≤ (r : Int) + 2 * M.1 125 9 → yS4 l → M.1 125 11 = 3 → M.2.1 125 12 = 40 → pTo d 4 l (X.1 97) (X.1 95 4) (X.1 95 5) c (M.1 125 9) ((r : Int) + 2 * M.1 125 9) (Br X) (d_X12_readExpression_r125d_20 r 1 0 M) fun _ => True
theorem btx_n {N : jW} (b : N.1 125 14 = 0) (h : nAo N) {i : Int} (hi : d_X12_inner_r125d N = i) : d_X12_behindTest_r125d N = if i = -1 then (4, N) else if N.1 125 11 = 3 ∧ N.2.1 125 12 = 41 then (2, mCl N 1) else (2, mBad N) := by
  have g : (if N.1 125 14 = 0 then d_X12_behindTest_r125d_108 (vu (vu N 125 14 1) 125 13 (N.1 125 9)) else d_X12_behindTest_r125d_108 N) = (2, mBad N) := if_pos b
  unfold d_X12_behindTest_r125d
  rw [hi, g]
  by_cases c1 : N.1 125 11 = 1
  · obtain ⟨h1, h2⟩ := h c1
    rw [if_pos c1, if_neg h1, if_neg h2, if_neg (show ¬ (N.1 125 11 = 3 ∧ N.2.1 125 12 = 41) from by omega)]
  · rw [if_neg c1, if_neg c1]
    by_cases c3 : N.1 125 11 = 3
    · rw [if_pos c3]
      by_cases c4 : N.2.1 125 12 = 41
      · rw [if_pos c4, if_pos (show N.1 125 11 = 3 ∧ N.2.1 125 12 = 41 from ⟨c3, c4⟩), if_pos b]
        rfl
      · rw [if_neg c4, if_neg (show ¬ (N.1 125 11 = 3 ∧ N.2.1 125 12 = 41) from fun z => c4 z.2)]
    · rw [if_neg c3, if_neg (show ¬ (N.1 125 11 = 3 ∧ N.2.1 125 12 = 41) from fun z => c3 z.1)]
theorem tb_e {T : jW → Int × jW} {d : Int} (h0 : 0 ≤ d ∧ d < 8) (hT : pTz T (d + 1)) : pBk (gTb T) d := by
  intro X M l c r hA hd hb hr h4 hs1 hs2
  have p9 := pA_9 hA
  have bad := hA.2.2.1
  obtain ⟨s, rfl⟩ : ∃ s, r = s + 1 := ⟨r - 1, by omega⟩
  obtain ⟨O1, O2, O3, O4, O5⟩ := op_e (o := 30) hA (by omega) hd
  have rs : d_X12_readPlain_r125d M = (0, mOp M 30) := by
    rw [rl_b bad ⟨hs1, hs2⟩, if_neg (by omega)]
  rw [(yx_s bad).2.2.1, rs]
  show pTo d 4 l (X.1 97) (X.1 95 4) (X.1 95 5) c (M.1 125 9) _ _ (d_X12_readExpression_r125d_20 s 1 0 (mOp M 30)) _
  generalize mOp M 30 = M2 at *
  have z : ((30, (0 : Int)) :: l).length = l.length + 1 := rfl
  have R := hT (d_X9_step_r68d X) M2 ((30, 0) :: l) c s O1 O3 (by rw [O5, z]; omega) (by omega) (fun k e hk => if_neg (by show ¬ k ≤ 0; omega)) (by rw [show yIn ((30, 0) :: l) = 30 from if_pos (by decide)]; decide) ((if_neg (by decide)).trans (if_neg (by decide)))
  unfold gTb
  rcases R with ⟨z0, bd⟩ | ⟨z1, N, s2, k, e, g, R1, R2, R3, R4, R5, R6, R7, R8, R9, R10, R11, R12⟩
  · rw [if_pos z0]
    exact Or.inl ⟨rfl, bd⟩
  rw [if_neg (show ¬ (T (d_X9_step_r68d X)).1 = 0 from by omega), R1]
  generalize (T (d_X9_step_r68d X)).2 = X2 at *
  have pN := pA_9 R3
  have badN := R3.2.2.1
  obtain ⟨s3, rfl⟩ : ∃ s3, s2 = s3 + 1 + 1 := ⟨s2 - 2, by omega⟩
  have inn : d_X12_inner_r125d N = 30 := (in_e pN.2.2.1 R3.2.1).trans (R11.trans (if_pos (by decide)))
  rw [(yx_s badN).2.2.2.1, btx_n badN R12 inn, if_neg (show ¬ (30 : Int) = -1 from by decide), sg_e R3.1]
  have hP := pPc_l R10
  by_cases h41 : N.1 125 11 = 3 ∧ N.2.1 125 12 = 41
  · rw [if_pos h41, if_pos h41, if_neg (show ¬ (1 : Int) = 0 from by decide)]
    obtain ⟨C1, C2, C3, C4, C5⟩ := cl_e R3 ⟨by decide, by decide⟩ (by omega) R4 (by omega) R6 (by omega)
    show pTo d 4 l (X.1 97) (X.1 95 4) (X.1 95 5) c (M.1 125 9) _ _ (d_X12_readExpression_r125d_20 (s3 + 1) 1 2 (mCl N 1)) _
    generalize mCl N 1 = N3 at *
    rw [z] at R7
    rw [O4] at R8
    rw [O5] at R8 R10
    refine Or.inr ⟨rfl, N3, s3 + 1, l, g, g, rfl, by omega, C1, C3, by omega, h4 4 g (by decide), ?_, fun i hi => ?_, R9, ?_, rfl, trivial⟩
    · show (d_X9_step_r68d X2).1 95 4 + (l.length : Int) ≤ _
      rw [C5]; omega
    · show (d_X9_step_r68d X2).1 97 i = _
      rw [C4]; exact R8 i hi
    · show yPc ((d_X9_step_r68d X2).1 97) g (X.1 95 4) ((d_X9_step_r68d X2).1 95 4) ((d_X9_step_r68d X2).1 95 5 - X.1 95 5) c.1 g.1 True
      rw [C4, C5]; exact R10
  · rw [if_neg h41, if_neg h41, if_pos rfl]
    exact Or.inl ⟨rfl, bd_e R3.1⟩
theorem tb_8 : pBk (fun W => (0, vu W 68 2 (W.1 68 3))) 8 := by
  intro X M l c r hA hd hb hr h4 hs1 hs2
  have p9 := pA_9 hA
  have bad := hA.2.2.1
  obtain ⟨s, rfl⟩ : ∃ s, r = s + 1 + 1 := ⟨r - 2, by omega⟩
  have rs : d_X12_readPlain_r125d M = (0, mBad M) := by
    rw [rl_b bad ⟨hs1, hs2⟩, if_pos (by omega)]
  rw [(yx_s bad).2.2.1, rs]
  exact Or.inl ⟨rfl, bd_e hA.1⟩
/-- SUM, comparison, SUM -/
theorem cm_e {S : jW → Int × jW} {d : Int} (hS : pSm S d) {X M : jW} {l : yL} {c : yC} {r : Nat} (hA : pA X M l c) (hd : M.1 125 56 = d) (hb : X.1 95 4 + l.length ≤ 2 * M.1 125 9) (hr : 812 ≤ (r : Int) + 2 * M.1 125 9) (h4 : yS4 l) (hi : yIn l ≠ 31) (hc : yCo l = 0) : pTo d 4 l (X.1 97) (X.1 95 4) (X.1 95 5) c (M.1 125 9) ((r : Int) + 2 * M.1 125 9) (if (S X).1 = 0 then (0, (S X).2) else if d_X9_isSign_r68d 60 (S X).2 = 0 then (if d_X9_isSign_r68d 62 (S X).2 = 0 then (if d_X9_isSign_r68d 61 (S X).2 = 0 then (0, vu (S X).2 68 2 ((S X).2.1 68 3)) else gCm S 9 (S X).2) else gCm S 8 (S X).2) else gCm S 7 (S X).2) (d_X12_readExpression_r125d_20 r 1 1 M) fun _ => True := by
  rcases hS X M l c r 1 hA hd hb hr (fun k e hk => h4 k e (by omega)) with ⟨z0, bd⟩ | ⟨z1, N, s, k, e, g, R1, R2, R3, R4, R5, R6, R7, R8, R9, R10, R11, R12, R13⟩
  · rw [if_pos z0]
    exact Or.inl ⟨rfl, bd⟩
  rw [if_neg (show ¬ (S X).1 = 0 from by omega), R1]
  generalize (S X).2 = X1 at *
  have pN := pA_9 R3
  have badN := R3.2.2.1
  obtain ⟨s1, rfl⟩ : ∃ s1, s = s1 + 1 + 1 := ⟨s - 2, by omega⟩
  have inn : d_X12_inner_r125d N = yIn l := (in_e pN.2.2.1 R3.2.1).trans R11
  have cmp : d_X12_isCompared_r125d N = 0 := (yc_e pN.2.2.1 R3.2.1).trans (R12.trans hc)
  have hP := pPc_l R10
  obtain ⟨bc1, bc2⟩ := bs_c badN cmp
  rw [(yx_s badN).1, bs_n R13, inn, bs_t hi, sg_e R3.1, sg_e R3.1, sg_e R3.1]
  have key : ∀ w o q : Int, (w = 60 ∧ o = 10 ∨ w = 62 ∧ o = 11 ∨ w = 61 ∧ o = 12) → q = o - 3 → N.1 125 11 = 3 → N.2.1 125 12 = w → pTo d 4 l (X.1 97) (X.1 95 4) (X.1 95 5) c (M.1 125 9) ((r : Int) + 2 * M.1 125 9) (gCm S q X1) (d_X12_readExpression_r125d_20 (s1 + 1) 1 (d_X12_behindSum_r125d_129 N).1 (d_X12_behindSum_r125d_129 N).2) fun _ => True := by
    intro w o q hw hq h3 h12
    rw [bc1 w o hw h3 h12]
    obtain ⟨a1, a2, a3, a4, a5, a6, a7⟩ := pA_n R3
    have q9 := pN.2.2.2 (by omega)
    have se := se_y (k := 5) ⟨by decide, by decide⟩ (pA_9 a1).2.2.1 a1.2.1
    have yl := yse_l (k := 5) k e
    rw [R6] at se yl
    have yl2 : g.1 + (l.length : Int) ≤ e.1 + k.length := yl.2
    have se2 : pY (d_X12_settle_r125d 5 (d_X12_next_r125d N)) l g := se
    have zz : ((o, (0 : Int)) :: l).length = l.length + 1 := rfl
    have kb := R3.2.2.2.2.2.1
    have A2 : pA (d_X9_step_r68d X1) (mPu (d_X12_settle_r125d 5 (d_X12_next_r125d N)) o 0) ((o, 0) :: l) g := pA_m a1 (pMt_t pMt_se pMt_pu) (pMo_t pMo_se pMo_pu) (pu_y se2) ⟨by omega, by rw [zz]; omega⟩
    have t9 : (mPu (d_X12_settle_r125d 5 (d_X12_next_r125d N)) o 0).1 125 9 = (d_X12_next_r125d N).1 125 9 := (pMt_t (pMt_se (k := 5)) (pMt_pu (o := o) (a := 0))).2.1
    have t56 : (mPu (d_X12_settle_r125d 5 (d_X12_next_r125d N)) o 0).1 125 56 = d := ((pMo_t (pMo_se (k := 5)) (pMo_pu (o := o) (a := 0))).2.2.1.trans a5).trans R4
    show pTo d 4 l (X.1 97) (X.1 95 4) (X.1 95 5) c (M.1 125 9) ((r : Int) + 2 * M.1 125 9) _ (d_X12_readExpression_r125d_20 (s1 + 1) 1 1 (mPu (d_X12_settle_r125d 5 (d_X12_next_r125d N)) o 0)) _
    generalize mPu (d_X12_settle_r125d 5 (d_X12_next_r125d N)) o 0 = M2 at *
    have oo : 10 ≤ o ∧ o ≤ 12 := by omega
    have pb : pbd o = 4 := by
      unfold pbd
      rw [if_neg (by omega), if_neg (by omega), if_neg (by omega), if_neg (by omega), if_pos (by omega)]
    have R := hS (d_X9_step_r68d X1) M2 ((o, 0) :: l) g (s1 + 1) 1 A2 t56 (by rw [a4, zz]; omega) (by omega) (fun k e hk => if_neg (by show ¬ k ≤ pbd o; omega))
    unfold gCm
    rcases R with ⟨z2, bd⟩ | ⟨z3, N2, s2, k2, e2, g2, Q1, Q2, Q3, Q4, Q5, Q6, Q7, Q8, Q9, Q10, Q11, Q12, Q13⟩
    · rw [if_pos z2]
      exact Or.inl ⟨rfl, bd⟩
    rw [if_neg (show ¬ (S (d_X9_step_r68d X1)).1 = 0 from by omega), Q1]
    generalize (S (d_X9_step_r68d X1)).2 = X2 at *
    have pN2 := pA_9 Q3
    have badN2 := Q3.2.2.1
    obtain ⟨s3, rfl⟩ : ∃ s3, s2 = s3 + 1 := ⟨s2 - 1, by omega⟩
    have inn2 : d_X12_inner_r125d N2 = yIn l := (in_e pN2.2.2.1 Q3.2.1).trans (Q11.trans (if_neg (by show ¬ 30 ≤ o; omega)))
    have cmp2 : d_X12_isCompared_r125d N2 = 1 := (yc_e pN2.2.2.1 Q3.2.1).trans (Q12.trans ((if_neg (by show ¬ (6 ≤ o ∧ o ≤ 9); omega)).trans (if_pos (by show 10 ≤ o ∧ o ≤ 12; omega))))
    rw [(yx_s badN2).1, bs_n Q13, inn2, bs_t hi, bs_1 cmp2]
    show pTo d 4 l (X.1 97) (X.1 95 4) (X.1 95 5) c (M.1 125 9) ((r : Int) + 2 * M.1 125 9) (1, d_X2_emit_r95d q X2) (d_X12_readExpression_r125d_20 s3 1 2 N2) _
    rw [zz] at Q7
    rw [a3] at Q8
    rw [a4] at Q8 Q10
    have hQ := pPc_l Q10
    obtain ⟨e1, e2', e3, e4, e5, e6, e7⟩ := em_e (o := q) (X := X2) ⟨Q3.2.2.2.2.2.2.2, by omega⟩
    have y4 : yse 4 k2 e2 = (l, yE o 0 g2) := by
      rw [← yse_t (show (4 : Int) ≤ 5 from by decide) k2 e2, Q6]
      exact (if_pos (by show 4 ≤ pbd o; omega)).trans ((if_neg (by show ¬ (o = 19 ∨ o = 20); omega)).trans (h4 4 _ (by decide)))
    have P1 : yPc ((d_X2_emit_r95d q X2).1 97) (yE o 0 g2) (X.1 95 4) (X1.1 95 4) (X1.1 95 5 - X.1 95 5) c.1 g.1 False := yPc_c R10 (fun i hi => (e2' i (by omega)).trans (Q8 i hi)) (yUp_t Q9 (yE_u (by omega)) (by omega)) (Int.le_refl _)
    have P2 : yPc ((d_X2_emit_r95d q X2).1 97) (yE o 0 g2) (X1.1 95 4) (X2.1 95 4) (X2.1 95 5 - X1.1 95 5) g.1 g2.1 False := yPc_c Q10 (fun i hi => e2' i hi) (yE_u (by omega)) (Int.le_refl _)
    have op : (yE o 0 g2).2.1 g2.1.toNat = o := sU_e rfl
    have J := pP_b P1 P2 (show 6 ≤ (yE o 0 g2).2.1 g2.1.toNat ∧ (yE o 0 g2).2.1 g2.1.toNat ≤ 12 from by rw [op]; omega) (show _ = (yE o 0 g2).2.1 g2.1.toNat - 3 from by rw [op, e3]; exact hq)
    refine Or.inr ⟨rfl, N2, s3, k2, e2, yE o 0 g2, rfl, by omega, pA_em Q3 (by omega), Q4, by omega, y4, ?_, fun i hi => ?_, ?_, ?_, Q11.trans (if_neg (by show ¬ 30 ≤ o; omega)), trivial⟩
    · show (d_X2_emit_r95d q X2).1 95 4 + (l.length : Int) ≤ _
      omega
    · show (d_X2_emit_r95d q X2).1 97 i = _
      rw [e2' i (by omega), Q8 i (by omega)]
      exact R8 i hi
    · exact yUp_t (yUp_t R9 Q9 (by omega)) (yE_u (by omega)) (by omega)
    · show yPc ((d_X2_emit_r95d q X2).1 97) (yE o 0 g2) (X.1 95 4) ((d_X2_emit_r95d q X2).1 95 4) ((d_X2_emit_r95d q X2).1 95 5 - X.1 95 5) c.1 (g2.1 + 1) True
      rw [e1, e4, show X2.1 95 5 - X.1 95 5 = X1.1 95 5 - X.1 95 5 + (X2.1 95 5 - X1.1 95 5) from by omega]
      exact pP_w (fun _ => (show 10 ≤ (yE o 0 g2).2.1 g2.1.toNat from by rw [op]; omega)) J
  by_cases t60 : N.1 125 11 = 3 ∧ N.2.1 125 12 = 60
  · rw [if_pos t60, if_neg (show ¬ (1 : Int) = 0 from by decide)]
    exact key 60 10 7 (Or.inl ⟨rfl, rfl⟩) (by decide) t60.1 t60.2
  rw [if_neg t60, if_pos rfl]
  by_cases t62 : N.1 125 11 = 3 ∧ N.2.1 125 12 = 62
  · rw [if_pos t62, if_neg (show ¬ (1 : Int) = 0 from by decide)]
    exact key 62 11 8 (Or.inr (Or.inl ⟨rfl, rfl⟩)) (by decide) t62.1 t62.2
  rw [if_neg t62, if_pos rfl]
  by_cases t61 : N.1 125 11 = 3 ∧ N.2.1 125 12 = 61
  · rw [if_pos t61, if_neg (show ¬ (1 : Int) = 0 from by decide)]
    exact key 61 12 9 (Or.inr (Or.inr ⟨rfl, rfl⟩)) (by decide) t61.1 t61.2
  rw [if_neg t61, if_pos rfl, bc2 (by omega)]
  exact Or.inl ⟨rfl, bd_e R3.1⟩
theorem bo_e {S Br : jW → Int × jW} {d : Int} (hS : pSm S d) (hB : pBk Br d) {X M : jW} {l : yL} {c : yC} {r : Nat} (hA : pA X M l c) (hd : M.1 125 56 = d) (hb : X.1 95 4 + l.length ≤ 2 * M.1 125 9) (hr : 812 ≤ (r : Int) + 2 * M.1 125 9) (h4 : yS4 l) (hi : yIn l ≠ 31) (hc : yCo l = 0) (hn : M.1 125 11 = 1 → M.2.1 125 12 ≠ 14836) : pTo d 4 l (X.1 97) (X.1 95 4) (X.1 95 5) c (M.1 125 9) ((r : Int) + 2 * M.1 125 9) (gBo S Br X) (d_X12_readExpression_r125d_20 r 1 0 M) fun _ => True := by
  unfold gBo
  have p9 := pA_9 hA
  have bad := hA.2.2.1
  rw [sg_e hA.1]
  by_cases hs : M.1 125 11 = 3 ∧ M.2.1 125 12 = 40
  · rw [if_pos hs, if_neg (show ¬ (1 : Int) = 0 from by decide)]
    exact hB X M l c r hA hd hb hr h4 hs.1 hs.2
  rw [if_neg hs, if_pos rfl, wo_15 hA.1 hA.2.2.2.2.2.2.1]
  have wr := wIx_r (w := M.2.1 125 12) [14011671716, 136228, 540146, 8892563, 3490341659812] 0 (by decide)
  have wl : ([14011671716, 136228, 540146, 8892563, 3490341659812] : List Int).length = 5 := rfl
  rw [wl] at wr
  by_cases k1 : M.1 125 11 = 1 ∧ wIx (M.2.1 125 12) [14011671716, 136228, 540146, 8892563, 3490341659812] 0 ≠ -1
  · obtain ⟨s, rfl⟩ : ∃ s, r = s + 1 + 1 := ⟨r - 2, by omega⟩
    rw [if_pos k1.1, if_neg k1.2, (yx_s bad).2.2.1, rl_w bad k1.1 (hn k1.1) k1.2]
    generalize wIx (M.2.1 125 12) [14011671716, 136228, 540146, 8892563, 3490341659812] 0 = w at *
    have hw : 0 ≤ w ∧ w < 5 := by omega
    rw [j_ia (by omega) (by omega) (by omega)]
    unfold d_X2_readPart_r95d
    rw [hA.2.2.2.1]
    by_cases h60 : M.1 125 52 < 60
    · rw [if_pos h60, if_neg (by omega)]
      obtain ⟨L1, L2, L3, L4⟩ := lf_e (a1 := 2) (a2 := 5 + w) (o := w + 13) (a := 0) hA (by omega) h60 hb
      obtain ⟨x1, x2, x3, x4, x5, x6, x7, x8⟩ := yp_e (a1 := 2) (a2 := 5 + w) (X := X) ⟨hA.2.2.2.2.2.2.2, by omega⟩
      rw [hA.2.2.2.1] at L1 L4 x1 x2 x3 x4 x5
      show pTo d 4 l (X.1 97) (X.1 95 4) (M.1 125 52) c (M.1 125 9) _ (1, d_X9_step_r68d (d_X2_emit_r95d (5 + w) (d_X2_emit_r95d 2 (vu X 95 5 (M.1 125 52 + 1))))) (d_X12_readExpression_r125d_20 (s + 1) 1 2 (mLf M (w + 13) 0)) _
      generalize d_X9_step_r68d (d_X2_emit_r95d (5 + w) (d_X2_emit_r95d 2 (vu X 95 5 (M.1 125 52 + 1)))) = Y at *
      refine Or.inr ⟨rfl, mLf M (w + 13) 0, s + 1, l, yE (w + 13) 0 c, yE (w + 13) 0 c, rfl, by omega, L1, L3.trans hd, L2, h4 4 _ (by decide), L4, fun i hi => x2 i hi, yE_u hA.2.2.2.2.2.1.1, ?_, rfl, trivial⟩
      show yPc (Y.1 97) (yE (w + 13) 0 c) (X.1 95 4) (Y.1 95 4) (Y.1 95 5 - M.1 125 52) c.1 (c.1 + 1) True
      rw [x1, x5, show M.1 125 52 + 1 - M.1 125 52 = 1 from by omega]
      refine pP_w (fun _ => (show 5 ≤ 5 + w from by omega)) (pP_q hA.2.2.2.2.2.2.2 hA.2.2.2.2.2.1.1 x3 x4 (by omega) ?_)
      rw [if_neg (by omega)]
      exact (sU_e rfl : sU c.2.1 c.1.toNat (w + 13) c.1.toNat = w + 13).trans (by omega)
    · rw [if_neg h60, if_pos (by omega)]
      exact Or.inl ⟨rfl, bd_e hA.1⟩
  · have e : (if M.1 125 11 = 1 then wIx (M.2.1 125 12) [14011671716, 136228, 540146, 8892563, 3490341659812] 0 else -1) = -1 := by
      by_cases c1 : M.1 125 11 = 1
      · rw [if_pos c1]
        exact Decidable.byContradiction (fun z => k1 ⟨c1, z⟩)
      · rw [if_neg c1]
    rw [e, if_pos rfl]
    have t01 : d_X12_readExpression_r125d_20 r 1 0 M = d_X12_readExpression_r125d_20 r 1 1 M := by
      obtain ⟨s, rfl⟩ : ∃ s, r = s + 1 := ⟨r - 1, by omega⟩
      rw [(yx_s bad).2.2.1, (yx_s bad).2.1, ry_s (fun h => ⟨hn h, Decidable.byContradiction (fun z => k1 ⟨h, z⟩)⟩) hs]
    rw [t01]
    exact cm_e hS hA hd hb hr h4 hi hc
/-- NOTs ahead of it -/
def xNt (l2 : Int) (X : jW) : jW := if l2 = 0 then X else d_X2_emit_r95d 10 X
def gN (B : jW → Int × jW) (l2 : Int) (W : jW) : Int × jW := if (B W).1 = 0 then (0, (B W).2) else (1, xNt l2 (B W).2)
def gP4 (B : jW → Int × jW) : Nat → Int → Int → jW → Int × jW
  | 0, _, _, W => (0, W)
  | r + 1, l2, l3, W => if 400 ≤ l3 then gN B l2 W else if d_X9_wordOf_r68_r14d W = 0 then (if l2 = 0 then gP4 B r 1 (l3 + 1) (d_X9_step_r68d W) else gP4 B r 0 (l3 + 1) (d_X9_step_r68d W)) else gN B l2 W
def gPl (B : jW → Int × jW) (W : jW) : Int × jW := gP4 B 401 0 0 W
theorem pl_4 {S Br : jW → Int × jW} {d : Int} (hS : pSm S d) (hB : pBk Br d) {l : yL} {c : yC} (h2 : yS2 l) (hi : yIn l ≠ 31) (hc : yCo l = 0) {cd : Nat → Int} {a lf f B : Int} (hBB : 812 ≤ B) : ∀ (j : Nat) (X M : jW) (n q r : Nat) (l2 l3 : Int), 401 - M.1 125 9 ≤ j → pA X M (yNo l n) c → M.1 125 56 = d → X.1 95 4 + (yNo l n).length ≤ 2 * M.1 125 9 → B ≤ (r : Int) + 2 * M.1 125 9 → (n % 2 = 0 ∧ l2 = 0 ∨ n % 2 = 1 ∧ l2 = 1) → 0 ≤ l3 → 2 * l3 ≤ M.1 125 9 → (q : Int) + l3 = 401 → X.1 97 = cd → X.1 95 4 = a → X.1 95 5 = lf → f ≤ M.1 125 9 → pTo d 3 l cd a lf c f B (gP4 (gBo S Br) q l2 l3 X) (d_X12_readExpression_r125d_20 r 1 0 M) fun _ => True := by
  intro j
  induction j with
  | zero =>
    intro X M n q r l2 l3 hn hA
    have := pA_9 hA
    omega
  | succ j ih =>
    intro X M n q r l2 l3 hn hA hd hb hr hp h3 h3b hq e97 e4 e5 hf
    have p9 := pA_9 hA
    have bad := hA.2.2.1
    obtain ⟨q1, rfl⟩ : ∃ q1, q = q1 + 1 := ⟨q - 1, by omega⟩
    show pTo d 3 l cd a lf c f B (if 400 ≤ l3 then _ else if d_X9_wordOf_r68_r14d X = 0 then (if l2 = 0 then gP4 (gBo S Br) q1 1 (l3 + 1) (d_X9_step_r68d X) else gP4 (gBo S Br) q1 0 (l3 + 1) (d_X9_step_r68d X)) else gN (gBo S Br) l2 X) _ _
    rw [if_neg (show ¬ 400 ≤ l3 from by omega), wo_14 hA.1 hA.2.2.2.2.2.2.1]
    have nl := yno_i (l := l) n
    by_cases k1 : M.1 125 11 = 1 ∧ M.2.1 125 12 = 14836
    · have e : (if M.1 125 11 = 1 then wIx (M.2.1 125 12) [14836] 0 else -1) = 0 := by
        rw [if_pos k1.1]
        exact if_pos k1.2
      rw [if_pos e]
      obtain ⟨s, rfl⟩ : ∃ s, r = s + 1 := ⟨r - 1, by omega⟩
      rw [(yx_s bad).2.2.1, rl_n k1.1 k1.2]
      have q9 := wd_2 hA.1 k1.1 (by omega)
      have kb := hA.2.2.2.2.2.1
      have n2 := yno_i (l := l) (n + 1)
      obtain ⟨a1, a2, a3, a4, a5⟩ := pA_mn hA (pMt_pu (o := 18) (a := 0)) (pMo_pu (o := 18) (a := 0)) (l2 := yNo l (n + 1)) (pu_y hA.2.1) ⟨kb.1, by omega⟩
      show pTo d 3 l cd a lf c f B _ (d_X12_readExpression_r125d_20 s 1 0 (d_X12_next_r125d (mPu M 18 0))) _
      generalize d_X12_next_r125d (mPu M 18 0) = M2 at *
      have go : ∀ v : Int, ((n + 1) % 2 = 0 ∧ v = 0 ∨ (n + 1) % 2 = 1 ∧ v = 1) → pTo d 3 l cd a lf c f B (gP4 (gBo S Br) q1 v (l3 + 1) (d_X9_step_r68d X)) (d_X12_readExpression_r125d_20 s 1 0 M2) fun _ => True := fun v hv => ih (d_X9_step_r68d X) M2 (n + 1) q1 s v (l3 + 1) (by omega) a1 (a5.trans hd) (by rw [a4]; omega) (by omega) hv (by omega) (by omega) (by omega) (a3.trans e97) (by rw [a4]; exact e4) (by rw [a4]; exact e5) (by omega)
      by_cases c2 : l2 = 0
      · rw [if_pos c2]; exact go 1 (by omega)
      · rw [if_neg c2]; exact go 0 (by omega)
    · have e : ¬ (if M.1 125 11 = 1 then wIx (M.2.1 125 12) [14836] 0 else -1) = 0 := by
        by_cases c1 : M.1 125 11 = 1
        · rw [if_pos c1]
          have : wIx (M.2.1 125 12) [14836] 0 = -1 := if_neg (fun z => k1 ⟨c1, z⟩)
          rw [this]; decide
        · rw [if_neg c1]; decide
      rw [if_neg e]
      unfold gN
      have R := bo_e hS hB hA hd hb (by omega) (r := r) (fun k c hk => yno_4 h2 hk n c) (by rw [nl.1]; exact hi) (nl.2.1 hc) (fun h => fun z => k1 ⟨h, z⟩)
      rcases R with ⟨z0, bd⟩ | ⟨z1, N, s, k, e, g, R1, R2, R3, R4, R5, R6, R7, R8, R9, R10, R11, R12⟩
      · rw [if_pos z0]
        exact Or.inl ⟨rfl, bd⟩
      rw [if_neg (show ¬ (gBo S Br X).1 = 0 from by omega), R1]
      generalize (gBo S Br X).2 = X1 at *
      have y3 : yse 3 k e = (l, yEn g n) := by
        rw [← yse_t (show (3 : Int) ≤ 4 from by decide) k e, R6]
        exact yno_3 h2 n g
      have hP := pPc_l R10
      have e1 := yEn_1 (c := g) n
      have pN := pA_9 R3
      have hx : 0 ≤ X1.1 95 4 ∧ X1.1 95 4 < 1200 := ⟨R3.2.2.2.2.2.2.2, by omega⟩
      rw [e97] at R8
      rw [e4] at R8 R10
      rw [e5] at R10
      have upn : yUp c.1 c (yEn g n) := yUp_t R9 (yEn_u (by omega) n) (by omega)
      rcases hp with ⟨p1, p2⟩ | ⟨p1, p2⟩
      · have xe : xNt l2 X1 = X1 := if_pos p2
        rw [xe]
        exact Or.inr ⟨rfl, N, s, k, e, yEn g n, rfl, by omega, R3, R4, by omega, y3, by show X1.1 95 4 + (l.length : Int) ≤ _; omega, R8, upn, (no_p n (by omega) R10).1 p1, R11.trans nl.1, trivial⟩
      · have xe : xNt l2 X1 = d_X2_emit_r95d 10 X1 := if_neg (by omega)
        rw [xe]
        obtain ⟨f1, f2, f3, f4, f5, f6, f7⟩ := em_e (o := 10) hx
        have Q : yPc ((d_X2_emit_r95d 10 X1).1 97) g a (X1.1 95 4) (X1.1 95 5 - lf) c.1 g.1 True := yPc_c R10 (fun i hi => f2 i hi) (yUp_r (k := g.1)) (Int.le_refl _)
        refine Or.inr ⟨rfl, N, s, k, e, yEn g n, rfl, by omega, pA_em R3 hx.2, R4, by omega, y3, ?_, fun i hi => (f2 i (by omega)).trans (R8 i hi), upn, ?_, R11.trans nl.1, trivial⟩
        · show (d_X2_emit_r95d 10 X1).1 95 4 + (l.length : Int) ≤ _
          omega
        · show yPc ((d_X2_emit_r95d 10 X1).1 97) (yEn g n) a ((d_X2_emit_r95d 10 X1).1 95 4) ((d_X2_emit_r95d 10 X1).1 95 5 - lf) c.1 (yEn g n).1 True
          rw [f1, f4]
          exact (no_p n (by omega) Q).2 p1 f3
theorem pl_e {S Br : jW → Int × jW} {d : Int} (hS : pSm S d) (hB : pBk Br d) : pPl (gPl (gBo S Br)) d := by
  intro X M l c r hA hd hb hr h2 hi hc
  have p9 := pA_9 hA
  exact pl_4 hS hB h2 hi hc hr 401 X M 0 401 r 0 0 (by omega) hA hd hb (Int.le_refl _) (Or.inl ⟨rfl, rfl⟩) (by decide) (by omega) (by decide) rfl rfl rfl (Int.le_refl _)
end jG58
