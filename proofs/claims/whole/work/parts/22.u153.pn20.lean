/-! pure: a step of the law (wip/gen/stp.py prints it): the class's call, then the reference's, on one view -/
section
variable {v : Int} {X Y M N W W1 W2 : jW}
theorem pR_v {u : Int} (H : pR v X M) (h : v ≤ u) : pR u X M := by
  obtain ⟨E, t, w, wm, S, H⟩ := H
  exact ⟨E, t, w, wm, S, ra_v H h⟩
theorem pR_m (H : pR v X M) (e : ∀ c : Nat, 125 ≤ c → c ≤ 173 → N.1 c = M.1 c ∧ N.2.1 c = M.2.1 c) : pR v X N := by
  obtain ⟨E, t, w, wm, S, H⟩ := H
  exact ⟨E, t, w, wm, S, ra_q H pQ0_r qk_r H.2.1 ⟨fun c hc => (e c (by omega) (by omega)).1, fun k _ => by rw [(e 125 (by decide) (by decide)).1], fun c k hc => by rw [(e c (by omega) (by omega)).2]⟩⟩
theorem pR_x (H : pR v X M) (e : ∀ c : Nat, c ≤ 124 ∨ 174 ≤ c → Y.1 c = X.1 c ∧ Y.2.1 c = X.2.1 c ∧ Y.2.2.1 c = X.2.2.1 c) (e4 : Y.2.2.2 = X.2.2.2) : pR v Y M := by
  obtain ⟨E, t, w, wm, S, B, K, st, kv⟩ := H
  have T := B.2.2.2.2.2.2.2.2.2.2.1
  have c : ∀ b : Nat, b ≤ 124 ∨ 174 ≤ b → Y.1 b = X.1 b := fun b hb => (e b hb).1
  refine ⟨E, t, w, wm, S, rb_f B (fun b hb => c b (by unfold xG at hb; omega)) (by rw [c 32 (by decide)]) (by rw [c 32 (by decide)]; exact B.1.2.2.2.2.2.2.2.2) (fun k _ => by rw [c 78 (by decide)]) (by rw [c 87 (by decide)]) (fun b hb => (e b (by omega)).2.1) (fun b hb => (e b (by omega)).2.2) e4 B.2.1 rfl rfl rfl rfl rfl ⟨tp_c (by rw [c 68 (by decide)]) (c 69 (by decide)) rfl rfl T.1, by rw [c 68 (by decide)]; exact T.2⟩, pCk_f (fun b hb => c b (by omega)) K, by rw [c 31 (by decide)]; exact st, by rw [c 32 (by decide)]; exact kv.1, fun z hz => ?_⟩
  have := kyl_c hz
  rw [c 32 (by decide), c z.1 (by omega)]
  exact kv.2 z hz
def lxl (l : List (Nat × Nat)) : Bool := l.all fun q => Nat.ble q.1 124
def lml (l : List (Nat × Nat)) : Bool := l.all fun q => Nat.ble 125 q.1 && Nat.ble q.1 173
theorem lxl_n {l : List (Nat × Nat)} (a : lxl l = true) {b k : Nat} (h : 125 ≤ b) : pc l b k = false := by
  cases e : pc l b k with
  | false => rfl
  | true =>
    exfalso
    unfold pc at e
    rw [List.any_eq_true] at e
    obtain ⟨q, q1, q2⟩ := e
    rw [Bool.and_eq_true] at q2
    have z := Nat.eq_of_beq_eq_true q2.1
    unfold lxl at a
    rw [List.all_eq_true] at a
    have y := Nat.le_of_ble_eq_true (a q q1)
    omega
theorem lml_n {l : List (Nat × Nat)} (a : lml l = true) {b k : Nat} (h : b ≤ 124 ∨ 174 ≤ b) : pc l b k = false := by
  cases e : pc l b k with
  | false => rfl
  | true =>
    exfalso
    unfold pc at e
    rw [List.any_eq_true] at e
    obtain ⟨q, q1, q2⟩ := e
    rw [Bool.and_eq_true] at q2
    have z := Nat.eq_of_beq_eq_true q2.1
    unfold lml at a
    rw [List.all_eq_true] at a
    have y := a q q1
    rw [Bool.and_eq_true] at y
    have y1 := Nat.le_of_ble_eq_true y.1
    have y2 := Nat.le_of_ble_eq_true y.2
    omega
theorem pR_cl {l : List (Nat × Nat)} (H : pR v W W) (F : pF l W W1) (a : lxl l = true) : pR v W W1 := pR_m H (fun c h1 _ => ⟨funext fun k => F.1 c k (lxl_n a h1), funext fun k => F.2.1 c k (lxl_n a h1)⟩)
theorem pR_rf {l : List (Nat × Nat)} (H : pR v W1 W2) (F : pF l W1 W2) (a : lml l = true) : pR v W2 W2 := pR_x H (fun c h => ⟨funext fun k => F.1 c k (lml_n a h), funext fun k => F.2.1 c k (lml_n a h), funext fun k => F.2.2.1 c k (lml_n a h)⟩) F.2.2.2
theorem g_soul (a kn : Int) (H : pR v W W) : (d_X11_soul_r31d a kn W).1 = (d_X12_soul_r125d a kn (d_X11_soul_r31d a kn W).2).1 ∧ pR (v + 1) (d_X12_soul_r125d a kn (d_X11_soul_r31d a kn W).2).2 (d_X12_soul_r125d a kn (d_X11_soul_r31d a kn W).2).2 := by
  have q := q_soul (a := a) (kn := kn) (pR_cl H (fr_d_X11_soul_r31d a kn W) rfl)
  exact ⟨q.1, pR_v (pR_rf q.2 (fr_d_X12_soul_r125d a kn _) rfl) (by omega)⟩
theorem g_waits (kn i : Int) (H : pR v W W) : (d_X11_waits_r31d kn i W).1 = (d_X12_waits_r125d kn i (d_X11_waits_r31d kn i W).2).1 ∧ pR (v + 1) (d_X12_waits_r125d kn i (d_X11_waits_r31d kn i W).2).2 (d_X12_waits_r125d kn i (d_X11_waits_r31d kn i W).2).2 := by
  have q := q_waits (kn := kn) (i := i) (pR_cl H (fr_d_X11_waits_r31d kn i W) rfl)
  exact ⟨q.1, pR_v (pR_rf q.2 (fr_d_X12_waits_r125d kn i _) rfl) (by omega)⟩
theorem g_span (a kn k : Int) (H : pR v W W) : (d_X11_span_r31d a kn k W).1 = (d_X12_span_r125d a kn k (d_X11_span_r31d a kn k W).2).1 ∧ pR (v + 1) (d_X12_span_r125d a kn k (d_X11_span_r31d a kn k W).2).2 (d_X12_span_r125d a kn k (d_X11_span_r31d a kn k W).2).2 := by
  have q := q_span (a := a) (kn := kn) (k := k) (pR_cl H (fr_d_X11_span_r31d a kn k W) rfl)
  exact ⟨q.1, pR_v (pR_rf q.2 (fr_d_X12_span_r125d a kn k _) rfl) (by omega)⟩
theorem g_mentions (a kn k i : Int) (H : pR v W W) : (d_X11_mentions_r31d a kn k i W).1 = (d_X12_mentions_r125d a kn k i (d_X11_mentions_r31d a kn k i W).2).1 ∧ pR (v + 1) (d_X12_mentions_r125d a kn k i (d_X11_mentions_r31d a kn k i W).2).2 (d_X12_mentions_r125d a kn k i (d_X11_mentions_r31d a kn k i W).2).2 := by
  have q := q_mentions (a := a) (kn := kn) (k := k) (i := i) (pR_cl H (fr_d_X11_mentions_r31d a kn k i W) rfl)
  exact ⟨q.1, pR_v (pR_rf q.2 (fr_d_X12_mentions_r125d a kn k i _) rfl) (by omega)⟩
theorem g_kin (a kn k i : Int) (H : pR v W W) : (d_X11_kin_r31d a kn k i W).1 = (d_X12_kin_r125d a kn k i (d_X11_kin_r31d a kn k i W).2).1 ∧ pR (v + 1) (d_X12_kin_r125d a kn k i (d_X11_kin_r31d a kn k i W).2).2 (d_X12_kin_r125d a kn k i (d_X11_kin_r31d a kn k i W).2).2 := by
  have q := q_kin (a := a) (kn := kn) (k := k) (i := i) (pR_cl H (fr_d_X11_kin_r31d a kn k i W) rfl)
  exact ⟨q.1, pR_v (pR_rf q.2 (fr_d_X12_kin_r125d a kn k i _) rfl) (by omega)⟩
theorem g_about (a d kn k : Int) (H : pR v W W) : (d_X11_about_r31d a d kn k W).1 = (d_X12_about_r125d a d kn k (d_X11_about_r31d a d kn k W).2).1 ∧ pR (v + 1) (d_X12_about_r125d a d kn k (d_X11_about_r31d a d kn k W).2).2 (d_X12_about_r125d a d kn k (d_X11_about_r31d a d kn k W).2).2 := by
  have q := q_about (a := a) (d := d) (kn := kn) (k := k) (pR_cl H (fr_d_X11_about_r31d a d kn k W) rfl)
  exact ⟨q.1, pR_v (pR_rf q.2 (fr_d_X12_about_r125d a d kn k _) rfl) (by omega)⟩
theorem g_holds (x1 c a d kn : Int) (H : pR v W W) : (d_X11_holds_r31d x1 c a d kn W).1 = (d_X12_holds_r125d x1 c a d kn (d_X11_holds_r31d x1 c a d kn W).2).1 ∧ pR (v + 1) (d_X12_holds_r125d x1 c a d kn (d_X11_holds_r31d x1 c a d kn W).2).2 (d_X12_holds_r125d x1 c a d kn (d_X11_holds_r31d x1 c a d kn W).2).2 := by
  have q := q_holds (x1 := x1) (c := c) (a := a) (d := d) (kn := kn) (pR_cl H (fr_d_X11_holds_r31d x1 c a d kn W) rfl)
  exact ⟨q.1, pR_v (pR_rf q.2 (fr_d_X12_holds_r125d x1 c a d kn _) rfl) (by omega)⟩
theorem g_badge (a d kn : Int) (H : pR v W W) : (d_X11_badge_r31d a d kn W).1 = (d_X12_badge_r125d a d kn (d_X11_badge_r31d a d kn W).2).1 ∧ pR (v + 1) (d_X12_badge_r125d a d kn (d_X11_badge_r31d a d kn W).2).2 (d_X12_badge_r125d a d kn (d_X11_badge_r31d a d kn W).2).2 := by
  have q := q_badge (a := a) (d := d) (kn := kn) (pR_cl H (fr_d_X11_badge_r31d a d kn W) rfl)
  exact ⟨q.1, pR_v (pR_rf q.2 (fr_d_X12_badge_r125d a d kn _) rfl) (by omega)⟩
theorem g_force (x1 c d kn : Int) (H : pR v W W) : (d_X11_force_r31d x1 c d kn W).1 = (d_X12_force_r125d x1 c d kn (d_X11_force_r31d x1 c d kn W).2).1 ∧ pR (v + 1) (d_X12_force_r125d x1 c d kn (d_X11_force_r31d x1 c d kn W).2).2 (d_X12_force_r125d x1 c d kn (d_X11_force_r31d x1 c d kn W).2).2 := by
  have q := q_force (x1 := x1) (c := c) (d := d) (kn := kn) (pR_cl H (fr_d_X11_force_r31d x1 c d kn W) rfl)
  exact ⟨q.1, pR_v (pR_rf q.2 (fr_d_X12_force_r125d x1 c d kn _) rfl) (by omega)⟩
theorem g_house (h d kn k : Int) (H : pR v W W) : (d_X11_house_r31d h d kn k W).1 = (d_X12_house_r125d h d kn k (d_X11_house_r31d h d kn k W).2).1 ∧ pR (v + 1) (d_X12_house_r125d h d kn k (d_X11_house_r31d h d kn k W).2).2 (d_X12_house_r125d h d kn k (d_X11_house_r31d h d kn k W).2).2 := by
  have q := q_house (h := h) (d := d) (kn := kn) (k := k) (pR_cl H (fr_d_X11_house_r31d h d kn k W) rfl)
  exact ⟨q.1, pR_v (pR_rf q.2 (fr_d_X12_house_r125d h d kn k _) rfl) (by omega)⟩
theorem g_seat (d kn i : Int) (H : pR v W W) : (d_X11_seat_r31d d kn i W).1 = (d_X12_seat_r125d d kn i (d_X11_seat_r31d d kn i W).2).1 ∧ pR (v + 1) (d_X12_seat_r125d d kn i (d_X11_seat_r31d d kn i W).2).2 (d_X12_seat_r125d d kn i (d_X11_seat_r31d d kn i W).2).2 := by
  have q := q_seat (d := d) (kn := kn) (i := i) (pR_cl H (fr_d_X11_seat_r31d d kn i W) rfl)
  exact ⟨q.1, pR_v (pR_rf q.2 (fr_d_X12_seat_r125d d kn i _) rfl) (by omega)⟩
theorem g_turn (o y kn k : Int) (H : pR v W W) : (d_X11_turn_r31d o y kn k W).1 = (d_X12_turn_r125d o y kn k (d_X11_turn_r31d o y kn k W).2).1 ∧ pR (v + 1) (d_X12_turn_r125d o y kn k (d_X11_turn_r31d o y kn k W).2).2 (d_X12_turn_r125d o y kn k (d_X11_turn_r31d o y kn k W).2).2 := by
  have q := q_turn (o := o) (y := y) (kn := kn) (k := k) (pR_cl H (fr_d_X11_turn_r31d o y kn k W) rfl)
  exact ⟨q.1, pR_v (pR_rf q.2 (fr_d_X12_turn_r125d o y kn k _) rfl) (by omega)⟩
theorem g_fill (b a c kn k : Int) (H : pR v W W) : (d_X11_fill_r31d b a c kn k W).1 = (d_X12_fill_r125d b a c kn k (d_X11_fill_r31d b a c kn k W).2).1 ∧ pR (v + 1) (d_X12_fill_r125d b a c kn k (d_X11_fill_r31d b a c kn k W).2).2 (d_X12_fill_r125d b a c kn k (d_X11_fill_r31d b a c kn k W).2).2 := by
  have q := q_fill (b := b) (a := a) (c := c) (kn := kn) (k := k) (pR_cl H (fr_d_X11_fill_r31d b a c kn k W) rfl)
  exact ⟨q.1, pR_v (pR_rf q.2 (fr_d_X12_fill_r125d b a c kn k _) rfl) (by omega)⟩
theorem g_best (k n : Int) (H : pR v W W) : (d_X11_best_r31d k n W).1 = (d_X12_best_r125d k n (d_X11_best_r31d k n W).2).1 ∧ pR (v + 1) (d_X12_best_r125d k n (d_X11_best_r31d k n W).2).2 (d_X12_best_r125d k n (d_X11_best_r31d k n W).2).2 := by
  have q := q_best (k := k) (n := n) (pR_cl H (fr_d_X11_best_r31d k n W) rfl)
  exact ⟨q.1, pR_v (pR_rf q.2 (fr_d_X12_best_r125d k n _) rfl) (by omega)⟩
theorem g_group (i : Int) (H : pR v W W) : (d_X11_group_r31d i W).1 = (d_X12_group_r125d i (d_X11_group_r31d i W).2).1 ∧ pR (v + 1) (d_X12_group_r125d i (d_X11_group_r31d i W).2).2 (d_X12_group_r125d i (d_X11_group_r31d i W).2).2 := by
  have q := q_group (i := i) (pR_cl H (fr_d_X11_group_r31d i W) rfl)
  exact ⟨q.1, pR_v (pR_rf q.2 (fr_d_X12_group_r125d i _) rfl) (by omega)⟩
theorem g_belong (a d kn k : Int) (H : pR v W W) : (d_X11_belong_r31d a d kn k W).1 = (d_X12_belong_r125d a d kn k (d_X11_belong_r31d a d kn k W).2).1 ∧ pR (v + 1) (d_X12_belong_r125d a d kn k (d_X11_belong_r31d a d kn k W).2).2 (d_X12_belong_r125d a d kn k (d_X11_belong_r31d a d kn k W).2).2 := by
  have q := q_belong (a := a) (d := d) (kn := kn) (k := k) (pR_cl H (fr_d_X11_belong_r31d a d kn k W) rfl)
  exact ⟨q.1, pR_v (pR_rf q.2 (fr_d_X12_belong_r125d a d kn k _) rfl) (by omega)⟩
theorem g_beyond (l kn : Int) (H : pR v W W) : (d_X11_beyond_r31d l kn W).1 = (d_X12_beyond_r125d l kn (d_X11_beyond_r31d l kn W).2).1 ∧ pR (v + 1) (d_X12_beyond_r125d l kn (d_X11_beyond_r31d l kn W).2).2 (d_X12_beyond_r125d l kn (d_X11_beyond_r31d l kn W).2).2 := by
  have q := q_beyond (l := l) (kn := kn) (pR_cl H (fr_d_X11_beyond_r31d l kn W) rfl)
  exact ⟨q.1, pR_v (pR_rf q.2 (fr_d_X12_beyond_r125d l kn _) rfl) (by omega)⟩
theorem g_fee (l kn : Int) (H : pR v W W) : (d_X11_fee_r31d l kn W).1 = (d_X12_fee_r125d l kn (d_X11_fee_r31d l kn W).2).1 ∧ pR (v + 1) (d_X12_fee_r125d l kn (d_X11_fee_r31d l kn W).2).2 (d_X12_fee_r125d l kn (d_X11_fee_r31d l kn W).2).2 := by
  have q := q_fee (l := l) (kn := kn) (pR_cl H (fr_d_X11_fee_r31d l kn W) rfl)
  exact ⟨q.1, pR_v (pR_rf q.2 (fr_d_X12_fee_r125d l kn _) rfl) (by omega)⟩
theorem g_counts (k a d kn m1 : Int) (H : pR v W W) : (d_X11_counts_r31d k a d kn m1 W).1 = (d_X12_counts_r125d k a d kn m1 (d_X11_counts_r31d k a d kn m1 W).2).1 ∧ pR (v + 1) (d_X12_counts_r125d k a d kn m1 (d_X11_counts_r31d k a d kn m1 W).2).2 (d_X12_counts_r125d k a d kn m1 (d_X11_counts_r31d k a d kn m1 W).2).2 := by
  have q := q_counts (k := k) (a := a) (d := d) (kn := kn) (m1 := m1) (pR_cl H (fr_d_X11_counts_r31d k a d kn m1 W) rfl)
  exact ⟨q.1, pR_v (pR_rf q.2 (fr_d_X12_counts_r125d k a d kn m1 _) rfl) (by omega)⟩
theorem g_order (l kn k : Int) (H : pR v W W) : (d_X11_order_r31d l kn k W).1 = (d_X12_order_r125d l kn k (d_X11_order_r31d l kn k W).2).1 ∧ pR (v + 1) (d_X12_order_r125d l kn k (d_X11_order_r31d l kn k W).2).2 (d_X12_order_r125d l kn k (d_X11_order_r31d l kn k W).2).2 := by
  have q := q_order (l := l) (kn := kn) (k := k) (pR_cl H (fr_d_X11_order_r31d l kn k W) rfl)
  exact ⟨q.1, pR_v (pR_rf q.2 (fr_d_X12_order_r125d l kn k _) rfl) (by omega)⟩
theorem g_owe (l h kn : Int) (H : pR v W W) : (d_X11_owe_r31d l h kn W).1 = (d_X12_owe_r125d l h kn (d_X11_owe_r31d l h kn W).2).1 ∧ pR (v + 1) (d_X12_owe_r125d l h kn (d_X11_owe_r31d l h kn W).2).2 (d_X12_owe_r125d l h kn (d_X11_owe_r31d l h kn W).2).2 := by
  have q := q_owe (l := l) (h := h) (kn := kn) (pR_cl H (fr_d_X11_owe_r31d l h kn W) rfl)
  exact ⟨q.1, pR_v (pR_rf q.2 (fr_d_X12_owe_r125d l h kn _) rfl) (by omega)⟩
theorem g_arrear (l h d kn : Int) (H : pR v W W) : (d_X11_arrear_r31d l h d kn W).1 = (d_X12_arrear_r125d l h d kn (d_X11_arrear_r31d l h d kn W).2).1 ∧ pR (v + 1) (d_X12_arrear_r125d l h d kn (d_X11_arrear_r31d l h d kn W).2).2 (d_X12_arrear_r125d l h d kn (d_X11_arrear_r31d l h d kn W).2).2 := by
  have q := q_arrear (l := l) (h := h) (d := d) (kn := kn) (pR_cl H (fr_d_X11_arrear_r31d l h d kn W) rfl)
  exact ⟨q.1, pR_v (pR_rf q.2 (fr_d_X12_arrear_r125d l h d kn _) rfl) (by omega)⟩
theorem g_found (a : Int) (H : pR v W W) : (d_X11_found_r31d a W).1 = (d_X12_found_r125d a (d_X11_found_r31d a W).2).1 ∧ pR (v + 1) (d_X12_found_r125d a (d_X11_found_r31d a W).2).2 (d_X12_found_r125d a (d_X11_found_r31d a W).2).2 := by
  have q := q_found (a := a) (pR_cl H (fr_d_X11_found_r31d a W) rfl)
  exact ⟨q.1, pR_v (pR_rf q.2 (fr_d_X12_found_r125d a _) rfl) (by omega)⟩
theorem g_feed (a1 a2 a3 a4 a5 : Int) (H : pR v W W) : (d_X11_feed_r31d a1 a2 a3 a4 a5 W).1 = (d_X12_feed_r125d a1 a2 a3 a4 a5 (d_X11_feed_r31d a1 a2 a3 a4 a5 W).2).1 ∧ pR (v + 1) (d_X12_feed_r125d a1 a2 a3 a4 a5 (d_X11_feed_r31d a1 a2 a3 a4 a5 W).2).2 (d_X12_feed_r125d a1 a2 a3 a4 a5 (d_X11_feed_r31d a1 a2 a3 a4 a5 W).2).2 := by
  have q := q_feed (a1 := a1) (a2 := a2) (a3 := a3) (a4 := a4) (a5 := a5) (pR_cl H (fr_d_X11_feed_r31d a1 a2 a3 a4 a5 W) rfl)
  exact ⟨q.1, pR_v (pR_rf q.2 (fr_d_X12_feed_r125d a1 a2 a3 a4 a5 _) rfl) (by omega)⟩
theorem g_end (a1 : Int) (H : pR v W W) : (d_X11_end_r31d a1 W).1 = (d_X12_end_r125d a1 (d_X11_end_r31d a1 W).2).1 ∧ pR (v + 1) (d_X12_end_r125d a1 (d_X11_end_r31d a1 W).2).2 (d_X12_end_r125d a1 (d_X11_end_r31d a1 W).2).2 := by
  have q := q_end (a1 := a1) (pR_cl H (fr_d_X11_end_r31d a1 W) rfl)
  exact ⟨q.1, pR_v (pR_rf q.2 (fr_d_X12_end_r125d a1 _) rfl) (by omega)⟩
theorem g_clear (H : pR v W W) : (d_X11_clear_r31d W).1 = (d_X12_clear_r125d (d_X11_clear_r31d W).2).1 ∧ pR (v + 1) (d_X12_clear_r125d (d_X11_clear_r31d W).2).2 (d_X12_clear_r125d (d_X11_clear_r31d W).2).2 := by
  have q := q_clear (pR_cl H (fr_d_X11_clear_r31d W) rfl)
  exact ⟨q.1, pR_v (pR_rf q.2 (fr_d_X12_clear_r125d _) rfl) (by omega)⟩
theorem g_torn (a1 a2 a3 a4 : Int) (H : pR v W W) (hv : v < 2147483646) : (d_X11_torn_r31d a1 a2 a3 a4 W).1 = (d_X12_torn_r125d a1 a2 a3 a4 (d_X11_torn_r31d a1 a2 a3 a4 W).2).1 ∧ pR (v + 1) (d_X12_torn_r125d a1 a2 a3 a4 (d_X11_torn_r31d a1 a2 a3 a4 W).2).2 (d_X12_torn_r125d a1 a2 a3 a4 (d_X11_torn_r31d a1 a2 a3 a4 W).2).2 := by
  have q := q_torn (a1 := a1) (a2 := a2) (a3 := a3) (a4 := a4) (pR_cl H (fr_d_X11_torn_r31d a1 a2 a3 a4 W) rfl) hv
  exact ⟨q.1, pR_rf q.2 (fr_d_X12_torn_r125d a1 a2 a3 a4 _) rfl⟩
theorem g_levy (a1 a2 a3 a4 : Int) (H : pR v W W) (hv : v < 2147483646) : (d_X11_levy_r31d a1 a2 a3 a4 W).1 = (d_X12_levy_r125d a1 a2 a3 a4 (d_X11_levy_r31d a1 a2 a3 a4 W).2).1 ∧ pR (v + 1) (d_X12_levy_r125d a1 a2 a3 a4 (d_X11_levy_r31d a1 a2 a3 a4 W).2).2 (d_X12_levy_r125d a1 a2 a3 a4 (d_X11_levy_r31d a1 a2 a3 a4 W).2).2 := by
  have q := q_levy (a1 := a1) (a2 := a2) (a3 := a3) (a4 := a4) (pR_cl H (fr_d_X11_levy_r31d a1 a2 a3 a4 W) rfl) hv
  exact ⟨q.1, pR_rf q.2 (fr_d_X12_levy_r125d a1 a2 a3 a4 _) rfl⟩
theorem g_entry (a1 a2 a3 a4 : Int) (H : pR v W W) (hv : v < 2147483646) : (d_X11_entry_r31d a1 a2 a3 a4 W).1 = (d_X12_entry_r125d a1 a2 a3 a4 (d_X11_entry_r31d a1 a2 a3 a4 W).2).1 ∧ pR (v + 1) (d_X12_entry_r125d a1 a2 a3 a4 (d_X11_entry_r31d a1 a2 a3 a4 W).2).2 (d_X12_entry_r125d a1 a2 a3 a4 (d_X11_entry_r31d a1 a2 a3 a4 W).2).2 := by
  have q := q_entry (a1 := a1) (a2 := a2) (a3 := a3) (a4 := a4) (pR_cl H (fr_d_X11_entry_r31d a1 a2 a3 a4 W) rfl) hv
  exact ⟨q.1, pR_rf q.2 (fr_d_X12_entry_r125d a1 a2 a3 a4 _) rfl⟩
theorem g_price (a1 a2 a3 a4 : Int) (H : pR v W W) (hv : v < 2147483646) : (d_X11_price_r31d a1 a2 a3 a4 W).1 = (d_X12_price_r125d a1 a2 a3 a4 (d_X11_price_r31d a1 a2 a3 a4 W).2).1 ∧ pR (v + 1) (d_X12_price_r125d a1 a2 a3 a4 (d_X11_price_r31d a1 a2 a3 a4 W).2).2 (d_X12_price_r125d a1 a2 a3 a4 (d_X11_price_r31d a1 a2 a3 a4 W).2).2 := by
  have q := q_price (a1 := a1) (a2 := a2) (a3 := a3) (a4 := a4) (pR_cl H (fr_d_X11_price_r31d a1 a2 a3 a4 W) rfl) hv
  exact ⟨q.1, pR_rf q.2 (fr_d_X12_price_r125d a1 a2 a3 a4 _) rfl⟩
theorem g_pay (a1 a2 a3 a4 a5 : Int) (H : pR v W W) (hv : v < 2147483646) : (d_X11_pay_r31d a1 a2 a3 a4 a5 W).1 = (d_X12_pay_r125d a1 a2 a3 a4 a5 (d_X11_pay_r31d a1 a2 a3 a4 a5 W).2).1 ∧ pR (v + 1) (d_X12_pay_r125d a1 a2 a3 a4 a5 (d_X11_pay_r31d a1 a2 a3 a4 a5 W).2).2 (d_X12_pay_r125d a1 a2 a3 a4 a5 (d_X11_pay_r31d a1 a2 a3 a4 a5 W).2).2 := by
  have q := q_pay (a1 := a1) (a2 := a2) (a3 := a3) (a4 := a4) (a5 := a5) (pR_cl H (fr_d_X11_pay_r31d a1 a2 a3 a4 a5 W) rfl) hv
  exact ⟨q.1, pR_rf q.2 (fr_d_X12_pay_r125d a1 a2 a3 a4 a5 _) rfl⟩
theorem g_appeal (a1 a2 a3 : Int) (H : pR v W W) (hv : v < 2147483646) : (d_X11_appeal_r31d a1 a2 a3 W).1 = (d_X12_appeal_r125d a1 a2 a3 (d_X11_appeal_r31d a1 a2 a3 W).2).1 ∧ pR (v + 1) (d_X12_appeal_r125d a1 a2 a3 (d_X11_appeal_r31d a1 a2 a3 W).2).2 (d_X12_appeal_r125d a1 a2 a3 (d_X11_appeal_r31d a1 a2 a3 W).2).2 := by
  have q := q_appeal (a1 := a1) (a2 := a2) (a3 := a3) (pR_cl H (fr_d_X11_appeal_r31d a1 a2 a3 W) rfl) hv
  exact ⟨q.1, pR_rf q.2 (fr_d_X12_appeal_r125d a1 a2 a3 _) rfl⟩
theorem g_value (a1 a2 a3 a4 : Int) (H : pR v W W) (hv : v < 2147483646) : (d_X11_value_r31d a1 a2 a3 a4 W).1 = (d_X12_value_r125d a1 a2 a3 a4 (d_X11_value_r31d a1 a2 a3 a4 W).2).1 ∧ pR (v + 1) (d_X12_value_r125d a1 a2 a3 a4 (d_X11_value_r31d a1 a2 a3 a4 W).2).2 (d_X12_value_r125d a1 a2 a3 a4 (d_X11_value_r31d a1 a2 a3 a4 W).2).2 := by
  have q := q_value (a1 := a1) (a2 := a2) (a3 := a3) (a4 := a4) (pR_cl H (fr_d_X11_value_r31d a1 a2 a3 a4 W) rfl) hv
  exact ⟨q.1, pR_rf q.2 (fr_d_X12_value_r125d a1 a2 a3 a4 _) rfl⟩
theorem g_apart (a b : Int) (H : pR v W W) (hv : v < 2147483646) : (d_X11_apart_r31d a b W).1 = (d_X12_apart_r125d a b (d_X11_apart_r31d a b W).2).1 ∧ pR (v + 1) (d_X12_apart_r125d a b (d_X11_apart_r31d a b W).2).2 (d_X12_apart_r125d a b (d_X11_apart_r31d a b W).2).2 := by
  have q := q_apart (a := a) (b := b) (pR_cl H (fr_d_X11_apart_r31d a b W) rfl) hv
  exact ⟨q.1, pR_rf q.2 (fr_d_X12_apart_r125d a b _) rfl⟩
theorem g_hold (h a d k : Int) (H : pR v W W) (hv : v < 2147483646) : (d_X11_hold_r31d h a d k W).1 = (d_X12_hold_r125d h a d k (d_X11_hold_r31d h a d k W).2).1 ∧ pR (v + 1) (d_X12_hold_r125d h a d k (d_X11_hold_r31d h a d k W).2).2 (d_X12_hold_r125d h a d k (d_X11_hold_r31d h a d k W).2).2 := by
  have q := q_hold (h := h) (a := a) (d := d) (k := k) (pR_cl H (fr_d_X11_hold_r31d h a d k W) rfl) hv
  exact ⟨q.1, pR_rf q.2 (fr_d_X12_hold_r125d h a d k _) rfl⟩
theorem g_close (a1 a2 a3 a4 : Int) (H : pR v W W) (hv : v < 2147483646) : (d_X11_close_r31d a1 a2 a3 a4 W).1 = (d_X12_close__r125d a1 a2 a3 a4 (d_X11_close_r31d a1 a2 a3 a4 W).2).1 ∧ pR (v + 1) (d_X12_close__r125d a1 a2 a3 a4 (d_X11_close_r31d a1 a2 a3 a4 W).2).2 (d_X12_close__r125d a1 a2 a3 a4 (d_X11_close_r31d a1 a2 a3 a4 W).2).2 := by
  have q := q_close (a1 := a1) (a2 := a2) (a3 := a3) (a4 := a4) (pR_cl H (fr_d_X11_close_r31d a1 a2 a3 a4 W) rfl) hv
  exact ⟨q.1, pR_rf q.2 (fr_d_X12_close__r125d a1 a2 a3 a4 _) rfl⟩
theorem g_fact (a k o d1 d2 kn : Int) (H : pR v W W) (hv : v < 2147483646) : (d_X11_fact_r31d a k o d1 d2 kn W).1 = (d_X12_fact_r125d a k o d1 d2 kn (d_X11_fact_r31d a k o d1 d2 kn W).2).1 ∧ pR (v + 1) (d_X12_fact_r125d a k o d1 d2 kn (d_X11_fact_r31d a k o d1 d2 kn W).2).2 (d_X12_fact_r125d a k o d1 d2 kn (d_X11_fact_r31d a k o d1 d2 kn W).2).2 := by
  have q := q_fact (a := a) (k := k) (o := o) (d1 := d1) (d2 := d2) (kn := kn) (pR_cl H (fr_d_X11_fact_r31d a k o d1 d2 kn W) rfl) hv
  exact ⟨q.1, pR_rf q.2 (fr_d_X12_fact_r125d a k o d1 d2 kn _) rfl⟩
theorem g_holding (H : pR v W W) (hv : v < 2147483646) : (d_X11_holding_r31d W).1 = (d_X12_holding_r125d (d_X11_holding_r31d W).2).1 ∧ pR (v + 1) (d_X12_holding_r125d (d_X11_holding_r31d W).2).2 (d_X12_holding_r125d (d_X11_holding_r31d W).2).2 := by
  have q := q_holding (pR_cl H (fr_d_X11_holding_r31d W) rfl) hv
  exact ⟨q.1, pR_rf q.2 (fr_d_X12_holding_r125d _) rfl⟩
theorem g_split (a1 a2 a3 a4 a5 : Int) (H : pR v W W) (hv : v < 2147483646) : (d_X11_split_r31d a1 a2 a3 a4 a5 W).1 = (d_X12_split_r125d a1 a2 a3 a4 a5 (d_X11_split_r31d a1 a2 a3 a4 a5 W).2).1 ∧ pR (v + 1) (d_X12_split_r125d a1 a2 a3 a4 a5 (d_X11_split_r31d a1 a2 a3 a4 a5 W).2).2 (d_X12_split_r125d a1 a2 a3 a4 a5 (d_X11_split_r31d a1 a2 a3 a4 a5 W).2).2 := by
  have q := q_split (a1 := a1) (a2 := a2) (a3 := a3) (a4 := a4) (a5 := a5) (pR_cl H (fr_d_X11_split_r31d a1 a2 a3 a4 a5 W) rfl) hv
  exact ⟨q.1, pR_rf q.2 (fr_d_X12_split_r125d a1 a2 a3 a4 a5 _) rfl⟩
theorem g_terms (a1 a2 a3 a4 a5 : Int) (H : pR v W W) (hv : v < 2147483646) : (d_X11_terms_r31d a1 a2 a3 a4 a5 W).1 = (d_X12_terms_r125d a1 a2 a3 a4 a5 (d_X11_terms_r31d a1 a2 a3 a4 a5 W).2).1 ∧ pR (v + 1) (d_X12_terms_r125d a1 a2 a3 a4 a5 (d_X11_terms_r31d a1 a2 a3 a4 a5 W).2).2 (d_X12_terms_r125d a1 a2 a3 a4 a5 (d_X11_terms_r31d a1 a2 a3 a4 a5 W).2).2 := by
  have q := q_terms (a1 := a1) (a2 := a2) (a3 := a3) (a4 := a4) (a5 := a5) (pR_cl H (fr_d_X11_terms_r31d a1 a2 a3 a4 a5 W) rfl) hv
  exact ⟨q.1, pR_rf q.2 (fr_d_X12_terms_r125d a1 a2 a3 a4 a5 _) rfl⟩
theorem g_acres (a1 a2 a3 : Int) (H : pR v W W) (hv : v < 2147483646) : (d_X11_acres_r31d a1 a2 a3 W).1 = (d_X12_acres_r125d a1 a2 a3 (d_X11_acres_r31d a1 a2 a3 W).2).1 ∧ pR (v + 1) (d_X12_acres_r125d a1 a2 a3 (d_X11_acres_r31d a1 a2 a3 W).2).2 (d_X12_acres_r125d a1 a2 a3 (d_X11_acres_r31d a1 a2 a3 W).2).2 := by
  have q := q_acres (a1 := a1) (a2 := a2) (a3 := a3) (pR_cl H (fr_d_X11_acres_r31d a1 a2 a3 W) rfl) hv
  exact ⟨q.1, pR_rf q.2 (fr_d_X12_acres_r125d a1 a2 a3 _) rfl⟩
theorem g_seal (a : Int) (H : pR v W W) (hv : v < 2147483646) : (d_X11_seal_r31d a W).1 = (d_X12_seal_r125d a (d_X11_seal_r31d a W).2).1 ∧ pR (v + 1) (d_X12_seal_r125d a (d_X11_seal_r31d a W).2).2 (d_X12_seal_r125d a (d_X11_seal_r31d a W).2).2 := by
  have q := q_seal (a := a) (pR_cl H (fr_d_X11_seal_r31d a W) rfl) hv
  exact ⟨q.1, pR_rf q.2 (fr_d_X12_seal_r125d a _) rfl⟩
theorem g_wish (a : Int) (H : pR v W W) (hv : v < 2147483646) : (d_X11_wish_r31d a W).1 = (d_X12_wish_r125d a (d_X11_wish_r31d a W).2).1 ∧ pR (v + 1) (d_X12_wish_r125d a (d_X11_wish_r31d a W).2).2 (d_X12_wish_r125d a (d_X11_wish_r31d a W).2).2 := by
  have q := q_wish (a := a) (pR_cl H (fr_d_X11_wish_r31d a W) rfl) hv
  exact ⟨q.1, pR_rf q.2 (fr_d_X12_wish_r125d a _) rfl⟩
theorem g_together (a b k : Int) (H : pR v W W) (hv : v < 2147483646) : (d_X11_together_r31d a b k W).1 = (d_X12_together_r125d a b k (d_X11_together_r31d a b k W).2).1 ∧ pR (v + 1) (d_X12_together_r125d a b k (d_X11_together_r31d a b k W).2).2 (d_X12_together_r125d a b k (d_X11_together_r31d a b k W).2).2 := by
  have q := q_together (a := a) (b := b) (k := k) (pR_cl H (fr_d_X11_together_r31d a b k W) rfl) hv
  exact ⟨q.1, pR_rf q.2 (fr_d_X12_together_r125d a b k _) rfl⟩
theorem g_join (a : Int) (H : pR v W W) (hv : v < 2147483646) : (d_X11_join_r31d a W).1 = (d_X12_join_r125d a (d_X11_join_r31d a W).2).1 ∧ pR (v + 1) (d_X12_join_r125d a (d_X11_join_r31d a W).2).2 (d_X12_join_r125d a (d_X11_join_r31d a W).2).2 := by
  have q := q_join (a := a) (pR_cl H (fr_d_X11_join_r31d a W) rfl) hv
  exact ⟨q.1, pR_rf q.2 (fr_d_X12_join_r125d a _) rfl⟩
theorem g_alter (a b : Int) (H : pR v W W) (hv : v < 2147483646) : (d_X11_alter_r31d a b W).1 = (d_X12_alter_r125d a b (d_X11_alter_r31d a b W).2).1 ∧ pR (v + 1) (d_X12_alter_r125d a b (d_X11_alter_r31d a b W).2).2 (d_X12_alter_r125d a b (d_X11_alter_r31d a b W).2).2 := by
  have q := q_alter (a := a) (b := b) (pR_cl H (fr_d_X11_alter_r31d a b W) rfl) hv
  exact ⟨q.1, pR_rf q.2 (fr_d_X12_alter_r125d a b _) rfl⟩
theorem g_line (a1 a2 a3 a4 a5 : Int) (H : pR v W W) (hv : v < 2147483646) : (d_X11_line_r31d a1 a2 a3 a4 a5 W).1 = (d_X12_line_r125d a1 a2 a3 a4 a5 (d_X11_line_r31d a1 a2 a3 a4 a5 W).2).1 ∧ pR (v + 1) (d_X12_line_r125d a1 a2 a3 a4 a5 (d_X11_line_r31d a1 a2 a3 a4 a5 W).2).2 (d_X12_line_r125d a1 a2 a3 a4 a5 (d_X11_line_r31d a1 a2 a3 a4 a5 W).2).2 := by
  have q := q_line (a1 := a1) (a2 := a2) (a3 := a3) (a4 := a4) (a5 := a5) (pR_cl H (fr_d_X11_line_r31d a1 a2 a3 a4 a5 W) rfl) hv
  exact ⟨q.1, pR_rf q.2 (fr_d_X12_line_r125d a1 a2 a3 a4 a5 _) rfl⟩
theorem g_reason (a b : Int) (H : pR v W W) : d_X11_reason_r31d a b W = (d_X12_reason_r125d a b W).1 ∧ pR (v + 1) (d_X12_reason_r125d a b W).2 (d_X12_reason_r125d a b W).2 := by
  have q := q_reason (a := a) (b := b) H
  exact ⟨q.1, pR_v (pR_rf q.2 (fr_d_X12_reason_r125d a b _) rfl) (by omega)⟩
theorem g_worth (a b : Int) (H : pR v W W) : d_X11_worth_r31d a b W = (d_X12_worth_r125d a b W).1 ∧ pR (v + 1) (d_X12_worth_r125d a b W).2 (d_X12_worth_r125d a b W).2 := by
  have q := q_worth (a := a) (b := b) H
  exact ⟨q.1, pR_v (pR_rf q.2 (fr_d_X12_worth_r125d a b _) rfl) (by omega)⟩
theorem g_name (a k i : Int) (H : pR v W W) : d_X11_name_r31d a k i W = (d_X12_name_r125d a k i W).1 ∧ pR (v + 1) (d_X12_name_r125d a k i W).2 (d_X12_name_r125d a k i W).2 := by
  have q := q_name (a := a) (k := k) (i := i) H
  exact ⟨q.1, pR_v (pR_rf q.2 (fr_d_X12_name_r125d a k i _) rfl) (by omega)⟩
theorem g_piece (a k i n : Int) (H : pR v W W) : d_X11_piece_r31d a k i n W = (d_X12_piece_r125d a k i n W).1 ∧ pR (v + 1) (d_X12_piece_r125d a k i n W).2 (d_X12_piece_r125d a k i n W).2 := by
  have q := q_piece (a := a) (k := k) (i := i) (n := n) H
  exact ⟨q.1, pR_v (pR_rf q.2 (fr_d_X12_piece_r125d a k i n _) rfl) (by omega)⟩
theorem g_of (a1 a2 : Int) (H : pR v W W) : d_X11_of_r31d a1 a2 W = (d_X12_of_r125d a1 a2 W).1 ∧ pR (v + 1) (d_X12_of_r125d a1 a2 W).2 (d_X12_of_r125d a1 a2 W).2 := by
  have q := q_of (a1 := a1) (a2 := a2) H
  exact ⟨q.1, pR_v (pR_rf q.2 (fr_d_X12_of_r125d a1 a2 _) rfl) (by omega)⟩
theorem g_as (a1 a2 : Int) (H : pR v W W) : d_X11_as_r31d a1 a2 W = (d_X12_as_r125d a1 a2 W).1 ∧ pR (v + 1) (d_X12_as_r125d a1 a2 W).2 (d_X12_as_r125d a1 a2 W).2 := by
  have q := q_as (a1 := a1) (a2 := a2) H
  exact ⟨q.1, pR_v (pR_rf q.2 (fr_d_X12_as_r125d a1 a2 _) rfl) (by omega)⟩
theorem g_count (a1 : Int) (H : pR v W W) : d_X11_count_r31d a1 W = (d_X12_count_r125d a1 W).1 ∧ pR (v + 1) (d_X12_count_r125d a1 W).2 (d_X12_count_r125d a1 W).2 := by
  have q := q_count (a1 := a1) H
  exact ⟨q.1, pR_v (pR_rf q.2 (fr_d_X12_count_r125d a1 _) rfl) (by omega)⟩
theorem g_balance (a1 a2 a3 : Int) (H : pR v W W) : d_X11_balance_r31d a1 a2 a3 W = (d_X12_balance_r125d a1 a2 a3 W).1 ∧ pR (v + 1) (d_X12_balance_r125d a1 a2 a3 W).2 (d_X12_balance_r125d a1 a2 a3 W).2 := by
  have q := q_balance (a1 := a1) (a2 := a2) (a3 := a3) H
  exact ⟨q.1, pR_v (pR_rf q.2 (fr_d_X12_balance_r125d a1 a2 a3 _) rfl) (by omega)⟩
theorem g_coin (a1 a2 a3 : Int) (H : pR v W W) : d_X11_coin_r31d a1 a2 a3 W = (d_X12_coin_r125d a1 a2 a3 W).1 ∧ pR (v + 1) (d_X12_coin_r125d a1 a2 a3 W).2 (d_X12_coin_r125d a1 a2 a3 W).2 := by
  have q := q_coin (a1 := a1) (a2 := a2) (a3 := a3) H
  exact ⟨q.1, pR_v (pR_rf q.2 (fr_d_X12_coin_r125d a1 a2 a3 _) rfl) (by omega)⟩
theorem g_status (H : pR v W W) : d_X11_status_r31d W = (d_X12_status_r125d W).1 ∧ pR (v + 1) (d_X12_status_r125d W).2 (d_X12_status_r125d W).2 := by
  have q := q_status H
  exact ⟨q.1, pR_v (pR_rf q.2 (fr_d_X12_status_r125d _) rfl) (by omega)⟩
theorem g_fault (H : pR v W W) : d_X11_fault_r31d W = (d_X12_fault_r125d W).1 ∧ pR (v + 1) (d_X12_fault_r125d W).2 (d_X12_fault_r125d W).2 := by
  have q := q_fault H
  exact ⟨q.1, pR_v (pR_rf q.2 (fr_d_X12_fault_r125d _) rfl) (by omega)⟩
def eCl (X Y : jW) : Prop := ∀ c : Nat, 125 ≤ c → c ≤ 173 → Y.1 c = X.1 c ∧ Y.2.1 c = X.2.1 c
def eRf (X Y : jW) : Prop := (∀ c : Nat, c ≤ 124 ∨ 174 ≤ c → Y.1 c = X.1 c ∧ Y.2.1 c = X.2.1 c ∧ Y.2.2.1 c = X.2.2.1 c) ∧ Y.2.2.2 = X.2.2.2
theorem g_spell (a : Int) {m : Int × jW} (H : pR v W W) (hv : v < 2147483646) (hm : spO a (d_X11_spell_r31d a W).2 m) (e : eRf (d_X11_spell_r31d a W).2 m.2) : (d_X11_spell_r31d a W).1 = m.1 ∧ pR (v + 1) m.2 m.2 := by
  have q := q_spell (pR_cl H (fr_d_X11_spell_r31d a W) rfl) hv hm
  exact ⟨q.1, pR_x q.2 e.1 e.2⟩
theorem g_text (a1 a2 a3 : Int) {x m : Int × jW} (H : pR v W W) (hv : v < 2147483646) (hx : txX a1 a2 a3 W x) (e1 : eCl W x.2) (hm : txM a1 a2 a3 x.2 m) (e : eRf x.2 m.2) : x.1 = m.1 ∧ pR (v + 1) m.2 m.2 := by
  have q := q_text (pR_m H e1) hv hx hm
  exact ⟨q.1, pR_x q.2 e.1 e.2⟩
theorem g_image (k : Int) {x m : Int × jW} (H : pR v W W) (hv : v < 2147483646) (hx : imX k W x) (e1 : eCl W x.2) (hm : imM k x.2 m) (e : eRf x.2 m.2) : x.1 = m.1 ∧ pR (v + 1) m.2 m.2 := by
  have q := q_image (pR_m H e1) hv hx hm
  exact ⟨q.1, pR_x q.2 e.1 e.2⟩
theorem g_back (k : Int) {x m : Int × jW} (H : pR v W W) (hv : v < 2147483646) (hx : bkX k W x) (e1 : eCl W x.2) (hm : bkM k x.2 m) (e : eRf x.2 m.2) : x.1 = m.1 ∧ pR (v + 1) m.2 m.2 := by
  have q := q_back (pR_m H e1) hv hx hm
  exact ⟨q.1, pR_x q.2 e.1 e.2⟩
end
