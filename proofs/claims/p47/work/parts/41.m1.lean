/-! sums once more; the order by a value downward and a place upward, ranks in it -/
theorem sI_key {g h : Int → Int} {a : Int} : ∀ k : Nat, (∀ p, a ≤ p → p < a + k → g p ≤ h p) → sI g a (a + k) ≤ sI h a (a + k) := by
  intro k
  induction k with
  | zero => intro _; rw [sI_nil (by omega), sI_nil (by omega)]; exact Int.le_refl _
  | succ k ih =>
    intro H
    rw [show a + ((k + 1 : Nat) : Int) = (a + k) + 1 by omega, sI_snoc (by omega), sI_snoc (by omega)]
    have h1 := ih (fun p h1 h2 => H p h1 (by omega))
    have h2 := H (a + k) (by omega) (by omega)
    omega
theorem sI_mono {g h : Int → Int} {a b : Int} (H : ∀ p, a ≤ p → p < b → g p ≤ h p) : sI g a b ≤ sI h a b := by
  by_cases hab : a ≤ b
  · obtain ⟨k, rfl⟩ : ∃ k : Nat, b = a + k := ⟨(b - a).toNat, by omega⟩
    exact sI_key k H
  · rw [sI_nil (by omega), sI_nil (by omega)]; exact Int.le_refl _
theorem sI_addf {g h : Int → Int} {a b : Int} : sI (fun p => g p + h p) a b = sI g a b + sI h a b := by
  by_cases hab : a ≤ b
  · obtain ⟨k, rfl⟩ : ∃ k : Nat, b = a + k := ⟨(b - a).toNat, by omega⟩
    clear hab
    induction k with
    | zero => rw [sI_nil (by omega), sI_nil (by omega), sI_nil (by omega)]; rfl
    | succ k ih =>
      rw [show a + ((k + 1 : Nat) : Int) = (a + k) + 1 by omega, sI_snoc (by omega), sI_snoc (by omega), sI_snoc (by omega), ih]
      omega
  · rw [sI_nil (by omega), sI_nil (by omega), sI_nil (by omega)]; rfl
theorem sI_0 {g : Int → Int} {a b : Int} (H : ∀ p, a ≤ p → p < b → g p = 0) : sI g a b = 0 := by
  by_cases hab : a ≤ b
  · have h1 := sI_ge (g := g) (lo := 0) hab (fun p h1 h2 => by rw [H p h1 h2]; exact Int.le_refl _)
    have h2 := sI_le (g := g) (hi := 0) hab (fun p h1 h2 => by rw [H p h1 h2]; exact Int.le_refl _)
    rw [Int.zero_mul] at h1 h2
    omega
  · exact sI_nil (by omega)
theorem sI_one {a b : Int} (hab : a ≤ b) : sI (fun _ => 1) a b = b - a := by
  have h1 := sI_ge (g := fun _ => (1 : Int)) (lo := 1) hab (fun p h1 h2 => Int.le_refl _)
  have h2 := sI_le (g := fun _ => (1 : Int)) (hi := 1) hab (fun p h1 h2 => Int.le_refl _)
  omega
def dl (x : Int) : Int → Int := fun q => if q = x then 1 else 0
theorem sI_dl {x a b : Int} (h : a ≤ x ∧ x < b) : sI (dl x) a b = 1 := by
  rw [sI_app (b := x) h.1 (by omega), sI_cons (a := x) h.2, sI_0 (g := dl x) (a := a) (b := x) (fun p _ h2 => if_neg (by omega)), sI_0 (g := dl x) (a := x + 1) (b := b) (fun p h1 _ => if_neg (by omega))]
  show 0 + ((if x = x then 1 else 0) + 0) = 1
  rw [if_pos rfl]; rfl
/-- of a sum of what isn't below 0, a part isn't above the whole -/
theorem sI_part {g : Int → Int} {a b : Int} (H : ∀ p, a ≤ p → p < b → 0 ≤ g p) {x : Int} (h : a ≤ x ∧ x < b) : g x ≤ sI g a b := by
  have h1 := sI_ge (g := g) (lo := 0) (a := a) (b := x) h.1 (fun p h1 h2 => H p h1 (by omega))
  have h2 := sI_ge (g := g) (lo := 0) (a := x + 1) (b := b) (by omega) (fun p h1 h2 => H p (by omega) h2)
  rw [sI_app (b := x) h.1 (by omega), sI_cons (a := x) h.2]
  rw [Int.zero_mul] at h1 h2
  omega
theorem ex_max (g : Int → Int) (P : Int → Prop) : ∀ n : Nat, (∃ q : Int, 0 ≤ q ∧ q < n ∧ P q) → ∃ x : Int, 0 ≤ x ∧ x < n ∧ P x ∧ ∀ q : Int, 0 ≤ q → q < n → P q → q = x ∨ (g x < g q ∨ (g q = g x ∧ q < x)) := by
  intro n
  induction n with
  | zero => intro ⟨q, h1, h2, _⟩; omega
  | succ n ih =>
    intro hex
    by_cases hn : ∃ q : Int, 0 ≤ q ∧ q < n ∧ P q
    · obtain ⟨x, x0, x1, hx, hm⟩ := ih hn
      by_cases hp : P n
      · by_cases hc : g n < g x ∨ (g x = g n ∧ x < n)
        · refine ⟨n, by omega, by omega, hp, fun q q0 q1 hq => ?_⟩
          by_cases e : q = n
          · exact Or.inl e
          · rcases hm q q0 (by omega) hq with e2 | h
            · subst e2; exact Or.inr hc
            · right; omega
        · refine ⟨x, x0, by omega, hx, fun q q0 q1 hq => ?_⟩
          by_cases e : q = n
          · right; rw [e]; omega
          · exact hm q q0 (by omega) hq
      · refine ⟨x, x0, by omega, hx, fun q q0 q1 hq => ?_⟩
        by_cases e : q = n
        · rw [e] at hq; exact absurd hq hp
        · exact hm q q0 (by omega) hq
    · obtain ⟨q, q0, q1, hq⟩ := hex
      have e : ∀ y : Int, 0 ≤ y → y < ((n + 1 : Nat) : Int) → P y → y = n := fun y y0 y1 hy => by
        by_cases e : y = n
        · exact e
        · exact absurd ⟨y, y0, by omega, hy⟩ hn
      exact ⟨q, q0, q1, hq, fun y y0 y1 hy => Or.inl (by rw [e y y0 y1 hy, e q q0 q1 hq])⟩
def pI (g : Int → Int) (p : Int) : Int → Int := fun q => if g p < g q ∨ (g q = g p ∧ q < p) then 1 else 0
def RKg (g : Int → Int) (N p : Int) : Int := sI (pI g p) 0 N
theorem pI_01 (g : Int → Int) (p q : Int) : 0 ≤ pI g p q ∧ pI g p q ≤ 1 := by unfold pI; split <;> omega
theorem RK_rg {g : Int → Int} {N p : Int} (hp : 0 ≤ p ∧ p < N) : 0 ≤ RKg g N p ∧ RKg g N p < N := by
  unfold RKg
  have h0 := sI_ge (g := pI g p) (lo := 0) (a := 0) (b := N) (by omega) (fun q _ _ => (pI_01 g p q).1)
  have h1 : sI (fun q => pI g p q + dl p q) 0 N ≤ sI (fun _ => 1) 0 N := sI_mono (fun q q0 q1 => by
    show pI g p q + (if q = p then 1 else 0) ≤ 1
    have := pI_01 g p q
    by_cases e : q = p
    · have : pI g p q = 0 := if_neg (by rw [e]; omega)
      rw [if_pos e]; omega
    · rw [if_neg e]; omega)
  rw [sI_addf, sI_dl hp, sI_one (by omega)] at h1
  rw [Int.zero_mul] at h0
  omega
theorem RK_lt {g : Int → Int} {N x p : Int} (hx : 0 ≤ x ∧ x < N) (h : g p < g x ∨ (g x = g p ∧ x < p)) : RKg g N x < RKg g N p := by
  unfold RKg
  have h1 : sI (fun q => pI g x q + dl x q) 0 N ≤ sI (pI g p) 0 N := sI_mono (fun q q0 q1 => by
    show pI g x q + (if q = x then 1 else 0) ≤ pI g p q
    unfold pI
    by_cases e : q = x
    · rw [if_pos e, if_neg (by rw [e]; omega), if_pos (by rw [e]; exact h)]; omega
    · rw [if_neg e]
      by_cases h2 : g x < g q ∨ (g q = g x ∧ q < x)
      · rw [if_pos h2, if_pos (by omega)]; omega
      · rw [if_neg h2]; split <;> omega)
  rw [sI_addf, sI_dl hx] at h1
  omega
theorem RK_ord {g : Int → Int} {N x p : Int} (hx : 0 ≤ x ∧ x < N) (hp : 0 ≤ p ∧ p < N) (h : RKg g N x < RKg g N p) : g p < g x ∨ (g x = g p ∧ x < p) := by
  by_cases h1 : g p < g x ∨ (g x = g p ∧ x < p)
  · exact h1
  · by_cases e : x = p
    · rw [e] at h; omega
    · have := RK_lt (g := g) (N := N) (x := p) (p := x) hp (by omega)
      omega
theorem RK_pred {g : Int → Int} {N p : Int} (hN : 0 ≤ N) (hk : 0 < RKg g N p) : ∃ x : Int, (0 ≤ x ∧ x < N) ∧ (g p < g x ∨ (g x = g p ∧ x < p)) ∧ RKg g N p = RKg g N x + 1 := by
  obtain ⟨n, rfl⟩ : ∃ n : Nat, N = n := ⟨N.toNat, by omega⟩
  have hex : ∃ q : Int, 0 ≤ q ∧ q < n ∧ (g p < g q ∨ (g q = g p ∧ q < p)) := by
    by_cases h : ∃ q : Int, 0 ≤ q ∧ q < n ∧ (g p < g q ∨ (g q = g p ∧ q < p))
    · exact h
    · have : RKg g n p = 0 := sI_0 (fun q q0 q1 => if_neg (fun h2 => h ⟨q, q0, q1, h2⟩))
      omega
  obtain ⟨x, x0, x1, hx, hm⟩ := ex_max g (fun q => g p < g q ∨ (g q = g p ∧ q < p)) n hex
  refine ⟨x, ⟨x0, x1⟩, hx, ?_⟩
  have e : sI (pI g p) 0 n = sI (fun q => pI g x q + dl x q) 0 n := sI_congr (fun q q0 q1 => by
    show pI g p q = pI g x q + (if q = x then 1 else 0)
    unfold pI
    by_cases h : g p < g q ∨ (g q = g p ∧ q < p)
    · rw [if_pos h]
      rcases hm q q0 q1 h with e | h2
      · rw [if_pos e, if_neg (by rw [e]; omega)]; rfl
      · rw [if_pos h2, if_neg (by rintro rfl; omega)]; rfl
    · rw [if_neg h, if_neg (by omega), if_neg (fun e => h (by rw [e]; exact hx))]; rfl)
  unfold RKg
  rw [e, sI_addf, sI_dl ⟨x0, x1⟩]
theorem RK_all {g : Int → Int} {N : Int} : ∀ j : Nat, (j : Int) < N → ∃ p : Int, (0 ≤ p ∧ p < N) ∧ RKg g N p = N - 1 - j := by
  intro j
  induction j with
  | zero =>
    intro hj
    obtain ⟨n, rfl⟩ : ∃ n : Nat, N = n := ⟨N.toNat, by omega⟩
    obtain ⟨x, x0, x1, -, hm⟩ := ex_max g (fun _ => True) n ⟨0, by omega, by omega, trivial⟩
    refine ⟨x, ⟨x0, x1⟩, ?_⟩
    have e : sI (fun q => pI g x q + dl x q) 0 n = sI (fun _ => 1) 0 n := sI_congr (fun q q0 q1 => by
      show pI g x q + (if q = x then 1 else 0) = 1
      unfold pI
      rcases hm q q0 q1 trivial with e | h2
      · rw [if_pos e, if_neg (by rw [e]; omega)]; rfl
      · rw [if_pos h2, if_neg (by rintro rfl; omega)]; rfl)
    rw [sI_addf, sI_dl ⟨x0, x1⟩, sI_one (by omega)] at e
    unfold RKg
    omega
  | succ j ih =>
    intro hj
    obtain ⟨p, hp, hr⟩ := ih (by omega)
    obtain ⟨x, hx, -, h2⟩ := RK_pred (g := g) (N := N) (p := p) (by omega) (by omega)
    exact ⟨x, hx, by omega⟩
theorem RK_at {g : Int → Int} {N k : Int} (hk : 0 ≤ k ∧ k < N) : ∃ p : Int, (0 ≤ p ∧ p < N) ∧ RKg g N p = k := by
  obtain ⟨p, hp, h⟩ := RK_all (g := g) (N := N) (N - 1 - k).toNat (by omega)
  exact ⟨p, hp, by omega⟩
theorem fI_sp {P : Int → Bool} {a b : Int} : (fI P a b = -1 ∧ ∀ q, a ≤ q → q < b → ¬ P q = true) ∨ ((a ≤ fI P a b ∧ fI P a b < b) ∧ P (fI P a b) = true ∧ ∀ q, a ≤ q → q < fI P a b → ¬ P q = true) := by
  obtain ⟨k, hk⟩ : ∃ k : Nat, k = (b - a).toNat := ⟨_, rfl⟩
  induction k generalizing a with
  | zero => exact Or.inl ⟨fI_nil (by omega), fun q q0 q1 => by omega⟩
  | succ k ih =>
    by_cases hp : P a = true
    · rw [fI_yes (by omega) hp]
      exact Or.inr ⟨by omega, hp, fun q q0 q1 => by omega⟩
    · rw [fI_no hp]
      rcases ih (a := a + 1) (by omega) with ⟨h1, h2⟩ | ⟨h1, h2, h3⟩
      · refine Or.inl ⟨h1, fun q q0 q1 => ?_⟩
        by_cases e : q = a
        · rw [e]; exact hp
        · exact h2 q (by omega) q1
      · refine Or.inr ⟨by omega, h2, fun q q0 q1 => ?_⟩
        by_cases e : q = a
        · rw [e]; exact hp
        · exact h3 q (by omega) q1
theorem fI_none {P : Int → Bool} {a b : Int} (h0 : 0 ≤ a) (h : ∀ q, a ≤ q → q < b → ¬ P q = true) : fI P a b = -1 := by
  rcases fI_sp (P := P) (a := a) (b := b) with ⟨h1, -⟩ | ⟨h1, h2, -⟩
  · exact h1
  · exact absurd h2 (h _ h1.1 h1.2)
theorem fI_some {P : Int → Bool} {a b x : Int} (h0 : 0 ≤ a) (hx : a ≤ x ∧ x < b) (h : P x = true) : fI P a b ≠ -1 ∧ (a ≤ fI P a b ∧ fI P a b ≤ x) ∧ P (fI P a b) = true := by
  rcases fI_sp (P := P) (a := a) (b := b) with ⟨h1, h2⟩ | ⟨h1, h2, h3⟩
  · exact absurd h (h2 x hx.1 hx.2)
  · refine ⟨by omega, ⟨h1.1, ?_⟩, h2⟩
    by_cases e : fI P a b ≤ x
    · exact e
    · exact absurd h (h3 x hx.1 (by omega))
theorem fI_at {P : Int → Bool} {a b x : Int} (h0 : 0 ≤ a) (hx : a ≤ x ∧ x < b) (h : P x = true) (hn : ∀ q, a ≤ q → q < x → ¬ P q = true) : fI P a b = x := by
  obtain ⟨h1, h2, h3⟩ := fI_some h0 hx h
  by_cases e : fI P a b = x
  · exact e
  · exact absurd h3 (hn _ h2.1 (by omega))
theorem fI_snoc {P : Int → Bool} {a b : Int} (h0 : 0 ≤ a) (hab : a ≤ b) : (fI P a (b + 1) = -1 ↔ fI P a b = -1 ∧ ¬ P b = true) := by
  constructor
  · intro h
    rcases fI_sp (P := P) (a := a) (b := b + 1) with ⟨h1, h2⟩ | ⟨h1, h2, h3⟩
    · exact ⟨fI_none h0 (fun q q0 q1 => h2 q q0 (by omega)), h2 b hab (by omega)⟩
    · omega
  · intro ⟨h, hb⟩
    rcases fI_sp (P := P) (a := a) (b := b) with ⟨h1, h2⟩ | ⟨h1, h2, h3⟩
    · refine fI_none h0 (fun q q0 q1 => ?_)
      by_cases e : q = b
      · rw [e]; exact hb
      · exact h2 q q0 (by omega)
    · omega
/-! ranks of segments and of colours -/
theorem rk_RK (f : Int → Int) (r p : Int) : rk f r p = RKg (lgs f r) (f (240 + r)) p := rfl
theorem rkc_RK (f : Int → Int) (r c : Int) : rkc f r c (sc f r c) = RKg (sc f r) 8 c := rfl
def sgA (f : Int → Int) (r k : Int) : Int := fI (rkP f r k) 0 (f (240 + r))
theorem sgA_ok {f : Int → Int} {r k : Int} (hk : 0 ≤ k ∧ k < f (240 + r)) : sgA f r k ≠ -1 ∧ (0 ≤ sgA f r k ∧ sgA f r k < f (240 + r)) ∧ rk f r (sgA f r k) = k := by
  obtain ⟨p, hp, h⟩ := RK_at (g := lgs f r) hk
  obtain ⟨h1, h2, h3⟩ := fI_some (P := rkP f r k) (a := 0) (b := f (240 + r)) (x := p) (by omega) hp (by unfold rkP; rw [rk_RK]; exact decide_eq_true h)
  refine ⟨h1, ⟨h2.1, ?_⟩, ?_⟩
  · show fI (rkP f r k) 0 (f (240 + r)) < _; omega
  · exact of_decide_eq_true h3
theorem sgA_no {f : Int → Int} {r : Int} : sgA f r (f (240 + r)) = -1 := fI_none (by omega) (fun q q0 q1 h => by
  have h1 := of_decide_eq_true h
  rw [rk_RK] at h1
  have := RK_rg (g := lgs f r) (N := f (240 + r)) ⟨q0, q1⟩
  omega)
theorem sgA_ord {f : Int → Int} {r k : Int} (hk : 0 < k ∧ k < f (240 + r)) : lgs f r (sgA f r k) < lgs f r (sgA f r (k - 1)) ∨ (lgs f r (sgA f r (k - 1)) = lgs f r (sgA f r k) ∧ sgA f r (k - 1) < sgA f r k) := by
  obtain ⟨-, a1, a2⟩ := sgA_ok (f := f) (r := r) (k := k) (by omega)
  obtain ⟨-, b1, b2⟩ := sgA_ok (f := f) (r := r) (k := k - 1) (by omega)
  rw [rk_RK] at a2 b2
  exact RK_ord b1 a1 (by omega)
def coA (f : Int → Int) (r k : Int) : Int := fI (rcP f r k) 0 8
theorem coA_ok {f : Int → Int} {r k : Int} (h : coA f r k ≠ -1) : (0 ≤ coA f r k ∧ coA f r k < 8) ∧ 0 < sc f r (coA f r k) ∧ RKg (sc f r) 8 (coA f r k) = k := by
  rcases fI_sp (P := rcP f r k) (a := 0) (b := 8) with ⟨h1, -⟩ | ⟨h1, h2, -⟩
  · exact absurd h1 h
  · have h3 := of_decide_eq_true h2
    rw [rkc_RK] at h3
    exact ⟨h1, h3⟩
theorem coA_rank {f : Int → Int} {r k : Int} (h : coA f r k ≠ -1) : 0 ≤ k ∧ k < 8 := by
  obtain ⟨h1, -, h2⟩ := coA_ok h
  have := RK_rg (g := sc f r) (N := 8) h1
  omega
theorem coA_prev {f : Int → Int} {r k : Int} (h : coA f r k ≠ -1) (hk : 0 < k) : coA f r (k - 1) ≠ -1 ∧ (sc f r (coA f r k) < sc f r (coA f r (k - 1)) ∨ (sc f r (coA f r (k - 1)) = sc f r (coA f r k) ∧ coA f r (k - 1) < coA f r k)) := by
  obtain ⟨a1, a2, a3⟩ := coA_ok h
  obtain ⟨x, hx, hp, h2⟩ := RK_pred (g := sc f r) (N := 8) (p := coA f r k) (by omega) (by omega)
  have h9 : coA f r (k - 1) ≠ -1 := (fI_some (P := rcP f r (k - 1)) (a := 0) (b := 8) (x := x) (by omega) hx (by
    show decide (0 < sc f r x ∧ rkc f r x (sc f r x) = k - 1) = true
    rw [rkc_RK]; exact decide_eq_true ⟨by omega, by omega⟩)).1
  obtain ⟨b1, -, b3⟩ := coA_ok h9
  exact ⟨h9, RK_ord b1 a1 (by omega)⟩
/-! offsets -/
theorem lg_0 {f : Int → Int} (hW : CW f) {r : Int} (hr : 0 ≤ r ∧ r < 4) {a b : Int} (h : 0 ≤ a ∧ a ≤ b ∧ b ≤ f (240 + r)) : sI (lgs f r) 0 a ≤ sI (lgs f r) 0 b := by
  rw [sI_app (g := lgs f r) (a := 0) (b := a) (c := b) h.1 h.2.1]
  have := sum_rg hW (r := r) (a := a) (b := b) hr ⟨h.1, h.2.2⟩
  omega
theorem po_at {f : Int → Int} (hW : CW f) {r : Int} (hr : 0 ≤ r ∧ r < 4) {p off : Int} (hp : 0 ≤ p ∧ p < f (240 + r)) (h : sI (lgs f r) 0 p ≤ off ∧ off < sI (lgs f r) 0 (p + 1)) : po f r off = p := by
  have h0 := (sum_rg hW (r := r) (a := 0) (b := p) hr ⟨by omega, by omega⟩).1
  unfold po
  rw [if_neg (by omega)]
  refine fI_at (by omega) hp (decide_eq_true h.2) (fun q q0 q1 h2 => ?_)
  have h3 := of_decide_eq_true h2
  have h4 := lg_0 hW hr (a := q + 1) (b := p) (by omega)
  omega
theorem po_end {f : Int → Int} (hW : CW f) {r : Int} (hr : 0 ≤ r ∧ r < 4) : po f r (sI (lgs f r) 0 (f (240 + r))) = -1 := by
  have h0 := (sum_rg hW (r := r) (a := 0) (b := f (240 + r)) hr ⟨by omega, by omega⟩).1
  unfold po
  rw [if_neg (by omega)]
  refine fI_none (by omega) (fun q q0 q1 h2 => ?_)
  have h3 := of_decide_eq_true h2
  have h4 := lg_0 hW hr (a := q + 1) (b := f (240 + r)) (by omega)
  omega
/-! sums of colours -/
theorem sI_1 {g : Int → Int} {a : Int} : sI g a (a + 1) = g a := by
  rw [sI_cons (by omega), sI_nil (Int.le_refl _), Int.add_zero]
theorem sI8 (g : Int → Int) : sI g 0 8 = g 0 + g 1 + g 2 + g 3 + g 4 + g 5 + g 6 + g 7 := by
  rw [show (8 : Int) = 7 + 1 by rfl, sI_snoc (by omega), show (7 : Int) = 6 + 1 by rfl, sI_snoc (by omega), show (6 : Int) = 5 + 1 by rfl, sI_snoc (by omega), show (5 : Int) = 4 + 1 by rfl, sI_snoc (by omega), show (4 : Int) = 3 + 1 by rfl, sI_snoc (by omega), show (3 : Int) = 2 + 1 by rfl, sI_snoc (by omega), show (2 : Int) = 1 + 1 by rfl, sI_snoc (by omega), show (1 : Int) = 0 + 1 by rfl, sI_1]
theorem ci_sum {f : Int → Int} {r p : Int} : sI (fun c => ci f r c p) 0 8 = lgs f r p := by
  rw [sI8]
  unfold ci lgs
  have h : 0 ≤ f (r * 60 + p) % 8 ∧ f (r * 60 + p) % 8 < 8 := by omega
  rcases (show f (r * 60 + p) % 8 = 0 ∨ f (r * 60 + p) % 8 = 1 ∨ f (r * 60 + p) % 8 = 2 ∨ f (r * 60 + p) % 8 = 3 ∨ f (r * 60 + p) % 8 = 4 ∨ f (r * 60 + p) % 8 = 5 ∨ f (r * 60 + p) % 8 = 6 ∨ f (r * 60 + p) % 8 = 7 by omega) with h | h | h | h | h | h | h | h <;> rw [h] <;> simp
theorem sI_swap {g : Int → Int → Int} {N : Int} (hN : 0 ≤ N) : sI (fun c => sI (g c) 0 N) 0 8 = sI (fun p => sI (fun c => g c p) 0 8) 0 N := by
  obtain ⟨n, rfl⟩ : ∃ n : Nat, N = n := ⟨N.toNat, by omega⟩
  clear hN
  induction n with
  | zero => rw [sI_nil (g := fun p => sI (fun c => g c p) 0 8) (by omega)]; exact sI_0 (fun c _ _ => sI_nil (by omega))
  | succ n ih =>
    rw [show ((n + 1 : Nat) : Int) = (n : Int) + 1 by omega, sI_snoc (g := fun p => sI (fun c => g c p) 0 8) (by omega), ← ih, ← sI_addf]
    exact sI_congr (fun c _ _ => sI_snoc (by omega))
theorem sc_sum {f : Int → Int} (hW : CW f) {r : Int} (hr : 0 ≤ r ∧ r < 4) : sI (sc f r) 0 8 = sI (lgs f r) 0 (f (240 + r)) := by
  have h := sI_swap (g := fun c p => ci f r c p) (N := f (240 + r)) (hW r hr).1.1
  exact h.trans (sI_congr (fun p _ _ => ci_sum))
theorem sc_none {f : Int → Int} {r c : Int} (h : fI (coP f r c) 0 (f (240 + r)) = -1) : sc f r c = 0 := by
  rcases fI_sp (P := coP f r c) (a := 0) (b := f (240 + r)) with ⟨-, h2⟩ | ⟨h1, -, -⟩
  · exact sI_0 (fun q q0 q1 => if_neg (fun e => h2 q q0 q1 (decide_eq_true e)))
  · omega
theorem sc_some {f : Int → Int} (hW : CW f) {r c : Int} (hr : 0 ≤ r ∧ r < 4) (h : fI (coP f r c) 0 (f (240 + r)) ≠ -1) : (0 ≤ fI (coP f r c) 0 (f (240 + r)) ∧ fI (coP f r c) 0 (f (240 + r)) < f (240 + r)) ∧ f (r * 60 + fI (coP f r c) 0 (f (240 + r))) % 8 = c ∧ f (r * 60 + fI (coP f r c) 0 (f (240 + r))) / 8 ≤ sc f r c := by
  rcases fI_sp (P := coP f r c) (a := 0) (b := f (240 + r)) with ⟨h2, -⟩ | ⟨h1, h2, -⟩
  · exact absurd h2 h
  · have h3 := of_decide_eq_true h2
    refine ⟨h1, h3, ?_⟩
    have h4 := sI_part (g := ci f r c) (a := 0) (b := f (240 + r)) (fun p p0 p1 => (ci_rg hW hr c p ⟨p0, p1⟩).1) h1
    have h5 : ci f r c (fI (coP f r c) 0 (f (240 + r))) = f (r * 60 + fI (coP f r c) 0 (f (240 + r))) / 8 := if_pos h3
    rw [h5] at h4
    exact h4
/-! the longest of a range -/
theorem mI_sp {g : Int → Int} {a b : Int} : ∀ {c : Int}, c < a → (mI g c a b = c ∨ (a ≤ mI g c a b ∧ mI g c a b < b)) ∧ ∀ q, (q = c ∨ (a ≤ q ∧ q < b)) → g q < g (mI g c a b) ∨ (g q = g (mI g c a b) ∧ mI g c a b ≤ q) := by
  obtain ⟨k, hk⟩ : ∃ k : Nat, k = (b - a).toNat := ⟨_, rfl⟩
  induction k generalizing a with
  | zero =>
    intro c hc
    rw [mI_nil (by omega)]
    exact ⟨Or.inl rfl, fun q hq => by
      rcases hq with e | hq
      · rw [e]; omega
      · omega⟩
  | succ k ih =>
    intro c hc
    by_cases hp : g c < g a
    · rw [mI_yes (by omega) hp]
      obtain ⟨h1, h2⟩ := ih (a := a + 1) (by omega) (c := a) (by omega)
      refine ⟨by omega, fun q hq => ?_⟩
      have h3 := h2 a (Or.inl rfl)
      rcases hq with e | hq
      · rw [e]; omega
      · by_cases e : q = a
        · rw [e]; exact h3
        · exact h2 q (by omega)
    · rw [mI_no (by omega) (by omega)]
      obtain ⟨h1, h2⟩ := ih (a := a + 1) (by omega) (c := c) (by omega)
      refine ⟨by omega, fun q hq => ?_⟩
      have h3 := h2 c (Or.inl rfl)
      rcases hq with e | hq
      · rw [e]; exact h3
      · by_cases e : q = a
        · rw [e]; omega
        · exact h2 q (by omega)
/-! two reels' beginnings -/
theorem cI_sp {P : Int → Bool} {a b : Int} (h : a ≤ b) : (a ≤ cI P a b ∧ cI P a b ≤ b) ∧ (∀ q, a ≤ q → q < cI P a b → P q = true) ∧ (cI P a b < b → ¬ P (cI P a b) = true) := by
  obtain ⟨k, hk⟩ : ∃ k : Nat, k = (b - a).toNat := ⟨_, rfl⟩
  induction k generalizing a with
  | zero => rw [cI_nil (by omega)]; exact ⟨by omega, fun q q0 q1 => by omega, fun q => by omega⟩
  | succ k ih =>
    by_cases hp : P a = true
    · rw [cI_yes (by omega) hp]
      obtain ⟨h1, h2, h3⟩ := ih (a := a + 1) (by omega) (by omega)
      refine ⟨by omega, fun q q0 q1 => ?_, h3⟩
      by_cases e : q = a
      · rw [e]; exact hp
      · exact h2 q (by omega) q1
    · rw [cI_no (by omega) hp]
      exact ⟨by omega, fun q q0 q1 => by omega, fun _ => hp⟩
theorem sh_sym (f : Int → Int) (r o : Int) : sh f r o = sh f o r := by
  unfold sh
  rw [Int.min_comm]
  refine cI_congr (fun p _ _ => ?_)
  unfold shP
  rw [decide_eq_decide]
  exact eq_comm
theorem sh_sp {f : Int → Int} (hW : CW f) {r o : Int} (hr : 0 ≤ r ∧ r < 4) (ho : 0 ≤ o ∧ o < 4) : (0 ≤ sh f r o ∧ sh f r o ≤ f (240 + r) ∧ sh f r o ≤ f (240 + o)) ∧ (∀ q, 0 ≤ q → q < sh f r o → f (r * 60 + q) = f (o * 60 + q)) ∧ (sh f r o < f (240 + r) → sh f r o < f (240 + o) → f (r * 60 + sh f r o) ≠ f (o * 60 + sh f r o)) := by
  have h1 := (hW r hr).1
  have h2 := (hW o ho).1
  obtain ⟨h3, h4, h5⟩ := cI_sp (P := shP f r o) (a := 0) (b := min (f (240 + r)) (f (240 + o))) (by omega)
  refine ⟨⟨h3.1, ?_, ?_⟩, fun q q0 q1 => of_decide_eq_true (h4 q q0 q1), fun h6 h7 e => ?_⟩
  · show cI (shP f r o) 0 (min (f (240 + r)) (f (240 + o))) ≤ _; omega
  · show cI (shP f r o) 0 (min (f (240 + r)) (f (240 + o))) ≤ _; omega
  · refine h5 ?_ (decide_eq_true e)
    show sh f r o < _
    omega
/-! a reel from both ends -/
theorem bk_all {f : Int → Int} {r : Int} (hn : 0 ≤ f (240 + r)) : bk f r = if fI (bkP f r) 0 (f (240 + r)) = -1 then 1 else 0 := by
  have e : fI (bkP f r) 0 (f (240 + r) / 2) = -1 ↔ fI (bkP f r) 0 (f (240 + r)) = -1 := by
    constructor
    · intro h
      rcases fI_sp (P := bkP f r) (a := 0) (b := f (240 + r) / 2) with ⟨-, h2⟩ | ⟨h1, -, -⟩
      · refine fI_none (by omega) (fun q q0 q1 h3 => ?_)
        have h4 := of_decide_eq_true h3
        by_cases hq : q < f (240 + r) / 2
        · exact h2 q q0 hq h3
        · by_cases e : f (240 + r) - 1 - q = q
          · rw [e] at h4; exact h4 rfl
          · refine h2 (f (240 + r) - 1 - q) (by omega) (by omega) (decide_eq_true ?_)
            rw [show f (240 + r) - 1 - (f (240 + r) - 1 - q) = q by omega]
            exact fun e2 => h4 e2.symm
      · omega
    · intro h
      rcases fI_sp (P := bkP f r) (a := 0) (b := f (240 + r)) with ⟨-, h2⟩ | ⟨h1, -, -⟩
      · exact fI_none (by omega) (fun q q0 q1 => h2 q q0 (by omega))
      · omega
  unfold bk
  by_cases h : fI (bkP f r) 0 (f (240 + r) / 2) = -1
  · rw [if_pos h, if_pos (e.mp h)]
  · rw [if_neg h, if_neg (fun h2 => h (e.mpr h2))]
