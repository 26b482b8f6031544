/-! the law's sum over the cells -/
def su9 (f : Int → Int) (r v p : Int) : Nat → Int
  | 0 => v
  | k + 1 => su9 f r (31 * v + 8 * (f (r * 60 + p) / 8) + f (r * 60 + p) % 8) (p + 1) k
def suI (f : Int → Int) (r v p b : Int) : Int := su9 f r v p (b - p).toNat
theorem suI_nil {f : Int → Int} {r v p b : Int} (h : b ≤ p) : suI f r v p b = v := by
  unfold suI; rw [show (b - p).toNat = 0 by omega]; rfl
theorem suI_cons {f : Int → Int} {r v p b : Int} (h : p < b) : suI f r v p b = suI f r (31 * v + 8 * (f (r * 60 + p) / 8) + f (r * 60 + p) % 8) (p + 1) b := by
  unfold suI; rw [show (b - p).toNat = (b - (p + 1)).toNat + 1 by omega]; rfl
def sr9 (f : Int → Int) (v r : Int) : Nat → Int
  | 0 => v
  | k + 1 => sr9 f (suI f r (31 * v + f (240 + r)) 0 (f (240 + r))) (r + 1) k
def srI (f : Int → Int) (v r : Int) : Int := sr9 f v r (4 - r).toNat
theorem srI_nil {f : Int → Int} {v r : Int} (h : 4 ≤ r) : srI f v r = v := by
  unfold srI; rw [show (4 - r).toNat = 0 by omega]; rfl
theorem srI_cons {f : Int → Int} {v r : Int} (h : r < 4) : srI f v r = srI f (suI f r (31 * v + f (240 + r)) 0 (f (240 + r))) (r + 1) := by
  unfold srI; rw [show (4 - r).toNat = (4 - (r + 1)).toNat + 1 by omega]; rfl
def SUM (f : Int → Int) : Int := srI f (31 * f 308 + f 309) 0
theorem suI_congr {f g : Int → Int} {r b : Int} : ∀ (k : Nat) (v p : Int), (b - p).toNat = k → (∀ q, p ≤ q → q < b → g (r * 60 + q) = f (r * 60 + q)) → suI g r v p b = suI f r v p b := by
  intro k
  induction k with
  | zero => intro v p hk _; rw [suI_nil (by omega), suI_nil (by omega)]
  | succ k ih =>
    intro v p hk H
    rw [suI_cons (by omega), suI_cons (f := f) (by omega), H p (by omega) (by omega)]
    exact ih _ (p + 1) (by omega) (fun q q0 q1 => H q (by omega) q1)
theorem srI_congr {f g : Int → Int} (hW : CW f) (H : ∀ z, 0 ≤ z ∧ z < 310 → g z = f z) : ∀ (k : Nat) (v r : Int), (4 - r).toNat = k → 0 ≤ r → srI g v r = srI f v r := by
  intro k
  induction k with
  | zero => intro v r hk _; rw [srI_nil (by omega), srI_nil (by omega)]
  | succ k ih =>
    intro v r hk h0
    have h1 := (hW r (by omega)).1
    rw [srI_cons (by omega), srI_cons (f := f) (by omega), H (240 + r) (by omega), suI_congr _ _ 0 rfl (fun q q0 q1 => H _ (by omega))]
    exact ih _ (r + 1) (by omega) (by omega)
theorem SUM_congr {f g : Int → Int} (hW : CW f) (H : ∀ z, 0 ≤ z ∧ z < 310 → g z = f z) : SUM g = SUM f := by
  unfold SUM
  rw [H 308 (by omega), H 309 (by omega)]
  exact srI_congr hW H 4 _ 0 rfl (by omega)
theorem CW_congr {f g : Int → Int} (hW : CW f) (H : ∀ z, 0 ≤ z ∧ z < 310 → g z = f z) : CW g := CW_lo hW (fun z hz => H z (by omega))
theorem PW_congr {f g : Int → Int} (hW : CW f) (hP : PW f) (H : ∀ z, 0 ≤ z ∧ z < 310 → g z = f z) : PW g := by
  intro u hu
  have hr : 0 ≤ u / 8 ∧ u / 8 < 4 := by omega
  have hn := (hW (u / 8) hr).1
  obtain ⟨h1, h2⟩ := hP u hu
  have hlo : ∀ z, 0 ≤ z ∧ z < 244 → g z = f z := fun z hz => H z (by omega)
  rw [H (244 + u) (by omega), H (276 + u) (by omega), h1, h2]
  unfold psum ptan
  rw [H (240 + u / 8) (by omega), lgs_lo hlo hr (by omega) (by omega)]
  exact ⟨rfl, (sI_congr (fun p p0 p1 => (tg_lo hlo hr hn.2))).symm⟩
/-! the length of all reels -/
def sgl (f : Int → Int) (r : Int) : Int := sI (lgs f r) 0 (f (240 + r))
def tot (f : Int → Int) : Int := sgl f 0 + sgl f 1 + sgl f 2 + sgl f 3
theorem sgl_sb {f : Int → Int} (hW : CW f) (hP : PW f) {r : Int} (hr : 0 ≤ r ∧ r < 4) : sb f r (f (240 + r)) = sgl f r := sb_eq hP hr (hW r hr).1.2 ⟨(hW r hr).1.1, Int.le_refl _⟩
theorem sgl_rg {f : Int → Int} (hW : CW f) {r : Int} (hr : 0 ≤ r ∧ r < 4) : 0 ≤ sgl f r ∧ sgl f r ≤ 5940 := sum_rg hW hr ⟨Int.le_refl _, Int.le_refl _⟩
theorem tot_sb {f : Int → Int} (hW : CW f) (hP : PW f) : 0 + sb f 0 (f (240 + 0)) + sb f 1 (f (240 + 1)) + sb f 2 (f (240 + 2)) + sb f 3 (f (240 + 3)) = tot f := by
  rw [sgl_sb hW hP (r := 0) (by omega), sgl_sb hW hP (r := 1) (by omega), sgl_sb hW hP (r := 2) (by omega), sgl_sb hW hP (r := 3) (by omega)]
  unfold tot; omega
theorem sgl_lo {f g : Int → Int} (hW : CW f) (h : ∀ z, 0 ≤ z ∧ z < 244 → g z = f z) {r : Int} (hr : 0 ≤ r ∧ r < 4) : sgl g r = sgl f r := by
  have := (hW r hr).1
  unfold sgl
  rw [h (240 + r) (by omega), lgs_lo h hr (by omega) (by omega)]
theorem tot_lo {f g : Int → Int} (hW : CW f) (h : ∀ z, 0 ≤ z ∧ z < 244 → g z = f z) : tot g = tot f := by
  unfold tot
  rw [sgl_lo hW h (r := 0) (by omega), sgl_lo hW h (r := 1) (by omega), sgl_lo hW h (r := 2) (by omega), sgl_lo hW h (r := 3) (by omega)]
/-- of a reel that isn't touched -/
theorem sgl_same {f g : Int → Int} {r : Int} (hn : g (240 + r) = f (240 + r)) (h : ∀ p, 0 ≤ p → p < f (240 + r) → g (r * 60 + p) = f (r * 60 + p)) : sgl g r = sgl f r := by
  unfold sgl
  rw [hn]
  exact sI_congr (fun p p0 p1 => by unfold lgs; rw [h p p0 p1])
/-- the whole of four, where two reels change -/
theorem tot_two {f g : Int → Int} {a b : Int} (ha : 0 ≤ a ∧ a < 4) (hb : 0 ≤ b ∧ b < 4) (hab : a ≠ b) (h : ∀ r, 0 ≤ r ∧ r < 4 → r ≠ a → r ≠ b → sgl g r = sgl f r) (hs : sgl g a + sgl g b = sgl f a + sgl f b) : tot g = tot f := by
  unfold tot
  have h0 := h 0 (by omega); have h1 := h 1 (by omega); have h2 := h 2 (by omega); have h3 := h 3 (by omega)
  rcases (show a = 0 ∨ a = 1 ∨ a = 2 ∨ a = 3 by omega) with rfl | rfl | rfl | rfl <;> rcases (show b = 0 ∨ b = 1 ∨ b = 2 ∨ b = 3 by omega) with rfl | rfl | rfl | rfl <;> omega
theorem tot_one {f g : Int → Int} {a d : Int} (ha : 0 ≤ a ∧ a < 4) (h : ∀ r, 0 ≤ r ∧ r < 4 → r ≠ a → sgl g r = sgl f r) (hs : sgl g a = sgl f a + d) : tot g = tot f + d := by
  unfold tot
  have h0 := h 0 (by omega); have h1 := h 1 (by omega); have h2 := h 2 (by omega); have h3 := h 3 (by omega)
  rcases (show a = 0 ∨ a = 1 ∨ a = 2 ∨ a = 3 by omega) with rfl | rfl | rfl | rfl <;> omega
/-- a shift of a stretch -/
theorem sI_shift {g h : Int → Int} {a b c : Int} (H : ∀ p, a ≤ p → p < b → h (p + c) = g p) : sI h (a + c) (b + c) = sI g a b := by
  by_cases hab : a ≤ b
  · obtain ⟨k, rfl⟩ : ∃ k : Nat, b = a + k := ⟨(b - a).toNat, by omega⟩
    clear hab
    induction k with
    | zero => rw [sI_nil (by omega), sI_nil (by omega)]
    | succ k ih =>
      rw [show a + ((k + 1 : Nat) : Int) + c = (a + k + c) + 1 by omega, sI_snoc (by omega), show a + ((k + 1 : Nat) : Int) = (a + k) + 1 by omega, sI_snoc (by omega), ih (fun p p0 p1 => H p p0 (by omega)), H (a + k) (by omega) (by omega)]
  · rw [sI_nil (by omega), sI_nil (by omega)]
/-- a stretch read backwards -/
theorem sI_rev {g : Int → Int} : ∀ (k : Nat) (h : Int → Int) (a b : Int), (b - a).toNat = k → (∀ p, a ≤ p → p < b → h p = g (a + b - 1 - p)) → sI h a b = sI g a b := by
  intro k
  induction k with
  | zero => intro h a b hk _; rw [sI_nil (by omega), sI_nil (by omega)]
  | succ k ih =>
    intro h a b hk H
    have e : sI h a b = h a + sI h (a + 1) b := sI_cons (by omega)
    have e2 : sI g a b = sI g a (b - 1) + g (b - 1) := by
      have := sI_snoc (g := g) (a := a) (b := b - 1) (by omega)
      rw [show b - 1 + 1 = b by omega] at this
      exact this
    have e3 : sI h (a + 1) (b - 1 + 1) = sI (fun p => h (p + 1)) a (b - 1) := sI_shift (fun p _ _ => rfl)
    rw [show b - 1 + 1 = b by omega] at e3
    have e4 : sI (fun p => h (p + 1)) a (b - 1) = sI g a (b - 1) := ih (fun p => h (p + 1)) a (b - 1) (by omega) (fun p p0 p1 => by
      show h (p + 1) = _
      rw [H (p + 1) (by omega) (by omega)]
      congr 1; omega)
    have e5 := H a (by omega) (by omega)
    rw [show a + b - 1 - a = b - 1 by omega] at e5
    omega
