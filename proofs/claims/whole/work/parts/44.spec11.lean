/-! what the model's questions rest on -/
theorem fI_none {P : Int → Bool} {a b : Int} (ha : 0 ≤ a) (h : fI P a b = -1) : ∀ q : Int, a ≤ q ∧ q < b → ¬ P q = true := by
  intro q hq hp
  obtain ⟨k, hk⟩ : ∃ k : Nat, q = a + k := ⟨(q - a).toNat, by omega⟩
  induction k generalizing a with
  | zero =>
    have h1 : q = a := by omega
    rw [h1] at hp
    rw [fI_yes (by omega) hp] at h; omega
  | succ k ih =>
    by_cases h4 : P a = true
    · rw [fI_yes (by omega) h4] at h; omega
    · rw [fI_no h4] at h
      exact ih (a := a + 1) (by omega) h (by omega) (by omega)
theorem fI_all {P : Int → Bool} {a b : Int} (h : ∀ q : Int, a ≤ q ∧ q < b → ¬ P q = true) : fI P a b = -1 := by
  unfold fI
  generalize hk : (b - a).toNat = k
  induction k generalizing a with
  | zero => rfl
  | succ k ih =>
    show (if P a = true then a else fN9 P (a + 1) k) = -1
    rw [if_neg (h a (by omega))]
    exact ih (fun q hq => h q (by omega)) (by omega)
theorem po_iff {f : Int → Int} (hW : CW f) {r : Int} (hr : 0 ≤ r ∧ r < 4) (off : Int) : po f r off = -1 ↔ ¬ (0 ≤ off ∧ off ≤ sI (lgs f r) 0 (f (240 + r)) - 1) := by
  have hn := (hW r hr).1
  unfold po
  by_cases h : off < 0
  · rw [if_pos h]; omega
  · rw [if_neg h]
    constructor
    · intro h1 h2
      have hn0 : 0 < f (240 + r) := by
        by_cases h9 : 0 < f (240 + r)
        · exact h9
        · rw [sI_nil (by omega)] at h2; omega
      have h3 := fI_none (by omega) h1 (f (240 + r) - 1) (by omega)
      unfold poP at h3
      simp only [decide_eq_true_eq] at h3
      rw [show f (240 + r) - 1 + 1 = f (240 + r) by omega] at h3
      omega
    · intro h1
      refine fI_all fun p hp => ?_
      have h5 := sum_rg hW hr (a := p + 1) (b := f (240 + r)) (by omega)
      have h6 := sI_app (g := lgs f r) (a := 0) (b := p + 1) (c := f (240 + r)) (by omega) (by omega)
      unfold poP
      simp only [decide_eq_true_eq]
      omega
theorem tg_m1 (f : Int → Int) (r : Int) {p : Int} (h : p < 0) : tg f r p = 0 := if_neg (by omega)
theorem bk_0 {f : Int → Int} {r p : Int} (hp : 0 ≤ p ∧ p < f (240 + r)) (h : f (r * 60 + p) ≠ f (r * 60 + (f (240 + r) - 1 - p))) : bk f r = 0 := by
  unfold bk
  refine if_neg fun h1 => ?_
  have key := fI_none (by omega) h1
  by_cases h2 : p < f (240 + r) / 2
  · have h3 := key p (by omega)
    unfold bkP at h3
    simp only [decide_eq_true_eq] at h3
    exact h3 h
  · by_cases h4 : f (240 + r) - 1 - p < f (240 + r) / 2
    · have h3 := key (f (240 + r) - 1 - p) (by omega)
      unfold bkP at h3
      simp only [decide_eq_true_eq] at h3
      rw [show f (240 + r) - 1 - (f (240 + r) - 1 - p) = p by omega] at h3
      exact h3 (fun h5 => h h5.symm)
    · rw [show f (240 + r) - 1 - p = p by omega] at h
      exact h rfl
theorem bk_1 {f : Int → Int} {r : Int} (h : ∀ p : Int, 0 ≤ p ∧ p < f (240 + r) → f (r * 60 + p) = f (r * 60 + (f (240 + r) - 1 - p))) : bk f r = 1 := by
  unfold bk
  refine if_pos (fI_all fun p hp => ?_)
  unfold bkP
  simp only [decide_eq_true_eq]
  exact fun h1 => h1 (h p (by omega))
/-- a segment is told by its length and its colour -/
theorem sg_eq {a b : Int} : a = b ↔ a / 8 = b / 8 ∧ a % 8 = b % 8 := by omega
