theorem CW_rv {f : Int → Int} (hW : CW f) {r x y : Int} (hr : 0 ≤ r ∧ r < 4) (h : 0 ≤ x ∧ x ≤ y ∧ y < f (240 + r)) : CW (rvF f r x y) := by
  have hn := (hW r hr).1
  have hc : ∀ o, 0 ≤ o ∧ o < 4 → rvF f r x y (240 + o) = f (240 + o) := fun o ho => if_neg (by omega)
  intro o ho
  rw [hc o ho]
  refine ⟨(hW o ho).1, fun p hp => ?_⟩
  have hno := (hW o ho).1
  by_cases h1 : r * 60 + x ≤ o * 60 + p ∧ o * 60 + p ≤ r * 60 + y
  · rw [show rvF f r x y (o * 60 + p) = f (r * 60 + x + (r * 60 + y) - (o * 60 + p)) from if_pos h1]
    have ho2 : o = r := by omega
    subst ho2
    rw [show o * 60 + x + (o * 60 + y) - (o * 60 + p) = o * 60 + (x + y - p) by omega]
    exact (hW o ho).2 _ (by omega)
  · rw [show rvF f r x y (o * 60 + p) = f (o * 60 + p) from if_neg h1]
    exact (hW o ho).2 p hp
theorem CW_lo {f g : Int → Int} (hW : CW f) (h : ∀ z, 0 ≤ z ∧ z < 244 → g z = f z) : CW g := by
  intro r hr
  rw [h (240 + r) (by omega)]
  have hn := (hW r hr).1
  refine ⟨hn, fun p hp => ?_⟩
  rw [h (r * 60 + p) (by omega)]
  exact (hW r hr).2 p hp
theorem refU_lo (f : Int → Int) (u z : Int) (h : z < 244) : refU f u z = f z := by
  unfold refU; rw [if_neg (by omega), if_neg (by omega)]
theorem CW_refU {f : Int → Int} (hW : CW f) {u : Int} (_ : u ≤ 32) : CW (refU f u) := CW_lo hW (fun z hz => refU_lo f u z hz.2)
theorem lgs_lo {f g : Int → Int} (h : ∀ z, 0 ≤ z ∧ z < 244 → g z = f z) {r a b : Int} (hr : 0 ≤ r ∧ r < 4) (ha : 0 ≤ a) (hb : b ≤ 60) : sI (lgs g r) a b = sI (lgs f r) a b := by
  refine sI_congr fun p h1 h2 => ?_
  unfold lgs; rw [h _ (by omega)]
theorem tg_lo {f g : Int → Int} (h : ∀ z, 0 ≤ z ∧ z < 244 → g z = f z) {r p : Int} (hr : 0 ≤ r ∧ r < 4) (hn : f (240 + r) ≤ 60) : tg g r p = tg f r p := by
  unfold tg; rw [h (240 + r) (by omega)]
  by_cases h1 : 0 ≤ p ∧ p + 1 < f (240 + r)
  · rw [h _ (by omega), h _ (by omega)]
  · rw [if_neg (by omega), if_neg (by omega)]
theorem refU_step {f : Int → Int} (hW : CW f) {i j : Int} (hi : 0 ≤ i ∧ i < 4) (hj : 0 ≤ j ∧ j < 8) :
    pt (pt (refU f (i * 8 + j)) (244 + i * 8 + j) (sI (lgs (refU f (i * 8 + j)) i) (j * 8) (min (j * 8 + 8) (refU f (i * 8 + j) (240 + i)) - 1 + 1))) (276 + i * 8 + j) (sI (tg (refU f (i * 8 + j)) i) (j * 8) (min (j * 8 + 8) (refU f (i * 8 + j) (240 + i)) - 1)) = refU f (i * 8 + (j + 1)) := by
  have hlo : ∀ z, 0 ≤ z ∧ z < 244 → refU f (i * 8 + j) z = f z := fun z hz => refU_lo f _ z hz.2
  have hn := (hW i hi).1
  rw [hlo (240 + i) (by omega)]
  rw [lgs_lo hlo hi (by omega) (by omega), sI_congr (g := tg (refU f (i * 8 + j)) i) (h := tg f i) (fun p _ _ => tg_lo hlo hi hn.2)]
  funext z
  unfold pt refU
  by_cases h1 : z = 276 + i * 8 + j
  · rw [if_pos h1, if_neg (by omega), if_pos (by omega)]
    unfold ptan
    rw [show (z - 276) / 8 = i by omega, show (z - 276) % 8 = j by omega]
  · rw [if_neg h1]
    by_cases h2 : z = 244 + i * 8 + j
    · rw [if_pos h2, if_pos (by omega)]
      unfold psum
      rw [show (z - 244) / 8 = i by omega, show (z - 244) % 8 = j by omega, show min (j * 8 + 8) (f (240 + i)) - 1 + 1 = min (j * 8 + 8) (f (240 + i)) by omega]
    · rw [if_neg h2]
      by_cases h3 : 244 ≤ z ∧ z < 244 + (i * 8 + j)
      · rw [if_pos h3, if_pos (by omega)]
      · rw [if_neg h3]
        by_cases h4 : 276 ≤ z ∧ z < 276 + (i * 8 + j)
        · rw [if_pos h4, if_neg (by omega), if_pos (by omega)]
        · rw [if_neg h4, if_neg (by omega), if_neg (by omega)]
