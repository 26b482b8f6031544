/-! answers that are yes or no -/
theorem iT_01 (f : Int → Int) (r p : Int) : iT f r p = 0 ∨ iT f r p = 1 := by unfold iT; split <;> simp
theorem eqR_01 (f : Int → Int) (r o : Int) : eqR f r o = 0 ∨ eqR f r o = 1 := by unfold eqR; split <;> simp
theorem bk_01 (f : Int → Int) (r : Int) : bk f r = 0 ∨ bk f r = 1 := by unfold bk; split <;> simp
