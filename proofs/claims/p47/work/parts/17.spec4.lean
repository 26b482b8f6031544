/-! faults, the ring, the line -/
def nx8 (x : Int) : Int := if x + 1 < 8 then x + 1 else 0
def pv8 (x : Int) : Int := if 0 < x then x - 1 else 7
def nm12 (f : Int → Int) (s n : Int) : Int → Int := if n < 10 then pt f s (48 + n % 10) else pt (pt f s (48 + n / 10)) (s + 1) (48 + n % 10)
def bR (r : Int) : Int := if 0 ≤ r ∧ r < 4 then 1 else 0
def bL (x : Int) : Int := if 1 ≤ x ∧ x ≤ 99 then 1 else 0
def bC (x : Int) : Int := if 0 ≤ x ∧ x < 8 then 1 else 0
theorem bR_01 (r : Int) : bR r = 0 ∨ bR r = 1 := by unfold bR; split <;> simp
theorem bL_01 (r : Int) : bL r = 0 ∨ bL r = 1 := by unfold bL; split <;> simp
theorem bC_01 (r : Int) : bC r = 0 ∨ bC r = 1 := by unfold bC; split <;> simp
theorem bR_iff (r : Int) : bR r = 1 ↔ 0 ≤ r ∧ r < 4 := by unfold bR; split <;> simp_all
theorem bL_iff (r : Int) : bL r = 1 ↔ 1 ≤ r ∧ r ≤ 99 := by unfold bL; split <;> simp_all
theorem bC_iff (r : Int) : bC r = 1 ↔ 0 ≤ r ∧ r < 8 := by unfold bC; split <;> simp_all
def bP (f : Int → Int) (r p : Int) : Int := if (0 ≤ r ∧ r < 4) ∧ 0 ≤ p ∧ p < f (240 + r) then 1 else 0
theorem bP_01 (f : Int → Int) (r p : Int) : bP f r p = 0 ∨ bP f r p = 1 := by unfold bP; split <;> simp
theorem bP_iff (f : Int → Int) (r p : Int) : bP f r p = 1 ↔ (0 ≤ r ∧ r < 4) ∧ 0 ≤ p ∧ p < f (240 + r) := by unfold bP; split <;> simp_all
def fR (r : Int) : Int := if 0 ≤ r ∧ r < 4 then 0 else 1
def fRR (r o : Int) : Int := if (0 ≤ r ∧ r < 4) ∧ 0 ≤ o ∧ o < 4 then 0 else 1
def fC (c : Int) : Int := if 0 ≤ c ∧ c < 8 then 0 else 2
def fP (f : Int → Int) (r p : Int) : Int := if (0 ≤ r ∧ r < 4) ∧ 0 ≤ p ∧ p < f (240 + r) then 0 else 1
def fB (f : Int → Int) (r p : Int) : Int := if (0 ≤ r ∧ r < 4) ∧ 0 ≤ p ∧ p ≤ f (240 + r) then 0 else 1
theorem fB_iff (f : Int → Int) (r p : Int) : (fB f r p = 0 ∧ (0 ≤ r ∧ r < 4) ∧ 0 ≤ p ∧ p ≤ f (240 + r)) ∨ (fB f r p = 1 ∧ ¬ ((0 ≤ r ∧ r < 4) ∧ 0 ≤ p ∧ p ≤ f (240 + r))) := by unfold fB; split <;> simp_all
theorem fRR_iff (r o : Int) : (fRR r o = 0 ∧ (0 ≤ r ∧ r < 4) ∧ 0 ≤ o ∧ o < 4) ∨ (fRR r o = 1 ∧ ¬ ((0 ≤ r ∧ r < 4) ∧ 0 ≤ o ∧ o < 4)) := by unfold fRR; split <;> simp_all
/-- both ends are positions, and in order -/
def fX (f : Int → Int) (r x y : Int) : Int := if ¬ ((0 ≤ r ∧ r < 4) ∧ (0 ≤ x ∧ x < f (240 + r)) ∧ 0 ≤ y ∧ y < f (240 + r)) then 1 else if x ≤ y then 0 else 2
theorem fX_rg (f : Int → Int) (r x y : Int) : 0 ≤ fX f r x y ∧ fX f r x y ≤ 2 := by unfold fX; split <;> (try split) <;> omega
def fN (f : Int → Int) (r x c : Int) : Int := if ¬ ((1 ≤ x ∧ x ≤ 99) ∧ 0 ≤ c ∧ c < 8) then 2 else if f (240 + r) < 60 then 0 else 3
def fA (f : Int → Int) (r x c : Int) : Int := if ¬ (0 ≤ r ∧ r < 4) then 1 else fN f r x c
def fPu (f : Int → Int) (r p x c : Int) : Int := if fB f r p = 1 then 1 else fN f r x c
def fT (f : Int → Int) (r p x : Int) : Int := if ¬ ((0 ≤ r ∧ r < 4) ∧ 0 ≤ p ∧ p < f (240 + r)) then 1 else if 1 ≤ x ∧ x ≤ 99 then 0 else 2
def fCu (f : Int → Int) (r p o : Int) : Int := if fB f r p = 1 ∨ ¬ (0 ≤ o ∧ o < 4) then 1 else if r = o then 2 else if f (240 + o) = 0 then 0 else 3
def fJ (f : Int → Int) (r o : Int) : Int := if fRR r o = 1 then 1 else if r = o then 2 else if f (240 + r) + f (240 + o) ≤ 60 then 0 else 3
def fD (f : Int → Int) (r x y c : Int) : Int := if fX f r x y = 0 then fC c else fX f r x y
