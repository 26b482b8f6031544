/-! the second implementation's cells g: cuts, splices, then for each reel 121 cells: its count, and length and colour of each segment -/
def bI (v lo hi : Int) : Int := if lo ≤ v ∧ v ≤ hi then 1 else 0
theorem bI_01 (v lo hi : Int) : bI v lo hi = 0 ∨ bI v lo hi = 1 := by unfold bI; split <;> simp
theorem bI_iff (v lo hi : Int) : bI v lo hi = 1 ↔ lo ≤ v ∧ v ≤ hi := by unfold bI; split <;> simp_all
def bB (f : Int → Int) (r p : Int) : Int := if (0 ≤ r ∧ r < 4) ∧ 0 ≤ p ∧ p ≤ f (240 + r) then 1 else 0
theorem bB_01 (f : Int → Int) (r p : Int) : bB f r p = 0 ∨ bB f r p = 1 := by unfold bB; split <;> simp
theorem bB_iff (f : Int → Int) (r p : Int) : bB f r p = 1 ↔ (0 ≤ r ∧ r < 4) ∧ 0 ≤ p ∧ p ≤ f (240 + r) := by unfold bB; split <;> simp_all
/-- g tells the same reels as f -/
def MS (f g : Int → Int) : Prop := CW f ∧ (∀ r : Int, 0 ≤ r ∧ r < 4 → g (2 + 121 * r) = f (240 + r) ∧ ∀ p : Int, 0 ≤ p ∧ p < f (240 + r) → g (3 + 121 * r + 2 * p) = f (r * 60 + p) / 8 ∧ g (4 + 121 * r + 2 * p) = f (r * 60 + p) % 8) ∧ g 0 = f 308 ∧ g 1 = f 309
def hiF (h f : Int → Int) (k : Int) : Int → Int := if k = 8 then cpf f (cpf h h 486 0 3402) 0 3402 486 else cpf f h 0 (486 * k) 486
def mS (g : Int → Int) (r p x c : Int) : Int → Int := pt (pt g (3 + 121 * r + 2 * p) x) (4 + 121 * r + 2 * p) c
def mPutL (g : Int → Int) (r n k : Int) : Int → Int := fun z => if 5 + 121 * r + 2 * k ≤ z ∧ z ≤ 4 + 121 * r + 2 * n then g (z - 2) else g z
def mPut (g : Int → Int) (r p x c : Int) : Int → Int := pt (mS (mPutL g r (g (2 + 121 * r)) p) r p x c) (2 + 121 * r) (g (2 + 121 * r) + 1)
def mTakeL (g : Int → Int) (r p k : Int) : Int → Int := fun z => if 3 + 121 * r + 2 * p ≤ z ∧ z ≤ 2 + 121 * r + 2 * k then g (z + 2) else g z
def mTake (g : Int → Int) (r p : Int) : Int → Int := pt (mS (mTakeL g r p (g (2 + 121 * r) - 1)) r (g (2 + 121 * r) - 1) 0 0) (2 + 121 * r) (g (2 + 121 * r) - 1)
def mMovL (g : Int → Int) (r p o k : Int) : Int → Int := fun z => if 3 + 121 * o + 2 * g (2 + 121 * o) ≤ z ∧ z ≤ 2 + 121 * o + 2 * (g (2 + 121 * o) + (k - p)) then g (3 + 121 * r + 2 * p + (z - (3 + 121 * o + 2 * g (2 + 121 * o)))) else if z = 2 + 121 * o then g (2 + 121 * o) + (k - p) else if 3 + 121 * r + 2 * p ≤ z ∧ z ≤ 2 + 121 * r + 2 * k then 0 else g z
def mMov (g : Int → Int) (r p o : Int) : Int → Int := pt (mMovL g r p o (g (2 + 121 * r))) (2 + 121 * r) p
def mSwL (g : Int → Int) (a b k : Int) : Int → Int := fun z => if 2 + 121 * a ≤ z ∧ z < 2 + 121 * a + k then g (2 + 121 * b + (z - (2 + 121 * a))) else if 2 + 121 * b ≤ z ∧ z < 2 + 121 * b + k then g (2 + 121 * a + (z - (2 + 121 * b))) else g z
def mRvL (g : Int → Int) (r x y k : Int) : Int → Int := fun z => if (3 + 121 * r + 2 * x ≤ z ∧ z < 3 + 121 * r + 2 * k) ∨ (4 + 121 * r + 2 * (x + y - k) < z ∧ z ≤ 4 + 121 * r + 2 * y) then g (2 * (3 + 121 * r + x + y) + 2 * ((z - 3 - 121 * r) % 2) - z) else g z
def mRv (g : Int → Int) (r x y : Int) : Int → Int := fun z => if 3 + 121 * r + 2 * x ≤ z ∧ z ≤ 4 + 121 * r + 2 * y then g (2 * (3 + 121 * r + x + y) + 2 * ((z - 3 - 121 * r) % 2) - z) else g z
def mDyL (g : Int → Int) (r x c k : Int) : Int → Int := fun z => if 4 + 121 * r + 2 * x ≤ z ∧ z < 4 + 121 * r + 2 * k ∧ (z - 4 - 121 * r) % 2 = 0 then c else g z
theorem mMovL_m {g : Int → Int} {r p o k : Int} (h : p ≤ k) (h0 : 0 ≤ g (2 + 121 * o)) : mMovL g r p o k (2 + 121 * o) = g (2 + 121 * o) + (k - p) := by
  unfold mMovL; rw [if_neg (by omega), if_pos rfl]
/-! faults, told apart -/
theorem fPu_cs (f : Int → Int) (r p x c : Int) : (fPu f r p x c = 0 ∧ ((0 ≤ r ∧ r < 4) ∧ 0 ≤ p ∧ p ≤ f (240 + r)) ∧ (1 ≤ x ∧ x ≤ 99) ∧ (0 ≤ c ∧ c < 8) ∧ f (240 + r) < 60) ∨ (fPu f r p x c = 1 ∧ ¬ ((0 ≤ r ∧ r < 4) ∧ 0 ≤ p ∧ p ≤ f (240 + r))) ∨ (fPu f r p x c = 2 ∧ ((0 ≤ r ∧ r < 4) ∧ 0 ≤ p ∧ p ≤ f (240 + r)) ∧ ¬ ((1 ≤ x ∧ x ≤ 99) ∧ 0 ≤ c ∧ c < 8)) ∨ (fPu f r p x c = 3 ∧ ((0 ≤ r ∧ r < 4) ∧ 0 ≤ p ∧ p ≤ f (240 + r)) ∧ (1 ≤ x ∧ x ≤ 99) ∧ (0 ≤ c ∧ c < 8) ∧ ¬ f (240 + r) < 60) := by
  have hB := fB_iff f r p
  unfold fPu fN; (repeat' split) <;> omega
theorem fA_Pu (f : Int → Int) {r x c : Int} (h : 0 ≤ r ∧ r < 4) (hn : 0 ≤ f (240 + r)) : fPu f r (f (240 + r)) x c = fA f r x c := by
  have hB := fB_iff f r (f (240 + r))
  unfold fPu fA; rw [if_neg (by omega), if_neg (by omega)]
theorem fA_no (f : Int → Int) {r x c : Int} (h : ¬ (0 ≤ r ∧ r < 4)) : fA f r x c = 1 := by unfold fA; rw [if_pos h]
theorem fP_cs (f : Int → Int) (r p : Int) : (fP f r p = 0 ∧ (0 ≤ r ∧ r < 4) ∧ 0 ≤ p ∧ p < f (240 + r)) ∨ (fP f r p = 1 ∧ ¬ ((0 ≤ r ∧ r < 4) ∧ 0 ≤ p ∧ p < f (240 + r))) := by
  unfold fP; split <;> omega
theorem fT_cs (f : Int → Int) (r p x : Int) : (fT f r p x = 0 ∧ ((0 ≤ r ∧ r < 4) ∧ 0 ≤ p ∧ p < f (240 + r)) ∧ 1 ≤ x ∧ x ≤ 99) ∨ (fT f r p x = 1 ∧ ¬ ((0 ≤ r ∧ r < 4) ∧ 0 ≤ p ∧ p < f (240 + r))) ∨ (fT f r p x = 2 ∧ ((0 ≤ r ∧ r < 4) ∧ 0 ≤ p ∧ p < f (240 + r)) ∧ ¬ (1 ≤ x ∧ x ≤ 99)) := by
  unfold fT; (repeat' split) <;> omega
theorem fCu_cs (f : Int → Int) (r p o : Int) : (fCu f r p o = 0 ∧ ((0 ≤ r ∧ r < 4) ∧ 0 ≤ p ∧ p ≤ f (240 + r)) ∧ (0 ≤ o ∧ o < 4) ∧ r ≠ o ∧ f (240 + o) = 0) ∨ (fCu f r p o = 1 ∧ ¬ (((0 ≤ r ∧ r < 4) ∧ 0 ≤ p ∧ p ≤ f (240 + r)) ∧ 0 ≤ o ∧ o < 4)) ∨ (fCu f r p o = 2 ∧ ((0 ≤ r ∧ r < 4) ∧ 0 ≤ p ∧ p ≤ f (240 + r)) ∧ (0 ≤ o ∧ o < 4) ∧ r = o) ∨ (fCu f r p o = 3 ∧ ((0 ≤ r ∧ r < 4) ∧ 0 ≤ p ∧ p ≤ f (240 + r)) ∧ (0 ≤ o ∧ o < 4) ∧ r ≠ o ∧ f (240 + o) ≠ 0) := by
  have hB := fB_iff f r p
  unfold fCu; (repeat' split) <;> omega
theorem fJ_cs (f : Int → Int) (r o : Int) : (fJ f r o = 0 ∧ (0 ≤ r ∧ r < 4) ∧ (0 ≤ o ∧ o < 4) ∧ r ≠ o ∧ f (240 + r) + f (240 + o) ≤ 60) ∨ (fJ f r o = 1 ∧ ¬ ((0 ≤ r ∧ r < 4) ∧ 0 ≤ o ∧ o < 4)) ∨ (fJ f r o = 2 ∧ (0 ≤ r ∧ r < 4) ∧ (0 ≤ o ∧ o < 4) ∧ r = o) ∨ (fJ f r o = 3 ∧ (0 ≤ r ∧ r < 4) ∧ (0 ≤ o ∧ o < 4) ∧ r ≠ o ∧ ¬ f (240 + r) + f (240 + o) ≤ 60) := by
  have hB := fRR_iff r o
  unfold fJ; (repeat' split) <;> omega
theorem fX_cs (f : Int → Int) (r x y : Int) : (fX f r x y = 0 ∧ ((0 ≤ r ∧ r < 4) ∧ (0 ≤ x ∧ x < f (240 + r)) ∧ 0 ≤ y ∧ y < f (240 + r)) ∧ x ≤ y) ∨ (fX f r x y = 1 ∧ ¬ ((0 ≤ r ∧ r < 4) ∧ (0 ≤ x ∧ x < f (240 + r)) ∧ 0 ≤ y ∧ y < f (240 + r))) ∨ (fX f r x y = 2 ∧ ((0 ≤ r ∧ r < 4) ∧ (0 ≤ x ∧ x < f (240 + r)) ∧ 0 ≤ y ∧ y < f (240 + r)) ∧ ¬ x ≤ y) := by
  unfold fX; (repeat' split) <;> omega
theorem fD_cs (f : Int → Int) (r x y c : Int) : (fD f r x y c = 0 ∧ ((0 ≤ r ∧ r < 4) ∧ (0 ≤ x ∧ x < f (240 + r)) ∧ 0 ≤ y ∧ y < f (240 + r)) ∧ x ≤ y ∧ 0 ≤ c ∧ c < 8) ∨ (fD f r x y c = 1 ∧ ¬ ((0 ≤ r ∧ r < 4) ∧ (0 ≤ x ∧ x < f (240 + r)) ∧ 0 ≤ y ∧ y < f (240 + r))) ∨ (fD f r x y c = 2 ∧ ((0 ≤ r ∧ r < 4) ∧ (0 ≤ x ∧ x < f (240 + r)) ∧ 0 ≤ y ∧ y < f (240 + r)) ∧ ¬ (x ≤ y ∧ 0 ≤ c ∧ c < 8)) := by
  have h := fX_cs f r x y
  unfold fD fC; (repeat' split) <;> omega
