/-! a change of kind k (0 add, 1 put, 2 drop, 3 tie, 4 cut, 5 join, 6 swap, 7 flip, 8 dye): its fault, what it does to the cells, its answer -/
def FK (f : Int → Int) (k r b c d : Int) : Int := if k = 0 then fA f r b c else if k = 1 then fPu f r b c d else if k = 2 then fP f r b else if k = 3 then fT f r b c else if k = 4 then fCu f r b c else if k = 5 then fJ f r b else if k = 6 then fRR r b else if k = 7 then fX f r b c else fD f r b c d
def opF (f : Int → Int) (k r b c d : Int) : Int → Int := if k = 0 then putF f r (f (240 + r)) (b * 8 + c) else if k = 1 then putF f r b (c * 8 + d) else if k = 2 then takeF f r b else if k = 3 then pt f (r * 60 + b) (c * 8 + f (r * 60 + b) % 8) else if k = 4 then pt (mvF f r b c) 308 (mvF f r b c 308 + 1) else if k = 5 then pt (mvF f b 0 r) 309 (mvF f b 0 r 309 + 1) else if k = 6 then swF f r b else if k = 7 then rvF f r b c else dyL f r b d (c + 1)
def opR (f : Int → Int) (k r b c d : Int) : Int := if k = 0 then f (240 + r) + 1 else if k = 1 then f (240 + r) + 1 else if k = 2 then f (r * 60 + b) / 8 else if k = 3 then f (r * 60 + b) / 8 else if k = 4 then f (240 + r) - b else if k = 5 then (pt (mvF f b 0 r) 309 (mvF f b 0 r 309 + 1)) (240 + r) else if k = 6 then f (240 + b) else if k = 7 then sI (lgs (rvF f r b c) r) b (c + 1) else sI (dyI f r d) b (c + 1)
theorem fA_0 {f : Int → Int} {r x c : Int} (h : fA f r x c = 0) : (0 ≤ r ∧ r < 4) ∧ (1 ≤ x ∧ x ≤ 99) ∧ (0 ≤ c ∧ c < 8) ∧ f (240 + r) < 60 := by
  unfold fA fN at h; (repeat' split at h) <;> omega
theorem fPu_0 {f : Int → Int} {r p x c : Int} (h : fPu f r p x c = 0) : (0 ≤ r ∧ r < 4) ∧ (0 ≤ p ∧ p ≤ f (240 + r)) ∧ (1 ≤ x ∧ x ≤ 99) ∧ (0 ≤ c ∧ c < 8) ∧ f (240 + r) < 60 := by
  have hB := fB_iff f r p
  unfold fPu fN at h; (repeat' split at h) <;> omega
theorem fP_0 {f : Int → Int} {r p : Int} (h : fP f r p = 0) : (0 ≤ r ∧ r < 4) ∧ 0 ≤ p ∧ p < f (240 + r) := by
  unfold fP at h; (repeat' split at h) <;> omega
theorem fT_0 {f : Int → Int} {r p x : Int} (h : fT f r p x = 0) : (0 ≤ r ∧ r < 4) ∧ (0 ≤ p ∧ p < f (240 + r)) ∧ 1 ≤ x ∧ x ≤ 99 := by
  unfold fT at h; (repeat' split at h) <;> omega
theorem fCu_0 {f : Int → Int} {r p o : Int} (h : fCu f r p o = 0) : (0 ≤ r ∧ r < 4) ∧ (0 ≤ p ∧ p ≤ f (240 + r)) ∧ (0 ≤ o ∧ o < 4) ∧ r ≠ o ∧ f (240 + o) = 0 := by
  have hB := fB_iff f r p
  unfold fCu at h; (repeat' split at h) <;> omega
theorem fJ_0 {f : Int → Int} {r o : Int} (h : fJ f r o = 0) : (0 ≤ r ∧ r < 4) ∧ (0 ≤ o ∧ o < 4) ∧ r ≠ o ∧ f (240 + r) + f (240 + o) ≤ 60 := by
  have hB := fRR_iff r o
  unfold fJ at h; (repeat' split at h) <;> omega
theorem fRR_0 {r o : Int} (h : fRR r o = 0) : (0 ≤ r ∧ r < 4) ∧ 0 ≤ o ∧ o < 4 := by
  have hB := fRR_iff r o; omega
theorem fX_0 {f : Int → Int} {r x y : Int} (h : fX f r x y = 0) : (0 ≤ r ∧ r < 4) ∧ (0 ≤ x ∧ x ≤ y) ∧ y < f (240 + r) := by
  unfold fX at h; (repeat' split at h) <;> omega
theorem fC_0 {c : Int} (h : fC c = 0) : 0 ≤ c ∧ c < 8 := by
  unfold fC at h; (repeat' split at h) <;> omega
theorem fD_0 {f : Int → Int} {r x y c : Int} (h : fD f r x y c = 0) : (0 ≤ r ∧ r < 4) ∧ (0 ≤ x ∧ x ≤ y) ∧ y < f (240 + r) ∧ 0 ≤ c ∧ c < 8 := by
  unfold fD at h
  split at h
  · rename_i h1
    have := fX_0 h1
    have := fC_0 h
    omega
  · omega
theorem CW_N {f : Int → Int} (hW : CW f) : ∀ r : Int, 0 ≤ r ∧ r < 4 → 0 ≤ f (240 + r) ∧ f (240 + r) ≤ 60 := fun r hr => (hW r hr).1
