/-! each change keeps both tellings of the reels the same -/
theorem MS_set {f g : Int → Int} (hM : MS f g) {r p x c : Int} (hr : 0 ≤ r ∧ r < 4) (hp : 0 ≤ p ∧ p < f (240 + r)) (hx : 1 ≤ x ∧ x ≤ 99) (hc : 0 ≤ c ∧ c < 8) : MS (pt f (r * 60 + p) (x * 8 + c)) (mS g r p x c) := by
  have hnr := (hM.1 r hr).1
  refine ⟨CW_set hM.1 hr (by omega) (by omega), fun o ho => ?_, ?_, ?_⟩
  · have hno := (hM.1 o ho).1
    have hmo := hM.2.1 o ho
    rw [show pt f (r * 60 + p) (x * 8 + c) (240 + o) = f (240 + o) from if_neg (by omega)]
    refine ⟨by unfold mS; rw [pt_n _ _ (by omega), pt_n _ _ (by omega)]; exact hmo.1, fun q hq => ?_⟩
    have hs := hmo.2 q hq
    by_cases h : o = r ∧ q = p
    · obtain ⟨rfl, rfl⟩ := h
      rw [pt_s]
      unfold mS
      rw [pt_n _ _ (by omega), pt_s, pt_s]; omega
    · rw [show pt f (r * 60 + p) (x * 8 + c) (o * 60 + q) = f (o * 60 + q) from if_neg (by omega)]
      unfold mS
      rw [pt_n _ _ (by omega), pt_n _ _ (by omega), pt_n _ _ (by omega), pt_n _ _ (by omega)]; exact hs
  · unfold mS; rw [pt_n _ _ (by omega), pt_n _ _ (by omega), pt_n _ _ (by omega)]; exact hM.2.2.1
  · unfold mS; rw [pt_n _ _ (by omega), pt_n _ _ (by omega), pt_n _ _ (by omega)]; exact hM.2.2.2
theorem MS_put {f g : Int → Int} (hM : MS f g) {r p x c : Int} (hr : 0 ≤ r ∧ r < 4) (hn : f (240 + r) < 60) (hp : 0 ≤ p ∧ p ≤ f (240 + r)) (hx : 1 ≤ x ∧ x ≤ 99) (hc : 0 ≤ c ∧ c < 8) : MS (putF f r p (x * 8 + c)) (mPut g r p x c) := by
  have hnr := (hM.1 r hr).1
  have hmr := (hM.2.1 r hr).1
  refine ⟨CW_put hM.1 hr hn hp (by omega), fun o ho => ?_, ?_, ?_⟩
  · have hno := (hM.1 o ho).1
    have hmo := hM.2.1 o ho
    by_cases h : o = r
    · subst h
      have e1 : putF f o p (x * 8 + c) (240 + o) = f (240 + o) + 1 := pt_s _ _ _
      have e2 : mPut g o p x c (2 + 121 * o) = g (2 + 121 * o) + 1 := pt_s _ _ _
      rw [e1, e2, hmr]
      refine ⟨rfl, fun q hq => ?_⟩
      by_cases h1 : q = p
      · subst h1
        have a1 : mPut g o q x c (3 + 121 * o + 2 * q) = x := by unfold mPut mS; rw [pt_n _ _ (by omega), pt_n _ _ (by omega), pt_s]
        have a2 : mPut g o q x c (4 + 121 * o + 2 * q) = c := by unfold mPut mS; rw [pt_n _ _ (by omega), pt_s]
        have a3 : putF f o q (x * 8 + c) (o * 60 + q) = x * 8 + c := by unfold putF; rw [pt_n _ _ (by omega), pt_s]
        rw [a1, a2, a3]; omega
      · have a1 : mPut g o p x c (3 + 121 * o + 2 * q) = mPutL g o (f (240 + o)) p (3 + 121 * o + 2 * q) := by unfold mPut mS; rw [hmr, pt_n _ _ (by omega), pt_n _ _ (by omega), pt_n _ _ (by omega)]
        have a2 : mPut g o p x c (4 + 121 * o + 2 * q) = mPutL g o (f (240 + o)) p (4 + 121 * o + 2 * q) := by unfold mPut mS; rw [hmr, pt_n _ _ (by omega), pt_n _ _ (by omega), pt_n _ _ (by omega)]
        have a3 : putF f o p (x * 8 + c) (o * 60 + q) = putL f o (f (240 + o)) p (o * 60 + q) := by unfold putF; rw [pt_n _ _ (by omega), pt_n _ _ (by omega)]
        rw [a1, a2, a3]
        unfold putL mPutL
        by_cases h2 : p < q
        · have hs := hmo.2 (q - 1) (by omega)
          rw [show 3 + 121 * o + 2 * (q - 1) = 3 + 121 * o + 2 * q - 2 by omega, show 4 + 121 * o + 2 * (q - 1) = 4 + 121 * o + 2 * q - 2 by omega, show o * 60 + (q - 1) = o * 60 + q - 1 by omega] at hs
          rw [if_pos (by omega), if_pos (by omega), if_pos (by omega)]; exact hs
        · rw [if_neg (by omega), if_neg (by omega), if_neg (by omega)]; exact hmo.2 q (by omega)
    · have e1 : putF f r p (x * 8 + c) (240 + o) = f (240 + o) := by unfold putF putL; rw [pt_n _ _ (by omega), pt_n _ _ (by omega), if_neg (by omega)]
      have e2 : mPut g r p x c (2 + 121 * o) = g (2 + 121 * o) := by unfold mPut mS mPutL; rw [pt_n _ _ (by omega), pt_n _ _ (by omega), pt_n _ _ (by omega), if_neg (by omega)]
      rw [e1, e2]
      refine ⟨hmo.1, fun q hq => ?_⟩
      unfold putF mPut mS putL mPutL
      rw [pt_n _ _ (by omega), pt_n _ _ (by omega), pt_n _ _ (by omega), pt_n _ _ (by omega), pt_n _ _ (by omega), pt_n _ _ (by omega), pt_n _ _ (by omega), pt_n _ _ (by omega), if_neg (by omega), if_neg (by omega), if_neg (by omega)]
      exact hmo.2 q hq
  · unfold putF mPut mS putL mPutL
    rw [pt_n _ _ (by omega), pt_n _ _ (by omega), pt_n _ _ (by omega), pt_n _ _ (by omega), pt_n _ _ (by omega), if_neg (by omega), if_neg (by omega)]; exact hM.2.2.1
  · unfold putF mPut mS putL mPutL
    rw [pt_n _ _ (by omega), pt_n _ _ (by omega), pt_n _ _ (by omega), pt_n _ _ (by omega), pt_n _ _ (by omega), if_neg (by omega), if_neg (by omega)]; exact hM.2.2.2
theorem MS_take {f g : Int → Int} (hM : MS f g) {r p : Int} (hr : 0 ≤ r ∧ r < 4) (hp : 0 ≤ p ∧ p < f (240 + r)) : MS (takeF f r p) (mTake g r p) := by
  have hnr := (hM.1 r hr).1
  have hmr := (hM.2.1 r hr).1
  refine ⟨CW_take hM.1 hr hp, fun o ho => ?_, ?_, ?_⟩
  · have hno := (hM.1 o ho).1
    have hmo := hM.2.1 o ho
    by_cases h : o = r
    · subst h
      have e1 : takeF f o p (240 + o) = f (240 + o) - 1 := pt_s _ _ _
      have e2 : mTake g o p (2 + 121 * o) = g (2 + 121 * o) - 1 := pt_s _ _ _
      rw [e1, e2, hmr]
      refine ⟨rfl, fun q hq => ?_⟩
      unfold takeF mTake mS
      rw [hmr, pt_n _ _ (by omega), pt_n _ _ (by omega), pt_n _ _ (by omega), pt_n _ _ (by omega), pt_n _ _ (by omega), pt_n _ _ (by omega), pt_n _ _ (by omega)]
      unfold takeL mTakeL
      by_cases h2 : p ≤ q
      · have hs := hmo.2 (q + 1) (by omega)
        rw [show 3 + 121 * o + 2 * (q + 1) = 3 + 121 * o + 2 * q + 2 by omega, show 4 + 121 * o + 2 * (q + 1) = 4 + 121 * o + 2 * q + 2 by omega, show o * 60 + (q + 1) = o * 60 + q + 1 by omega] at hs
        rw [if_pos (by omega), if_pos (by omega), if_pos (by omega)]; exact hs
      · rw [if_neg (by omega), if_neg (by omega), if_neg (by omega)]; exact hmo.2 q (by omega)
    · have e1 : takeF f r p (240 + o) = f (240 + o) := by unfold takeF takeL; rw [pt_n _ _ (by omega), if_neg (by omega)]
      have e2 : mTake g r p (2 + 121 * o) = g (2 + 121 * o) := by unfold mTake mS mTakeL; rw [pt_n _ _ (by omega), pt_n _ _ (by omega), pt_n _ _ (by omega), if_neg (by omega)]
      rw [e1, e2]
      refine ⟨hmo.1, fun q hq => ?_⟩
      unfold takeF mTake mS takeL mTakeL
      rw [pt_n _ _ (by omega), pt_n _ _ (by omega), pt_n _ _ (by omega), pt_n _ _ (by omega), pt_n _ _ (by omega), pt_n _ _ (by omega), pt_n _ _ (by omega), if_neg (by omega), if_neg (by omega), if_neg (by omega)]
      exact hmo.2 q hq
  · unfold takeF mTake mS takeL mTakeL
    rw [pt_n _ _ (by omega), pt_n _ _ (by omega), pt_n _ _ (by omega), pt_n _ _ (by omega), if_neg (by omega), if_neg (by omega)]; exact hM.2.2.1
  · unfold takeF mTake mS takeL mTakeL
    rw [pt_n _ _ (by omega), pt_n _ _ (by omega), pt_n _ _ (by omega), pt_n _ _ (by omega), if_neg (by omega), if_neg (by omega)]; exact hM.2.2.2
theorem MS_mov {f g : Int → Int} (hM : MS f g) {a p b : Int} (ha : 0 ≤ a ∧ a < 4) (hb : 0 ≤ b ∧ b < 4) (hab : a ≠ b) (hp : 0 ≤ p ∧ p ≤ f (240 + a)) (he : f (240 + b) + (f (240 + a) - p) ≤ 60) : MS (mvF f a p b) (mMov g a p b) := by
  have hna := (hM.1 a ha).1
  have hma := (hM.2.1 a ha).1
  have hnb := (hM.1 b hb).1
  have hmb := (hM.2.1 b hb).1
  refine ⟨CW_mv hM.1 ha hb hab hp he, fun o ho => ?_, ?_, ?_⟩
  · have hno := (hM.1 o ho).1
    have hmo := hM.2.1 o ho
    by_cases h : o = a
    · subst h
      have e1 : mvF f o p b (240 + o) = p := pt_s _ _ _
      have e2 : mMov g o p b (2 + 121 * o) = p := pt_s _ _ _
      rw [e1, e2]
      refine ⟨rfl, fun q hq => ?_⟩
      unfold mvF mMov mvL mMovL
      rw [hma, hmb, pt_n _ _ (by omega), pt_n _ _ (by omega), pt_n _ _ (by omega), pt_n _ _ (by omega), if_neg (by omega), if_neg (by omega), if_neg (by omega), if_neg (by omega), if_neg (by omega), if_neg (by omega), if_neg (by omega)]
      exact hmo.2 q (by omega)
    · by_cases h2 : o = b
      · subst h2
        have e1 : mvF f a p o (240 + o) = f (240 + o) + (f (240 + a) - p) := by unfold mvF; rw [pt_n _ _ (by omega), pt_s]
        have e2 : mMov g a p o (2 + 121 * o) = f (240 + o) + (f (240 + a) - p) := by unfold mMov mMovL; rw [hma, hmb, pt_n _ _ (by omega), if_neg (by omega), if_pos rfl]
        rw [e1, e2]
        refine ⟨rfl, fun q hq => ?_⟩
        unfold mvF mMov mvL mMovL
        rw [hma, hmb, pt_n _ _ (by omega), pt_n _ _ (by omega), pt_n _ _ (by omega), pt_n _ _ (by omega)]
        by_cases h3 : f (240 + o) ≤ q
        · have hs := (hM.2.1 a ha).2 (p + (q - f (240 + o))) (by omega)
          rw [if_pos (by omega), if_pos (by omega), if_pos (by omega)]
          rw [show 3 + 121 * a + 2 * (p + (q - f (240 + o))) = 3 + 121 * a + 2 * p + (3 + 121 * o + 2 * q - (3 + 121 * o + 2 * f (240 + o))) by omega, show 4 + 121 * a + 2 * (p + (q - f (240 + o))) = 3 + 121 * a + 2 * p + (4 + 121 * o + 2 * q - (3 + 121 * o + 2 * f (240 + o))) by omega, show a * 60 + (p + (q - f (240 + o))) = a * 60 + (p + (o * 60 + q - (o * 60 + f (240 + o)))) by omega] at hs
          exact hs
        · rw [if_neg (by omega), if_neg (by omega), if_neg (by omega), if_neg (by omega), if_neg (by omega), if_neg (by omega), if_neg (by omega)]
          exact hmo.2 q (by omega)
      · have e1 : mvF f a p b (240 + o) = f (240 + o) := by unfold mvF mvL; rw [pt_n _ _ (by omega), pt_n _ _ (by omega), if_neg (by omega)]
        have e2 : mMov g a p b (2 + 121 * o) = g (2 + 121 * o) := by unfold mMov mMovL; rw [hma, hmb, pt_n _ _ (by omega), if_neg (by omega), if_neg (by omega), if_neg (by omega)]
        rw [e1, e2]
        refine ⟨hmo.1, fun q hq => ?_⟩
        unfold mvF mMov mvL mMovL
        rw [hma, hmb, pt_n _ _ (by omega), pt_n _ _ (by omega), pt_n _ _ (by omega), pt_n _ _ (by omega), if_neg (by omega), if_neg (by omega), if_neg (by omega), if_neg (by omega), if_neg (by omega), if_neg (by omega), if_neg (by omega)]
        exact hmo.2 q hq
  · unfold mvF mMov mvL mMovL
    rw [hma, hmb, pt_n _ _ (by omega), pt_n _ _ (by omega), pt_n _ _ (by omega), if_neg (by omega), if_neg (by omega), if_neg (by omega), if_neg (by omega)]; exact hM.2.2.1
  · unfold mvF mMov mvL mMovL
    rw [hma, hmb, pt_n _ _ (by omega), pt_n _ _ (by omega), pt_n _ _ (by omega), if_neg (by omega), if_neg (by omega), if_neg (by omega), if_neg (by omega)]; exact hM.2.2.2
theorem MS_c0 {f g : Int → Int} (hM : MS f g) (v : Int) : MS (pt f 308 v) (pt g 0 v) := by
  refine ⟨CW_hi hM.1 (by omega), fun o ho => ?_, ?_, ?_⟩
  · have hno := (hM.1 o ho).1
    have hmo := hM.2.1 o ho
    rw [pt_n f v (show 240 + o ≠ 308 by omega), pt_n g v (show 2 + 121 * o ≠ 0 by omega)]
    refine ⟨hmo.1, fun q hq => ?_⟩
    rw [pt_n f v (show o * 60 + q ≠ 308 by omega), pt_n g v (show 3 + 121 * o + 2 * q ≠ 0 by omega), pt_n g v (show 4 + 121 * o + 2 * q ≠ 0 by omega)]
    exact hmo.2 q hq
  · rw [pt_s, pt_s]
  · rw [pt_n f v (by omega), pt_n g v (by omega)]; exact hM.2.2.2
theorem MS_c1 {f g : Int → Int} (hM : MS f g) (v : Int) : MS (pt f 309 v) (pt g 1 v) := by
  refine ⟨CW_hi hM.1 (by omega), fun o ho => ?_, ?_, ?_⟩
  · have hno := (hM.1 o ho).1
    have hmo := hM.2.1 o ho
    rw [pt_n f v (show 240 + o ≠ 309 by omega), pt_n g v (show 2 + 121 * o ≠ 1 by omega)]
    refine ⟨hmo.1, fun q hq => ?_⟩
    rw [pt_n f v (show o * 60 + q ≠ 309 by omega), pt_n g v (show 3 + 121 * o + 2 * q ≠ 1 by omega), pt_n g v (show 4 + 121 * o + 2 * q ≠ 1 by omega)]
    exact hmo.2 q hq
  · rw [pt_n f v (by omega), pt_n g v (by omega)]; exact hM.2.2.1
  · rw [pt_s, pt_s]
theorem MS_lo {f f2 g : Int → Int} (hM : MS f g) (h : ∀ z : Int, (0 ≤ z ∧ z < 244) ∨ z = 308 ∨ z = 309 → f2 z = f z) : MS f2 g := by
  refine ⟨CW_lo hM.1 (fun z hz => h z (Or.inl hz)), fun o ho => ?_, ?_, ?_⟩
  · have hno := (hM.1 o ho).1
    have hmo := hM.2.1 o ho
    rw [h (240 + o) (by omega)]
    refine ⟨hmo.1, fun q hq => ?_⟩
    rw [h (o * 60 + q) (by omega)]
    exact hmo.2 q hq
  · rw [h 308 (by omega)]; exact hM.2.2.1
  · rw [h 309 (by omega)]; exact hM.2.2.2
theorem MS_cut {f g : Int → Int} (hM : MS f g) {a p b : Int} (ha : 0 ≤ a ∧ a < 4) (hb : 0 ≤ b ∧ b < 4) (hab : a ≠ b) (hp : 0 ≤ p ∧ p ≤ f (240 + a)) (he : f (240 + b) + (f (240 + a) - p) ≤ 60) : MS (pt (mvF f a p b) 308 (mvF f a p b 308 + 1)) (mMov (pt g 0 (g 0 + 1)) a p b) := by
  have hna := (hM.1 a ha).1
  have hnb := (hM.1 b hb).1
  have h1 := MS_c0 hM (f 308 + 1)
  rw [show pt g 0 (f 308 + 1) = pt g 0 (g 0 + 1) by rw [hM.2.2.1]] at h1
  have q1 : pt f 308 (f 308 + 1) (240 + a) = f (240 + a) := pt_n _ _ (by omega)
  have q2 : pt f 308 (f 308 + 1) (240 + b) = f (240 + b) := pt_n _ _ (by omega)
  refine MS_lo (MS_mov h1 ha hb hab (by rw [q1]; exact hp) (by rw [q1, q2]; exact he)) (fun z hz => ?_)
  unfold mvF
  rw [q1, q2]
  by_cases h : z = 308
  · subst h
    rw [pt_s, pt_n _ _ (by omega), pt_n _ _ (by omega), pt_n _ _ (by omega), pt_n _ _ (by omega)]
    unfold mvL
    rw [if_neg (by omega), if_neg (by omega), pt_s]
  · rw [pt_n _ _ h]
    unfold pt
    by_cases h2 : z = 240 + a
    · rw [if_pos h2, if_pos h2]
    · rw [if_neg h2, if_neg h2]
      by_cases h3 : z = 240 + b
      · rw [if_pos h3, if_pos h3]
      · rw [if_neg h3, if_neg h3]
        unfold mvL
        by_cases h4 : b * 60 + f (240 + b) ≤ z ∧ z < b * 60 + f (240 + b) + (f (240 + a) - p)
        · rw [if_pos h4, if_pos h4]; exact (if_neg (by omega)).symm
        · rw [if_neg h4, if_neg h4]; exact (if_neg h).symm
theorem MS_join {f g : Int → Int} (hM : MS f g) {a b : Int} (ha : 0 ≤ a ∧ a < 4) (hb : 0 ≤ b ∧ b < 4) (hab : a ≠ b) (he : f (240 + b) + f (240 + a) ≤ 60) : MS (pt (mvF f a 0 b) 309 (mvF f a 0 b 309 + 1)) (pt (mMov g a 0 b) 1 (mMov g a 0 b 1 + 1)) := by
  have hna := (hM.1 a ha).1
  have h1 := MS_mov hM ha hb hab (p := 0) (by omega) (by omega)
  have h2 := MS_c1 h1 (mvF f a 0 b 309 + 1)
  rw [show mMov g a 0 b 1 = mvF f a 0 b 309 from h1.2.2.2]
  exact h2
theorem MS_sw {f g : Int → Int} (hM : MS f g) {a b : Int} (ha : 0 ≤ a ∧ a < 4) (hb : 0 ≤ b ∧ b < 4) : MS (swF f a b) (mSwL g a b 121) := by
  have hna := (hM.1 a ha).1
  have hma := hM.2.1 a ha
  have hnb := (hM.1 b hb).1
  have hmb := hM.2.1 b hb
  refine ⟨CW_sw hM.1 ha hb, fun o ho => ?_, ?_, ?_⟩
  · have hno := (hM.1 o ho).1
    have hmo := hM.2.1 o ho
    by_cases h : o = a
    · subst h
      have e1 : swF f o b (240 + o) = f (240 + b) := by
        unfold swF
        by_cases h9 : o = b
        · subst h9; rw [pt_s]
        · rw [pt_n _ _ (by omega), pt_s]
      have e2 : mSwL g o b 121 (2 + 121 * o) = g (2 + 121 * b) := by unfold mSwL; rw [if_pos (by omega)]; congr 1; omega
      rw [e1, e2]
      refine ⟨hmb.1, fun q hq => ?_⟩
      have hs := hmb.2 q hq
      unfold swF swL mSwL
      rw [pt_n _ _ (by omega), pt_n _ _ (by omega), if_pos (by omega), if_pos (by omega), if_pos (by omega)]
      rw [show 2 + 121 * b + (3 + 121 * o + 2 * q - (2 + 121 * o)) = 3 + 121 * b + 2 * q by omega, show 2 + 121 * b + (4 + 121 * o + 2 * q - (2 + 121 * o)) = 4 + 121 * b + 2 * q by omega, show b * 60 + (o * 60 + q - o * 60) = b * 60 + q by omega]
      exact hs
    · by_cases h2 : o = b
      · subst h2
        have e1 : swF f a o (240 + o) = f (240 + a) := pt_s _ _ _
        have e2 : mSwL g a o 121 (2 + 121 * o) = g (2 + 121 * a) := by unfold mSwL; rw [if_neg (by omega), if_pos (by omega)]; congr 1; omega
        rw [e1, e2]
        refine ⟨hma.1, fun q hq => ?_⟩
        have hs := hma.2 q hq
        unfold swF swL mSwL
        rw [pt_n _ _ (by omega), pt_n _ _ (by omega), if_neg (by omega), if_pos (by omega), if_neg (by omega), if_pos (by omega), if_neg (by omega), if_pos (by omega)]
        rw [show 2 + 121 * a + (3 + 121 * o + 2 * q - (2 + 121 * o)) = 3 + 121 * a + 2 * q by omega, show 2 + 121 * a + (4 + 121 * o + 2 * q - (2 + 121 * o)) = 4 + 121 * a + 2 * q by omega, show a * 60 + (o * 60 + q - o * 60) = a * 60 + q by omega]
        exact hs
      · have e1 : swF f a b (240 + o) = f (240 + o) := by unfold swF swL; rw [pt_n _ _ (by omega), pt_n _ _ (by omega), if_neg (by omega), if_neg (by omega)]
        have e2 : mSwL g a b 121 (2 + 121 * o) = g (2 + 121 * o) := by unfold mSwL; rw [if_neg (by omega), if_neg (by omega)]
        rw [e1, e2]
        refine ⟨hmo.1, fun q hq => ?_⟩
        unfold swF swL mSwL
        rw [pt_n _ _ (by omega), pt_n _ _ (by omega), if_neg (by omega), if_neg (by omega), if_neg (by omega), if_neg (by omega), if_neg (by omega), if_neg (by omega)]
        exact hmo.2 q hq
  · unfold swF swL mSwL
    rw [pt_n _ _ (by omega), pt_n _ _ (by omega), if_neg (by omega), if_neg (by omega), if_neg (by omega), if_neg (by omega)]; exact hM.2.2.1
  · unfold swF swL mSwL
    rw [pt_n _ _ (by omega), pt_n _ _ (by omega), if_neg (by omega), if_neg (by omega), if_neg (by omega), if_neg (by omega)]; exact hM.2.2.2
theorem MS_rv {f g : Int → Int} (hM : MS f g) {r x y : Int} (hr : 0 ≤ r ∧ r < 4) (h : 0 ≤ x ∧ x ≤ y ∧ y < f (240 + r)) : MS (rvF f r x y) (mRv g r x y) := by
  have hnr := (hM.1 r hr).1
  refine ⟨CW_rv hM.1 hr h, fun o ho => ?_, ?_, ?_⟩
  · have hno := (hM.1 o ho).1
    have hmo := hM.2.1 o ho
    rw [show rvF f r x y (240 + o) = f (240 + o) from if_neg (by omega), show mRv g r x y (2 + 121 * o) = g (2 + 121 * o) from if_neg (by omega)]
    refine ⟨hmo.1, fun q hq => ?_⟩
    unfold rvF mRv
    by_cases h1 : o = r ∧ x ≤ q ∧ q ≤ y
    · obtain ⟨rfl, h2⟩ := h1
      have hs := hmo.2 (x + y - q) (by omega)
      rw [if_pos (by omega), if_pos (by omega), if_pos (by omega)]
      rw [show 2 * (3 + 121 * o + x + y) + 2 * ((3 + 121 * o + 2 * q - 3 - 121 * o) % 2) - (3 + 121 * o + 2 * q) = 3 + 121 * o + 2 * (x + y - q) by omega, show 2 * (3 + 121 * o + x + y) + 2 * ((4 + 121 * o + 2 * q - 3 - 121 * o) % 2) - (4 + 121 * o + 2 * q) = 4 + 121 * o + 2 * (x + y - q) by omega, show o * 60 + x + (o * 60 + y) - (o * 60 + q) = o * 60 + (x + y - q) by omega]
      exact hs
    · rw [if_neg (by omega), if_neg (by omega), if_neg (by omega)]; exact hmo.2 q hq
  · rw [show rvF f r x y 308 = f 308 from if_neg (by omega), show mRv g r x y 0 = g 0 from if_neg (by omega)]; exact hM.2.2.1
  · rw [show rvF f r x y 309 = f 309 from if_neg (by omega), show mRv g r x y 1 = g 1 from if_neg (by omega)]; exact hM.2.2.2
theorem MS_dy {f g : Int → Int} (hM : MS f g) {r x y c : Int} (hr : 0 ≤ r ∧ r < 4) (h : 0 ≤ x ∧ x ≤ y ∧ y < f (240 + r)) (hc : 0 ≤ c ∧ c < 8) : MS (dyL f r x c (y + 1)) (mDyL g r x c (y + 1)) := by
  have hnr := (hM.1 r hr).1
  refine ⟨CW_dy hM.1 hc h.1 hr (by omega), fun o ho => ?_, ?_, ?_⟩
  · have hno := (hM.1 o ho).1
    have hmo := hM.2.1 o ho
    rw [show dyL f r x c (y + 1) (240 + o) = f (240 + o) from if_neg (by omega), show mDyL g r x c (y + 1) (2 + 121 * o) = g (2 + 121 * o) from if_neg (by omega)]
    refine ⟨hmo.1, fun q hq => ?_⟩
    have hs := hmo.2 q hq
    unfold dyL mDyL
    rw [if_neg (c := 4 + 121 * r + 2 * x ≤ 3 + 121 * o + 2 * q ∧ 3 + 121 * o + 2 * q < 4 + 121 * r + 2 * (y + 1) ∧ (3 + 121 * o + 2 * q - 4 - 121 * r) % 2 = 0) (by omega)]
    by_cases h1 : o = r ∧ x ≤ q ∧ q ≤ y
    · rw [if_pos (by omega), if_pos (by omega)]; omega
    · rw [if_neg (by omega), if_neg (by omega)]; exact hs
  · rw [show dyL f r x c (y + 1) 308 = f 308 from if_neg (by omega), show mDyL g r x c (y + 1) 0 = g 0 from if_neg (by omega)]; exact hM.2.2.1
  · rw [show dyL f r x c (y + 1) 309 = f 309 from if_neg (by omega), show mDyL g r x c (y + 1) 1 = g 1 from if_neg (by omega)]; exact hM.2.2.2
/-- the parts, kept beside the reels, aren't told by g -/
theorem MS_ref {f g : Int → Int} (hM : MS f g) : MS (refF f) g := MS_lo hM fun z hz => by
  show refU f 32 z = f z
  unfold refU; rw [if_neg (by omega), if_neg (by omega)]
theorem cpf_0 (f g : Int → Int) (a b : Int) : cpf f g a b 0 = g := by
  funext z; unfold cpf; rw [if_neg (by omega)]
