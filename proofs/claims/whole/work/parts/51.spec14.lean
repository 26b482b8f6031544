/-! the model's run: bounds of what is read -/
theorem mone_k1 (t : Int → Int) (n a m : Int) (T : Int → Int) : (mone t n a m T).1 = 1 ∨ a + 1 ≤ (mone t n a m T).2.1 := by
  rcases (mone_rg t n a m T).1 with h | h
  · exact Or.inr (mone_ok h).1
  · exact Or.inl h
def TR (T : Int → Int) : Prop := ∀ z : Int, 0 ≤ z ∧ z < 300 → 0 ≤ T z ∧ T z ≤ 200
theorem TR_pt {T : Int → Int} (h : TR T) (k : Int) {v : Int} (hv : 0 ≤ v ∧ v ≤ 200) : TR (pt T k v) := by
  intro z hz
  unfold pt
  split
  · exact hv
  · exact h z hz
theorem stV_rg {t : Int → Int} {n : Int} (c w a : Int) (hT : TW t n) (hv : isV c = 1) : 0 ≤ stV t n c w a ∧ stV t n c w a ≤ 200 := by
  have h1 := sg_rg hT a
  have h2 := sg_rg hT (a + 1)
  have hC := bC_iff (sg t n a - 97)
  have hD := bD_iff (sg t n a)
  have hD1 := bD_iff (sg t n (a + 1))
  have hc : c = 67 ∨ c = 68 ∨ c = 78 := by
    by_cases h : c = 67 ∨ c = 68 ∨ c = 78
    · exact h
    · exfalso; unfold isV at hv; rw [if_neg h] at hv; omega
  unfold stV
  split
  · omega
  · split
    · rename_i h3
      rcases hc with rfl | rfl | rfl
      · have h4 : bC (sg t n a - 97) = 1 := h3
        show 0 ≤ sg t n a - 97 ∧ sg t n a - 97 ≤ 200
        omega
      · have h4 : bD (sg t n a) = 1 := h3
        show 0 ≤ sg t n a - 48 ∧ sg t n a - 48 ≤ 200
        omega
      · have h4 : bD (sg t n a) = 1 := h3
        unfold vP
        rw [if_neg (by omega)]
        split <;> omega
    · omega
theorem mfo_TR {t : Int → Int} {n : Int} (hT : TW t n) : ∀ (l : List Int) {w a q : Int} {T : Int → Int}, TR T → TR (mfo t n l w a q T).2.2.2 := by
  intro l
  induction l with
  | nil => intros; assumption
  | cons c l ih =>
    intro w a q T h
    show TR (mfo t n l (stW t n c w a) (stA t n c w a) (q + isV c) (if isV c = 1 then pt T q (stV t n c w a) else T)).2.2.2
    apply ih
    split
    · rename_i hv; exact TR_pt h q (stV_rg c w a hT hv)
    · exact h
theorem mone_TR {t : Int → Int} {n a m : Int} {T : Int → Int} (hT : TW t n) (h : TR T) : TR (mone t n a m T).2.2.2 := by
  have hr := rcK_rg t n a
  by_cases h9 : rcK t n a = -1
  · rw [mone_n h9]; exact h
  · rw [mone_k rfl h9]
    refine mfo_TR hT _ (TR_pt h _ ?_)
    rcases (show rcK t n a = 0 ∨ rcK t n a = 1 ∨ rcK t n a = 2 ∨ rcK t n a = 3 ∨ rcK t n a = 4 ∨ rcK t n a = 5 ∨ rcK t n a = 6 ∨ rcK t n a = 7 ∨ rcK t n a = 8 by omega) with h | h | h | h | h | h | h | h | h <;> rw [h] <;> decide
theorem mlN_TR {t : Int → Int} {n : Int} (hT : TW t n) : ∀ (k : Nat) {w a m : Int} {T : Int → Int}, TR T → TR (mlN t n k w a m T).2.2.2 := by
  intro k
  induction k with
  | zero => intros; assumption
  | succ k ih =>
    intro w a m T h
    by_cases h1 : w = 0 ∧ sg t n a = 59
    · rw [mlN_s h1.1 h1.2]; exact ih (mone_TR hT h)
    · rw [mlN_e h1]; exact h
theorem mAll_TR {t : Int → Int} {n : Int} {T : Int → Int} (hT : TW t n) (h : TR T) : TR (mAll t n T).2.2.2 := mlN_TR hT _ (mone_TR hT h)
