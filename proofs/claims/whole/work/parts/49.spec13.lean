/-! the model's commands: read, and carried out -/
theorem mfo_rg (t : Int → Int) (n : Int) : ∀ (l : List Int) {w a q : Int} {T : Int → Int}, (w = 0 ∨ w = 1) → ((mfo t n l w a q T).1 = 0 ∨ (mfo t n l w a q T).1 = 1) ∧ a ≤ (mfo t n l w a q T).2.1 ∧ (mfo t n l w a q T).2.1 ≤ a + 2 * l.length := by
  intro l
  induction l with
  | nil => intro w a q T hw; exact ⟨hw, by show a ≤ a ∧ a ≤ a + 2 * ((0 : Nat) : Int); omega⟩
  | cons c l ih =>
    intro w a q T _
    have h1 := ih (w := stW t n c w a) (a := stA t n c w a) (q := q + isV c) (T := if isV c = 1 then pt T q (stV t n c w a) else T) (stW_01 t n c w a)
    have h2 := stA_rg t n c w a
    have h3 : (((c :: l).length : Nat) : Int) = l.length + 1 := by simp
    refine ⟨h1.1, ?_⟩
    show a ≤ (mfo t n l (stW t n c w a) (stA t n c w a) (q + isV c) (if isV c = 1 then pt T q (stV t n c w a) else T)).2.1 ∧ (mfo t n l (stW t n c w a) (stA t n c w a) (q + isV c) (if isV c = 1 then pt T q (stV t n c w a) else T)).2.1 ≤ a + 2 * (((c :: l).length : Nat) : Int)
    omega
theorem stW_0 {t : Int → Int} {n c w a : Int} (h : stW t n c w a = 0) : w ≠ 1 ∧ okP t n c a = 1 := by
  unfold stW at h
  split at h <;> omega
theorem mfo_w1 (t : Int → Int) (n : Int) : ∀ (l : List Int) {a q : Int} {T : Int → Int}, (mfo t n l 1 a q T).1 = 1 ∧ (mfo t n l 1 a q T).2.1 = a := by
  intro l
  induction l with
  | nil => intros; exact ⟨rfl, rfl⟩
  | cons c l ih =>
    intro a q T
    show (mfo t n l (stW t n c 1 a) (stA t n c 1 a) (q + isV c) (if isV c = 1 then pt T q (stV t n c 1 a) else T)).1 = 1 ∧ (mfo t n l (stW t n c 1 a) (stA t n c 1 a) (q + isV c) (if isV c = 1 then pt T q (stV t n c 1 a) else T)).2.1 = a
    rw [show stW t n c 1 a = 1 from if_pos rfl, show stA t n c 1 a = a from if_pos rfl]
    exact ih
theorem mfo_ok (t : Int → Int) (n : Int) : ∀ (l : List Int) {a q : Int} {T : Int → Int}, (mfo t n l 0 a q T).1 = 0 → a + l.length ≤ (mfo t n l 0 a q T).2.1 := by
  intro l
  induction l with
  | nil => intro a q T _; show a + ((0 : Nat) : Int) ≤ a; omega
  | cons c l ih =>
    intro a q T h
    have h3 : (((c :: l).length : Nat) : Int) = l.length + 1 := by simp
    have h' : (mfo t n l (stW t n c 0 a) (stA t n c 0 a) (q + isV c) (if isV c = 1 then pt T q (stV t n c 0 a) else T)).1 = 0 := h
    show a + (((c :: l).length : Nat) : Int) ≤ (mfo t n l (stW t n c 0 a) (stA t n c 0 a) (q + isV c) (if isV c = 1 then pt T q (stV t n c 0 a) else T)).2.1
    rcases stW_01 t n c 0 a with hw | hw
    · rw [hw] at h' ⊢
      have h4 := ih h'
      have h5 := (stW_0 hw).2
      have h6 : a + 1 ≤ stA t n c 0 a := by
        rw [show stA t n c 0 a = atP t n c a from if_neg (by omega)]
        unfold atP; rw [if_neg (by omega)]; split <;> omega
      omega
    · rw [hw] at h'
      have := (mfo_w1 t n l (a := stA t n c 0 a) (q := q + isV c) (T := if isV c = 1 then pt T q (stV t n c 0 a) else T)).1
      omega
theorem mone_rg (t : Int → Int) (n a m : Int) (T : Int → Int) : ((mone t n a m T).1 = 0 ∨ (mone t n a m T).1 = 1) ∧ a ≤ (mone t n a m T).2.1 ∧ (mone t n a m T).2.1 ≤ a + 22 := by
  have hr := rcK_rg t n a
  by_cases h : rcK t n a = -1
  · rw [mone_n h]; exact ⟨Or.inr rfl, by show a ≤ a ∧ a ≤ a + 22; omega⟩
  · rw [mone_k rfl h]
    have h1 := mfo_rg t n (pl (fW (rcK t n a))) (w := 0) (a := a) (q := 5 * m + 1) (T := pt T (5 * m) (cdK (rcK t n a))) (Or.inl rfl)
    have h2 := pl_len (fW_lt hr)
    have h3 := fW_sL (k := rcK t n a) (by omega)
    exact ⟨h1.1, by omega⟩
theorem mone_ok {t : Int → Int} {n a m : Int} {T : Int → Int} (h : (mone t n a m T).1 = 0) : a + 1 ≤ (mone t n a m T).2.1 ∧ rcK t n a ≠ -1 := by
  have hr := rcK_rg t n a
  by_cases h9 : rcK t n a = -1
  · rw [mone_n h9] at h
    have h8 : (1 : Int) = 0 := h
    omega
  · rw [mone_k rfl h9] at h ⊢
    have h1 := mfo_ok t n (pl (fW (rcK t n a))) h
    have h2 := pl_len (fW_lt hr)
    have h3 := fW_sL (k := rcK t n a) (by omega)
    exact ⟨by omega, h9⟩
def mlN (t : Int → Int) (n : Int) : Nat → Int → Int → Int → (Int → Int) → Int × Int × Int × (Int → Int)
  | 0, w, a, m, T => (w, a, m, T)
  | k + 1, w, a, m, T => if w = 0 ∧ sg t n a = 59 then mlN t n k (mone t n (a + 1) m T).1 (mone t n (a + 1) m T).2.1 (m + 1) (mone t n (a + 1) m T).2.2.2 else (w, a, m, T)
theorem mlN_s {t T : Int → Int} {n w a m : Int} {k : Nat} (h : w = 0) (h2 : sg t n a = 59) : mlN t n (k + 1) w a m T = mlN t n k (mone t n (a + 1) m T).1 (mone t n (a + 1) m T).2.1 (m + 1) (mone t n (a + 1) m T).2.2.2 := if_pos ⟨h, h2⟩
theorem mlN_e {t T : Int → Int} {n w a m : Int} {k : Nat} (h : ¬ (w = 0 ∧ sg t n a = 59)) : mlN t n k w a m T = (w, a, m, T) := by
  cases k with
  | zero => rfl
  | succ k => exact if_neg h
/-- the whole text, from the start -/
def mAll (t : Int → Int) (n : Int) (T : Int → Int) : Int × Int × Int × (Int → Int) := mlN t n 61 (mone t n 0 0 T).1 (mone t n 0 0 T).2.1 1 (mone t n 0 0 T).2.2.2
def mOp (g : Int → Int) (k r b c d : Int) : Int → Int := if k = 0 then mPut g r (g (2 + 121 * r)) b c else if k = 1 then mPut g r b c d else if k = 2 then mTake g r b else if k = 3 then mS g r b c (g (4 + 121 * r + 2 * b)) else if k = 4 then mMov (pt g 0 (g 0 + 1)) r b c else if k = 5 then pt (mMov g b 0 r) 1 (mMov g b 0 r 1 + 1) else if k = 6 then mSwL g r b 121 else if k = 7 then mRv g r b c else mDyL g r b d (c + 1)
def mAn (f g : Int → Int) (k r b c d : Int) : Int := if k = 0 then g (2 + 121 * r) + 1 else if k = 1 then g (2 + 121 * r) + 1 else if k = 2 then g (3 + 121 * r + 2 * b) else if k = 3 then g (3 + 121 * r + 2 * b) else if k = 4 then g (2 + 121 * r) - b else if k = 5 then (pt (mMov g b 0 r) 1 (mMov g b 0 r 1 + 1)) (2 + 121 * r) else if k = 6 then mSwL g r b 121 (2 + 121 * r) else if k = 7 then sI (lgs (rvF f r b c) r) b (c + 1) else sI (dyI f r d) b (c + 1)
theorem MS_op {f g : Int → Int} (hM : MS f g) {k r b c d : Int} (hk : 0 ≤ k ∧ k ≤ 8) (hF : FK f k r b c d = 0) : MS (opF f k r b c d) (mOp g k r b c d) := by
  rcases (show k = 0 ∨ k = 1 ∨ k = 2 ∨ k = 3 ∨ k = 4 ∨ k = 5 ∨ k = 6 ∨ k = 7 ∨ k = 8 by omega) with rfl | rfl | rfl | rfl | rfl | rfl | rfl | rfl | rfl
  · have hG := fA_0 (show fA f r b c = 0 from hF)
    have hn := (hM.1 r hG.1).1
    have h1 := MS_put hM hG.1 hG.2.2.2 (p := f (240 + r)) (by omega) hG.2.1 hG.2.2.1
    show MS (putF f r (f (240 + r)) (b * 8 + c)) (mPut g r (g (2 + 121 * r)) b c)
    rw [(hM.2.1 r hG.1).1]; exact h1
  · have hG := fPu_0 (show fPu f r b c d = 0 from hF)
    exact MS_put hM hG.1 hG.2.2.2.2 hG.2.1 hG.2.2.1 hG.2.2.2.1
  · have hG := fP_0 (show fP f r b = 0 from hF)
    exact MS_take hM hG.1 hG.2
  · have hG := fT_0 (show fT f r b c = 0 from hF)
    have hs := (hM.2.1 r hG.1).2 b hG.2.1
    have hw := (hM.1 r hG.1).2 b hG.2.1
    show MS (pt f (r * 60 + b) (c * 8 + f (r * 60 + b) % 8)) (mS g r b c (g (4 + 121 * r + 2 * b)))
    rw [hs.2]
    exact MS_set hM hG.1 hG.2.1 hG.2.2 (by omega)
  · have hG := fCu_0 (show fCu f r b c = 0 from hF)
    have hn := (hM.1 r hG.1).1
    exact MS_cut hM hG.1 hG.2.2.1 hG.2.2.2.1 hG.2.1 (by omega)
  · have hG := fJ_0 (show fJ f r b = 0 from hF)
    exact MS_join hM hG.2.1 hG.1 (by omega) (by omega)
  · have hG := fRR_0 (show fRR r b = 0 from hF)
    exact MS_sw hM hG.1 hG.2
  · have hG := fX_0 (show fX f r b c = 0 from hF)
    exact MS_rv hM hG.1 (by omega)
  · have hG := fD_0 (show fD f r b c d = 0 from hF)
    exact MS_dy hM hG.1 (by omega) (by omega)
theorem mAn_op {f g : Int → Int} (hM : MS f g) {k r b c d : Int} (hk : 0 ≤ k ∧ k ≤ 8) (hF : FK f k r b c d = 0) : mAn f g k r b c d = opR f k r b c d := by
  rcases (show k = 0 ∨ k = 1 ∨ k = 2 ∨ k = 3 ∨ k = 4 ∨ k = 5 ∨ k = 6 ∨ k = 7 ∨ k = 8 by omega) with rfl | rfl | rfl | rfl | rfl | rfl | rfl | rfl | rfl
  · have hG := fA_0 (show fA f r b c = 0 from hF)
    show g (2 + 121 * r) + 1 = f (240 + r) + 1
    rw [(hM.2.1 r hG.1).1]
  · have hG := fPu_0 (show fPu f r b c d = 0 from hF)
    show g (2 + 121 * r) + 1 = f (240 + r) + 1
    rw [(hM.2.1 r hG.1).1]
  · have hG := fP_0 (show fP f r b = 0 from hF)
    exact ((hM.2.1 r hG.1).2 b hG.2).1
  · have hG := fT_0 (show fT f r b c = 0 from hF)
    exact ((hM.2.1 r hG.1).2 b hG.2.1).1
  · have hG := fCu_0 (show fCu f r b c = 0 from hF)
    show g (2 + 121 * r) - b = f (240 + r) - b
    rw [(hM.2.1 r hG.1).1]
  · have hG := fJ_0 (show fJ f r b = 0 from hF)
    exact ((MS_join hM hG.2.1 hG.1 (by omega) (by omega)).2.1 r hG.1).1
  · have hG := fRR_0 (show fRR r b = 0 from hF)
    have h1 := ((MS_sw hM hG.1 hG.2).2.1 r hG.1).1
    show mSwL g r b 121 (2 + 121 * r) = f (240 + b)
    rw [h1]
    unfold swF
    by_cases h9 : r = b
    · subst h9; rw [pt_s]
    · rw [pt_n _ _ (by omega), pt_s]
  · rfl
  · rfl
/-- the commands carried out on both tellings: the cells f, g, and what was answered last -/
def mco (K P : Int → Int) (m : Int) : Nat → Int → (Int → Int) → (Int → Int) → Int → (Int → Int) × (Int → Int) × Int
  | 0, _, f, g, z => (f, g, z)
  | q + 1, i, f, g, z => if i < m then (if FK f (K i) (P (i * 4 + 0)) (P (i * 4 + 1)) (P (i * 4 + 2)) (P (i * 4 + 3)) = 0 then mco K P m q (i + 1) (opF f (K i) (P (i * 4 + 0)) (P (i * 4 + 1)) (P (i * 4 + 2)) (P (i * 4 + 3))) (mOp g (K i) (P (i * 4 + 0)) (P (i * 4 + 1)) (P (i * 4 + 2)) (P (i * 4 + 3))) (mAn f g (K i) (P (i * 4 + 0)) (P (i * 4 + 1)) (P (i * 4 + 2)) (P (i * 4 + 3))) else (f, g, z)) else (f, g, z)
section MCO
variable {K P f g : Int → Int} {m i z : Int} {q : Nat}
theorem mco_e (h : m ≤ i) : mco K P m q i f g z = (f, g, z) := by
  cases q with
  | zero => rfl
  | succ q => exact if_neg (by omega)
theorem mco_f (h : i < m) (h1 : FK f (K i) (P (i * 4 + 0)) (P (i * 4 + 1)) (P (i * 4 + 2)) (P (i * 4 + 3)) ≠ 0) : mco K P m (q + 1) i f g z = (f, g, z) := (if_pos h).trans (if_neg h1)
theorem mco_s (h : i < m) (h1 : FK f (K i) (P (i * 4 + 0)) (P (i * 4 + 1)) (P (i * 4 + 2)) (P (i * 4 + 3)) = 0) : mco K P m (q + 1) i f g z = mco K P m q (i + 1) (opF f (K i) (P (i * 4 + 0)) (P (i * 4 + 1)) (P (i * 4 + 2)) (P (i * 4 + 3))) (mOp g (K i) (P (i * 4 + 0)) (P (i * 4 + 1)) (P (i * 4 + 2)) (P (i * 4 + 3))) (mAn f g (K i) (P (i * 4 + 0)) (P (i * 4 + 1)) (P (i * 4 + 2)) (P (i * 4 + 3))) := (if_pos h).trans (if_pos h1)
theorem mco_f_eq : ∀ {q : Nat} {i : Int} {f g : Int → Int} {z : Int}, (mco K P m q i f g z).1 = (coN K P m q i f).2 := by
  intro q
  induction q with
  | zero => intros; rfl
  | succ q ih =>
    intro i f g z
    by_cases h : i < m
    · by_cases h1 : FK f (K i) (P (i * 4 + 0)) (P (i * 4 + 1)) (P (i * 4 + 2)) (P (i * 4 + 3)) = 0
      · rw [mco_s h h1, coN_s h h1]; exact ih
      · rw [mco_f h h1, coN_f h h1]
    · rw [mco_e (by omega), coN_e (by omega)]
theorem mco_MS (hK : KPW K P) (hm : 0 ≤ m ∧ m ≤ 8) : ∀ {q : Nat} {i : Int} {f g : Int → Int} {z : Int}, 0 ≤ i → MS f g → MS (mco K P m q i f g z).1 (mco K P m q i f g z).2.1 := by
  intro q
  induction q with
  | zero => intro i f g z _ h; exact h
  | succ q ih =>
    intro i f g z hi hM
    by_cases h : i < m
    · by_cases h1 : FK f (K i) (P (i * 4 + 0)) (P (i * 4 + 1)) (P (i * 4 + 2)) (P (i * 4 + 3)) = 0
      · rw [mco_s h h1]; exact ih (by omega) (MS_op hM (hK.1 i (by omega)) h1)
      · rw [mco_f h h1]; exact hM
    · rw [mco_e (by omega)]; exact hM
end MCO
/-- kinds and parameters as the model was told them -/
def kdV (c : Int) : Int := if c = 97 then 0 else if c = 112 then 1 else if c = 100 then 2 else if c = 116 then 3 else if c = 99 then 4 else if c = 106 then 5 else if c = 115 then 6 else if c = 102 then 7 else 8
theorem kdV_rg (c : Int) : 0 ≤ kdV c ∧ kdV c ≤ 8 := by unfold kdV; (repeat' split) <;> omega
theorem kdV_cd {k : Int} (hk : 0 ≤ k ∧ k ≤ 8) : kdV (cdK k) = k := by
  rcases (show k = 0 ∨ k = 1 ∨ k = 2 ∨ k = 3 ∨ k = 4 ∨ k = 5 ∨ k = 6 ∨ k = 7 ∨ k = 8 by omega) with rfl | rfl | rfl | rfl | rfl | rfl | rfl | rfl | rfl <;> rfl
def KT (T : Int → Int) : Int → Int := fun i => kdV (T (5 * i))
def PT (T : Int → Int) : Int → Int := fun z => T (5 * (z / 4) + 1 + z % 4)
theorem PT_0 (T : Int → Int) (i : Int) : PT T (i * 4 + 0) = T (5 * i + 1) := by unfold PT; congr 1; omega
theorem PT_1 (T : Int → Int) (i : Int) : PT T (i * 4 + 1) = T (5 * i + 2) := by unfold PT; congr 1; omega
theorem PT_2 (T : Int → Int) (i : Int) : PT T (i * 4 + 2) = T (5 * i + 3) := by unfold PT; congr 1; omega
theorem PT_3 (T : Int → Int) (i : Int) : PT T (i * 4 + 3) = T (5 * i + 4) := by unfold PT; congr 1; omega
theorem FK_cs (f : Int → Int) (k r b c d : Int) : (FK f k r b c d = 0 ∨ FK f k r b c d = 1 ∨ FK f k r b c d = 2 ∨ FK f k r b c d = 3) ∧ (k = 2 → FK f k r b c d ≤ 1) ∧ (k = 6 → FK f k r b c d ≤ 1) ∧ (k = 3 → FK f k r b c d ≤ 2) ∧ (k = 7 → FK f k r b c d ≤ 2) ∧ (k = 8 → FK f k r b c d ≤ 2) := by
  refine ⟨FK_0, fun h => ?_, fun h => ?_, fun h => ?_, fun h => ?_, fun h => ?_⟩ <;> subst h
  · have := fP_cs f r b; show fP f r b ≤ 1; omega
  · have := fRR_iff r b; show fRR r b ≤ 1; omega
  · have := fT_cs f r b c; show fT f r b c ≤ 2; omega
  · have := fX_cs f r b c; show fX f r b c ≤ 2; omega
  · have := fD_cs f r b c d; show fD f r b c d ≤ 2; omega
