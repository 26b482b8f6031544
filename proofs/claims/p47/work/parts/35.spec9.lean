/-! kinds and parameters stay in their ranges; commands keep the cells in order -/
def KPW (K P : Int → Int) : Prop := (∀ i : Int, 0 ≤ i ∧ i < 8 → 0 ≤ K i ∧ K i ≤ 8) ∧ ∀ z : Int, 0 ≤ z ∧ z < 32 → 0 ≤ P z ∧ P z ≤ 99
theorem vP_rg {t : Int → Int} {n c a : Int} (h : okP t n c a = 1) (hv : isV c = 1) : 0 ≤ vP t n c a ∧ vP t n c a ≤ 99 := by
  have h1 := bD_iff (sg t n a)
  have h2 := bD_iff (sg t n (a + 1))
  have h3 := bC_iff (sg t n a - 97)
  unfold isV at hv
  unfold okP at h
  unfold vP
  by_cases hc : c = 67
  · subst hc
    rw [if_neg (by omega), if_pos rfl] at h
    rw [if_pos rfl]; omega
  · have hc2 : c = 68 ∨ c = 78 := by
      by_cases h9 : c = 67 ∨ c = 68 ∨ c = 78
      · omega
      · rw [if_neg h9] at hv; omega
    rw [if_pos hc2] at h
    rw [if_neg hc]
    split <;> omega
theorem pP_rg {t P : Int → Int} {n b c a j : Int} (hP : ∀ z : Int, 0 ≤ z ∧ z < 32 → 0 ≤ P z ∧ P z ≤ 99) : ∀ z : Int, 0 ≤ z ∧ z < 32 → 0 ≤ pP t n b c a j P z ∧ pP t n b c a j P z ≤ 99 := by
  intro z hz
  unfold pP
  by_cases h : okP t n c a = 1 ∧ isV c = 1
  · rw [if_pos h]; unfold pt
    by_cases h2 : z = b + j
    · rw [if_pos h2]; exact vP_rg h.1 h.2
    · rw [if_neg h2]; exact hP z hz
  · rw [if_neg h]; exact hP z hz
theorem foL_P {t : Int → Int} {n b : Int} : ∀ (r : List Int) (a j : Int) (P : Int → Int), (∀ z : Int, 0 ≤ z ∧ z < 32 → 0 ≤ P z ∧ P z ≤ 99) → ∀ z : Int, 0 ≤ z ∧ z < 32 → 0 ≤ (foL t n b r a j P).2.2.2 z ∧ (foL t n b r a j P).2.2.2 z ≤ 99
  | [], _, _, _, hP => hP
  | c :: r, a, j, P, hP => by
    rcases okP_01 t n c a with h | h
    · rw [foL_no rfl h]; exact hP
    · rw [foL_yes rfl h]; exact foL_P r _ _ _ (pP_rg hP)
theorem KPW_k {K P : Int → Int} (h : KPW K P) {m k : Int} (hk : 0 ≤ k ∧ k ≤ 8) : ∀ i : Int, 0 ≤ i ∧ i < 8 → 0 ≤ pt K m k i ∧ pt K m k i ≤ 8 := by
  intro i hi
  unfold pt
  split
  · exact hk
  · exact h.1 i hi
theorem paN_rgK {t : Int → Int} {n : Int} : ∀ (k : Nat) (a m : Int) (K P : Int → Int) (j : Int), KPW K P → 0 ≤ a → 0 ≤ m → (-1 ≤ (paN t n k a m K P j).1 ∧ (paN t n k a m K P j).1 ≤ a + 23 * k + 22) ∧ (0 ≤ (paN t n k a m K P j).2.2.1 ∧ (paN t n k a m K P j).2.2.1 ≤ m + k) ∧ KPW (paN t n k a m K P j).2.2.2.2.1 (paN t n k a m K P j).2.2.2.2.2
  | 0, a, m, K, P, j, hK, ha, hm => by
    rw [paN_0]
    exact ⟨by show -1 ≤ a ∧ a ≤ a + 23 * ((0 : Nat) : Int) + 22; omega, by show 0 ≤ m ∧ m ≤ m + ((0 : Nat) : Int); omega, hK⟩
  | k + 1, a, m, K, P, j, hK, ha, hm => by
    have hkr := rcK_rg t n a
    have hat := rcF_at t n a m P
    have hPr := foL_P (t := t) (n := n) (b := m * 4) (pl (fW (rcK t n a))) a 0 P hK.2
    have hc : ((k + 1 : Nat) : Int) = (k : Int) + 1 := by omega
    by_cases h : rcK t n a = -1
    · rw [paN_n h]
      exact ⟨by show -1 ≤ a ∧ a ≤ a + 23 * ((k + 1 : Nat) : Int) + 22; omega, by show 0 ≤ m ∧ m ≤ m + ((k + 1 : Nat) : Int); omega, hK⟩
    · rcases rcF_01 t n a m P with h1 | h1
      · rw [paN_f h h1]
        exact ⟨by show -1 ≤ (rcF t n a m P).2.1 ∧ (rcF t n a m P).2.1 ≤ a + 23 * ((k + 1 : Nat) : Int) + 22; omega, by show 0 ≤ m ∧ m ≤ m + ((k + 1 : Nat) : Int); omega, hK.1, hPr⟩
      · have hK2 : KPW (pt K m (rcK t n a)) (rcF t n a m P).2.2.2 := ⟨KPW_k hK (by omega), hPr⟩
        by_cases h2 : (rcF t n a m P).2.1 = n
        · rw [paN_e h h1 h2]
          exact ⟨by show -1 ≤ (-1 : Int) ∧ (-1 : Int) ≤ a + 23 * ((k + 1 : Nat) : Int) + 22; omega, by show 0 ≤ m + 1 ∧ m + 1 ≤ m + ((k + 1 : Nat) : Int); omega, hK2⟩
        · by_cases h3 : sg t n (rcF t n a m P).2.1 = 59
          · rw [paN_s h h1 h2 h3]
            have ih := paN_rgK (t := t) (n := n) k ((rcF t n a m P).2.1 + 1) (m + 1) (pt K m (rcK t n a)) (rcF t n a m P).2.2.2 (rcF t n a m P).2.2.1 hK2 (by omega) (by omega)
            exact ⟨by omega, by omega, ih.2.2⟩
          · rw [paN_x h h1 h2 h3]
            exact ⟨by show -1 ≤ (rcF t n a m P).2.1 ∧ (rcF t n a m P).2.1 ≤ a + 23 * ((k + 1 : Nat) : Int) + 22; omega, by show 0 ≤ m + 1 ∧ m + 1 ≤ m + ((k + 1 : Nat) : Int); omega, hK2⟩
theorem paN_rg {t K P : Int → Int} {n : Int} (_ : TW t n) (hK : KPW K P) (j : Int) : (-1 ≤ (paN t n 8 0 0 K P j).1 ∧ (paN t n 8 0 0 K P j).1 ≤ 206) ∧ (0 ≤ (paN t n 8 0 0 K P j).2.2.1 ∧ (paN t n 8 0 0 K P j).2.2.1 ≤ 8) ∧ KPW (paN t n 8 0 0 K P j).2.2.2.2.1 (paN t n 8 0 0 K P j).2.2.2.2.2 := by
  have h := paN_rgK (t := t) (n := n) 8 0 0 K P j hK (by omega) (by omega)
  exact ⟨by omega, by omega, h.2.2⟩
theorem coN_CW {K P : Int → Int} {m : Int} (hK : KPW K P) : ∀ {f : Int → Int} {q : Nat} {i : Int}, CW f → (0 ≤ m ∧ m ≤ 8) → 0 ≤ i → CW (coN K P m q i f).2 := by
  intro f q
  induction q generalizing f with
  | zero => intro i hW _ _; exact hW
  | succ q ih =>
    intro i hW hm hi
    by_cases h : i < m
    · by_cases h1 : FK f (K i) (P (i * 4 + 0)) (P (i * 4 + 1)) (P (i * 4 + 2)) (P (i * 4 + 3)) = 0
      · rw [coN_s h h1]; exact ih (CW_op hW (hK.1 i (by omega)) h1) hm (by omega)
      · rw [coN_f h h1]; exact hW
    · rw [coN_e (by omega)]; exact hW
theorem coN_rgK {K P : Int → Int} {m : Int} : ∀ {f : Int → Int} {q : Nat} {i : Int}, (0 ≤ m ∧ m ≤ 8) → 0 ≤ i → -1 ≤ (coN K P m q i f).1 ∧ (coN K P m q i f).1 ≤ 8 := by
  intro f q
  induction q generalizing f with
  | zero => intro i _ _; show -1 ≤ (-1 : Int) ∧ (-1 : Int) ≤ 8; omega
  | succ q ih =>
    intro i hm hi
    by_cases h : i < m
    · by_cases h1 : FK f (K i) (P (i * 4 + 0)) (P (i * 4 + 1)) (P (i * 4 + 2)) (P (i * 4 + 3)) = 0
      · rw [coN_s h h1]; exact ih hm (by omega)
      · rw [coN_f h h1]; show -1 ≤ i ∧ i ≤ 8; omega
    · rw [coN_e (by omega)]; show -1 ≤ (-1 : Int) ∧ (-1 : Int) ≤ 8; omega
theorem coN_rg (f : Int → Int) {K P : Int → Int} {m : Int} (hm : 0 ≤ m ∧ m ≤ 8) : -1 ≤ (coN K P m 9 0 f).1 ∧ (coN K P m 9 0 f).1 ≤ 8 := coN_rgK hm (by omega)
section SGC
variable {f o : Int → Int} {r p s : Int}
theorem sgc_0 (h : p ≤ 0) : sgc f r p o s = pt (nm12 o s (f (r * 60 + p) / 8)) (s + (if f (r * 60 + p) / 8 < 10 then 1 else 2)) (97 + f (r * 60 + p) % 8) := by
  unfold sgc; rw [if_neg (by omega), if_neg (by omega)]
theorem sgc_1 (h : 0 < p) (ht : tg f r (p - 1) = 0) : sgc f r p o s = pt (nm12 (pt o s 45) (s + 1) (f (r * 60 + p) / 8)) (s + 1 + (if f (r * 60 + p) / 8 < 10 then 1 else 2)) (97 + f (r * 60 + p) % 8) := by
  unfold sgc; rw [if_pos h, if_pos h, if_pos ht]
theorem sgc_2 (h : 0 < p) (ht : tg f r (p - 1) ≠ 0) : sgc f r p o s = pt (nm12 (pt o s 61) (s + 1) (f (r * 60 + p) / 8)) (s + 1 + (if f (r * 60 + p) / 8 < 10 then 1 else 2)) (97 + f (r * 60 + p) % 8) := by
  unfold sgc; rw [if_pos h, if_pos h, if_neg ht]
theorem sgs_0 (h : p ≤ 0) : sgs f r p s = s + (if f (r * 60 + p) / 8 < 10 then 1 else 2) + 1 := by
  unfold sgs; rw [if_neg (by omega)]
theorem sgs_1 (h : 0 < p) : sgs f r p s = s + 1 + (if f (r * 60 + p) / 8 < 10 then 1 else 2) + 1 := by
  unfold sgs; rw [if_pos h]
end SGC
