/-! a text without the letter u has no cut -/
theorem okP_u {t : Int → Int} {n : Int} (hU : ∀ i, sg t n i ≠ 117) (a : Int) : okP t n 117 a = 0 := by
  unfold okP
  rw [if_neg (by omega), if_neg (by omega), if_neg (hU a)]
theorem foL_u {t : Int → Int} {n b x a j : Int} {P : Int → Int} {r : List Int} (hU : ∀ i, sg t n i ≠ 117) : (foL t n b (x :: 117 :: r) a j P).1 = 0 := by
  by_cases h : okP t n x a = 1
  · rw [foL_yes rfl h, foL_no rfl (okP_u hU _)]
  · rw [foL_no rfl (by have := okP_01 t n x a; omega)]
theorem pl_cut : ∃ r, pl (fW 4) = 99 :: 117 :: r := ⟨(pl (fW 4)).drop 2, by decide +kernel⟩
theorem rcF_u {t : Int → Int} {n a m : Int} {P : Int → Int} (hU : ∀ i, sg t n i ≠ 117) (h : rcK t n a = 4) : (rcF t n a m P).1 = 0 := by
  unfold rcF
  rw [h]
  obtain ⟨r, hr⟩ := pl_cut
  rw [hr]
  exact foL_u hU
theorem pt_ne4 {K : Int → Int} {m z : Int} (hK : ∀ i, 0 ≤ i → i < m → K i ≠ 4) (hz : z ≠ 4) : ∀ i, 0 ≤ i → i < m + 1 → pt K m z i ≠ 4 := by
  intro i i0 i1
  unfold pt
  by_cases h : i = m
  · rw [if_pos h]; exact hz
  · rw [if_neg h]; exact hK i i0 (by omega)
theorem paN_u {t : Int → Int} {n : Int} (hU : ∀ i, sg t n i ≠ 117) : ∀ (k : Nat) (a m : Int) (K P : Int → Int) (j : Int), (∀ i, 0 ≤ i → i < m → K i ≠ 4) → ∀ i, 0 ≤ i → i < (paN t n k a m K P j).2.2.1 → (paN t n k a m K P j).2.2.2.2.1 i ≠ 4 := by
  intro k
  induction k with
  | zero => intro a m K P j hK; exact hK
  | succ k ih =>
    intro a m K P j hK
    by_cases h : rcK t n a = -1
    · rw [paN_n h]; exact hK
    · by_cases h1 : (rcF t n a m P).1 = 1
      · have hz : rcK t n a ≠ 4 := fun h4 => by rw [rcF_u hU h4] at h1; omega
        have hK2 := pt_ne4 hK hz
        by_cases h2 : (rcF t n a m P).2.1 = n
        · rw [paN_e h h1 h2]; exact hK2
        · by_cases h3 : sg t n (rcF t n a m P).2.1 = 59
          · rw [paN_s h h1 h2 h3]; exact ih _ _ _ _ _ hK2
          · rw [paN_x h h1 h2 h3]; exact hK2
      · have h0 : (rcF t n a m P).1 = 0 := by
          have := foL_01 (t := t) (n := n) (b := m * 4) (pl (fW (rcK t n a))) a 0 P
          rcases this with h9 | h9
          · exact h9
          · exact absurd h9 h1
        rw [paN_f h h0]; exact hK
theorem op_cs {f : Int → Int} (hW : CW f) {k r b c d : Int} (hk : 0 ≤ k ∧ k ≤ 8) (hk4 : k ≠ 4) (hF : FK f k r b c d = 0) : opF f k r b c d 308 = f 308 ∧ f 309 ≤ opF f k r b c d 309 ∧ opF f k r b c d 309 ≤ f 309 + 1 := by
  rcases (show k = 0 ∨ k = 1 ∨ k = 2 ∨ k = 3 ∨ k = 5 ∨ k = 6 ∨ k = 7 ∨ k = 8 by omega) with rfl | rfl | rfl | rfl | rfl | rfl | rfl | rfl
  · obtain ⟨h1, h2, -⟩ := lok_0 (q := 0) (kind := 0) hW (by omega) (show FK f 0 r b c 0 = 0 from hF)
    rw [(refF_308 _).1, if_neg (by omega)] at h1
    rw [(refF_308 _).2, if_neg (by omega)] at h2
    have e : opF f 0 r b c d = opF f 0 r b c 0 := rfl
    rw [e]; omega
  · obtain ⟨h1, h2, -⟩ := lok_1 (q := 0) (kind := 6) hW (by omega) hF
    rw [(refF_308 _).1, if_neg (by omega)] at h1
    rw [(refF_308 _).2, if_neg (by omega)] at h2
    omega
  · obtain ⟨h1, h2, -⟩ := lok_2 (q := 0) (kind := 14) hW (by omega) (show FK f 2 r b 0 0 = 0 from hF)
    rw [(refF_308 _).1, if_neg (by omega)] at h1
    rw [(refF_308 _).2, if_neg (by omega)] at h2
    have e : opF f 2 r b c d = opF f 2 r b 0 0 := rfl
    rw [e]; omega
  · obtain ⟨h1, h2, -⟩ := lok_3 (q := 0) (kind := 16) hW (by omega) (show FK f 3 r b c 0 = 0 from hF)
    rw [(refF_308 _).1, if_neg (by omega)] at h1
    rw [(refF_308 _).2, if_neg (by omega)] at h2
    have e : opF f 3 r b c d = opF f 3 r b c 0 := rfl
    rw [e]; omega
  · obtain ⟨h1, h2, -⟩ := lok_5 (kind := 23) hW (by omega) (show FK f 5 r b 0 0 = 0 from hF)
    rw [(refF_308 _).1, if_neg (by omega)] at h1
    rw [(refF_308 _).2, if_pos (by omega)] at h2
    have e : opF f 5 r b c d = opF f 5 r b 0 0 := rfl
    rw [e]; omega
  · obtain ⟨h1, h2, -⟩ := lok_6 (kind := 28) hW (by omega) (show FK f 6 r b 0 0 = 0 from hF)
    rw [(refF_308 _).1, if_neg (by omega)] at h1
    rw [(refF_308 _).2, if_neg (by omega)] at h2
    have e : opF f 6 r b c d = opF f 6 r b 0 0 := rfl
    rw [e]; omega
  · obtain ⟨h1, h2, -⟩ := lok_7 (q := 0) (kind := 30) hW (by omega) (show FK f 7 r b c 0 = 0 from hF)
    rw [(refF_308 _).1, if_neg (by omega)] at h1
    rw [(refF_308 _).2, if_neg (by omega)] at h2
    have e : opF f 7 r b c d = opF f 7 r b c 0 := rfl
    rw [e]; omega
  · obtain ⟨h1, h2, -⟩ := lok_8 (q := 0) (kind := 34) hW (by omega) (show FK f 8 r b c d = 0 from hF)
    rw [(refF_308 _).1, if_neg (by omega)] at h1
    rw [(refF_308 _).2, if_neg (by omega)] at h2
    omega
theorem coN_cs {K P : Int → Int} {m : Int} (hK : KPW K P) (hm : 0 ≤ m ∧ m ≤ 8) (hc : ∀ i, 0 ≤ i → i < m → K i ≠ 4) : ∀ (q : Nat) (i : Int) (f : Int → Int), CW f → 0 ≤ i → i ≤ m → (coN K P m q i f).2 308 = f 308 ∧ f 309 ≤ (coN K P m q i f).2 309 ∧ (coN K P m q i f).2 309 ≤ f 309 + (m - i) := by
  intro q
  induction q with
  | zero => intro i f _ i0 i1; exact ⟨rfl, Int.le_refl _, by show f 309 ≤ _; omega⟩
  | succ q ih =>
    intro i f hW i0 i1
    by_cases h : i < m
    · by_cases hF : FK f (K i) (P (i * 4 + 0)) (P (i * 4 + 1)) (P (i * 4 + 2)) (P (i * 4 + 3)) = 0
      · have e : coN K P m (q + 1) i f = coN K P m q (i + 1) (opF f (K i) (P (i * 4 + 0)) (P (i * 4 + 1)) (P (i * 4 + 2)) (P (i * 4 + 3))) := by
          show (if i < m then _ else _) = _
          rw [if_pos h, if_pos hF]
        have hk := hK.1 i (by omega)
        obtain ⟨a1, a2, a3⟩ := op_cs hW hk (hc i i0 h) hF
        obtain ⟨b1, b2, b3⟩ := ih (i + 1) _ (CW_op hW hk hF) (by omega) (by omega)
        rw [e]
        omega
      · have e : coN K P m (q + 1) i f = (i, f) := by
          show (if i < m then _ else _) = _
          rw [if_pos h, if_neg hF]
        rw [e]
        exact ⟨rfl, Int.le_refl _, by show f 309 ≤ _; omega⟩
    · have e : coN K P m (q + 1) i f = (-1, f) := if_neg h
      rw [e]
      exact ⟨rfl, Int.le_refl _, by show f 309 ≤ _; omega⟩
/-! the line of a reel: how long it is, how it ends -/
theorem ds_at {f : Int → Int} {r n : Int} : ∀ (k : Nat) (p s : Int) (o : Int → Int), (n - p).toNat = k → 0 < p → p ≤ n → (s + 3 * (n - p) ≤ (dsI f r p o s n).2 ∧ (dsI f r p o s n).2 ≤ s + 4 * (n - p)) ∧ (dsI f r p o s n).1 ((dsI f r p o s n).2 - 1) = if p < n then 97 + f (r * 60 + (n - 1)) % 8 else o (s - 1) := by
  intro k
  induction k with
  | zero =>
    intro p s o hk p0 p1
    rw [dsI_nil (by omega), if_neg (by omega)]
    exact ⟨by show s + _ ≤ s ∧ s ≤ s + _; omega, rfl⟩
  | succ k ih =>
    intro p s o hk p0 p1
    rw [dsI_cons (by omega)]
    obtain ⟨h1, h2⟩ := ih (p + 1) (sgs f r p s) (sgc f r p o s) (by omega) (by omega) (by omega)
    have hs : sgs f r p s = s + 1 + (if f (r * 60 + p) / 8 < 10 then 1 else 2) + 1 := sgs_1 p0
    have hs2 : s + 3 ≤ sgs f r p s ∧ sgs f r p s ≤ s + 4 := by rw [hs]; split <;> omega
    refine ⟨by omega, ?_⟩
    rw [h2, if_pos (show p < n by omega)]
    by_cases hp : p + 1 < n
    · rw [if_pos hp]
    · rw [if_neg hp]
      have e : n - 1 = p := by omega
      rw [e, hs, show s + 1 + (if f (r * 60 + p) / 8 < 10 then (1 : Int) else 2) + 1 - 1 = s + 1 + (if f (r * 60 + p) / 8 < 10 then 1 else 2) by omega]
      by_cases ht : tg f r (p - 1) = 0
      · rw [sgc_1 p0 ht, pt_s]
      · rw [sgc_2 p0 ht, pt_s]
theorem ds_all {f : Int → Int} {r n : Int} (o : Int → Int) (hn : 1 ≤ n) : (3 * n - 1 ≤ (dsI f r 0 o 0 n).2 ∧ (dsI f r 0 o 0 n).2 ≤ 4 * n - 1) ∧ (dsI f r 0 o 0 n).1 ((dsI f r 0 o 0 n).2 - 1) = 97 + f (r * 60 + (n - 1)) % 8 := by
  rw [dsI_cons (by omega)]
  obtain ⟨h1, h2⟩ := ds_at (f := f) (r := r) (n := n) (n - (0 + 1)).toNat (0 + 1) (sgs f r 0 0) (sgc f r 0 o 0) rfl (by omega) (by omega)
  have hs : sgs f r 0 0 = 0 + (if f (r * 60 + 0) / 8 < 10 then 1 else 2) + 1 := sgs_0 (by omega)
  have hs2 : 2 ≤ sgs f r 0 0 ∧ sgs f r 0 0 ≤ 3 := by rw [hs]; split <;> omega
  refine ⟨by omega, ?_⟩
  rw [h2]
  by_cases hp : (0 : Int) + 1 < n
  · rw [if_pos hp]
  · rw [if_neg hp]
    have e : n - 1 = 0 := by omega
    rw [e, hs, show 0 + (if f (r * 60 + 0) / 8 < 10 then (1 : Int) else 2) + 1 - 1 = 0 + (if f (r * 60 + 0) / 8 < 10 then 1 else 2) by omega, sgc_0 (by omega), pt_s]
/-! answers that are yes or no -/
theorem iT_01 (f : Int → Int) (r p : Int) : iT f r p = 0 ∨ iT f r p = 1 := by unfold iT; split <;> simp
theorem eqR_01 (f : Int → Int) (r o : Int) : eqR f r o = 0 ∨ eqR f r o = 1 := by unfold eqR; split <;> simp
theorem bk_01 (f : Int → Int) (r : Int) : bk f r = 0 ∨ bk f r = 1 := by unfold bk; split <;> simp
