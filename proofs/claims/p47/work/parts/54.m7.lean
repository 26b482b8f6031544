/-! a text that is run -/
theorem ty_step {g y : Int → Int} {x i : Int} (h : ∀ j, 0 ≤ j → j < i → g j = y j) (hx : x = i) : ∀ j, 0 ≤ j → j < i + 1 → pt g x (y i) j = y j := by
  intro j j0 j1
  unfold pt
  by_cases e : j = x
  · rw [if_pos e, e, hx]
  · rw [if_neg e]; exact h j j0 (by omega)
theorem sgU {t y : Int → Int} {n : Int} (h : ∀ j, 0 ≤ j → j < n → t j = y j) (hy : ∀ j, 0 ≤ j → j < n → y j ≠ 117) : ∀ j, sg t n j ≠ 117 := by
  intro j
  unfold sg
  by_cases e : 0 ≤ j ∧ j < n
  · rw [if_pos e, h j e.1 e.2]; exact hy j e.1 e.2
  · rw [if_neg e]; omega
theorem p4_1 (g : Int → Int) (a b c : Int) : (pt (pt (pt (pt g 1 0) 2 a) 5 b) 6 c) 1 = 0 := by
  rw [pt_n _ _ (by omega), pt_n _ _ (by omega), pt_n _ _ (by omega), pt_s]
theorem lok_run {f g : Int → Int} {r q res : Int} (h1 : g 308 = f 308) (h2 : f 309 ≤ g 309 ∧ g 309 ≤ f 309 + 8) (h3 : 0 ≤ res ∧ res ≤ 8) : LOK 39 f g r q res := by
  unfold LOK
  rw [if_neg (by omega), if_neg (by omega)]
  refine ⟨by omega, by omega, by omega, by omega, by omega, by omega, by omega, by omega, by omega, by omega, by omega, by omega, by omega⟩
theorem run_cs {t K P f : Int → Int} {n j : Int} (hT : TW t n) (hU : ∀ i, sg t n i ≠ 117) (hK : KPW K P) (hW : CW f) : CW (coN (paN t n 8 0 0 K P j).2.2.2.2.1 (paN t n 8 0 0 K P j).2.2.2.2.2 (paN t n 8 0 0 K P j).2.2.1 9 0 f).2 ∧ refF (coN (paN t n 8 0 0 K P j).2.2.2.2.1 (paN t n 8 0 0 K P j).2.2.2.2.2 (paN t n 8 0 0 K P j).2.2.1 9 0 f).2 308 = f 308 ∧ (f 309 ≤ refF (coN (paN t n 8 0 0 K P j).2.2.2.2.1 (paN t n 8 0 0 K P j).2.2.2.2.2 (paN t n 8 0 0 K P j).2.2.1 9 0 f).2 309 ∧ refF (coN (paN t n 8 0 0 K P j).2.2.2.2.1 (paN t n 8 0 0 K P j).2.2.2.2.2 (paN t n 8 0 0 K P j).2.2.1 9 0 f).2 309 ≤ f 309 + 8) := by
  obtain ⟨-, h2, h3⟩ := paN_rg (K := K) (P := P) hT hK j
  have h4 := coN_cs h3 h2 (fun i i0 i1 => paN_u hU 8 0 0 K P j (fun i i0 i1 => by omega) i i0 i1) 9 0 f hW (Int.le_refl _) h2.1
  rw [(refF_308 _).1, (refF_308 _).2]
  exact ⟨coN_CW h3 hW h2 (Int.le_refl _), h4.1, by omega⟩
