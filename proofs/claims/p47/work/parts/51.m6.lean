/-! the ring of rows against the kept sums -/
def RB (f : Int → Int) : Prop := (0 ≤ f 308 ∧ f 308 ≤ 1000) ∧ (0 ≤ f 309 ∧ f 309 ≤ 1000)
def row6 (h : Int → Int) (nx i : Int) : Int → Int := fun z => h ((nx - 1 - i) % 8 * 310 + z)
def HI (h s : Int → Int) (nx lf top : Int) : Prop := ∀ i : Int, 0 ≤ i → i < lf → CW (row6 h nx i) ∧ RB (row6 h nx i) ∧ SUM (row6 h nx i) = s (top - i)
theorem RB_congr {f g : Int → Int} (h : RB f) (H : ∀ z, 0 ≤ z ∧ z < 310 → g z = f z) : RB g := by
  unfold RB; rw [H 308 (by omega), H 309 (by omega)]; exact h
theorem pv8_rg {x : Int} (h : 0 ≤ x ∧ x < 8) : (0 ≤ pv8 x ∧ pv8 x < 8) ∧ (x - 1 - 0) % 8 = pv8 x := by unfold pv8; split <;> omega
theorem nx8_rg {x : Int} (h : 0 ≤ x ∧ x < 8) : 0 ≤ nx8 x ∧ nx8 x < 8 := by unfold nx8; split <;> omega
theorem cpf_row {h g : Int → Int} {x : Int} (hx : 0 ≤ x ∧ x < 8) : ∀ z, 0 ≤ z ∧ z < 310 → cpf h g (pv8 x * 310) 0 310 z = row6 h x 0 z := by
  intro z hz
  unfold cpf row6
  rw [if_pos (by omega), (pv8_rg hx).2]
  congr 1; omega
theorem HI_back {h s : Int → Int} {x lf top : Int} (hx : 0 ≤ x ∧ x < 8) (H : HI h s x lf top) : HI h s (pv8 x) (lf + (-1)) (top + (-1)) := by
  intro i i0 i1
  have e : row6 h (pv8 x) i = row6 h x (i + 1) := by
    funext z
    unfold row6
    rw [show (pv8 x - 1 - i) % 8 = (x - 1 - (i + 1)) % 8 by unfold pv8; split <;> omega]
  rw [e, show top + (-1) - i = top - (i + 1) by omega]
  exact H (i + 1) (by omega) (by omega)
theorem cpf2 {f g h : Int → Int} {z : Int} (hz : 0 ≤ z ∧ z < 310) : (cpf (cpf f g 0 0 310) h 0 0 310) z = f z := by
  unfold cpf
  rw [if_pos (by omega), if_pos (by omega)]
  congr 1; omega
theorem p2_1 (g : Int → Int) (a b : Int) : (pt (pt g 1 a) 2 b) 1 = a := by rw [pt_n _ _ (by omega), pt_s]
theorem p2_2 (g : Int → Int) (a b : Int) : (pt (pt g 1 a) 2 b) 2 = b := pt_s _ _ _
/-- what stands between two calls of the law: made changes so far, b a bound on the rounds -/
def INV (σ : SS) (made b : Int) : Prop :=
  CW (σ 2) ∧ PW (σ 2) ∧ ((0 ≤ σ 2 308 ∧ σ 2 308 ≤ b) ∧ (0 ≤ σ 2 309 ∧ σ 2 309 ≤ 8 * b)) ∧ (0 ≤ σ 5 1 ∧ σ 5 1 < 8 ∧ σ 5 2 = min made 8) ∧ KPW (σ 9) (σ 10) ∧ σ 7 1 = 0 ∧ σ 13 made = SUM (σ 2) ∧ HI (σ 6) (σ 13) (σ 5 1) (σ 5 2) (made - 1)
def SAME (σ σ' : SS) : Prop := (∀ z, 0 ≤ z ∧ z < 310 → σ' 2 z = σ 2 z) ∧ (σ' 5 1 = σ 5 1 ∧ σ' 5 2 = σ 5 2) ∧ σ' 6 = σ 6 ∧ σ' 13 = σ 13 ∧ KPW (σ' 9) (σ' 10) ∧ σ' 7 1 = 0
def CHG (σ σ' : SS) : Prop := CW (σ' 2) ∧ PW (σ' 2) ∧ (σ' 5 1 = nx8 (σ 5 1) ∧ σ' 5 2 = min (σ 5 2 + 1) 8) ∧ (∀ z, 0 ≤ z ∧ z < 310 → σ' 6 (σ 5 1 * 310 + z) = σ 2 z) ∧ (∀ z, z < σ 5 1 * 310 ∨ σ 5 1 * 310 + 310 ≤ z → σ' 6 z = σ 6 z) ∧ σ' 13 = σ 13 ∧ KPW (σ' 9) (σ' 10) ∧ σ' 7 1 = 0
def DREL (kind r q : Int) (σ : SS) : Int → SS → Prop := fun res σ' => (-70 < res ∧ LOK kind (σ 2) (σ' 2) r q res ∧ CHG σ σ') ∨ (-79 ≤ res ∧ res ≤ -77 ∧ SAME σ σ')
theorem INV_same {σ σ' : SS} {made b : Int} (h : INV σ made b) (hs : SAME σ σ') : INV σ' made (b + 1) ∧ SUM (σ' 2) = SUM (σ 2) := by
  obtain ⟨h1, h2, h3, h4, h5, h6, h7, h8⟩ := h
  obtain ⟨s1, ⟨s2, s3⟩, s4, s5, s6, s7⟩ := hs
  have e := SUM_congr h1 s1
  refine ⟨⟨CW_congr h1 s1, PW_congr h1 h2 s1, ?_, by rw [s2, s3]; exact h4, s6, s7, by rw [s5, e]; exact h7, by rw [s4, s5, s2, s3]; exact h8⟩, e⟩
  rw [s1 308 (by omega), s1 309 (by omega)]
  omega
theorem INV_chg {σ σ' : SS} {made b : Int} (h : INV σ made b) (hb : 0 ≤ b ∧ b ≤ 100) (hm : 0 ≤ made) (hc : CHG σ σ') (h308 : σ 2 308 ≤ σ' 2 308 ∧ σ' 2 308 ≤ σ 2 308 + 1) (h309 : σ 2 309 ≤ σ' 2 309 ∧ σ' 2 309 ≤ σ 2 309 + 8) : INV (st σ' 13 (pt (σ' 13) (made + 1) (SUM (σ' 2)))) (made + 1) (b + 1) := by
  obtain ⟨h1, h2, h3, h4, h5, h6, h7, h8⟩ := h
  obtain ⟨c1, c2, ⟨c3, c4⟩, c5, c6, c7, c8, c9⟩ := hc
  refine ⟨c1, c2, ?_, ?_, c8, c9, pt_s _ _ _, ?_⟩
  · show ((0 ≤ σ' 2 308 ∧ σ' 2 308 ≤ b + 1) ∧ (0 ≤ σ' 2 309 ∧ σ' 2 309 ≤ 8 * (b + 1))); omega
  · show 0 ≤ σ' 5 1 ∧ σ' 5 1 < 8 ∧ σ' 5 2 = min (made + 1) 8
    have := nx8_rg (x := σ 5 1) (by omega)
    rw [c3, c4, h4.2.2]; omega
  · show HI (σ' 6) (pt (σ' 13) (made + 1) (SUM (σ' 2))) (σ' 5 1) (σ' 5 2) (made + 1 - 1)
    intro i i0 i1
    rw [c4] at i1
    rw [c3, pt_n _ _ (show made + 1 - 1 - i ≠ made + 1 by omega), c7]
    by_cases e : i = 0
    · have e1 : ∀ z, 0 ≤ z ∧ z < 310 → row6 (σ' 6) (nx8 (σ 5 1)) i z = σ 2 z := fun z hz => by
        unfold row6
        rw [show (nx8 (σ 5 1) - 1 - i) % 8 = σ 5 1 by unfold nx8; split <;> omega]
        exact c5 z hz
      refine ⟨CW_congr h1 e1, ?_, ?_⟩
      · refine RB_congr (f := σ 2) ?_ e1
        unfold RB; omega
      · rw [SUM_congr h1 e1, e, show made + 1 - 1 - 0 = made by omega]; exact h7.symm
    · have hi : i - 1 < σ 5 2 := by omega
      obtain ⟨a1, a2, a3⟩ := h8 (i - 1) (by omega) hi
      have e1 : ∀ z, 0 ≤ z ∧ z < 310 → row6 (σ' 6) (nx8 (σ 5 1)) i z = row6 (σ 6) (σ 5 1) (i - 1) z := fun z hz => by
        unfold row6
        have e2 : (nx8 (σ 5 1) - 1 - i) % 8 = (σ 5 1 - 1 - (i - 1)) % 8 := by unfold nx8; split <;> omega
        rw [e2]
        refine c6 _ ?_
        have e3 : (σ 5 1 - 1 - (i - 1)) % 8 ≠ σ 5 1 := by omega
        omega
      refine ⟨CW_congr a1 e1, RB_congr a2 e1, ?_⟩
      rw [SUM_congr a1 e1, a3]
      congr 1; omega
theorem cpf_in {f g h : Int → Int} {x : Int} : ∀ z, 0 ≤ z ∧ z < 310 → cpf (cpf f g 0 0 310) h 0 (x * 310) 310 (x * 310 + z) = f z := by
  intro z hz
  unfold cpf
  rw [if_pos (by omega), if_pos (by omega)]
  congr 1; omega
theorem cpf_out {f h : Int → Int} {x : Int} : ∀ z, z < x * 310 ∨ x * 310 + 310 ≤ z → cpf f h 0 (x * 310) 310 z = h z := fun z hz => if_neg (by omega)
theorem chg_op {σ : SS} {g : Int → Int} (hC : CW g) (hK : KPW (σ 9) (σ 10)) (h7 : σ 7 1 = 0) : CHG σ (st (st (st (st σ 2 (refF g)) 3 (cpf (σ 2) (σ 3) 0 0 310)) 5 (pt (pt (σ 5) 1 (nx8 (σ 5 1))) 2 (min ((σ 5 2) + 1) 8))) 6 (cpf (cpf (σ 2) (σ 3) 0 0 310) (σ 6) 0 ((σ 5 1) * 310) 310)) :=
  ⟨CW_refU hC (by omega), PW_ref hC, ⟨p2_1 (σ 5) (nx8 (σ 5 1)) (min ((σ 5 2) + 1) 8), p2_2 (σ 5) (nx8 (σ 5 1)) (min ((σ 5 2) + 1) 8)⟩, cpf_in, cpf_out, rfl, hK, h7⟩
theorem same_rf {σ : SS} (hK : KPW (σ 9) (σ 10)) (h7 : σ 7 1 = 0) : SAME σ σ := ⟨fun _ _ => rfl, ⟨rfl, rfl⟩, rfl, rfl, hK, h7⟩
