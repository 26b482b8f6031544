/-! what each call of the law asks of the two tellings -/
theorem cpf_in {f g : Int → Int} {n z : Int} (hz : 0 ≤ z ∧ z < n) : cpf f g 0 0 n z = f z := by
  unfold cpf; rw [if_pos (by omega)]; congr 1; omega
theorem INV_chg {σ σ2 : SS} {f' g' : Int → Int} (hI : INV σ) (hR : RW f' g') (e2 : σ2 2 = f') (e14 : σ2 14 = g') (e6 : σ2 6 = cpf (cpf (σ 2) (σ 3) 0 0 310) (σ 6) 0 (σ 5 1 * 310) 310) (e17 : σ2 17 = hiF (σ 17) (cpf (σ 14) (σ 15) 0 0 486) (σ 13 5)) (e51 : σ2 5 1 = nx8 (σ 5 1)) (e52 : σ2 5 2 = min (σ 5 2 + 1) 8) (e135 : σ2 13 5 = min (σ 13 5 + 1) 8) (h4 : SNW (σ2 4) (σ2 16) (σ2 0 3) (σ2 13 6)) (hr : TXW (σ2 8) (σ2 18) (σ2 7 1) (σ2 13 10) ∧ (KPW (σ2 9) (σ2 10) ∧ TR (σ2 19)) ∧ ERW (σ2 0 7) (σ2 0 8) (σ2 13 12) (σ2 13 13) ∧ LNW (σ2 12) (σ2 20) (σ2 11 1) (σ2 13 11)) : INV σ2 := by
  have hk := hI.2.2.1
  refine ⟨by rw [e2, e14]; exact hR, h4, ⟨by rw [e135, e52, hk.1], ?_⟩, hr⟩
  rw [e6, e17, e51, e52, hk.1]
  exact HIS_push hk.2 hI.1 (fun z hz => cpf_in hz) (fun z hz => cpf_in hz)
theorem RW_op {f g : Int → Int} (hM : MS f g) {k r b c d : Int} (hk : 0 ≤ k ∧ k ≤ 8) (hF : FK f k r b c d = 0) : RW (refF (opF f k r b c d)) (mOp g k r b c d) := ⟨PW_ref (CW_op hM.1 hk hF), MS_ref (MS_op hM hk hF)⟩
theorem fR_c (r : Int) : fR r = 0 ∨ fR r = 1 := by unfold fR; split <;> omega
theorem fRR_c (r o : Int) : fRR r o = 0 ∨ fRR r o = 1 := by unfold fRR; split <;> omega
theorem fC_c (c : Int) : fC c = 0 ∨ fC c = 2 := by unfold fC; split <;> omega
theorem fP_c (f : Int → Int) (r p : Int) : fP f r p = 0 ∨ fP f r p = 1 := by unfold fP; split <;> omega
theorem fB_c (f : Int → Int) (r p : Int) : fB f r p = 0 ∨ fB f r p = 1 := by unfold fB; split <;> omega
theorem fX_c (f : Int → Int) (r x y : Int) : fX f r x y = 0 ∨ fX f r x y = 1 ∨ fX f r x y = 2 := by unfold fX; split <;> (try split) <;> omega
theorem tgN {f : Int → Int} {r : Int} (hn : 0 ≤ f (240 + r)) : tbs f r = sI (tg f r) 0 (f (240 + r)) := by
  rw [tbs_eq hn]
  by_cases h : 1 ≤ f (240 + r)
  · rw [sI_app (a := 0) (b := f (240 + r) - 1) (c := f (240 + r)) (by omega) (by omega), tgs_out (a := f (240 + r) - 1) (by omega)]
    omega
  · rw [sI_nil (by omega), sI_nil (by omega)]
theorem tot_eq {f : Int → Int} (hW : CW f) (hP : PW f) : 0 + sb f 0 (f (240 + 0)) + sb f 1 (f (240 + 1)) + sb f 2 (f (240 + 2)) + sb f 3 (f (240 + 3)) = 0 + sI (lgs f 0) 0 (f (240 + 0)) + sI (lgs f 1) 0 (f (240 + 1)) + sI (lgs f 2) 0 (f (240 + 2)) + sI (lgs f 3) 0 (f (240 + 3)) := by
  have h0 := (hW 0 (by omega)).1
  have h1 := (hW 1 (by omega)).1
  have h2 := (hW 2 (by omega)).1
  have h3 := (hW 3 (by omega)).1
  rw [sb_eq hP (by omega) h0.2 (by omega), sb_eq hP (by omega) h1.2 (by omega), sb_eq hP (by omega) h2.2 (by omega), sb_eq hP (by omega) h3.2 (by omega)]
theorem seg_eq {f g : Int → Int} (hM : MS f g) : 0 + f (240 + 0) + f (240 + 1) + f (240 + 2) + f (240 + 3) = g (2 + 121 * 0) + g (2 + 121 * 1) + g (2 + 121 * 2) + g (2 + 121 * 3) := by
  rw [(hM.2.1 0 (by omega)).1, (hM.2.1 1 (by omega)).1, (hM.2.1 2 (by omega)).1, (hM.2.1 3 (by omega)).1]
  omega
theorem TXW_0 (t8 t18 : Int → Int) : TXW t8 t18 0 0 := ⟨rfl, ⟨⟨by omega, by omega⟩, fun i hi => absurd hi (by omega)⟩, fun i hi => absurd hi (by omega)⟩
theorem TXW_add {t8 t18 : Int → Int} {n n10 c : Int} (h : TXW t8 t18 n n10) (hn : n < 60) (hc : 32 ≤ c ∧ c ≤ 126) : TXW (pt t8 n c) (pt t18 n10 c) (n + 1) (n10 + 1) := by
  obtain ⟨rfl, hT, he⟩ := h
  refine ⟨rfl, ⟨by have := hT.1; omega, fun i hi => ?_⟩, fun i hi => ?_⟩
  · by_cases h9 : i = n10
    · subst h9; rw [pt_s]; exact hc
    · rw [pt_n _ _ h9]; exact hT.2 i (by omega)
  · by_cases h9 : i = n10
    · subst h9; rw [pt_s, pt_s]
    · rw [pt_n _ _ h9, pt_n _ _ h9]; exact he i (by omega)
theorem mco_MS2 {K P : Int → Int} {m : Int} (hK : ∀ i, 0 ≤ K i ∧ K i ≤ 8) : ∀ {q : Nat} {i : Int} {f g : Int → Int} {z : Int}, MS f g → MS (mco K P m q i f g z).1 (mco K P m q i f g z).2.1 := by
  intro q
  induction q with
  | zero => intro i f g z h; exact h
  | succ q ih =>
    intro i f g z hM
    by_cases h : i < m
    · by_cases h1 : FK f (K i) (P (i * 4 + 0)) (P (i * 4 + 1)) (P (i * 4 + 2)) (P (i * 4 + 3)) = 0
      · rw [mco_s h h1]; exact ih (MS_op hM (hK i) h1)
      · rw [mco_f h h1]; exact hM
    · rw [mco_e (by omega)]; exact hM
section RUN
variable {σ : SS}
abbrev rC (σ : SS) : Int × Int × Int × Int × (Int → Int) × (Int → Int) := paN (σ 8) (σ 7 1) 8 0 0 (σ 9) (σ 10) (σ 7 6)
abbrev rM (σ : SS) : Int × Int × Int × (Int → Int) := mAll (σ 18) (σ 13 10) (σ 19)
theorem run_ls (hI : INV σ) : ((rC σ).1 = -1 ∧ (rM σ).1 = 0 ∧ (rM σ).2.1 = σ 13 10 ∧ (rM σ).2.2.1 = (rC σ).2.2.1 ∧ TOL (rC σ).2.2.1 (rC σ).2.2.2.2.1 (rC σ).2.2.2.2.2 (rM σ).2.2.2) ∨ ((rC σ).1 ≠ -1 ∧ ((rM σ).1 = 1 ∨ (rM σ).2.1 < σ 13 10) ∧ (rM σ).2.1 = (rC σ).1) := by
  have hT := hI.2.2.2.1
  have h := ls_all hT.2.1.1 (σ 7 6) (σ 9) (σ 10) (σ 19) (t := σ 8)
  have e : rM σ = mAll (σ 8) (σ 7 1) (σ 19) := by
    show mAll (σ 18) (σ 13 10) (σ 19) = _
    rw [hT.1]; exact mAll_eq hT.2.2
  rw [e, hT.1]
  exact h
theorem run_rg (hI : INV σ) : (-1 ≤ (rC σ).1 ∧ (rC σ).1 ≤ 206) ∧ (0 ≤ (rC σ).2.2.1 ∧ (rC σ).2.2.1 ≤ 8) ∧ KPW (rC σ).2.2.2.2.1 (rC σ).2.2.2.2.2 := paN_rg hI.2.2.2.1.2.1 hI.2.2.2.2.1.1 (σ 7 6)
theorem run_TW (hI : INV σ) : TW (σ 18) (σ 13 10) := by
  have hT := hI.2.2.2.1
  rw [hT.1]; exact TW_eq hT.2.2 hT.2.1
theorem run_TR (hI : INV σ) : TR (rM σ).2.2.2 := mAll_TR (run_TW hI) hI.2.2.2.2.1.2
theorem run_co (h : (rM σ).2.2.1 = (rC σ).2.2.1 ∧ TOL (rC σ).2.2.1 (rC σ).2.2.2.2.1 (rC σ).2.2.2.2.2 (rM σ).2.2.2) : coN (rC σ).2.2.2.2.1 (rC σ).2.2.2.2.2 (rC σ).2.2.1 9 0 (σ 2) = coN (KT (rM σ).2.2.2) (PT (rM σ).2.2.2) (rM σ).2.2.1 9 0 (σ 2) := by
  rw [h.1]; exact coN_TOL h.2 9 (by omega)
theorem run_RW (hI : INV σ) (h : (rM σ).2.2.1 = (rC σ).2.2.1 ∧ TOL (rC σ).2.2.1 (rC σ).2.2.2.2.1 (rC σ).2.2.2.2.2 (rM σ).2.2.2) (z : Int) : RW (refF (coN (rC σ).2.2.2.2.1 (rC σ).2.2.2.2.2 (rC σ).2.2.1 9 0 (σ 2)).2) (mco (KT (rM σ).2.2.2) (PT (rM σ).2.2.2) (rM σ).2.2.1 9 0 (σ 2) (σ 14) z).2.1 := by
  have hM := mco_MS2 (K := KT (rM σ).2.2.2) (P := PT (rM σ).2.2.2) (m := (rM σ).2.2.1) (fun i => kdV_rg _) (q := 9) (i := 0) (z := z) hI.1.2
  rw [run_co h, ← mco_f_eq (g := σ 14) (z := z)]
  exact ⟨PW_ref hM.1, MS_ref hM⟩
end RUN
/-- a script's int -/
def scr (xs : Nat → Int32) (z : Int) : Int := (xs z.toNat).toInt
theorem scr_rg (xs : Nat → Int32) (z : Int) : -2147483648 ≤ scr xs z ∧ scr xs z ≤ 2147483647 := by
  unfold scr
  have h1 := (xs z.toNat).le_toInt
  have h2 := (xs z.toNat).toInt_lt
  omega
theorem iI_scr (xs : Nat → Int32) (z : Int) : iI (scr xs z) = xs z.toNat := by
  unfold iI scr; exact Int32.ofInt_toInt _
