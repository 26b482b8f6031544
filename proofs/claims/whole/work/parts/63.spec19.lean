/-! the two tellings side by side: reels, rows of history, what every call keeps -/
theorem PW_lo {f f2 : Int → Int} (hW : CW f) (hP : PW f) (h : ∀ z : Int, 0 ≤ z ∧ z < 310 → f2 z = f z) : PW f2 := by
  intro u hu
  have hlo : ∀ z, 0 ≤ z ∧ z < 244 → f2 z = f z := fun z hz => h z (by omega)
  have hr : 0 ≤ u / 8 ∧ u / 8 < 4 := by omega
  have hn := (hW (u / 8) hr).1
  have hp := hP u hu
  constructor
  · rw [h (244 + u) (by omega), hp.1]
    unfold psum
    rw [hlo (240 + u / 8) (by omega), lgs_lo hlo hr (by omega) (by omega)]
  · rw [h (276 + u) (by omega), hp.2]
    unfold ptan
    rw [hlo (240 + u / 8) (by omega)]
    exact (sI_congr (fun p _ _ => (tg_lo hlo hr hn.2))).symm
theorem MS_g {f g g2 : Int → Int} (hM : MS f g) (h : ∀ z : Int, 0 ≤ z ∧ z < 486 → g2 z = g z) : MS f g2 := by
  refine ⟨hM.1, fun o ho => ?_, ?_, ?_⟩
  · have hno := (hM.1 o ho).1
    have hmo := hM.2.1 o ho
    rw [h (2 + 121 * o) (by omega)]
    refine ⟨hmo.1, fun q hq => ?_⟩
    rw [h (3 + 121 * o + 2 * q) (by omega), h (4 + 121 * o + 2 * q) (by omega)]
    exact hmo.2 q hq
  · rw [h 0 (by omega)]; exact hM.2.2.1
  · rw [h 1 (by omega)]; exact hM.2.2.2
def RW (f g : Int → Int) : Prop := PW f ∧ MS f g
theorem RW_lo {f f2 g g2 : Int → Int} (h : RW f g) (h1 : ∀ z : Int, 0 ≤ z ∧ z < 310 → f2 z = f z) (h2 : ∀ z : Int, 0 ≤ z ∧ z < 486 → g2 z = g z) : RW f2 g2 :=
  ⟨PW_lo h.2.1 h.1 h1, MS_g (MS_lo h.2 (fun z hz => h1 z (by omega))) h2⟩
/-- rows of the class's ring against rows of the model's list, the newest first -/
def HIS (h6 h17 : Int → Int) (nx k : Int) : Prop := (0 ≤ nx ∧ nx < 8 ∧ 0 ≤ k ∧ k ≤ 8) ∧ ∀ j : Int, 0 ≤ j ∧ j < k → RW (fun z => h6 ((nx - 1 - j) % 8 * 310 + z)) (fun z => h17 (486 * (k - 1 - j) + z))
theorem HIS_push {h6 h17 fr f g gr : Int → Int} {nx k : Int} (h : HIS h6 h17 nx k) (hR : RW f g) (hf : ∀ z : Int, 0 ≤ z ∧ z < 310 → fr z = f z) (hg : ∀ z : Int, 0 ≤ z ∧ z < 486 → gr z = g z) : HIS (cpf fr h6 0 (nx * 310) 310) (hiF h17 gr k) (nx8 nx) (min (k + 1) 8) := by
  have hb := h.1
  have hn8 : nx8 nx = (nx + 1) % 8 := by unfold nx8; split <;> omega
  refine ⟨by omega, fun j hj => ?_⟩
  rw [hn8]
  by_cases hj0 : j = 0
  · subst hj0
    refine RW_lo hR (fun z hz => ?_) (fun z hz => ?_)
    · show cpf fr h6 0 (nx * 310) 310 (((nx + 1) % 8 - 1 - 0) % 8 * 310 + z) = f z
      have e : ((nx + 1) % 8 - 1 - 0) % 8 = nx := by omega
      rw [e]; unfold cpf
      rw [if_pos (by omega), ← hf z hz]; congr 1; omega
    · show hiF h17 gr k (486 * (min (k + 1) 8 - 1 - 0) + z) = g z
      unfold hiF
      by_cases h8 : k = 8
      · rw [if_pos h8]; unfold cpf
        rw [if_pos (by omega), ← hg z hz]; congr 1; omega
      · rw [if_neg h8]; unfold cpf
        rw [if_pos (by omega), ← hg z hz]; congr 1; omega
  · refine RW_lo (h.2 (j - 1) (by omega)) (fun z hz => ?_) (fun z hz => ?_)
    · show cpf fr h6 0 (nx * 310) 310 (((nx + 1) % 8 - 1 - j) % 8 * 310 + z) = h6 ((nx - 1 - (j - 1)) % 8 * 310 + z)
      have e : ((nx + 1) % 8 - 1 - j) % 8 = (nx - 1 - (j - 1)) % 8 := by omega
      have e2 : (nx - 1 - (j - 1)) % 8 ≠ nx := by omega
      have e3 : 0 ≤ (nx - 1 - (j - 1)) % 8 ∧ (nx - 1 - (j - 1)) % 8 < 8 := by omega
      rw [e]; unfold cpf
      rw [if_neg (by omega)]
    · show hiF h17 gr k (486 * (min (k + 1) 8 - 1 - j) + z) = h17 (486 * (k - 1 - (j - 1)) + z)
      unfold hiF
      by_cases h8 : k = 8
      · rw [if_pos h8]; unfold cpf
        rw [if_neg (by omega), if_pos (by omega)]; congr 1; omega
      · rw [if_neg h8]; unfold cpf
        rw [if_neg (by omega)]; congr 1; omega
theorem HIS_pop {h6 h17 : Int → Int} {nx k : Int} (h : HIS h6 h17 nx k) (hk : 0 < k) : HIS h6 h17 (pv8 nx) (k - 1) := by
  have hb := h.1
  have hn8 : pv8 nx = (nx - 1) % 8 := by unfold pv8; split <;> omega
  refine ⟨by omega, fun j hj => ?_⟩
  have h1 := h.2 (j + 1) (by omega)
  rw [hn8, show ((nx - 1) % 8 - 1 - j) % 8 = (nx - 1 - (j + 1)) % 8 by omega, show k - 1 - 1 - j = k - 1 - (j + 1) by omega]
  exact h1
theorem HIS_top {h6 h17 f g : Int → Int} {nx k : Int} (h : HIS h6 h17 nx k) (hk : 0 < k) : RW (cpf h6 f (pv8 nx * 310) 0 310) (cpf h17 g (486 * (k - 1)) 0 486) := by
  have hb := h.1
  have hn8 : pv8 nx = (nx - 1 - 0) % 8 := by unfold pv8; split <;> omega
  refine RW_lo (h.2 0 (by omega)) (fun z hz => ?_) (fun z hz => ?_)
  · show cpf h6 f (pv8 nx * 310) 0 310 z = h6 ((nx - 1 - 0) % 8 * 310 + z)
    unfold cpf; rw [if_pos (by omega), hn8]; congr 1; omega
  · show cpf h17 g (486 * (k - 1)) 0 486 z = h17 (486 * (k - 1 - 0) + z)
    unfold cpf; rw [if_pos (by omega)]; congr 1; omega
theorem HIS_0 {h6 h17 h6' h17' : Int → Int} {nx k : Int} (h : HIS h6 h17 nx k) : HIS h6' h17' nx 0 := ⟨by have := h.1; omega, fun j hj => absurd hj (by omega)⟩
def TXW (t8 t18 : Int → Int) (n n10 : Int) : Prop := n10 = n ∧ TW t8 n ∧ ∀ i : Int, 0 ≤ i ∧ i < n → t18 i = t8 i
def LNW (o12 o20 : Int → Int) (l l11 : Int) : Prop := l11 = l ∧ (0 ≤ l ∧ l ≤ 240) ∧ ∀ i : Int, 0 ≤ i ∧ i < l → o20 i = o12 i ∧ 0 ≤ o12 i ∧ o12 i < 65536
def SNW (f4 g16 : Int → Int) (s3 m6 : Int) : Prop := m6 = s3 ∧ (s3 = 0 ∨ s3 = 1) ∧ (s3 = 1 → RW f4 g16)
def ERW (e7 e8 m12 m13 : Int) : Prop := m12 = e7 ∧ m13 = e8 ∧ (-1 ≤ e7 ∧ e7 ≤ 300) ∧ (-1 ≤ e8 ∧ e8 ≤ 300)
def INV (σ : SS) : Prop := RW (σ 2) (σ 14) ∧ SNW (σ 4) (σ 16) (σ 0 3) (σ 13 6) ∧ (σ 13 5 = σ 5 2 ∧ HIS (σ 6) (σ 17) (σ 5 1) (σ 5 2)) ∧ TXW (σ 8) (σ 18) (σ 7 1) (σ 13 10) ∧ (KPW (σ 9) (σ 10) ∧ TR (σ 19)) ∧ ERW (σ 0 7) (σ 0 8) (σ 13 12) (σ 13 13) ∧ LNW (σ 12) (σ 20) (σ 11 1) (σ 13 11)
theorem sgn_eq {t t2 : Int → Int} {n : Int} (h : ∀ i : Int, 0 ≤ i ∧ i < n → t2 i = t i) (i : Int) : sg t2 n i = sg t n i := by
  unfold sg
  by_cases h1 : 0 ≤ i ∧ i < n
  · rw [if_pos h1, if_pos h1, h i h1]
  · rw [if_neg h1, if_neg h1]
theorem TW_eq {t t2 : Int → Int} {n : Int} (h : ∀ i : Int, 0 ≤ i ∧ i < n → t2 i = t i) (hT : TW t n) : TW t2 n := ⟨hT.1, fun i hi => by rw [h i hi]; exact hT.2 i hi⟩
theorem mfo_eq {t t2 : Int → Int} {n : Int} (h : sg t2 n = sg t n) : ∀ (l : List Int) {w a q : Int} {T : Int → Int}, mfo t2 n l w a q T = mfo t n l w a q T := by
  intro l
  induction l with
  | nil => intros; rfl
  | cons c l ih =>
    intro w a q T
    have e1 : okP t2 n c a = okP t n c a := by unfold okP; rw [h]
    have e2 : atP t2 n c a = atP t n c a := by unfold atP; rw [e1, h]
    have e3 : vP t2 n c a = vP t n c a := by unfold vP; rw [h]
    show mfo t2 n l (stW t2 n c w a) (stA t2 n c w a) (q + isV c) (if isV c = 1 then pt T q (stV t2 n c w a) else T) = mfo t n l (stW t n c w a) (stA t n c w a) (q + isV c) (if isV c = 1 then pt T q (stV t n c w a) else T)
    rw [show stW t2 n c w a = stW t n c w a by unfold stW; rw [e1], show stA t2 n c w a = stA t n c w a by unfold stA; rw [e2], show stV t2 n c w a = stV t n c w a by unfold stV; rw [e1, e3], ih]
theorem mone_eq {t t2 : Int → Int} {n a m : Int} {T : Int → Int} (h : sg t2 n = sg t n) : mone t2 n a m T = mone t n a m T := by
  unfold mone
  rw [show rcK t2 n a = rcK t n a by unfold rcK; rw [h], mfo_eq h]
theorem mlN_eq {t t2 : Int → Int} {n : Int} (h : sg t2 n = sg t n) : ∀ (k : Nat) {w a m : Int} {T : Int → Int}, mlN t2 n k w a m T = mlN t n k w a m T := by
  intro k
  induction k with
  | zero => intros; rfl
  | succ k ih =>
    intro w a m T
    by_cases h1 : w = 0 ∧ sg t n a = 59
    · rw [mlN_s h1.1 h1.2, mlN_s h1.1 (by rw [h]; exact h1.2), mone_eq h, ih]
    · rw [mlN_e h1, mlN_e (by rw [h]; exact h1)]
theorem mAll_eq {t t2 : Int → Int} {n : Int} {T : Int → Int} (h : ∀ i : Int, 0 ≤ i ∧ i < n → t2 i = t i) : mAll t2 n T = mAll t n T := by
  have h1 : sg t2 n = sg t n := funext fun i => sgn_eq h i
  unfold mAll
  rw [mone_eq h1, mlN_eq h1]
/-- only the values that its form tells matter to a command -/
theorem FO_cong {f : Int → Int} {k r b c d r' b' c' d' : Int} (hk : 0 ≤ k ∧ k ≤ 8) (h0 : r = r') (h1 : b = b') (h2 : 2 < nvK k → c = c') (h3 : 3 < nvK k → d = d') : FK f k r b c d = FK f k r' b' c' d' ∧ opF f k r b c d = opF f k r' b' c' d' := by
  subst h0; subst h1
  rcases (show k = 0 ∨ k = 1 ∨ k = 2 ∨ k = 3 ∨ k = 4 ∨ k = 5 ∨ k = 6 ∨ k = 7 ∨ k = 8 by omega) with rfl | rfl | rfl | rfl | rfl | rfl | rfl | rfl | rfl
  · have := h2 (by decide +kernel); subst this; exact ⟨rfl, rfl⟩
  · have := h2 (by decide +kernel); subst this; have := h3 (by decide +kernel); subst this; exact ⟨rfl, rfl⟩
  · exact ⟨rfl, rfl⟩
  · have := h2 (by decide +kernel); subst this; exact ⟨rfl, rfl⟩
  · have := h2 (by decide +kernel); subst this; exact ⟨rfl, rfl⟩
  · exact ⟨rfl, rfl⟩
  · exact ⟨rfl, rfl⟩
  · have := h2 (by decide +kernel); subst this; exact ⟨rfl, rfl⟩
  · have := h2 (by decide +kernel); subst this; have := h3 (by decide +kernel); subst this; exact ⟨rfl, rfl⟩
theorem nvK_2 {k : Int} (hk : 0 ≤ k ∧ k ≤ 8) : 2 ≤ nvK k := by
  rcases (show k = 0 ∨ k = 1 ∨ k = 2 ∨ k = 3 ∨ k = 4 ∨ k = 5 ∨ k = 6 ∨ k = 7 ∨ k = 8 by omega) with rfl | rfl | rfl | rfl | rfl | rfl | rfl | rfl | rfl <;> decide +kernel
theorem coN_TOL {m : Int} {K P T : Int → Int} (hT : TOL m K P T) : ∀ (q : Nat) {i : Int} {f : Int → Int}, 0 ≤ i → coN K P m q i f = coN (KT T) (PT T) m q i f := by
  intro q
  induction q with
  | zero => intros; rfl
  | succ q ih =>
    intro i f hi
    by_cases him : i < m
    · have h := hT i ⟨hi, him⟩
      have h2 := nvK_2 h.1
      have hK : KT T i = K i := by unfold KT; rw [h.2.1]; exact kdV_cd h.1
      have e0 := h.2.2 0 (by omega)
      have e1 := h.2.2 1 (by omega)
      have hc := FO_cong (f := f) (k := K i) (r := P (i * 4 + 0)) (b := P (i * 4 + 1)) (c := P (i * 4 + 2)) (d := P (i * 4 + 3)) (r' := PT T (i * 4 + 0)) (b' := PT T (i * 4 + 1)) (c' := PT T (i * 4 + 2)) (d' := PT T (i * 4 + 3)) h.1
        (by rw [PT_0, ← e0]; congr 1; omega) (by rw [PT_1, ← e1]; congr 1; omega)
        (fun h9 => by rw [PT_2, ← h.2.2 2 (by omega)]; congr 1; omega) (fun h9 => by rw [PT_3, ← h.2.2 3 (by omega)]; congr 1; omega)
      by_cases hF : FK f (K i) (P (i * 4 + 0)) (P (i * 4 + 1)) (P (i * 4 + 2)) (P (i * 4 + 3)) = 0
      · rw [coN_s him hF, coN_s him (by rw [hK, ← hc.1]; exact hF), hc.2, hK]
        exact ih (by omega)
      · rw [coN_f him hF, coN_f him (by rw [hK, ← hc.1]; exact hF)]
    · rw [coN_e (by omega), coN_e (by omega)]
theorem TOL_K {m : Int} {K P T : Int → Int} (hT : TOL m K P T) (i : Int) (hi : 0 ≤ i ∧ i < m) : T (5 * i) = cdK (KT T i) := by
  have h := hT i hi
  rw [show KT T i = K i by unfold KT; rw [h.2.1]; exact kdV_cd h.1]
  exact h.2.1
/-- the lines written go in step -/
theorem nm12_eq {o o2 : Int → Int} {s n : Int} (h : ∀ i : Int, 0 ≤ i ∧ i < s → o2 i = o i ∧ 0 ≤ o i ∧ o i < 65536) (hn : 0 ≤ n ∧ n ≤ 99) : ∀ i : Int, 0 ≤ i ∧ i < s + (if n < 10 then 1 else 2) → nm12 o2 s n i = nm12 o s n i ∧ 0 ≤ nm12 o s n i ∧ nm12 o s n i < 65536 := by
  intro i hi
  unfold nm12
  by_cases h1 : n < 10
  · rw [if_pos h1] at hi
    rw [if_pos h1, if_pos h1]
    by_cases h2 : i = s
    · subst h2; rw [pt_s, pt_s]; omega
    · rw [pt_n _ _ h2, pt_n _ _ h2]; exact h i (by omega)
  · rw [if_neg h1] at hi
    rw [if_neg h1, if_neg h1]
    by_cases h2 : i = s + 1
    · subst h2; rw [pt_s, pt_s]; omega
    · rw [pt_n _ _ h2, pt_n _ _ h2]
      by_cases h3 : i = s
      · subst h3; rw [pt_s, pt_s]; omega
      · rw [pt_n _ _ h3, pt_n _ _ h3]; exact h i (by omega)
theorem pt_eqL {o o2 : Int → Int} {s v : Int} (h : ∀ i : Int, 0 ≤ i ∧ i < s → o2 i = o i ∧ 0 ≤ o i ∧ o i < 65536) (hv : 0 ≤ v ∧ v < 65536) : ∀ i : Int, 0 ≤ i ∧ i < s + 1 → pt o2 s v i = pt o s v i ∧ 0 ≤ pt o s v i ∧ pt o s v i < 65536 := by
  intro i hi
  by_cases h2 : i = s
  · subst h2; rw [pt_s, pt_s]; omega
  · rw [pt_n _ _ h2, pt_n _ _ h2]; exact h i (by omega)
theorem ds_eq {f : Int → Int} (hW : CW f) {r : Int} (hr : 0 ≤ r ∧ r < 4) : ∀ (q : Nat) {p s : Int} {o o2 : Int → Int}, (f (240 + r) - p).toNat = q → 0 ≤ p → 0 ≤ s → s ≤ 4 * p → p ≤ f (240 + r) → (∀ i : Int, 0 ≤ i ∧ i < s → o2 i = o i ∧ 0 ≤ o i ∧ o i < 65536) →
    LNW (dsI f r p o s (f (240 + r))).1 (dsI f r p o2 s (f (240 + r))).1 (dsI f r p o s (f (240 + r))).2 (dsI f r p o2 s (f (240 + r))).2 := by
  intro q
  induction q with
  | zero =>
    intro p s o o2 hq hp hs hs4 hpn h
    have hn := (hW r hr).1
    rw [dsI_nil (by omega), dsI_nil (by omega)]
    exact ⟨rfl, by show 0 ≤ s ∧ s ≤ 240; omega, h⟩
  | succ q ih =>
    intro p s o o2 hq hp hs hs4 hpn h
    have hg := (hW r hr).2 p (by omega)
    rw [dsI_cons (o := o) (s := s) (show p < f (240 + r) by omega), dsI_cons (o := o2) (s := s) (show p < f (240 + r) by omega)]
    by_cases h0 : p ≤ 0
    · rw [sgc_0 (o := o) h0, sgc_0 (o := o2) h0, sgs_0 h0]
      exact ih (by omega) (by omega) (by split <;> omega) (by split <;> omega) (by omega) (pt_eqL (nm12_eq h (by omega)) (by omega))
    · have h1 := tg_01 f r (p - 1)
      rcases h1 with h1 | h1
      · rw [sgc_1 (o := o) (by omega) h1, sgc_1 (o := o2) (by omega) h1, sgs_1 (by omega)]
        exact ih (by omega) (by omega) (by split <;> omega) (by split <;> omega) (by omega) (pt_eqL (nm12_eq (pt_eqL h (by omega)) (by omega)) (by omega))
      · rw [sgc_2 (p := p) (o := o) (by omega) (by omega), sgc_2 (p := p) (o := o2) (by omega) (by omega), sgs_1 (p := p) (by omega)]
        exact ih (by omega) (by omega) (by split <;> omega) (by split <;> omega) (by omega) (pt_eqL (nm12_eq (pt_eqL h (by omega)) (by omega)) (by omega))
theorem ds_all {f : Int → Int} (hW : CW f) {r : Int} (hr : 0 ≤ r ∧ r < 4) (o o2 : Int → Int) : LNW (dsI f r 0 o 0 (f (240 + r))).1 (dsI f r 0 o2 0 (f (240 + r))).1 (dsI f r 0 o 0 (f (240 + r))).2 (dsI f r 0 o2 0 (f (240 + r))).2 := by
  have hn := (hW r hr).1
  exact ds_eq hW hr _ rfl (by omega) (by omega) (by omega) (by omega) (fun i hi => absurd hi (by omega))
