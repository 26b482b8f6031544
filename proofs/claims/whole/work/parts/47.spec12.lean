/-! the model's reading of the command text: its state is wrong or not, the place, what was told -/
def hr (t : Int → Int) (n i : Int) : Int := if i < n then t i else -1
theorem hr_sg {t : Int → Int} {n i : Int} (hT : TW t n) (hi : 0 ≤ i) : (hr t n i = sg t n i ∧ 32 ≤ sg t n i ∧ sg t n i ≤ 126 ∧ i < n) ∨ (hr t n i = -1 ∧ sg t n i = 0 ∧ n ≤ i) := by
  unfold hr sg
  by_cases h : i < n
  · have := hT.2 i ⟨hi, h⟩
    rw [if_pos h, if_pos ⟨hi, h⟩]; omega
  · rw [if_neg h, if_neg (by omega)]; omega
def stW (t : Int → Int) (n c w a : Int) : Int := if w = 1 then 1 else 1 - okP t n c a
def stA (t : Int → Int) (n c w a : Int) : Int := if w = 1 then a else atP t n c a
def stV (t : Int → Int) (n c w a : Int) : Int := if w = 1 then 0 else if okP t n c a = 1 then vP t n c a else 0
def msa (t : Int → Int) (n : Int) : List Int → Int → Int → Int × Int
  | [], w, a => (w, a)
  | c :: r, w, a => msa t n r (stW t n c w a) (stA t n c w a)
def mfo (t : Int → Int) (n : Int) : List Int → Int → Int → Int → (Int → Int) → Int × Int × Int × (Int → Int)
  | [], w, a, q, T => (w, a, q, T)
  | c :: r, w, a, q, T => mfo t n r (stW t n c w a) (stA t n c w a) (q + isV c) (if isV c = 1 then pt T q (stV t n c w a) else T)
section MFO
variable {t T : Int → Int} {n w a q : Int}
theorem mfo_nil : mfo t n [] w a q T = (w, a, q, T) := rfl
theorem mfo_app (l r : List Int) : ∀ {w a q : Int} {T : Int → Int}, mfo t n (l ++ r) w a q T = mfo t n r (mfo t n l w a q T).1 (mfo t n l w a q T).2.1 (mfo t n l w a q T).2.2.1 (mfo t n l w a q T).2.2.2 := by
  induction l with
  | nil => intros; rfl
  | cons c l ih => intro w a q T; exact ih
theorem mfo_68 (r : List Int) : mfo t n (68 :: r) w a q T = mfo t n r (stW t n 68 w a) (stA t n 68 w a) (q + 1) (pt T q (stV t n 68 w a)) := rfl
theorem mfo_78 (r : List Int) : mfo t n (78 :: r) w a q T = mfo t n r (stW t n 78 w a) (stA t n 78 w a) (q + 1) (pt T q (stV t n 78 w a)) := rfl
theorem mfo_67 (r : List Int) : mfo t n (67 :: r) w a q T = mfo t n r (stW t n 67 w a) (stA t n 67 w a) (q + 1) (pt T q (stV t n 67 w a)) := rfl
theorem mfo_msa : ∀ (l : List Int) {w a q : Int} {T : Int → Int}, (∀ c ∈ l, isV c = 0) → mfo t n l w a q T = ((msa t n l w a).1, (msa t n l w a).2, q, T) := by
  intro l
  induction l with
  | nil => intros; rfl
  | cons c l ih =>
    intro w a q T h
    have hc := h c List.mem_cons_self
    show mfo t n l (stW t n c w a) (stA t n c w a) (q + isV c) (if isV c = 1 then pt T q (stV t n c w a) else T) = _
    rw [hc, if_neg (by omega), show q + 0 = q by omega]
    exact ih (fun x hx => h x (List.mem_cons_of_mem _ hx))
theorem msa_1 : ∀ (l : List Int) {a : Int}, msa t n l 1 a = (1, a) := by
  intro l
  induction l with
  | nil => intros; rfl
  | cons c l ih => intro a; show msa t n l (stW t n c 1 a) (stA t n c 1 a) = _; rw [show stW t n c 1 a = 1 from if_pos rfl, show stA t n c 1 a = a from if_pos rfl]; exact ih
theorem msa_nil {l : List Int} (h : l = []) : msa t n l w a = (w, a) := by subst h; rfl
theorem msa_eq {c : Int} {l r : List Int} (h : l = c :: r) (hv : isV c = 0) (hs : sg t n a = c) : msa t n l 0 a = msa t n r 0 (a + 1) := by
  subst h
  have hc : c ≠ 67 ∧ c ≠ 68 ∧ c ≠ 78 := by
    by_cases h9 : c = 67 ∨ c = 68 ∨ c = 78
    · exfalso; unfold isV at hv; rw [if_pos h9] at hv; omega
    · omega
  show msa t n r (stW t n c 0 a) (stA t n c 0 a) = _
  rw [show stW t n c 0 a = 1 - okP t n c a from if_neg (by omega), show stA t n c 0 a = atP t n c a from if_neg (by omega), okS hc, atS hc, if_pos hs, if_pos hs]
  rfl
theorem msa_ne {c : Int} {l r : List Int} (h : l = c :: r) (hv : isV c = 0) (hs : sg t n a ≠ c) : msa t n l 0 a = msa t n r 1 a := by
  subst h
  have hc : c ≠ 67 ∧ c ≠ 68 ∧ c ≠ 78 := by
    by_cases h9 : c = 67 ∨ c = 68 ∨ c = 78
    · exfalso; unfold isV at hv; rw [if_pos h9] at hv; omega
    · omega
  show msa t n r (stW t n c 0 a) (stA t n c 0 a) = _
  rw [show stW t n c 0 a = 1 - okP t n c a from if_neg (by omega), show stA t n c 0 a = atP t n c a from if_neg (by omega), okS hc, atS hc, if_neg hs, if_neg hs]
  rfl
end MFO
/-- the model's words: signs alone, none of them the letter of a piece -/
theorem sa_all : ∀ w, w < 38 → 22 ≤ w → (pl w).all (fun c => decide (isV c = 0 ∧ 32 ≤ c)) = true := by decide +kernel
theorem sa_v {w : Nat} (h : 22 ≤ w ∧ w < 38) : ∀ c ∈ pl w, isV c = 0 := fun c hc => (of_decide_eq_true (List.all_eq_true.mp (sa_all w h.2 h.1) c hc)).1
theorem sa_i {w : Nat} (h : 22 ≤ w ∧ w < 38) {i : Int} (hi : 0 ≤ i ∧ i < sLi w) : isV (sBi w i) = 0 ∧ 32 ≤ sBi w i := by
  have hw : w < sN := h.2
  have h1 := pl_get hw hi
  have h2 : sBi w i ∈ pl w := List.mem_of_mem_drop (by rw [h1]; exact List.mem_cons_self)
  exact of_decide_eq_true (List.all_eq_true.mp (sa_all w h.2 h.1) _ h2)
theorem pt_id (f : Int → Int) (k : Int) : pt f k (f k) = f := by
  funext j; unfold pt
  by_cases h : j = k
  · subst h; simp
  · simp [h]
theorem st68_cs (t : Int → Int) (n : Int) {w : Int} (a : Int) (hw : w = 0 ∨ w = 1) : (w = 1 ∧ stW t n 68 w a = 1 ∧ stA t n 68 w a = a ∧ stV t n 68 w a = 0) ∨ (w = 0 ∧ bD (sg t n a) = 0 ∧ stW t n 68 w a = 1 ∧ stA t n 68 w a = a ∧ stV t n 68 w a = 0) ∨ (w = 0 ∧ bD (sg t n a) = 1 ∧ stW t n 68 w a = 0 ∧ stA t n 68 w a = a + 1 ∧ stV t n 68 w a = sg t n a - 48) := by
  have hb := bD_01 (sg t n a)
  have e1 : okP t n 68 a = bD (sg t n a) := rfl
  rcases hw with rfl | rfl
  · refine Or.inr ?_
    rcases hb with hb | hb
    · refine Or.inl ⟨rfl, hb, ?_, ?_, ?_⟩
      · show (if (0 : Int) = 1 then 1 else 1 - okP t n 68 a) = 1
        rw [if_neg (by omega), e1, hb]; omega
      · show (if (0 : Int) = 1 then a else atP t n 68 a) = a
        rw [if_neg (by omega)]; exact at_no (e1.trans hb)
      · show (if (0 : Int) = 1 then 0 else if okP t n 68 a = 1 then vP t n 68 a else 0) = 0
        rw [if_neg (by omega), if_neg (by omega)]
    · refine Or.inr ?_
      refine ⟨rfl, hb, ?_, ?_, ?_⟩
      · show (if (0 : Int) = 1 then 1 else 1 - okP t n 68 a) = 0
        rw [if_neg (by omega), e1, hb]; omega
      · show (if (0 : Int) = 1 then a else atP t n 68 a) = a + 1
        rw [if_neg (by omega), at68, if_neg (by omega)]
      · show (if (0 : Int) = 1 then 0 else if okP t n 68 a = 1 then vP t n 68 a else 0) = _
        rw [if_neg (by omega), if_pos (by omega)]
        unfold vP; rw [if_neg (by omega), if_neg (by omega)]
  · exact Or.inl ⟨rfl, if_pos rfl, if_pos rfl, if_pos rfl⟩
theorem st78_cs (t : Int → Int) (n : Int) {w : Int} (a : Int) (hw : w = 0 ∨ w = 1) : (w = 1 ∧ stW t n 78 w a = 1 ∧ stA t n 78 w a = a ∧ stV t n 78 w a = 0) ∨ (w = 0 ∧ bD (sg t n a) = 0 ∧ stW t n 78 w a = 1 ∧ stA t n 78 w a = a ∧ stV t n 78 w a = 0) ∨ (w = 0 ∧ bD (sg t n a) = 1 ∧ bD (sg t n (a + 1)) = 0 ∧ stW t n 78 w a = 0 ∧ stA t n 78 w a = a + 1 ∧ stV t n 78 w a = sg t n a - 48) ∨ (w = 0 ∧ bD (sg t n a) = 1 ∧ bD (sg t n (a + 1)) = 1 ∧ stW t n 78 w a = 0 ∧ stA t n 78 w a = a + 2 ∧ stV t n 78 w a = (sg t n a - 48) * 10 + (sg t n (a + 1) - 48)) := by
  have hb := bD_01 (sg t n a)
  have e1 : okP t n 78 a = bD (sg t n a) := rfl
  rcases hw with rfl | rfl
  · refine Or.inr ?_
    rcases hb with hb | hb
    · refine Or.inl ⟨rfl, hb, ?_, ?_, ?_⟩
      · show (if (0 : Int) = 1 then 1 else 1 - okP t n 78 a) = 1
        rw [if_neg (by omega), e1, hb]; omega
      · show (if (0 : Int) = 1 then a else atP t n 78 a) = a
        rw [if_neg (by omega)]; exact at_no (e1.trans hb)
      · show (if (0 : Int) = 1 then 0 else if okP t n 78 a = 1 then vP t n 78 a else 0) = 0
        rw [if_neg (by omega), if_neg (by omega)]
    · refine Or.inr ?_
      rcases bD_01 (sg t n (a + 1)) with hb2 | hb2
      · refine Or.inl ⟨rfl, hb, hb2, ?_, ?_, ?_⟩
        · show (if (0 : Int) = 1 then 1 else 1 - okP t n 78 a) = 0
          rw [if_neg (by omega), e1, hb]; omega
        · show (if (0 : Int) = 1 then a else atP t n 78 a) = a + 1
          rw [if_neg (by omega), at78, if_neg (by omega), if_neg (by omega)]
        · show (if (0 : Int) = 1 then 0 else if okP t n 78 a = 1 then vP t n 78 a else 0) = _
          rw [if_neg (by omega), if_pos (by omega)]
          unfold vP; rw [if_neg (by omega), if_neg (by omega)]
      · refine Or.inr ⟨rfl, hb, hb2, ?_, ?_, ?_⟩
        · show (if (0 : Int) = 1 then 1 else 1 - okP t n 78 a) = 0
          rw [if_neg (by omega), e1, hb]; omega
        · show (if (0 : Int) = 1 then a else atP t n 78 a) = a + 2
          rw [if_neg (by omega), at78, if_neg (by omega), if_pos hb2]
        · show (if (0 : Int) = 1 then 0 else if okP t n 78 a = 1 then vP t n 78 a else 0) = _
          rw [if_neg (by omega), if_pos (by omega)]
          unfold vP; rw [if_neg (by omega), if_pos ⟨rfl, hb2⟩]
  · exact Or.inl ⟨rfl, if_pos rfl, if_pos rfl, if_pos rfl⟩
theorem st67_cs (t : Int → Int) (n : Int) {w : Int} (a : Int) (hw : w = 0 ∨ w = 1) : (w = 1 ∧ stW t n 67 w a = 1 ∧ stA t n 67 w a = a ∧ stV t n 67 w a = 0) ∨ (w = 0 ∧ bC (sg t n a - 97) = 0 ∧ stW t n 67 w a = 1 ∧ stA t n 67 w a = a ∧ stV t n 67 w a = 0) ∨ (w = 0 ∧ bC (sg t n a - 97) = 1 ∧ stW t n 67 w a = 0 ∧ stA t n 67 w a = a + 1 ∧ stV t n 67 w a = sg t n a - 97) := by
  have hb := bC_01 (sg t n a - 97)
  have e1 : okP t n 67 a = bC (sg t n a - 97) := rfl
  rcases hw with rfl | rfl
  · refine Or.inr ?_
    rcases hb with hb | hb
    · refine Or.inl ⟨rfl, hb, ?_, ?_, ?_⟩
      · show (if (0 : Int) = 1 then 1 else 1 - okP t n 67 a) = 1
        rw [if_neg (by omega), e1, hb]; omega
      · show (if (0 : Int) = 1 then a else atP t n 67 a) = a
        rw [if_neg (by omega)]; exact at_no (e1.trans hb)
      · show (if (0 : Int) = 1 then 0 else if okP t n 67 a = 1 then vP t n 67 a else 0) = 0
        rw [if_neg (by omega), if_neg (by omega)]
    · refine Or.inr ?_
      refine ⟨rfl, hb, ?_, ?_, ?_⟩
      · show (if (0 : Int) = 1 then 1 else 1 - okP t n 67 a) = 0
        rw [if_neg (by omega), e1, hb]; omega
      · show (if (0 : Int) = 1 then a else atP t n 67 a) = a + 1
        rw [if_neg (by omega), at67, if_neg (by omega)]
      · show (if (0 : Int) = 1 then 0 else if okP t n 67 a = 1 then vP t n 67 a else 0) = _
        rw [if_neg (by omega), if_pos (by omega)]
        unfold vP; rw [if_pos rfl]
  · exact Or.inl ⟨rfl, if_pos rfl, if_pos rfl, if_pos rfl⟩
theorem stN_eq {X : SS} {F G : Int → Int} {A A2 W W2 V V2 i : Int} (hA : A = A2) (hW : W = W2) (hV : V = V2) : st (st X 13 (pt (pt F 15 A) 18 W)) 19 (pt G i V) = st (st X 13 (pt (pt F 15 A2) 18 W2)) 19 (pt G i V2) := by
  subst hA; subst hW; subst hV; rfl
theorem stW_01 (t : Int → Int) (n c w a : Int) : stW t n c w a = 0 ∨ stW t n c w a = 1 := by
  have := okP_01 t n c a
  unfold stW; split <;> omega
theorem stA_rg (t : Int → Int) (n c w a : Int) : a ≤ stA t n c w a ∧ stA t n c w a ≤ a + 2 := by
  have := atP_rg t n c a
  unfold stA; split <;> omega
theorem msa_rg (t : Int → Int) (n : Int) : ∀ (l : List Int) {w a : Int}, (w = 0 ∨ w = 1) → ((msa t n l w a).1 = 0 ∨ (msa t n l w a).1 = 1) ∧ a ≤ (msa t n l w a).2 ∧ (msa t n l w a).2 ≤ a + 2 * l.length := by
  intro l
  induction l with
  | nil => intro w a hw; exact ⟨hw, by show a ≤ a ∧ a ≤ a + 2 * ((0 : Nat) : Int); omega⟩
  | cons c l ih =>
    intro w a _
    have h1 := ih (w := stW t n c w a) (a := stA t n c w a) (stW_01 t n c w a)
    have h2 := stA_rg t n c w a
    have h3 : (((c :: l).length : Nat) : Int) = l.length + 1 := by simp
    refine ⟨h1.1, ?_⟩
    show a ≤ (msa t n l (stW t n c w a) (stA t n c w a)).2 ∧ (msa t n l (stW t n c w a) (stA t n c w a)).2 ≤ a + 2 * (((c :: l).length : Nat) : Int)
    omega
/-- the sign by which the model keeps a kind -/
def cdK (k : Int) : Int := if k = 0 then 97 else if k = 1 then 112 else if k = 2 then 100 else if k = 3 then 116 else if k = 4 then 99 else if k = 5 then 106 else if k = 6 then 115 else if k = 7 then 102 else 121
/-- one command read by the model: wrong or not, the place, what was told (m commands before it) -/
def mone (t : Int → Int) (n a m : Int) (T : Int → Int) : Int × Int × Int × (Int → Int) := if rcK t n a = -1 then (1, a, 0, T) else mfo t n (pl (fW (rcK t n a))) 0 a (5 * m + 1) (pt T (5 * m) (cdK (rcK t n a)))
theorem mone_n {t T : Int → Int} {n a m : Int} (h : rcK t n a = -1) : mone t n a m T = (1, a, 0, T) := if_pos h
theorem mone_k {t T : Int → Int} {n a m k : Int} (h : rcK t n a = k) (hk : k ≠ -1) : mone t n a m T = mfo t n (pl (fW k)) 0 a (5 * m + 1) (pt T (5 * m) (cdK k)) := by
  unfold mone; rw [h]; exact if_neg hk
theorem pl_f0 : pl (fW 0) = pl 22 ++ (68 :: (pl 23 ++ (78 :: 67 :: []))) := by decide +kernel
theorem pl_f1 : pl (fW 1) = pl 24 ++ (68 :: (pl 25 ++ (78 :: (pl 23 ++ (78 :: 67 :: []))))) := by decide +kernel
theorem pl_f2 : pl (fW 2) = pl 28 ++ (68 :: (pl 25 ++ (78 :: []))) := by decide +kernel
theorem pl_f3 : pl (fW 3) = pl 29 ++ (68 :: (pl 25 ++ (78 :: (pl 30 ++ (78 :: []))))) := by decide +kernel
theorem pl_f4 : pl (fW 4) = pl 31 ++ (68 :: (pl 25 ++ (78 :: (pl 32 ++ (68 :: []))))) := by decide +kernel
theorem pl_f5 : pl (fW 5) = pl 33 ++ (68 :: (pl 34 ++ (68 :: []))) := by decide +kernel
theorem pl_f6 : pl (fW 6) = pl 35 ++ (68 :: (pl 36 ++ (68 :: []))) := by decide +kernel
theorem pl_f7 : pl (fW 7) = pl 37 ++ (68 :: (pl 25 ++ (78 :: (pl 27 ++ (78 :: []))))) := by decide +kernel
theorem pl_f8 : pl (fW 8) = pl 26 ++ (68 :: (pl 25 ++ (78 :: (pl 27 ++ (78 :: (pl 23 ++ (67 :: []))))))) := by decide +kernel
theorem rcK_c {t : Int → Int} {n a k : Int} (h : rcK t n a = k) (hk : 0 ≤ k ∧ k ≤ 8) : sg t n a = (if k = 8 then 100 else cdK k) ∧ (k = 2 → sg t n (a + 1) ≠ 121) ∧ (k = 8 → sg t n (a + 1) = 121) := by
  subst h
  unfold rcK kdA cdK at *
  (repeat' split) <;> (repeat' split at hk) <;> omega
theorem rcK_cn {t : Int → Int} {n a : Int} (h : rcK t n a = -1) : sg t n a ≠ 97 ∧ sg t n a ≠ 112 ∧ sg t n a ≠ 100 ∧ sg t n a ≠ 116 ∧ sg t n a ≠ 99 ∧ sg t n a ≠ 106 ∧ sg t n a ≠ 115 ∧ sg t n a ≠ 102 := by
  unfold rcK kdA at h
  (repeat' split at h) <;> omega
theorem sa_len : ∀ w, w < 38 → 22 ≤ w → sL.getD w 0 ≤ 5 := by decide +kernel
theorem sa_l {w : Nat} (h : 22 ≤ w ∧ w < 38) : ((pl w).length : Int) ≤ 5 := by
  have h1 := pl_len (w := w) h.2
  have h2 := sa_len w h.2 h.1
  rw [h1]; unfold sLi; omega
