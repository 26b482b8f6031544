/-! the two readings of a command text go in step -/
def nvL : List Int → Int
  | [] => 0
  | c :: r => isV c + nvL r
theorem isV_01 (c : Int) : isV c = 0 ∨ isV c = 1 := by unfold isV; split <;> simp
theorem nvL_0 : ∀ l : List Int, 0 ≤ nvL l
  | [] => by show (0 : Int) ≤ 0; omega
  | c :: r => by
    have h := nvL_0 r
    have h2 := isV_01 c
    show 0 ≤ isV c + nvL r
    omega
theorem ls_a (t : Int → Int) (n b : Int) : ∀ (l : List Int) {a j q : Int} {P T : Int → Int}, (mfo t n l 0 a q T).1 = 1 - (foL t n b l a j P).1 ∧ (mfo t n l 0 a q T).2.1 = (foL t n b l a j P).2.1 := by
  intro l
  induction l with
  | nil => intros; exact ⟨rfl, rfl⟩
  | cons c l ih =>
    intro a j q P T
    show (mfo t n l (stW t n c 0 a) (stA t n c 0 a) (q + isV c) (if isV c = 1 then pt T q (stV t n c 0 a) else T)).1 = _ ∧ (mfo t n l (stW t n c 0 a) (stA t n c 0 a) (q + isV c) (if isV c = 1 then pt T q (stV t n c 0 a) else T)).2.1 = _
    rw [show stW t n c 0 a = 1 - okP t n c a from if_neg (by omega), show stA t n c 0 a = atP t n c a from if_neg (by omega)]
    rcases okP_01 t n c a with h | h
    · rw [foL_no rfl h, at_no h, h]
      exact mfo_w1 t n l
    · rw [foL_yes rfl h, h]
      exact ih
theorem mfo_out (t : Int → Int) (n : Int) : ∀ (l : List Int) {w a q z : Int} {T : Int → Int}, ¬ (q ≤ z ∧ z < q + nvL l) → (mfo t n l w a q T).2.2.2 z = T z := by
  intro l
  induction l with
  | nil => intros; rfl
  | cons c l ih =>
    intro w a q z T h
    have h0 := nvL_0 l
    have h1 := isV_01 c
    have h2 : ¬ (q ≤ z ∧ z < q + (isV c + nvL l)) := h
    show (mfo t n l (stW t n c w a) (stA t n c w a) (q + isV c) (if isV c = 1 then pt T q (stV t n c w a) else T)).2.2.2 z = T z
    rw [ih (by omega)]
    by_cases hv : isV c = 1
    · rw [if_pos hv, pt_n _ _ (by omega)]
    · rw [if_neg hv]
theorem ls_b (t : Int → Int) (n b : Int) : ∀ (l : List Int) {a j q z : Int} {P T : Int → Int}, (foL t n b l a j P).1 = 1 → (foL t n b l a j P).2.2.2 z = if b + j ≤ z ∧ z < b + j + nvL l then (mfo t n l 0 a q T).2.2.2 (q + (z - (b + j))) else P z := by
  intro l
  induction l with
  | nil =>
    intro a j q z P T _
    show P z = if b + j ≤ z ∧ z < b + j + 0 then _ else P z
    rw [if_neg (by omega)]
  | cons c l ih =>
    intro a j q z P T h
    have h0 := nvL_0 l
    show _ = if b + j ≤ z ∧ z < b + j + (isV c + nvL l) then (mfo t n l (stW t n c 0 a) (stA t n c 0 a) (q + isV c) (if isV c = 1 then pt T q (stV t n c 0 a) else T)).2.2.2 (q + (z - (b + j))) else P z
    rcases okP_01 t n c a with ho | ho
    · rw [foL_no rfl ho] at h
      have h9 : (0 : Int) = 1 := h
      omega
    · rw [foL_yes rfl ho] at h ⊢
      rw [show stW t n c 0 a = 0 by rw [show stW t n c 0 a = 1 - okP t n c a from if_neg (by omega)]; omega, show stA t n c 0 a = atP t n c a from if_neg (by omega)]
      have ih2 := ih (q := q + isV c) (z := z) (T := if isV c = 1 then pt T q (stV t n c 0 a) else T) h
      rw [ih2]
      rcases isV_01 c with hv | hv
      · have e1 : jP t n c a j = j := if_neg (by omega)
        have e2 : pP t n b c a j P = P := if_neg (by omega)
        rw [e1, e2, hv, Int.add_zero, Int.zero_add]
      · have e1 : jP t n c a j = j + 1 := if_pos ⟨ho, hv⟩
        have e2 : pP t n b c a j P = pt P (b + j) (vP t n c a) := if_pos ⟨ho, hv⟩
        have e3 : stV t n c 0 a = vP t n c a := by unfold stV; rw [if_neg (by omega), if_pos ho]
        rw [e1, e2, hv, e3, if_pos rfl]
        by_cases hz : z = b + j
        · rw [if_neg (by omega), if_pos (by omega), hz, pt_s, mfo_out t n l (by omega), show q + (b + j - (b + j)) = q by omega, pt_s]
        · by_cases hy : b + (j + 1) ≤ z ∧ z < b + (j + 1) + nvL l
          · rw [if_pos hy, if_pos (by omega), show q + 1 + (z - (b + (j + 1))) = q + (z - (b + j)) by omega]
          · rw [if_neg hy, if_neg (by omega), pt_n _ _ hz]
theorem foL_le {t : Int → Int} {n b : Int} : ∀ (l : List Int) {a j : Int} {P : Int → Int}, (∀ c ∈ l, 32 ≤ c) → a ≤ n → (foL t n b l a j P).1 = 1 → (foL t n b l a j P).2.1 ≤ n := by
  intro l
  induction l with
  | nil => intro a j P _ h _; exact h
  | cons c l ih =>
    intro a j P hc ha h
    rcases okP_01 t n c a with ho | ho
    · rw [foL_no rfl ho] at h
      have h9 : (0 : Int) = 1 := h
      omega
    · rw [foL_yes rfl ho] at h ⊢
      refine ih (fun x hx => hc x (List.mem_cons_of_mem _ hx)) ?_ h
      have hc0 := hc c List.mem_cons_self
      have hs : sg t n a ≠ 0 := by
        intro h9
        unfold okP at ho
        have hb1 := bD_iff (sg t n a)
        have hb2 := bC_iff (sg t n a - 97)
        (repeat' split at ho) <;> omega
      have hin : a < n := by
        by_cases h9 : a < n
        · exact h9
        · exact absurd (show sg t n a = 0 from if_neg (by omega)) hs
      unfold atP
      rw [if_neg (by omega)]
      split
      · rename_i h8
        have hb1 := bD_iff (sg t n (a + 1))
        by_cases h9 : a + 1 < n
        · omega
        · have : sg t n (a + 1) = 0 := if_neg (by omega)
          omega
      · omega
theorem pl_32 : ∀ w, w < 15 → 6 ≤ w → (pl w).all (fun c => decide (32 ≤ c)) = true := by decide +kernel
theorem pl_7 : ∀ w, w < 15 → 6 ≤ w → 7 ≤ sL.getD w 0 := by decide +kernel
def nvK (k : Int) : Int := nvL (pl (fW k))
theorem nvK_4 {k : Int} (hk : 0 ≤ k ∧ k ≤ 8) : nvK k ≤ 4 ∧ 0 ≤ nvK k := by
  rcases (show k = 0 ∨ k = 1 ∨ k = 2 ∨ k = 3 ∨ k = 4 ∨ k = 5 ∨ k = 6 ∨ k = 7 ∨ k = 8 by omega) with rfl | rfl | rfl | rfl | rfl | rfl | rfl | rfl | rfl <;> decide +kernel
/-- the commands read by the one are those read by the other -/
def TOL (m : Int) (K P T : Int → Int) : Prop := ∀ i : Int, 0 ≤ i ∧ i < m → (0 ≤ K i ∧ K i ≤ 8) ∧ T (5 * i) = cdK (K i) ∧ ∀ x : Int, 0 ≤ x ∧ x < nvK (K i) → T (5 * i + 1 + x) = P (i * 4 + x)
theorem TOL_1 {t : Int → Int} {n a m : Int} {K P T : Int → Int} (hm : 0 ≤ m) (hT : TOL m K P T) (h : rcK t n a ≠ -1) (h1 : (rcF t n a m P).1 = 1) : TOL (m + 1) (pt K m (rcK t n a)) (rcF t n a m P).2.2.2 (mone t n a m T).2.2.2 := by
  have hr := rcK_rg t n a
  have hk : 0 ≤ rcK t n a ∧ rcK t n a ≤ 8 := by omega
  have hn4 := nvK_4 hk
  have hb := fun z => ls_b t n (m * 4) (pl (fW (rcK t n a))) (a := a) (j := 0) (q := 5 * m + 1) (z := z) (P := P) (T := pt T (5 * m) (cdK (rcK t n a))) h1
  rw [mone_k rfl h]
  intro i hi
  by_cases him : i = m
  · subst him
    rw [pt_s]
    refine ⟨hk, ?_, fun x hx => ?_⟩
    · rw [mfo_out t n _ (by omega), pt_s]
    · have hx2 : x < nvL (pl (fW (rcK t n a))) := hx.2
      show _ = (rcF t n a i P).2.2.2 (i * 4 + x)
      unfold rcF
      rw [hb (i * 4 + x), if_pos (by omega), show 5 * i + 1 + (i * 4 + x - (i * 4 + 0)) = 5 * i + 1 + x by omega]
  · have h2 := hT i (by omega)
    have h4 := nvK_4 h2.1
    rw [pt_n _ _ him]
    refine ⟨h2.1, ?_, fun x hx => ?_⟩
    · rw [mfo_out t n _ (by omega), pt_n _ _ (by omega)]
      exact h2.2.1
    · rw [mfo_out t n _ (by omega), pt_n _ _ (by omega), h2.2.2 x hx]
      unfold rcF
      rw [hb (i * 4 + x), if_neg (by omega)]
theorem ls_pa {t : Int → Int} {n : Int} (hn : n ≤ 60) : ∀ (k k' : Nat) {a m j : Int} {K P T : Int → Int}, k ≤ k' → (k : Int) + m = 8 → 0 ≤ m → 8 * m ≤ a → a ≤ n → TOL m K P T →
    ((paN t n k a m K P j).1 = -1 ∧ (mlN t n k' (mone t n a m T).1 (mone t n a m T).2.1 (m + 1) (mone t n a m T).2.2.2).1 = 0 ∧ (mlN t n k' (mone t n a m T).1 (mone t n a m T).2.1 (m + 1) (mone t n a m T).2.2.2).2.1 = n ∧ (mlN t n k' (mone t n a m T).1 (mone t n a m T).2.1 (m + 1) (mone t n a m T).2.2.2).2.2.1 = (paN t n k a m K P j).2.2.1 ∧ TOL (paN t n k a m K P j).2.2.1 (paN t n k a m K P j).2.2.2.2.1 (paN t n k a m K P j).2.2.2.2.2 (mlN t n k' (mone t n a m T).1 (mone t n a m T).2.1 (m + 1) (mone t n a m T).2.2.2).2.2.2) ∨
    ((paN t n k a m K P j).1 ≠ -1 ∧ ((mlN t n k' (mone t n a m T).1 (mone t n a m T).2.1 (m + 1) (mone t n a m T).2.2.2).1 = 1 ∨ (mlN t n k' (mone t n a m T).1 (mone t n a m T).2.1 (m + 1) (mone t n a m T).2.2.2).2.1 < n) ∧ (mlN t n k' (mone t n a m T).1 (mone t n a m T).2.1 (m + 1) (mone t n a m T).2.2.2).2.1 = (paN t n k a m K P j).1) := by
  intro k
  induction k with
  | zero =>
    intro k' a m j K P T _ hm _ ha1 ha2 _
    omega
  | succ k ih =>
    intro k' a m j K P T hk hm hm0 ha1 ha2 hT
    obtain ⟨k'', rfl⟩ : ∃ k'', k' = k'' + 1 := ⟨k' - 1, by omega⟩
    have hr := rcK_rg t n a
    by_cases h : rcK t n a = -1
    · refine Or.inr ?_
      rw [paN_n h, mone_n h, mlN_e (by omega)]
      exact ⟨by show a ≠ -1; omega, Or.inl rfl, rfl⟩
    · have hfw := fW_in (k := rcK t n a) (by omega)
      have hst := ls_a t n (m * 4) (pl (fW (rcK t n a))) (a := a) (j := 0) (q := 5 * m + 1) (P := P) (T := pt T (5 * m) (cdK (rcK t n a)))
      have hw : (mone t n a m T).1 = 1 - (rcF t n a m P).1 := by rw [mone_k rfl h]; exact hst.1
      have ha : (mone t n a m T).2.1 = (rcF t n a m P).2.1 := by rw [mone_k rfl h]; exact hst.2
      have hat := rcF_at t n a m P
      rcases rcF_01 t n a m P with h1 | h1
      · refine Or.inr ?_
        rw [paN_f h h1, mlN_e (by omega)]
        exact ⟨by show (rcF t n a m P).2.1 ≠ -1; omega, Or.inl (by show (mone t n a m T).1 = 1; omega), ha⟩
      · have hw0 : (mone t n a m T).1 = 0 := by omega
        have hle : (rcF t n a m P).2.1 ≤ n := foL_le (pl (fW (rcK t n a))) (fun c hc => of_decide_eq_true (List.all_eq_true.mp (pl_32 _ hfw.2 hfw.1) c hc)) ha2 h1
        have h7 : a + 7 ≤ (rcF t n a m P).2.1 := by
          have h8 := mfo_ok t n (pl (fW (rcK t n a))) (a := a) (q := 5 * m + 1) (T := pt T (5 * m) (cdK (rcK t n a))) (by rw [← mone_k rfl h]; exact hw0)
          rw [← mone_k rfl h, ha, pl_len (fW_lt hr)] at h8
          have h9 := pl_7 _ hfw.2 hfw.1
          unfold sLi at h8
          omega
        have hTO := TOL_1 hm0 hT h h1
        by_cases h2 : (rcF t n a m P).2.1 = n
        · refine Or.inl ?_
          have hsg : sg t n (mone t n a m T).2.1 = 0 := by rw [ha, h2]; exact if_neg (by omega)
          rw [paN_e h h1 h2, mlN_e (by omega)]
          exact ⟨rfl, hw0, by rw [ha, h2], rfl, hTO⟩
        · by_cases h3 : sg t n (rcF t n a m P).2.1 = 59
          · rw [paN_s h h1 h2 h3, mlN_s hw0 (by rw [ha]; exact h3), ha]
            exact ih k'' (by omega) (by omega) (by omega) (by omega) (by omega) hTO
          · refine Or.inr ?_
            rw [paN_x h h1 h2 h3, mlN_e (by rw [ha]; omega)]
            exact ⟨by show (rcF t n a m P).2.1 ≠ -1; omega, Or.inr (by show (mone t n a m T).2.1 < n; omega), ha⟩
theorem ls_all {t : Int → Int} {n : Int} (hn : 0 ≤ n ∧ n ≤ 60) (j : Int) (K P T : Int → Int) :
    ((paN t n 8 0 0 K P j).1 = -1 ∧ (mAll t n T).1 = 0 ∧ (mAll t n T).2.1 = n ∧ (mAll t n T).2.2.1 = (paN t n 8 0 0 K P j).2.2.1 ∧ TOL (paN t n 8 0 0 K P j).2.2.1 (paN t n 8 0 0 K P j).2.2.2.2.1 (paN t n 8 0 0 K P j).2.2.2.2.2 (mAll t n T).2.2.2) ∨
    ((paN t n 8 0 0 K P j).1 ≠ -1 ∧ ((mAll t n T).1 = 1 ∨ (mAll t n T).2.1 < n) ∧ (mAll t n T).2.1 = (paN t n 8 0 0 K P j).1) := ls_pa hn.2 8 61 (by omega) (by omega) (by omega) (by omega) hn.1 (fun i hi => absurd hi (by omega))
