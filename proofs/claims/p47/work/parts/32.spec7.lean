/-! the command text: signs, pieces of a form, what reading them does -/
def TW (t : Int → Int) (n : Int) : Prop := (0 ≤ n ∧ n ≤ 60) ∧ ∀ i : Int, 0 ≤ i ∧ i < n → 32 ≤ t i ∧ t i ≤ 126
def sg (t : Int → Int) (n i : Int) : Int := if 0 ≤ i ∧ i < n then t i else 0
theorem sg_rg {t : Int → Int} {n : Int} (h : TW t n) (i : Int) : 0 ≤ sg t n i ∧ sg t n i ≤ 126 := by
  unfold sg
  by_cases h1 : 0 ≤ i ∧ i < n
  · rw [if_pos h1]; have := h.2 i h1; omega
  · rw [if_neg h1]; omega
def bE (x c : Int) : Int := if x = c then 1 else 0
theorem bE_01 (x c : Int) : bE x c = 0 ∨ bE x c = 1 := by unfold bE; split <;> simp
theorem bE_iff (x c : Int) : bE x c = 1 ↔ x = c := by unfold bE; split <;> simp_all
def bD (c : Int) : Int := if 48 ≤ c ∧ c ≤ 57 then 1 else 0
theorem bD_01 (c : Int) : bD c = 0 ∨ bD c = 1 := by unfold bD; split <;> simp
theorem bD_iff (c : Int) : bD c = 1 ↔ 48 ≤ c ∧ c ≤ 57 := by unfold bD; split <;> simp_all
/-- does the piece c stand at a; where reading goes on; the value that it tells -/
def okP (t : Int → Int) (n c a : Int) : Int := if c = 68 ∨ c = 78 then bD (sg t n a) else if c = 67 then bC (sg t n a - 97) else if sg t n a = c then 1 else 0
def atP (t : Int → Int) (n c a : Int) : Int := if okP t n c a = 0 then a else if c = 78 ∧ bD (sg t n (a + 1)) = 1 then a + 2 else a + 1
def vP (t : Int → Int) (n c a : Int) : Int := if c = 67 then sg t n a - 97 else if c = 78 ∧ bD (sg t n (a + 1)) = 1 then (sg t n a - 48) * 10 + (sg t n (a + 1) - 48) else sg t n a - 48
def isV (c : Int) : Int := if c = 67 ∨ c = 68 ∨ c = 78 then 1 else 0
theorem okP_01 (t : Int → Int) (n c a : Int) : okP t n c a = 0 ∨ okP t n c a = 1 := by
  unfold okP
  split
  · exact bD_01 _
  · split
    · exact bC_01 _
    · split <;> simp
theorem atP_rg (t : Int → Int) (n c a : Int) : a ≤ atP t n c a ∧ atP t n c a ≤ a + 2 := by unfold atP; (repeat' split) <;> omega
/-- one piece: what it makes of (place, values told, parameters from b on) -/
def jP (t : Int → Int) (n c a j : Int) : Int := if okP t n c a = 1 ∧ isV c = 1 then j + 1 else j
def pP (t : Int → Int) (n b c a j : Int) (P : Int → Int) : Int → Int := if okP t n c a = 1 ∧ isV c = 1 then pt P (b + j) (vP t n c a) else P
theorem st3_id (σ : SS) : st (st σ 7 (pt (pt (σ 7) 2 (σ 7 2)) 6 (σ 7 6))) 10 (σ 10) = σ := by
  have h1 : pt (pt (σ 7) 2 (σ 7 2)) 6 (σ 7 6) = σ 7 := by
    funext j; unfold pt
    by_cases h : j = 6
    · subst h; simp
    · by_cases h2 : j = 2
      · subst h2; simp
      · simp [h, h2]
  rw [h1, st_id, st_id]
theorem st1_id (σ : SS) (o : Nat) (k : Int) : st σ o (pt (σ o) k (σ o k)) = σ := by
  have h1 : pt (σ o) k (σ o k) = σ o := by
    funext j; unfold pt
    by_cases h : j = k
    · subst h; simp
    · simp [h]
  rw [h1, st_id]
/-- reading a list of pieces: 1 and all of it, or 0 and where it stopped -/
def foL (t : Int → Int) (n b : Int) : List Int → Int → Int → (Int → Int) → Int × Int × Int × (Int → Int)
  | [], a, j, P => (1, a, j, P)
  | c :: r, a, j, P => if okP t n c a = 1 then foL t n b r (atP t n c a) (jP t n c a j) (pP t n b c a j P) else (0, a, j, P)
theorem foL_nil {t : Int → Int} {n b a j : Int} {P : Int → Int} {r : List Int} (h : r = []) : foL t n b r a j P = (1, a, j, P) := by subst h; rfl
theorem foL_yes {t : Int → Int} {n b c a j : Int} {P : Int → Int} {r r1 : List Int} (h : r1 = c :: r) (ho : okP t n c a = 1) : foL t n b r1 a j P = foL t n b r (atP t n c a) (jP t n c a j) (pP t n b c a j P) := by subst h; exact if_pos ho
theorem foL_no {t : Int → Int} {n b c a j : Int} {P : Int → Int} {r r1 : List Int} (h : r1 = c :: r) (ho : okP t n c a = 0) : foL t n b r1 a j P = (0, a, j, P) := by subst h; exact if_neg (by omega)
/-- the pieces of the form at place w of the strings -/
def pl (w : Nat) : List Int := (sB.getD w []).map Int32.toInt
theorem pl_len {w : Nat} (hw : w < sN) : ((pl w).length : Int) = sLi w := by
  have h : ∀ w, w < sN → (pl w).length = sL.getD w 0 := by decide +kernel
  unfold sLi; rw [h w hw]
theorem pl_get {w : Nat} {i : Int} (hw : w < sN) (h : 0 ≤ i ∧ i < sLi w) : (pl w).drop i.toNat = sBi w i :: (pl w).drop (i + 1).toNat := by
  have hl := pl_len hw
  have h1 : i.toNat < (pl w).length := by omega
  rw [show (i + 1).toNat = i.toNat + 1 by omega, List.drop_eq_getElem_cons h1]
  congr 1
  have h2 : i.toNat < (sB.getD w []).length := by unfold pl at h1; simpa using h1
  unfold sBi
  rw [List.getD_eq_getElem?_getD, List.getElem?_eq_getElem h2]
  simp [pl]
theorem pl_end {w : Nat} {i : Int} (hw : w < sN) (h : sLi w ≤ i) : (pl w).drop i.toNat = [] := by
  have hl := pl_len hw
  exact List.drop_eq_nil_of_le (by omega)
/-- the kind of the command whose first sign is c and second sign d -/
def kdA (c d : Int) : Int := if c = 97 then 0 else if c = 112 then 1 else if c = 100 then (if d = 121 then 8 else 2) else if c = 116 then 3 else if c = 99 then 4 else if c = 106 then 5 else if c = 115 then 6 else if c = 102 then 7 else -1
theorem kdA_rg (c d : Int) : -1 ≤ kdA c d ∧ kdA c d ≤ 8 := by unfold kdA; (repeat' split) <;> omega
/-- how many values the first i pieces of form w tell -/
def nvN (w : Nat) (i : Nat) : Nat := ((pl w).take i).countP (fun c => decide (isV c = 1))
theorem nv_all : ∀ w, w < 24 → 15 ≤ w → ∀ i, i < 12 → nvN w i ≤ 4 := by decide +kernel
theorem nv_len : ∀ w, w < 24 → 15 ≤ w → sL.getD w 0 ≤ 11 ∧ 0 < sL.getD w 0 := by decide +kernel
theorem nv_step {w : Nat} {i : Int} (hw : w < sN) (h : 0 ≤ i ∧ i < sLi w) : (nvN w (i + 1).toNat : Int) = nvN w i.toNat + isV (sBi w i) := by
  have hl := pl_len hw
  have h1 : i.toNat < (pl w).length := by omega
  unfold nvN
  rw [show (i + 1).toNat = i.toNat + 1 by omega, List.take_succ_eq_append_getElem h1, List.countP_append]
  have h2 := pl_get hw h
  rw [List.drop_eq_getElem_cons h1] at h2
  rw [(List.cons.inj h2).1]
  by_cases h3 : isV (sBi w i) = 1
  · simp [h3]
  · have : isV (sBi w i) = 0 := by unfold isV at *; split <;> simp_all
    simp [this]
/-- the form of a kind -/
def fW (k : Int) : Nat := if k = -1 then 24 else 15 + k.toNat
/-- a command from place a on (form of its kind), commands so far m: kind or -1, then what foL makes -/
def rcK (t : Int → Int) (n a : Int) : Int := kdA (sg t n a) (sg t n (a + 1))
def rcF (t : Int → Int) (n a m : Int) (P : Int → Int) : Int × Int × Int × (Int → Int) := foL t n (m * 4) (pl (fW (rcK t n a))) a 0 P
/-- all commands from place a on, at most k more: error place or -1, then commands, kinds, parameters -/
def paN (t : Int → Int) (n : Int) : Nat → Int → Int → (Int → Int) → (Int → Int) → Int → Int × Int × Int × Int × (Int → Int) × (Int → Int)
  | 0, a, m, K, P, j => (a, a, m, j, K, P)
  | k + 1, a, m, K, P, j =>
    if rcK t n a = -1 then (a, a, m, j, K, P)
    else
      let r := rcF t n a m P
      if r.1 = 1 then
        if r.2.1 = n then (-1, r.2.1, m + 1, r.2.2.1, pt K m (rcK t n a), r.2.2.2)
        else if sg t n r.2.1 = 59 then paN t n k (r.2.1 + 1) (m + 1) (pt K m (rcK t n a)) r.2.2.2 r.2.2.1
        else (r.2.1, r.2.1, m + 1, r.2.2.1, pt K m (rcK t n a), r.2.2.2)
      else (r.2.1, r.2.1, m, r.2.2.1, K, r.2.2.2)
theorem fW_lt {k : Int} (h : -1 ≤ k ∧ k ≤ 8) : fW k < sN := by
  unfold fW; split
  · decide
  · show 15 + k.toNat < 32; omega
theorem fW_in {k : Int} (h : 0 ≤ k ∧ k ≤ 8) : 15 ≤ fW k ∧ fW k < 24 := by
  unfold fW; rw [if_neg (by omega)]; omega
theorem fW_no {k : Int} (h : k = -1) : sLi (fW k) = 0 := by subst h; decide
theorem fW_sL {k : Int} (h : 0 ≤ k ∧ k ≤ 8) : 0 < sLi (fW k) ∧ sLi (fW k) ≤ 11 := by
  have h1 := fW_in h
  have h2 := nv_len (fW k) h1.2 h1.1
  unfold sLi; omega
theorem fW_nv {k : Int} (h : 0 ≤ k ∧ k ≤ 8) {i : Int} (hi : 0 ≤ i ∧ i ≤ 11) : nvN (fW k) i.toNat ≤ 4 := by
  have h1 := fW_in h
  exact nv_all (fW k) h1.2 h1.1 i.toNat (by omega)
section PIECE
variable {t P : Int → Int} {n b c a j : Int}
theorem at68 : atP t n 68 a = if bD (sg t n a) = 0 then a else a + 1 := by
  unfold atP; rw [show okP t n 68 a = bD (sg t n a) from rfl]
  by_cases h : bD (sg t n a) = 0
  · rw [if_pos h, if_pos h]
  · rw [if_neg h, if_neg h, if_neg (by omega)]
theorem at78 : atP t n 78 a = if bD (sg t n a) = 0 then a else if bD (sg t n (a + 1)) = 1 then a + 2 else a + 1 := by
  unfold atP; rw [show okP t n 78 a = bD (sg t n a) from rfl]
  by_cases h : bD (sg t n a) = 0
  · rw [if_pos h, if_pos h]
  · rw [if_neg h, if_neg h]
    by_cases h2 : bD (sg t n (a + 1)) = 1
    · rw [if_pos ⟨rfl, h2⟩, if_pos h2]
    · rw [if_neg (by omega), if_neg h2]
theorem at67 : atP t n 67 a = if bC (sg t n a - 97) = 0 then a else a + 1 := by
  unfold atP; rw [show okP t n 67 a = bC (sg t n a - 97) from rfl]
  by_cases h : bC (sg t n a - 97) = 0
  · rw [if_pos h, if_pos h]
  · rw [if_neg h, if_neg h, if_neg (by omega)]
theorem okS (h : c ≠ 67 ∧ c ≠ 68 ∧ c ≠ 78) : okP t n c a = if sg t n a = c then 1 else 0 := by
  unfold okP; rw [if_neg (by omega), if_neg (by omega)]
theorem atS (h : c ≠ 67 ∧ c ≠ 68 ∧ c ≠ 78) : atP t n c a = if sg t n a = c then a + 1 else a := by
  unfold atP; rw [okS h]
  by_cases h2 : sg t n a = c
  · rw [if_pos h2, if_pos h2, if_neg (by omega), if_neg (by omega)]
  · rw [if_neg h2, if_neg h2, if_pos rfl]
theorem j68 : jP t n 68 a j = if bD (sg t n a) = 0 then j else j + 1 := by
  unfold jP; rw [show okP t n 68 a = bD (sg t n a) from rfl, show isV 68 = 1 from rfl]
  have := bD_01 (sg t n a)
  by_cases h : bD (sg t n a) = 0
  · rw [if_pos h, if_neg (by omega)]
  · rw [if_neg h, if_pos (by omega)]
theorem j78 : jP t n 78 a j = if bD (sg t n a) = 0 then j else j + 1 := by
  unfold jP; rw [show okP t n 78 a = bD (sg t n a) from rfl, show isV 78 = 1 from rfl]
  have := bD_01 (sg t n a)
  by_cases h : bD (sg t n a) = 0
  · rw [if_pos h, if_neg (by omega)]
  · rw [if_neg h, if_pos (by omega)]
theorem j67 : jP t n 67 a j = if bC (sg t n a - 97) = 0 then j else j + 1 := by
  unfold jP; rw [show okP t n 67 a = bC (sg t n a - 97) from rfl, show isV 67 = 1 from rfl]
  have := bC_01 (sg t n a - 97)
  by_cases h : bC (sg t n a - 97) = 0
  · rw [if_pos h, if_neg (by omega)]
  · rw [if_neg h, if_pos (by omega)]
theorem isV_S (h : c ≠ 67 ∧ c ≠ 68 ∧ c ≠ 78) : isV c = 0 := by unfold isV; rw [if_neg (by omega)]
theorem jS (h : c ≠ 67 ∧ c ≠ 68 ∧ c ≠ 78) : jP t n c a j = j := by unfold jP; rw [isV_S h, if_neg (by omega)]
theorem pS (h : c ≠ 67 ∧ c ≠ 68 ∧ c ≠ 78) : pP t n b c a j P = P := by unfold pP; rw [isV_S h, if_neg (by omega)]
theorem p68 : pP t n b 68 a j P = if bD (sg t n a) = 0 then P else pt P (b + j) (sg t n a - 48) := by
  unfold pP; rw [show okP t n 68 a = bD (sg t n a) from rfl, show isV 68 = 1 from rfl]
  have := bD_01 (sg t n a)
  by_cases h : bD (sg t n a) = 0
  · rw [if_pos h, if_neg (by omega)]
  · rw [if_neg h, if_pos (by omega)]
    unfold vP; rw [if_neg (by omega), if_neg (by omega)]
theorem p78 : pP t n b 78 a j P = if bD (sg t n a) = 0 then P else pt P (b + j) (if bD (sg t n (a + 1)) = 1 then (sg t n a - 48) * 10 + (sg t n (a + 1) - 48) else sg t n a - 48) := by
  unfold pP; rw [show okP t n 78 a = bD (sg t n a) from rfl, show isV 78 = 1 from rfl]
  have := bD_01 (sg t n a)
  by_cases h : bD (sg t n a) = 0
  · rw [if_pos h, if_neg (by omega)]
  · rw [if_neg h, if_pos (by omega)]
    unfold vP; rw [if_neg (by omega)]
    by_cases h2 : bD (sg t n (a + 1)) = 1
    · rw [if_pos ⟨rfl, h2⟩, if_pos h2]
    · rw [if_neg (by omega), if_neg h2]
theorem p67 : pP t n b 67 a j P = if bC (sg t n a - 97) = 0 then P else pt P (b + j) (sg t n a - 97) := by
  unfold pP; rw [show okP t n 67 a = bC (sg t n a - 97) from rfl, show isV 67 = 1 from rfl]
  have := bC_01 (sg t n a - 97)
  by_cases h : bC (sg t n a - 97) = 0
  · rw [if_pos h, if_neg (by omega)]
  · rw [if_neg h, if_pos (by omega)]
    unfold vP; rw [if_pos rfl]
theorem stS (σ : SS) (X : Int) : st (st σ 7 (pt (pt (σ 7) 2 X) 6 (σ 7 6))) 10 (σ 10) = st σ 7 (pt (σ 7) 2 X) := by
  have h1 : pt (pt (σ 7) 2 X) 6 (σ 7 6) = pt (σ 7) 2 X := by
    funext j; unfold pt
    by_cases h : j = 6
    · subst h; simp
    · simp [h]
  rw [h1]
  funext q; unfold st
  by_cases h : q = 10
  · subst h; simp
  · simp [h]
theorem at_no (h : okP t n c a = 0) : atP t n c a = a := if_pos h
theorem j_no (h : okP t n c a = 0) : jP t n c a j = j := if_neg (by omega)
theorem p_no (h : okP t n c a = 0) : pP t n b c a j P = P := if_neg (by omega)
theorem jP_rg : j ≤ jP t n c a j ∧ jP t n c a j ≤ j + isV c := by
  unfold jP isV; (repeat' split) <;> omega
end PIECE
theorem rcK_rg (t : Int → Int) (n a : Int) : -1 ≤ rcK t n a ∧ rcK t n a ≤ 8 := kdA_rg _ _
theorem foL_at {t : Int → Int} {n b : Int} : ∀ (r : List Int) (a j : Int) (P : Int → Int), a ≤ (foL t n b r a j P).2.1 ∧ (foL t n b r a j P).2.1 ≤ a + 2 * r.length
  | [], a, j, P => by show a ≤ a ∧ a ≤ a + 2 * ((0 : Nat) : Int); omega
  | c :: r, a, j, P => by
    rcases okP_01 t n c a with h | h
    · rw [foL_no rfl h]; show a ≤ a ∧ a ≤ a + 2 * (((r.length + 1 : Nat)) : Int); omega
    · rw [foL_yes rfl h]
      have h1 := foL_at (t := t) (n := n) (b := b) r (atP t n c a) (jP t n c a j) (pP t n b c a j P)
      have h2 := atP_rg t n c a
      have h3 : (((c :: r).length : Nat) : Int) = r.length + 1 := by simp
      omega
theorem foL_01 {t : Int → Int} {n b : Int} : ∀ (r : List Int) (a j : Int) (P : Int → Int), (foL t n b r a j P).1 = 0 ∨ (foL t n b r a j P).1 = 1
  | [], a, j, P => Or.inr rfl
  | c :: r, a, j, P => by
    rcases okP_01 t n c a with h | h
    · rw [foL_no rfl h]; exact Or.inl rfl
    · rw [foL_yes rfl h]; exact foL_01 r _ _ _
theorem rcF_at (t : Int → Int) (n a m : Int) (P : Int → Int) : a ≤ (rcF t n a m P).2.1 ∧ (rcF t n a m P).2.1 ≤ a + 22 := by
  have h1 := foL_at (t := t) (n := n) (b := m * 4) (pl (fW (rcK t n a))) a 0 P
  have h2 := rcK_rg t n a
  have h3 := pl_len (fW_lt h2)
  unfold rcF
  by_cases h : rcK t n a = -1
  · have := fW_no h; omega
  · have := fW_sL (k := rcK t n a) (by omega); omega
theorem rcF_01 (t : Int → Int) (n a m : Int) (P : Int → Int) : (rcF t n a m P).1 = 0 ∨ (rcF t n a m P).1 = 1 := foL_01 _ _ _ _
section PAN
variable {t K P : Int → Int} {n a m j : Int} {k : Nat}
theorem paN_0 : paN t n 0 a m K P j = (a, a, m, j, K, P) := rfl
theorem paN_n (h : rcK t n a = -1) : paN t n (k + 1) a m K P j = (a, a, m, j, K, P) := if_pos h
theorem paN_f (h : rcK t n a ≠ -1) (h1 : (rcF t n a m P).1 = 0) : paN t n (k + 1) a m K P j = ((rcF t n a m P).2.1, (rcF t n a m P).2.1, m, (rcF t n a m P).2.2.1, K, (rcF t n a m P).2.2.2) := by
  show (if rcK t n a = -1 then _ else _) = _
  rw [if_neg h]
  exact if_neg (by omega)
theorem paN_e (h : rcK t n a ≠ -1) (h1 : (rcF t n a m P).1 = 1) (h2 : (rcF t n a m P).2.1 = n) : paN t n (k + 1) a m K P j = (-1, (rcF t n a m P).2.1, m + 1, (rcF t n a m P).2.2.1, pt K m (rcK t n a), (rcF t n a m P).2.2.2) := by
  show (if rcK t n a = -1 then _ else _) = _
  rw [if_neg h]
  exact (if_pos h1).trans (if_pos h2)
theorem paN_s (h : rcK t n a ≠ -1) (h1 : (rcF t n a m P).1 = 1) (h2 : (rcF t n a m P).2.1 ≠ n) (h3 : sg t n (rcF t n a m P).2.1 = 59) : paN t n (k + 1) a m K P j = paN t n k ((rcF t n a m P).2.1 + 1) (m + 1) (pt K m (rcK t n a)) (rcF t n a m P).2.2.2 (rcF t n a m P).2.2.1 := by
  show (if rcK t n a = -1 then _ else _) = _
  rw [if_neg h]
  exact (if_pos h1).trans ((if_neg h2).trans (if_pos h3))
theorem paN_x (h : rcK t n a ≠ -1) (h1 : (rcF t n a m P).1 = 1) (h2 : (rcF t n a m P).2.1 ≠ n) (h3 : sg t n (rcF t n a m P).2.1 ≠ 59) : paN t n (k + 1) a m K P j = ((rcF t n a m P).2.1, (rcF t n a m P).2.1, m + 1, (rcF t n a m P).2.2.1, pt K m (rcK t n a), (rcF t n a m P).2.2.2) := by
  show (if rcK t n a = -1 then _ else _) = _
  rw [if_neg h]
  exact (if_pos h1).trans ((if_neg h2).trans (if_neg h3))
end PAN
/-- the commands from i on below m, carried out on the cells f: where one fails, or -1, and the cells -/
def coN (K P : Int → Int) (m : Int) : Nat → Int → (Int → Int) → Int × (Int → Int)
  | 0, _, f => (-1, f)
  | q + 1, i, f => if i < m then (if FK f (K i) (P (i * 4 + 0)) (P (i * 4 + 1)) (P (i * 4 + 2)) (P (i * 4 + 3)) = 0 then coN K P m q (i + 1) (opF f (K i) (P (i * 4 + 0)) (P (i * 4 + 1)) (P (i * 4 + 2)) (P (i * 4 + 3))) else (i, f)) else (-1, f)
section CON
variable {K P f : Int → Int} {m i : Int} {q : Nat}
theorem coN_e (h : m ≤ i) : coN K P m q i f = (-1, f) := by
  cases q with
  | zero => rfl
  | succ q => exact if_neg (by omega)
theorem coN_f (h : i < m) (h1 : FK f (K i) (P (i * 4 + 0)) (P (i * 4 + 1)) (P (i * 4 + 2)) (P (i * 4 + 3)) ≠ 0) : coN K P m (q + 1) i f = (i, f) := (if_pos h).trans (if_neg h1)
theorem coN_s (h : i < m) (h1 : FK f (K i) (P (i * 4 + 0)) (P (i * 4 + 1)) (P (i * 4 + 2)) (P (i * 4 + 3)) = 0) : coN K P m (q + 1) i f = coN K P m q (i + 1) (opF f (K i) (P (i * 4 + 0)) (P (i * 4 + 1)) (P (i * 4 + 2)) (P (i * 4 + 3))) := (if_pos h).trans (if_pos h1)
end CON
theorem rd_no (σ : SS) (a j : Int) (P : Int → Int) : st (st σ 7 (pt (pt (σ 7) 2 a) 6 j)) 10 P = st (st (st σ 7 (pt (pt (pt (σ 7) 2 a) 5 (σ 7 5)) 6 j)) 9 (σ 9)) 10 P := by
  have h1 : pt (pt (pt (σ 7) 2 a) 5 (σ 7 5)) 6 j = pt (pt (σ 7) 2 a) 6 j := by
    funext z; unfold pt
    by_cases h6 : z = 6
    · subst h6; simp
    · by_cases h5 : z = 5
      · subst h5; simp
      · simp [h6, h5]
  rw [h1]
  congr 1
  funext q; unfold st
  by_cases h : q = 9
  · subst h; simp
  · simp [h]
