/-! sums, searches over ranges of Int; the words of the class's cells -/
def sN9 (g : Int → Int) (a : Int) : Nat → Int
  | 0 => 0
  | k + 1 => g a + sN9 g (a + 1) k
def sI (g : Int → Int) (a b : Int) : Int := sN9 g a (b - a).toNat
theorem sI_nil {g : Int → Int} {a b : Int} (h : b ≤ a) : sI g a b = 0 := by
  unfold sI; rw [show (b - a).toNat = 0 by omega]; rfl
theorem sI_cons {g : Int → Int} {a b : Int} (h : a < b) : sI g a b = g a + sI g (a + 1) b := by
  unfold sI; rw [show (b - a).toNat = (b - (a + 1)).toNat + 1 by omega]; rfl
theorem sI_snoc {g : Int → Int} {a b : Int} (h : a ≤ b) : sI g a (b + 1) = sI g a b + g b := by
  obtain ⟨k, hk⟩ : ∃ k : Nat, b = a + k := ⟨(b - a).toNat, by omega⟩
  subst hk
  induction k generalizing a with
  | zero =>
    rw [sI_cons (by omega), sI_nil (by omega), sI_nil (by omega)]
    simp
  | succ k ih =>
    rw [sI_cons (by omega), sI_cons (a := a) (b := a + ((k + 1 : Nat) : Int)) (by omega)]
    have := ih (a := a + 1) (by omega)
    rw [show a + ((k + 1 : Nat) : Int) = a + 1 + (k : Int) by omega, this]
    omega
theorem sI_congr {g h : Int → Int} {a b : Int} (H : ∀ p, a ≤ p → p < b → g p = h p) : sI g a b = sI h a b := by
  unfold sI
  generalize hk : (b - a).toNat = k
  induction k generalizing a with
  | zero => rfl
  | succ k ih =>
    show g a + sN9 g (a + 1) k = h a + sN9 h (a + 1) k
    rw [H a (by omega) (by omega), ih (fun p h1 h2 => H p (by omega) h2) (by omega)]
theorem sI_app {g : Int → Int} {a b c : Int} (h1 : a ≤ b) (h2 : b ≤ c) : sI g a c = sI g a b + sI g b c := by
  obtain ⟨k, hk⟩ : ∃ k : Nat, c = b + k := ⟨(c - b).toNat, by omega⟩
  subst hk
  induction k with
  | zero => rw [show b + ((0 : Nat) : Int) = b by omega, sI_nil (a := b) (b := b) (by omega)]; omega
  | succ k ih =>
    rw [show b + ((k + 1 : Nat) : Int) = (b + (k : Int)) + 1 by omega, sI_snoc (by omega), sI_snoc (by omega), ih (by omega)]
    omega
theorem sI_ge {g : Int → Int} {a b lo : Int} (hab : a ≤ b) (H : ∀ p, a ≤ p → p < b → lo ≤ g p) : lo * (b - a) ≤ sI g a b := by
  obtain ⟨k, hk⟩ : ∃ k : Nat, b = a + k := ⟨(b - a).toNat, by omega⟩
  subst hk
  induction k with
  | zero => rw [sI_nil (by omega)]; simp
  | succ k ih =>
    have h1 := ih (by omega) (fun p h1 h2 => H p h1 (by omega))
    have h2 := H (a + (k : Int)) (by omega) (by omega)
    rw [show a + ((k + 1 : Nat) : Int) = (a + (k : Int)) + 1 by omega, sI_snoc (by omega)]
    rw [show (a + (k : Int) + 1 - a) = (a + (k : Int) - a) + 1 by omega, Int.mul_add]
    omega
theorem sI_le {g : Int → Int} {a b hi : Int} (hab : a ≤ b) (H : ∀ p, a ≤ p → p < b → g p ≤ hi) : sI g a b ≤ hi * (b - a) := by
  obtain ⟨k, hk⟩ : ∃ k : Nat, b = a + k := ⟨(b - a).toNat, by omega⟩
  subst hk
  induction k with
  | zero => rw [sI_nil (by omega)]; simp
  | succ k ih =>
    have h1 := ih (by omega) (fun p h1 h2 => H p h1 (by omega))
    have h2 := H (a + (k : Int)) (by omega) (by omega)
    rw [show a + ((k + 1 : Nat) : Int) = (a + (k : Int)) + 1 by omega, sI_snoc (by omega)]
    rw [show (a + (k : Int) + 1 - a) = (a + (k : Int) - a) + 1 by omega, Int.mul_add]
    omega
/-- the first place in [a, b) where P holds, or -1 -/
def fN9 (P : Int → Bool) (a : Int) : Nat → Int
  | 0 => -1
  | k + 1 => if P a = true then a else fN9 P (a + 1) k
def fI (P : Int → Bool) (a b : Int) : Int := fN9 P a (b - a).toNat
theorem fI_nil {P : Int → Bool} {a b : Int} (h : b ≤ a) : fI P a b = -1 := by
  unfold fI; rw [show (b - a).toNat = 0 by omega]; rfl
theorem fI_yes {P : Int → Bool} {a b : Int} (h : a < b) (hp : P a = true) : fI P a b = a := by
  unfold fI; rw [show (b - a).toNat = (b - (a + 1)).toNat + 1 by omega]; exact if_pos hp
theorem fI_no {P : Int → Bool} {a b : Int} (hp : ¬ P a = true) : fI P a b = fI P (a + 1) b := by
  by_cases h : a < b
  · unfold fI; rw [show (b - a).toNat = (b - (a + 1)).toNat + 1 by omega]; exact if_neg hp
  · rw [fI_nil (by omega), fI_nil (by omega)]
theorem fI_congr {P P' : Int → Bool} {a b : Int} (H : ∀ p, a ≤ p → p < b → P p = P' p) : fI P a b = fI P' a b := by
  unfold fI
  generalize hk : (b - a).toNat = k
  induction k generalizing a with
  | zero => rfl
  | succ k ih =>
    show (if P a = true then a else fN9 P (a + 1) k) = (if P' a = true then a else fN9 P' (a + 1) k)
    rw [H a (by omega) (by omega), ih (fun p h1 h2 => H p (by omega) h2) (by omega)]
theorem fI_rg {P : Int → Bool} {a b : Int} : fI P a b = -1 ∨ (a ≤ fI P a b ∧ fI P a b < b) := by
  unfold fI
  generalize hk : (b - a).toNat = k
  induction k generalizing a with
  | zero => exact Or.inl rfl
  | succ k ih =>
    show (if P a = true then a else fN9 P (a + 1) k) = -1 ∨ (a ≤ (if P a = true then a else fN9 P (a + 1) k) ∧ (if P a = true then a else fN9 P (a + 1) k) < b)
    by_cases h : P a = true
    · rw [if_pos h]; omega
    · rw [if_neg h]
      have := ih (a := a + 1) (by omega)
      omega
/-- the place of the greatest g, the first of them, from best on through [a, b) -/
def mN9 (g : Int → Int) (best a : Int) : Nat → Int
  | 0 => best
  | k + 1 => mN9 g (if g best < g a then a else best) (a + 1) k
def mI (g : Int → Int) (best a b : Int) : Int := mN9 g best a (b - a).toNat
theorem mI_nil {g : Int → Int} {c a b : Int} (h : b ≤ a) : mI g c a b = c := by
  unfold mI; rw [show (b - a).toNat = 0 by omega]; rfl
theorem mI_yes {g : Int → Int} {c a b : Int} (h : a < b) (hp : g c < g a) : mI g c a b = mI g a (a + 1) b := by
  unfold mI; rw [show (b - a).toNat = (b - (a + 1)).toNat + 1 by omega]; show mN9 g (if g c < g a then a else c) (a + 1) _ = _; rw [if_pos hp]
theorem mI_no {g : Int → Int} {c a b : Int} (h : a < b) (hp : g a ≤ g c) : mI g c a b = mI g c (a + 1) b := by
  unfold mI; rw [show (b - a).toNat = (b - (a + 1)).toNat + 1 by omega]; show mN9 g (if g c < g a then a else c) (a + 1) _ = _; rw [if_neg (by omega)]
/-- how far P holds from a on, below b -/
def cN9 (P : Int → Bool) (a : Int) : Nat → Int
  | 0 => a
  | k + 1 => if P a = true then cN9 P (a + 1) k else a
def cI (P : Int → Bool) (a b : Int) : Int := cN9 P a (b - a).toNat
theorem cI_nil {P : Int → Bool} {a b : Int} (h : b ≤ a) : cI P a b = a := by
  unfold cI; rw [show (b - a).toNat = 0 by omega]; rfl
theorem cI_yes {P : Int → Bool} {a b : Int} (h : a < b) (hp : P a = true) : cI P a b = cI P (a + 1) b := by
  unfold cI; rw [show (b - a).toNat = (b - (a + 1)).toNat + 1 by omega]; exact if_pos hp
theorem cI_no {P : Int → Bool} {a b : Int} (h : a < b) (hp : ¬ P a = true) : cI P a b = a := by
  unfold cI; rw [show (b - a).toNat = (b - (a + 1)).toNat + 1 by omega]; exact if_neg hp
theorem cI_congr {P P' : Int → Bool} {a b : Int} (H : ∀ p, a ≤ p → p < b → P p = P' p) : cI P a b = cI P' a b := by
  unfold cI
  generalize hk : (b - a).toNat = k
  induction k generalizing a with
  | zero => rfl
  | succ k ih =>
    show (if P a = true then cN9 P (a + 1) k else a) = (if P' a = true then cN9 P' (a + 1) k else a)
    rw [H a (by omega) (by omega), ih (fun p h1 h2 => H p (by omega) h2) (by omega)]
theorem cI_rg {P : Int → Bool} {a b : Int} (h : a ≤ b) : a ≤ cI P a b ∧ cI P a b ≤ b := by
  unfold cI
  generalize hk : (b - a).toNat = k
  induction k generalizing a with
  | zero => show a ≤ a ∧ a ≤ b; omega
  | succ k ih =>
    show a ≤ (if P a = true then cN9 P (a + 1) k else a) ∧ (if P a = true then cN9 P (a + 1) k else a) ≤ b
    by_cases h : P a = true
    · rw [if_pos h]
      have := ih (a := a + 1) (by omega) (by omega)
      omega
    · rw [if_neg h]; omega
/-- copying a stretch -/
def cpf (f g : Int → Int) (sp dp n : Int) : Int → Int := fun k => if dp ≤ k ∧ k < dp + n then f (sp + (k - dp)) else g k
-- the class's cells f: 240 segments (length * 8 + colour), 4 counts, 32 sums and 32 tangle counts of parts, cuts, splices
/-- counts and segments are as they should be -/
def CW (f : Int → Int) : Prop := ∀ r : Int, 0 ≤ r ∧ r < 4 → (0 ≤ f (240 + r) ∧ f (240 + r) ≤ 60) ∧ ∀ p : Int, 0 ≤ p ∧ p < f (240 + r) → 8 ≤ f (r * 60 + p) ∧ f (r * 60 + p) < 800
def lgs (f : Int → Int) (r : Int) : Int → Int := fun p => f (r * 60 + p) / 8
def tg (f : Int → Int) (r p : Int) : Int := if 0 ≤ p ∧ p + 1 < f (240 + r) ∧ f (r * 60 + p) % 8 = f (r * 60 + (p + 1)) % 8 then 1 else 0
theorem tg_01 (f : Int → Int) (r p : Int) : tg f r p = 0 ∨ tg f r p = 1 := by unfold tg; split <;> simp
