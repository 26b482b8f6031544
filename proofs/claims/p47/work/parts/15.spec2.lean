/-! what the class's questions answer, out of its cells -/
def ri (f : Int → Int) (r p : Int) : Int → Int := fun q => if f (r * 60 + p) / 8 < f (r * 60 + q) / 8 ∨ (f (r * 60 + q) / 8 = f (r * 60 + p) / 8 ∧ q < p) then 1 else 0
def rk (f : Int → Int) (r p : Int) : Int := sI (ri f r p) 0 (f (240 + r))
def ci (f : Int → Int) (r c : Int) : Int → Int := fun p => if f (r * 60 + p) % 8 = c then f (r * 60 + p) / 8 else 0
def sc (f : Int → Int) (r c : Int) : Int := sI (ci f r c) 0 (f (240 + r))
def rci (f : Int → Int) (r c s : Int) : Int → Int := fun o => if s < sc f r o ∨ (sc f r o = s ∧ o < c) then 1 else 0
def rkc (f : Int → Int) (r c s : Int) : Int := sI (rci f r c s) 0 8
def poP (f : Int → Int) (r off : Int) : Int → Bool := fun p => decide (off < sI (lgs f r) 0 (p + 1))
def po (f : Int → Int) (r off : Int) : Int := if off < 0 then -1 else fI (poP f r off) 0 (f (240 + r))
def rkP (f : Int → Int) (r rank : Int) : Int → Bool := fun p => decide (rk f r p = rank)
def coP (f : Int → Int) (r c : Int) : Int → Bool := fun p => decide (f (r * 60 + p) % 8 = c)
def rcP (f : Int → Int) (r rank : Int) : Int → Bool := fun c => decide (0 < sc f r c ∧ rkc f r c (sc f r c) = rank)
def lr9 (t : Int → Int) (x y a : Int) : Nat → Int
  | 0 => x
  | k + 1 => lr9 t (max x (if t (a - 1) = 0 then 1 else y + 1)) (if t (a - 1) = 0 then 1 else y + 1) (a + 1) k
def lrI (t : Int → Int) (x y a b : Int) : Int := lr9 t x y a (b - a).toNat
theorem lrI_nil {t : Int → Int} {x y a b : Int} (h : b ≤ a) : lrI t x y a b = x := by
  unfold lrI; rw [show (b - a).toNat = 0 by omega]; rfl
theorem lrI_0 {t : Int → Int} {x y a b : Int} (h : a < b) (ht : t (a - 1) = 0) : lrI t x y a b = lrI t (max x 1) 1 (a + 1) b := by
  unfold lrI; rw [show (b - a).toNat = (b - (a + 1)).toNat + 1 by omega]
  show lr9 t (max x (if t (a - 1) = 0 then 1 else y + 1)) (if t (a - 1) = 0 then 1 else y + 1) (a + 1) _ = _
  rw [if_pos ht]
theorem lrI_1 {t : Int → Int} {x y a b : Int} (h : a < b) (ht : t (a - 1) ≠ 0) : lrI t x y a b = lrI t (max x (y + 1)) (y + 1) (a + 1) b := by
  unfold lrI; rw [show (b - a).toNat = (b - (a + 1)).toNat + 1 by omega]
  show lr9 t (max x (if t (a - 1) = 0 then 1 else y + 1)) (if t (a - 1) = 0 then 1 else y + 1) (a + 1) _ = _
  rw [if_neg ht]
def bkP (f : Int → Int) (r : Int) : Int → Bool := fun p => decide (f (r * 60 + p) ≠ f (r * 60 + (f (240 + r) - 1 - p)))
def bk (f : Int → Int) (r : Int) : Int := if fI (bkP f r) 0 (f (240 + r) / 2) = -1 then 1 else 0
def shP (f : Int → Int) (r o : Int) : Int → Bool := fun p => decide (f (r * 60 + p) = f (o * 60 + p))
def sh (f : Int → Int) (r o : Int) : Int := cI (shP f r o) 0 (min (f (240 + r)) (f (240 + o)))
def tbs (f : Int → Int) (r : Int) : Int := sI (fun p => tg f r (p - 1)) 1 (f (240 + r))
def sbP (f : Int → Int) (r : Int) : Int → Int := fun k => f (244 + r * 8 + k)
def sb (f : Int → Int) (r pos : Int) : Int := sI (sbP f r) 0 (pos / 8) + sI (lgs f r) (pos / 8 * 8) pos
def ttP (f : Int → Int) (r : Int) : Int → Int := fun k => f (276 + r * 8 + k) + tg f r (k * 8 - 1)
def tt (f : Int → Int) (r : Int) : Int := sI (ttP f r) 0 8
theorem ri_01 (f : Int → Int) (r p q : Int) : 0 ≤ ri f r p q ∧ ri f r p q ≤ 1 := by unfold ri; split <;> omega
theorem rk_rg {f : Int → Int} (hW : CW f) {r : Int} (hr : 0 ≤ r ∧ r < 4) (p : Int) : 0 ≤ rk f r p ∧ rk f r p ≤ 60 := by
  have hn := (hW r hr).1
  have h1 := sI_ge (g := ri f r p) (lo := 0) (a := 0) (b := f (240 + r)) hn.1 (fun q _ _ => (ri_01 f r p q).1)
  have h2 := sI_le (g := ri f r p) (hi := 1) (a := 0) (b := f (240 + r)) hn.1 (fun q _ _ => (ri_01 f r p q).2)
  unfold rk; omega
theorem ci_rg {f : Int → Int} (hW : CW f) {r : Int} (hr : 0 ≤ r ∧ r < 4) (c p : Int) (hp : 0 ≤ p ∧ p < f (240 + r)) : 0 ≤ ci f r c p ∧ ci f r c p ≤ 99 := by
  have h := (hW r hr).2 p hp
  unfold ci; split <;> omega
theorem sc_rg {f : Int → Int} (hW : CW f) {r : Int} (hr : 0 ≤ r ∧ r < 4) (c : Int) : 0 ≤ sc f r c ∧ sc f r c ≤ 5940 := by
  have hn := (hW r hr).1
  have h1 := sI_ge (g := ci f r c) (lo := 0) (a := 0) (b := f (240 + r)) hn.1 (fun q h1 h2 => (ci_rg hW hr c q ⟨h1, h2⟩).1)
  have h2 := sI_le (g := ci f r c) (hi := 99) (a := 0) (b := f (240 + r)) hn.1 (fun q h1 h2 => (ci_rg hW hr c q ⟨h1, h2⟩).2)
  unfold sc; omega
theorem rkc_rg (f : Int → Int) (r c s : Int) : 0 ≤ rkc f r c s ∧ rkc f r c s ≤ 8 := by
  have h0 : ∀ o, 0 ≤ rci f r c s o ∧ rci f r c s o ≤ 1 := fun o => by unfold rci; split <;> omega
  have h1 := sI_ge (g := rci f r c s) (lo := 0) (a := 0) (b := 8) (by omega) (fun q _ _ => (h0 q).1)
  have h2 := sI_le (g := rci f r c s) (hi := 1) (a := 0) (b := 8) (by omega) (fun q _ _ => (h0 q).2)
  unfold rkc; omega
theorem lgs_rg {f : Int → Int} (hW : CW f) {r : Int} (hr : 0 ≤ r ∧ r < 4) (p : Int) (hp : 0 ≤ p ∧ p < f (240 + r)) : 1 ≤ lgs f r p ∧ lgs f r p ≤ 99 := by
  have h := (hW r hr).2 p hp
  unfold lgs; omega
theorem sum_rg {f : Int → Int} (hW : CW f) {r a b : Int} (hr : 0 ≤ r ∧ r < 4) (h : 0 ≤ a ∧ b ≤ f (240 + r)) : 0 ≤ sI (lgs f r) a b ∧ sI (lgs f r) a b ≤ 5940 := by
  have hn := (hW r hr).1
  by_cases hab : a ≤ b
  · have h1 := sI_ge (g := lgs f r) (lo := 0) hab (fun q h1 h2 => by have := lgs_rg hW hr q (by omega); omega)
    have h2 := sI_le (g := lgs f r) (hi := 99) hab (fun q h1 h2 => (lgs_rg hW hr q (by omega)).2)
    omega
  · rw [sI_nil (by omega)]; omega
-- what changes do
def putL (f : Int → Int) (r n k : Int) : Int → Int := fun z => if r * 60 + k < z ∧ z ≤ r * 60 + n then f (z - 1) else f z
def putF (f : Int → Int) (r p v : Int) : Int → Int := pt (pt (putL f r (f (240 + r)) p) (r * 60 + p) v) (240 + r) (f (240 + r) + 1)
def takeL (f : Int → Int) (r p k : Int) : Int → Int := fun z => if r * 60 + p ≤ z ∧ z < r * 60 + k then f (z + 1) else f z
def takeF (f : Int → Int) (r p : Int) : Int → Int := pt (takeL f r p (f (240 + r) - 1)) (240 + r) (f (240 + r) - 1)
def mvL (f : Int → Int) (a p b e k : Int) : Int → Int := fun z => if b * 60 + e ≤ z ∧ z < b * 60 + e + k then f (a * 60 + (p + (z - (b * 60 + e)))) else f z
def mvF (f : Int → Int) (a p b : Int) : Int → Int := pt (pt (mvL f a p b (f (240 + b)) (f (240 + a) - p)) (240 + b) (f (240 + b) + (f (240 + a) - p))) (240 + a) p
def swL (f : Int → Int) (a b k : Int) : Int → Int := fun z => if a * 60 ≤ z ∧ z < a * 60 + k then f (b * 60 + (z - a * 60)) else if b * 60 ≤ z ∧ z < b * 60 + k then f (a * 60 + (z - b * 60)) else f z
def swF (f : Int → Int) (a b : Int) : Int → Int := pt (pt (swL f a b 60) (240 + a) (f (240 + b))) (240 + b) (f (240 + a))
def rvL (f : Int → Int) (r x y k : Int) : Int → Int := fun z => if (r * 60 + x ≤ z ∧ z < r * 60 + k) ∨ (r * 60 + (x + y - k) < z ∧ z ≤ r * 60 + y) then f (r * 60 + x + (r * 60 + y) - z) else f z
def rvF (f : Int → Int) (r x y : Int) : Int → Int := fun z => if r * 60 + x ≤ z ∧ z ≤ r * 60 + y then f (r * 60 + x + (r * 60 + y) - z) else f z
def dyL (f : Int → Int) (r x c k : Int) : Int → Int := fun z => if r * 60 + x ≤ z ∧ z < r * 60 + k then f z / 8 * 8 + c else f z
def dyI (f : Int → Int) (r c : Int) : Int → Int := fun p => if f (r * 60 + p) % 8 = c then 0 else 1
def psum (f : Int → Int) (x : Int) : Int := sI (lgs f (x / 8)) (x % 8 * 8) (min (x % 8 * 8 + 8) (f (240 + x / 8)))
def ptan (f : Int → Int) (x : Int) : Int := sI (tg f (x / 8)) (x % 8 * 8) (min (x % 8 * 8 + 8) (f (240 + x / 8)) - 1)
def refU (f : Int → Int) (u : Int) : Int → Int := fun z => if 244 ≤ z ∧ z < 244 + u then psum f (z - 244) else if 276 ≤ z ∧ z < 276 + u then ptan f (z - 276) else f z
abbrev refF (f : Int → Int) : Int → Int := refU f 32
/-- the parts are as the segments ask -/
def PW (f : Int → Int) : Prop := ∀ u : Int, 0 ≤ u ∧ u < 32 → f (244 + u) = psum f u ∧ f (276 + u) = ptan f u
