/-! every change that has no fault leaves counts and segments as they should be -/
theorem CW_put {f : Int → Int} (hW : CW f) {r p v : Int} (hr : 0 ≤ r ∧ r < 4) (hn : f (240 + r) < 60) (hp : 0 ≤ p ∧ p ≤ f (240 + r)) (hv : 8 ≤ v ∧ v < 800) : CW (putF f r p v) := by
  intro o ho
  have hno := (hW o ho).1
  have hnr := (hW r hr).1
  have hc : putF f r p v (240 + o) = if o = r then f (240 + r) + 1 else f (240 + o) := by
    unfold putF pt putL
    by_cases h : o = r
    · rw [if_pos h, if_pos (by omega)]
    · rw [if_neg h, if_neg (by omega), if_neg (by omega), if_neg (by omega)]
  rw [hc]
  refine ⟨by split <;> omega, fun q hq => ?_⟩
  have hq2 : q < 60 := by split at hq <;> omega
  unfold putF pt putL
  rw [if_neg (by omega)]
  by_cases h1 : o * 60 + q = r * 60 + p
  · rw [if_pos h1]; exact hv
  · rw [if_neg h1]
    by_cases h2 : r * 60 + p < o * 60 + q ∧ o * 60 + q ≤ r * 60 + f (240 + r)
    · rw [if_pos h2]
      have ho2 : o = r := by omega
      subst ho2
      have := (hW o ho).2 (q - 1) (by omega)
      rw [show o * 60 + (q - 1) = o * 60 + q - 1 by omega] at this
      exact this
    · rw [if_neg h2]
      refine (hW o ho).2 q ⟨hq.1, ?_⟩
      by_cases h : o = r
      · subst h; rw [if_pos rfl] at hq; omega
      · rw [if_neg h] at hq; exact hq.2
theorem CW_take {f : Int → Int} (hW : CW f) {r p : Int} (hr : 0 ≤ r ∧ r < 4) (hp : 0 ≤ p ∧ p < f (240 + r)) : CW (takeF f r p) := by
  intro o ho
  have hno := (hW o ho).1
  have hnr := (hW r hr).1
  have hc : takeF f r p (240 + o) = if o = r then f (240 + r) - 1 else f (240 + o) := by
    unfold takeF pt takeL
    by_cases h : o = r
    · rw [if_pos h, if_pos (by omega)]
    · rw [if_neg h, if_neg (by omega), if_neg (by omega)]
  rw [hc]
  refine ⟨by split <;> omega, fun q hq => ?_⟩
  have hq2 : q < 60 := by split at hq <;> omega
  unfold takeF pt takeL
  rw [if_neg (by omega)]
  by_cases h2 : r * 60 + p ≤ o * 60 + q ∧ o * 60 + q < r * 60 + (f (240 + r) - 1)
  · rw [if_pos h2]
    have ho2 : o = r := by omega
    subst ho2
    have := (hW o ho).2 (q + 1) (by omega)
    rw [show o * 60 + (q + 1) = o * 60 + q + 1 by omega] at this
    exact this
  · rw [if_neg h2]
    refine (hW o ho).2 q ⟨hq.1, ?_⟩
    by_cases h : o = r
    · subst h; rw [if_pos rfl] at hq; omega
    · rw [if_neg h] at hq; exact hq.2
theorem CW_set {f : Int → Int} (hW : CW f) {r p v : Int} (hr : 0 ≤ r ∧ r < 4) (hp : 0 ≤ p ∧ p < 60) (hv : 8 ≤ v ∧ v < 800) : CW (pt f (r * 60 + p) v) := by
  intro o ho
  have hno := (hW o ho).1
  rw [show pt f (r * 60 + p) v (240 + o) = f (240 + o) from if_neg (by omega)]
  refine ⟨hno, fun q hq => ?_⟩
  unfold pt
  by_cases h1 : o * 60 + q = r * 60 + p
  · rw [if_pos h1]; exact hv
  · rw [if_neg h1]; exact (hW o ho).2 q hq
theorem CW_hi {f : Int → Int} (hW : CW f) {z v : Int} (hz : 244 ≤ z) : CW (pt f z v) := CW_lo hW fun q hq => if_neg (by omega)
theorem CW_mv {f : Int → Int} (hW : CW f) {a p b : Int} (ha : 0 ≤ a ∧ a < 4) (hb : 0 ≤ b ∧ b < 4) (hab : a ≠ b) (hp : 0 ≤ p ∧ p ≤ f (240 + a)) (he : f (240 + b) + (f (240 + a) - p) ≤ 60) : CW (mvF f a p b) := by
  intro o ho
  have hno := (hW o ho).1
  have hna := (hW a ha).1
  have hnb := (hW b hb).1
  have hc : mvF f a p b (240 + o) = if o = a then p else if o = b then f (240 + b) + (f (240 + a) - p) else f (240 + o) := by
    unfold mvF pt mvL
    by_cases h : o = a
    · rw [if_pos h, if_pos (by omega)]
    · rw [if_neg h, if_neg (by omega)]
      by_cases h2 : o = b
      · rw [if_pos h2, if_pos (by omega)]
      · rw [if_neg h2, if_neg (by omega), if_neg (by omega)]
  rw [hc]
  refine ⟨by split <;> (try split) <;> omega, fun q hq => ?_⟩
  have hq2 : q < 60 := by split at hq <;> (try split at hq) <;> omega
  unfold mvF pt mvL
  rw [if_neg (by omega), if_neg (by omega)]
  by_cases h2 : b * 60 + f (240 + b) ≤ o * 60 + q ∧ o * 60 + q < b * 60 + f (240 + b) + (f (240 + a) - p)
  · rw [if_pos h2]
    exact (hW a ha).2 _ (by omega)
  · rw [if_neg h2]
    refine (hW o ho).2 q ⟨hq.1, ?_⟩
    by_cases h : o = a
    · subst h; rw [if_pos rfl] at hq; omega
    · rw [if_neg h] at hq
      by_cases h3 : o = b
      · subst h3; rw [if_pos rfl] at hq; omega
      · rw [if_neg h3] at hq; exact hq.2
theorem CW_sw {f : Int → Int} (hW : CW f) {a b : Int} (ha : 0 ≤ a ∧ a < 4) (hb : 0 ≤ b ∧ b < 4) : CW (swF f a b) := by
  intro o ho
  have hno := (hW o ho).1
  have hna := (hW a ha).1
  have hnb := (hW b hb).1
  have hc : swF f a b (240 + o) = if o = b then f (240 + a) else if o = a then f (240 + b) else f (240 + o) := by
    unfold swF pt swL
    by_cases h : o = b
    · rw [if_pos h, if_pos (by omega)]
    · rw [if_neg h, if_neg (by omega)]
      by_cases h2 : o = a
      · rw [if_pos h2, if_pos (by omega)]
      · rw [if_neg h2, if_neg (by omega), if_neg (by omega), if_neg (by omega)]
  rw [hc]
  refine ⟨by split <;> (try split) <;> omega, fun q hq => ?_⟩
  have hq2 : q < 60 := by split at hq <;> (try split at hq) <;> omega
  unfold swF pt swL
  rw [if_neg (by omega), if_neg (by omega)]
  by_cases h1 : a * 60 ≤ o * 60 + q ∧ o * 60 + q < a * 60 + 60
  · rw [if_pos h1]
    have h : o = a := by omega
    subst h
    rw [show o * 60 + q - o * 60 = q by omega]
    refine (hW b hb).2 q ⟨hq.1, ?_⟩
    by_cases h3 : o = b
    · subst h3; rw [if_pos rfl] at hq; exact hq.2
    · rw [if_neg h3, if_pos rfl] at hq; exact hq.2
  · rw [if_neg h1]
    by_cases h2 : b * 60 ≤ o * 60 + q ∧ o * 60 + q < b * 60 + 60
    · rw [if_pos h2]
      have h : o = b := by omega
      subst h
      rw [show o * 60 + q - o * 60 = q by omega]
      rw [if_pos rfl] at hq
      exact (hW a ha).2 q hq
    · rw [if_neg h2]
      rw [if_neg (by omega), if_neg (by omega)] at hq
      exact (hW o ho).2 q hq
theorem CW_dy {f : Int → Int} (hW : CW f) {r x c k : Int} (hc : 0 ≤ c ∧ c < 8) (hx : 0 ≤ x) (hr : 0 ≤ r ∧ r < 4) (hk : k ≤ f (240 + r)) : CW (dyL f r x c k) := by
  intro o ho
  have hno := (hW o ho).1
  have hnr := (hW r hr).1
  rw [show dyL f r x c k (240 + o) = f (240 + o) from if_neg (by omega)]
  refine ⟨hno, fun q hq => ?_⟩
  have := (hW o ho).2 q hq
  unfold dyL
  split <;> omega
theorem CW_op {f : Int → Int} (hW : CW f) {k r b c d : Int} (hk : 0 ≤ k ∧ k ≤ 8) (hF : FK f k r b c d = 0) : CW (opF f k r b c d) := by
  rcases (show k = 0 ∨ k = 1 ∨ k = 2 ∨ k = 3 ∨ k = 4 ∨ k = 5 ∨ k = 6 ∨ k = 7 ∨ k = 8 by omega) with rfl | rfl | rfl | rfl | rfl | rfl | rfl | rfl | rfl
  · have hG := fA_0 (show fA f r b c = 0 from hF)
    have hn := (hW r hG.1).1
    exact CW_put (p := f (240 + r)) hW hG.1 (by omega) (by omega) (by omega)
  · have hG := fPu_0 (show fPu f r b c d = 0 from hF)
    exact CW_put hW hG.1 (by omega) (by omega) (by omega)
  · have hG := fP_0 (show fP f r b = 0 from hF)
    exact CW_take hW hG.1 hG.2
  · have hG := fT_0 (show fT f r b c = 0 from hF)
    have hn := (hW r hG.1).1
    have hs := (hW r hG.1).2 b (by omega)
    exact CW_set hW hG.1 (by omega) (by omega)
  · have hG := fCu_0 (show fCu f r b c = 0 from hF)
    have hn := (hW r hG.1).1
    exact CW_hi (CW_mv hW hG.1 hG.2.2.1 (by omega) (by omega) (by omega)) (by omega)
  · have hG := fJ_0 (show fJ f r b = 0 from hF)
    have hn := (hW b hG.2.1).1
    exact CW_hi (CW_mv hW hG.2.1 hG.1 (by omega) (by omega) (by omega)) (by omega)
  · have hG := fRR_0 (show fRR r b = 0 from hF)
    exact CW_sw hW hG.1 hG.2
  · have hG := fX_0 (show fX f r b c = 0 from hF)
    exact CW_rv hW hG.1 (by omega)
  · have hG := fD_0 (show fD f r b c d = 0 from hF)
    exact CW_dy hW (by omega) (by omega) hG.1 (by omega)
theorem FK_0 {f : Int → Int} {k r b c d : Int} : FK f k r b c d = 0 ∨ FK f k r b c d = 1 ∨ FK f k r b c d = 2 ∨ FK f k r b c d = 3 := by
  unfold FK fA fPu fP fT fCu fJ fRR fX fD fN fX fC
  (repeat' split) <;> omega
/-! the parts tell what the segments tell -/
theorem psum_eq {f : Int → Int} {r j : Int} (_ : 0 ≤ r ∧ r < 4) (hj : 0 ≤ j ∧ j < 8) : psum f (r * 8 + j) = sI (lgs f r) (j * 8) (min (j * 8 + 8) (f (240 + r))) := by
  unfold psum; rw [show (r * 8 + j) / 8 = r by omega, show (r * 8 + j) % 8 = j by omega]
theorem sb_parts {f : Int → Int} (hP : PW f) {r : Int} (hr : 0 ≤ r ∧ r < 4) (hn : f (240 + r) ≤ 60) : ∀ k : Nat, (k : Int) * 8 ≤ f (240 + r) → sI (sbP f r) 0 k = sI (lgs f r) 0 (k * 8) := by
  intro k
  induction k with
  | zero => intro _; rw [sI_nil (by omega), sI_nil (by omega)]
  | succ k ih =>
    intro hk
    rw [show ((k + 1 : Nat) : Int) = (k : Int) + 1 by omega, sI_snoc (by omega), ih (by omega)]
    have h1 : sbP f r k = sI (lgs f r) (k * 8) (k * 8 + 8) := by
      have h2 := (hP (r * 8 + k) (by omega)).1
      rw [psum_eq hr (by omega), show min ((k : Int) * 8 + 8) (f (240 + r)) = k * 8 + 8 by omega] at h2
      unfold sbP
      rw [← h2]; congr 1; omega
    rw [h1, ← sI_app (by omega) (by omega), show ((k : Int) + 1) * 8 = k * 8 + 8 by omega]
theorem sb_eq {f : Int → Int} (hP : PW f) {r p : Int} (hr : 0 ≤ r ∧ r < 4) (hn : f (240 + r) ≤ 60) (hp : 0 ≤ p ∧ p ≤ f (240 + r)) : sb f r p = sI (lgs f r) 0 p := by
  unfold sb
  obtain ⟨k, hk⟩ : ∃ k : Nat, p / 8 = k := ⟨(p / 8).toNat, by omega⟩
  rw [hk, sb_parts hP hr hn k (by omega), ← sI_app (by omega) (by omega)]
theorem tgs_out {f : Int → Int} {r a b : Int} (h : f (240 + r) - 1 ≤ a) : sI (tg f r) a b = 0 := by
  have h1 : sI (tg f r) a b = sI (fun _ => 0) a b := sI_congr fun p h1 h2 => by unfold tg; rw [if_neg (by omega)]
  rw [h1]
  by_cases hab : a ≤ b
  · have h2 := sI_ge (g := fun _ => (0 : Int)) (lo := 0) hab (fun _ _ _ => by omega)
    have h3 := sI_le (g := fun _ => (0 : Int)) (hi := 0) hab (fun _ _ _ => by omega)
    omega
  · exact sI_nil (by omega)
theorem sI_sh {g : Int → Int} {a b : Int} : sI (fun p => g (p - 1)) (a + 1) (b + 1) = sI g a b := by
  unfold sI
  rw [show (b + 1 - (a + 1)).toNat = (b - a).toNat by omega]
  generalize (b - a).toNat = k
  induction k generalizing a with
  | zero => rfl
  | succ k ih =>
    show g (a + 1 - 1) + sN9 (fun p => g (p - 1)) (a + 1 + 1) k = g a + sN9 g (a + 1) k
    rw [ih, show a + 1 - 1 = a by omega]
theorem tbs_eq {f : Int → Int} {r : Int} (_ : 0 ≤ f (240 + r)) : tbs f r = sI (tg f r) 0 (f (240 + r) - 1) := by
  have h := sI_sh (g := tg f r) (a := 0) (b := f (240 + r) - 1)
  rw [show (0 : Int) + 1 = 1 by omega, show f (240 + r) - 1 + 1 = f (240 + r) by omega] at h
  exact h
theorem ptan_eq {f : Int → Int} {r j : Int} (_ : 0 ≤ r ∧ r < 4) (hj : 0 ≤ j ∧ j < 8) : ptan f (r * 8 + j) = sI (tg f r) (j * 8) (min (j * 8 + 8) (f (240 + r)) - 1) := by
  unfold ptan; rw [show (r * 8 + j) / 8 = r by omega, show (r * 8 + j) % 8 = j by omega]
theorem tt_parts {f : Int → Int} (hP : PW f) {r : Int} (hr : 0 ≤ r ∧ r < 4) (hn : 0 ≤ f (240 + r) ∧ f (240 + r) ≤ 60) : ∀ k : Nat, k ≤ 8 → sI (ttP f r) 0 k = sI (tg f r) 0 (k * 8 - 1) := by
  intro k
  induction k with
  | zero => intro _; rw [sI_nil (by omega), sI_nil (by omega)]
  | succ k ih =>
    intro hk
    rw [show ((k + 1 : Nat) : Int) = (k : Int) + 1 by omega, sI_snoc (by omega), ih (by omega)]
    have h1 : f (276 + r * 8 + k) = sI (tg f r) (k * 8) (k * 8 + 7) := by
      have h2 := (hP (r * 8 + k) (by omega)).2
      rw [ptan_eq hr (by omega)] at h2
      rw [show 276 + r * 8 + (k : Int) = 276 + (r * 8 + k) by omega, h2]
      by_cases hm : (k : Int) * 8 + 8 ≤ f (240 + r)
      · rw [show min ((k : Int) * 8 + 8) (f (240 + r)) - 1 = k * 8 + 7 by omega]
      · by_cases hm2 : (k : Int) * 8 ≤ f (240 + r) - 1
        · rw [show min ((k : Int) * 8 + 8) (f (240 + r)) - 1 = f (240 + r) - 1 by omega, sI_app (a := (k : Int) * 8) (b := f (240 + r) - 1) (c := k * 8 + 7) (by omega) (by omega), tgs_out (a := f (240 + r) - 1) (by omega)]
          omega
        · rw [tgs_out (by omega), tgs_out (by omega)]
    unfold ttP
    rw [h1, show ((k : Int) + 1) * 8 - 1 = k * 8 + 7 by omega]
    by_cases h0 : k = 0
    · subst h0
      rw [sI_nil (a := 0) (b := ((0 : Nat) : Int) * 8 - 1) (by omega)]
      have : tg f r (((0 : Nat) : Int) * 8 - 1) = 0 := by unfold tg; rw [if_neg (by omega)]
      rw [this]; simp
    · rw [sI_app (a := 0) (b := (k : Int) * 8 - 1) (c := k * 8 + 7) (by omega) (by omega), sI_cons (a := (k : Int) * 8 - 1) (b := k * 8 + 7) (by omega), show (k : Int) * 8 - 1 + 1 = k * 8 by omega]
      omega
theorem tt_eq {f : Int → Int} (hP : PW f) {r : Int} (hr : 0 ≤ r ∧ r < 4) (hn : 0 ≤ f (240 + r) ∧ f (240 + r) ≤ 60) : tt f r = tbs f r := by
  unfold tt
  have := tt_parts hP hr hn 8 (by omega)
  rw [show ((8 : Nat) : Int) = 8 by rfl] at this
  rw [this, tbs_eq hn.1]
  by_cases h : 1 ≤ f (240 + r)
  · rw [sI_app (a := 0) (b := f (240 + r) - 1) (c := 8 * 8 - 1) (by omega) (by omega), tgs_out (a := f (240 + r) - 1) (by omega)]
    omega
  · rw [tgs_out (a := 0) (by omega), sI_nil (by omega)]
theorem tbs_rg {f : Int → Int} {r : Int} (hn : 0 ≤ f (240 + r) ∧ f (240 + r) ≤ 60) : 0 ≤ tbs f r ∧ tbs f r ≤ 60 := by
  unfold tbs
  have h0 : ∀ p, 0 ≤ tg f r (p - 1) ∧ tg f r (p - 1) ≤ 1 := fun p => by have := tg_01 f r (p - 1); omega
  by_cases h : 1 ≤ f (240 + r)
  · have h1 := sI_ge (g := fun p => tg f r (p - 1)) (lo := 0) (a := 1) h (fun q _ _ => (h0 q).1)
    have h2 := sI_le (g := fun p => tg f r (p - 1)) (hi := 1) (a := 1) h (fun q _ _ => (h0 q).2)
    omega
  · rw [sI_nil (by omega)]; omega
theorem PW_ref {f : Int → Int} (hW : CW f) : PW (refF f) := by
  intro u hu
  have hlo : ∀ z, 0 ≤ z ∧ z < 244 → refU f 32 z = f z := fun z hz => refU_lo f _ z hz.2
  have hr : 0 ≤ u / 8 ∧ u / 8 < 4 := by omega
  have hn := (hW (u / 8) hr).1
  constructor
  · have h1 : refU f 32 (244 + u) = psum f u := by
      unfold refU; rw [if_pos (by omega)]; congr 1; omega
    show refU f 32 (244 + u) = psum (refU f 32) u
    rw [h1]
    unfold psum
    rw [hlo (240 + u / 8) (by omega), lgs_lo hlo hr (by omega) (by omega)]
  · have h1 : refU f 32 (276 + u) = ptan f u := by
      unfold refU; rw [if_neg (by omega), if_pos (by omega)]; congr 1; omega
    show refU f 32 (276 + u) = ptan (refU f 32) u
    rw [h1]
    unfold ptan
    rw [hlo (240 + u / 8) (by omega)]
    exact (sI_congr (fun p _ _ => (tg_lo hlo hr hn.2))).symm
theorem fR_0 {r : Int} (h : fR r = 0) : 0 ≤ r ∧ r < 4 := by unfold fR at h; split at h <;> omega
theorem fB_0 {f : Int → Int} {r p : Int} (h : fB f r p = 0) : (0 ≤ r ∧ r < 4) ∧ 0 ≤ p ∧ p ≤ f (240 + r) := by unfold fB at h; split at h <;> omega
theorem po_rg {f : Int → Int} (hW : CW f) {r : Int} (hr : 0 ≤ r ∧ r < 4) (off : Int) : -1 ≤ po f r off ∧ po f r off ≤ 60 := by
  have hn := (hW r hr).1
  unfold po
  split
  · omega
  · have := fI_rg (P := poP f r off) (a := 0) (b := f (240 + r)); omega
theorem fI_rg2 {P : Int → Bool} {a b : Int} (h : 0 ≤ a ∧ b ≤ 60) : -1 ≤ fI P a b ∧ fI P a b ≤ 60 := by
  have := fI_rg (P := P) (a := a) (b := b); omega
theorem sb_rg {f : Int → Int} (hW : CW f) (hP : PW f) {r : Int} (hr : 0 ≤ r ∧ r < 4) : 0 ≤ sb f r (f (240 + r)) ∧ sb f r (f (240 + r)) ≤ 5940 := by
  have hn := (hW r hr).1
  rw [sb_eq hP hr hn.2 (by omega)]
  exact sum_rg hW hr (by omega)
def iT (f : Int → Int) (r p : Int) : Int := if tg f r (p - 1) = 0 ∧ tg f r p = 0 then 0 else 1
def eqR (f : Int → Int) (r o : Int) : Int := if f (240 + r) = f (240 + o) ∧ f (240 + r) = sh f r o then 1 else 0
theorem sh_rg {f : Int → Int} (hW : CW f) {r o : Int} (hr : 0 ≤ r ∧ r < 4) (ho : 0 ≤ o ∧ o < 4) : 0 ≤ sh f r o ∧ sh f r o ≤ 60 := by
  have h1 := (hW r hr).1
  have h2 := (hW o ho).1
  have := cI_rg (P := shP f r o) (a := 0) (b := min (f (240 + r)) (f (240 + o))) (by omega)
  unfold sh; omega
theorem mI_rg {g : Int → Int} {x a b : Int} (hx : 0 ≤ x ∧ x ≤ 60) (h : 0 ≤ a ∧ b ≤ 60) : 0 ≤ mI g x a b ∧ mI g x a b ≤ 60 := by
  unfold mI
  generalize hk : (b - a).toNat = k
  induction k generalizing a x with
  | zero => exact hx
  | succ k ih =>
    show 0 ≤ mN9 g (if g x < g a then a else x) (a + 1) k ∧ mN9 g (if g x < g a then a else x) (a + 1) k ≤ 60
    exact ih (by split <;> omega) (by omega) (by omega)
/-- the line's characters from position p on (count n), written from place s on -/
def sgc (f : Int → Int) (r p : Int) (o : Int → Int) (s : Int) : Int → Int :=
  let o1 := if 0 < p then pt o s (if tg f r (p - 1) = 0 then 45 else 61) else o
  let s1 := if 0 < p then s + 1 else s
  let n := f (r * 60 + p) / 8
  pt (nm12 o1 s1 n) (s1 + (if n < 10 then 1 else 2)) (97 + f (r * 60 + p) % 8)
def sgs (f : Int → Int) (r p s : Int) : Int := (if 0 < p then s + 1 else s) + (if f (r * 60 + p) / 8 < 10 then 1 else 2) + 1
def ds9 (f : Int → Int) (r p : Int) (o : Int → Int) (s : Int) : Nat → (Int → Int) × Int
  | 0 => (o, s)
  | k + 1 => ds9 f r (p + 1) (sgc f r p o s) (sgs f r p s) k
def dsI (f : Int → Int) (r p : Int) (o : Int → Int) (s b : Int) : (Int → Int) × Int := ds9 f r p o s (b - p).toNat
theorem dsI_nil {f : Int → Int} {r p s b : Int} {o : Int → Int} (h : b ≤ p) : dsI f r p o s b = (o, s) := by
  unfold dsI; rw [show (b - p).toNat = 0 by omega]; rfl
theorem dsI_cons {f : Int → Int} {r p s b : Int} {o : Int → Int} (h : p < b) : dsI f r p o s b = dsI f r (p + 1) (sgc f r p o s) (sgs f r p s) b := by
  unfold dsI; rw [show (b - p).toNat = (b - (p + 1)).toNat + 1 by omega]; rfl
