/-! what each change does to counts, lengths, cuts and splices -/
theorem refF_308 (f : Int → Int) : refF f 308 = f 308 ∧ refF f 309 = f 309 := by
  unfold refF refU
  rw [if_neg (by omega), if_neg (by omega), if_neg (by omega), if_neg (by omega)]
  exact ⟨rfl, rfl⟩
theorem ref_cnt (f : Int → Int) {r : Int} (hr : 0 ≤ r ∧ r < 4) : refF f (240 + r) = f (240 + r) := refU_lo f 32 _ (by omega)
theorem ref_sgl {f : Int → Int} (hW : CW f) {r : Int} (hr : 0 ≤ r ∧ r < 4) : sgl (refF f) r = sgl f r := sgl_lo hW (fun z hz => refU_lo f 32 z hz.2) hr
theorem ref_tot {f : Int → Int} (hW : CW f) : tot (refF f) = tot f := tot_lo hW (fun z hz => refU_lo f 32 z hz.2)
theorem put_f {f : Int → Int} (hW : CW f) {r p v : Int} (hr : 0 ≤ r ∧ r < 4) (hn : f (240 + r) < 60) (hp : 0 ≤ p ∧ p ≤ f (240 + r)) : putF f r p v (240 + r) = f (240 + r) + 1 ∧ putF f r p v 308 = f 308 ∧ putF f r p v 309 = f 309 := by
  have h := (hW r hr).1
  unfold putF pt putL
  refine ⟨if_pos rfl, ?_, ?_⟩
  · rw [if_neg (by omega), if_neg (by omega), if_neg (by omega)]
  · rw [if_neg (by omega), if_neg (by omega), if_neg (by omega)]
theorem take_f {f : Int → Int} (hW : CW f) {r p : Int} (hr : 0 ≤ r ∧ r < 4) (hp : 0 ≤ p ∧ p < f (240 + r)) : takeF f r p (240 + r) = f (240 + r) - 1 ∧ takeF f r p 308 = f 308 ∧ takeF f r p 309 = f 309 ∧ tot (takeF f r p) = tot f - f (r * 60 + p) / 8 := by
  have h := (hW r hr).1
  have hc : takeF f r p (240 + r) = f (240 + r) - 1 := if_pos rfl
  refine ⟨hc, ?_, ?_, ?_⟩
  · unfold takeF pt takeL; rw [if_neg (by omega), if_neg (by omega)]
  · unfold takeF pt takeL; rw [if_neg (by omega), if_neg (by omega)]
  · rw [Int.sub_eq_add_neg]
    refine tot_one hr (fun o ho hne => ?_) ?_
    · have h2 := (hW o ho).1
      refine sgl_same ?_ (fun q q0 q1 => ?_)
      · unfold takeF pt takeL; rw [if_neg (by omega), if_neg (by omega)]
      · unfold takeF pt takeL; rw [if_neg (by omega), if_neg (by omega)]
    · unfold sgl
      rw [hc]
      have e1 : sI (lgs (takeF f r p) r) 0 p = sI (lgs f r) 0 p := sI_congr (fun q q0 q1 => by
        unfold lgs takeF pt takeL; rw [if_neg (by omega), if_neg (by omega)])
      have e2 : sI (lgs f r) (p + 1) (f (240 + r) - 1 + 1) = sI (lgs (takeF f r p) r) p (f (240 + r) - 1) := sI_shift (fun q q0 q1 => by
        unfold lgs takeF pt takeL
        rw [if_neg (by omega), if_pos (by omega)]
        rw [show r * 60 + q + 1 = r * 60 + (q + 1) by omega])
      rw [show f (240 + r) - 1 + 1 = f (240 + r) by omega] at e2
      rw [sI_app (g := lgs (takeF f r p) r) (a := 0) (b := p) (c := f (240 + r) - 1) hp.1 (by omega), e1, ← e2, sI_app (g := lgs f r) (a := 0) (b := p) (c := f (240 + r)) hp.1 (by omega), sI_cons (g := lgs f r) (a := p) hp.2]
      unfold lgs
      omega
theorem set_f (f : Int → Int) {r p v : Int} (hr : 0 ≤ r ∧ r < 4) (hp : 0 ≤ p ∧ p < 60) : pt f (r * 60 + p) v 308 = f 308 ∧ pt f (r * 60 + p) v 309 = f 309 := ⟨if_neg (by omega), if_neg (by omega)⟩
/-- moving a tail -/
theorem mv_f {f : Int → Int} (hW : CW f) {a p b : Int} (ha : 0 ≤ a ∧ a < 4) (hb : 0 ≤ b ∧ b < 4) (hab : a ≠ b) (hp : 0 ≤ p ∧ p ≤ f (240 + a)) (he : f (240 + b) + (f (240 + a) - p) ≤ 60) : mvF f a p b (240 + a) = p ∧ mvF f a p b (240 + b) = f (240 + b) + (f (240 + a) - p) ∧ mvF f a p b 308 = f 308 ∧ mvF f a p b 309 = f 309 ∧ tot (mvF f a p b) = tot f := by
  have h1 := (hW a ha).1
  have h2 := (hW b hb).1
  have c1 : mvF f a p b (240 + a) = p := if_pos rfl
  have c2 : mvF f a p b (240 + b) = f (240 + b) + (f (240 + a) - p) := by
    unfold mvF pt; rw [if_neg (by omega), if_pos rfl]
  refine ⟨c1, c2, ?_, ?_, ?_⟩
  · unfold mvF pt mvL; rw [if_neg (by omega), if_neg (by omega), if_neg (by omega)]
  · unfold mvF pt mvL; rw [if_neg (by omega), if_neg (by omega), if_neg (by omega)]
  · refine tot_two ha hb hab (fun o ho o1 o2 => ?_) ?_
    · have h3 := (hW o ho).1
      refine sgl_same ?_ (fun q q0 q1 => ?_)
      · unfold mvF pt mvL; rw [if_neg (by omega), if_neg (by omega), if_neg (by omega)]
      · unfold mvF pt mvL; rw [if_neg (by omega), if_neg (by omega), if_neg (by omega)]
    · unfold sgl
      rw [c1, c2]
      have e1 : sI (lgs (mvF f a p b) a) 0 p = sI (lgs f a) 0 p := sI_congr (fun q q0 q1 => by
        unfold lgs mvF pt mvL; rw [if_neg (by omega), if_neg (by omega), if_neg (by omega)])
      have e2 : sI (lgs (mvF f a p b) b) 0 (f (240 + b)) = sI (lgs f b) 0 (f (240 + b)) := sI_congr (fun q q0 q1 => by
        unfold lgs mvF pt mvL; rw [if_neg (by omega), if_neg (by omega), if_neg (by omega)])
      have e3 : sI (lgs (mvF f a p b) b) (p + (f (240 + b) - p)) (f (240 + a) + (f (240 + b) - p)) = sI (lgs f a) p (f (240 + a)) := sI_shift (fun q q0 q1 => by
        unfold lgs mvF pt mvL
        rw [if_neg (by omega), if_neg (by omega), if_pos (by omega)]
        congr 2; omega)
      rw [show p + (f (240 + b) - p) = f (240 + b) by omega, show f (240 + a) + (f (240 + b) - p) = f (240 + b) + (f (240 + a) - p) by omega] at e3
      rw [sI_app (g := lgs (mvF f a p b) b) (a := 0) (b := f (240 + b)) (c := f (240 + b) + (f (240 + a) - p)) h2.1 (by omega), e1, e2, e3, sI_app (g := lgs f a) (a := 0) (b := p) (c := f (240 + a)) hp.1 hp.2]
      omega
theorem sw_f {f : Int → Int} (hW : CW f) {a b : Int} (ha : 0 ≤ a ∧ a < 4) (hb : 0 ≤ b ∧ b < 4) : swF f a b (240 + a) = f (240 + b) ∧ swF f a b (240 + b) = f (240 + a) ∧ swF f a b 308 = f 308 ∧ swF f a b 309 = f 309 ∧ sgl (swF f a b) b = sgl f a ∧ sgl (swF f a b) a = sgl f b ∧ tot (swF f a b) = tot f := by
  have h1 := (hW a ha).1
  have h2 := (hW b hb).1
  have c1 : swF f a b (240 + a) = f (240 + b) := by
    unfold swF pt
    by_cases h : a = b
    · rw [if_pos (by omega), h]
    · rw [if_neg (by omega), if_pos rfl]
  have c2 : swF f a b (240 + b) = f (240 + a) := if_pos rfl
  have s1 : sgl (swF f a b) a = sgl f b := by
    unfold sgl
    rw [c1]
    exact sI_congr (fun q q0 q1 => by
      unfold lgs swF pt swL
      rw [if_neg (by omega), if_neg (by omega), if_pos (by omega)]
      congr 2; omega)
  have s2 : sgl (swF f a b) b = sgl f a := by
    by_cases h : a = b
    · rw [← h]; rw [← h] at s1; exact s1
    · unfold sgl
      rw [c2]
      exact sI_congr (fun q q0 q1 => by
        unfold lgs swF pt swL
        rw [if_neg (by omega), if_neg (by omega), if_neg (by omega), if_pos (by omega)]
        congr 2; omega)
  refine ⟨c1, c2, ?_, ?_, s2, s1, ?_⟩
  · unfold swF pt swL; rw [if_neg (by omega), if_neg (by omega), if_neg (by omega), if_neg (by omega)]
  · unfold swF pt swL; rw [if_neg (by omega), if_neg (by omega), if_neg (by omega), if_neg (by omega)]
  · have ho : ∀ r, 0 ≤ r ∧ r < 4 → r ≠ a → r ≠ b → sgl (swF f a b) r = sgl f r := fun o ho o1 o2 => by
      have h3 := (hW o ho).1
      refine sgl_same ?_ (fun q q0 q1 => ?_)
      · unfold swF pt swL; rw [if_neg (by omega), if_neg (by omega), if_neg (by omega), if_neg (by omega)]
      · unfold swF pt swL; rw [if_neg (by omega), if_neg (by omega), if_neg (by omega), if_neg (by omega)]
    by_cases h : a = b
    · have := tot_one (f := f) (g := swF f a b) (a := a) (d := 0) ha (fun r hr h3 => ho r hr h3 (by omega)) (by rw [s1, h]; omega)
      omega
    · exact tot_two ha hb h ho (by omega)
/-- where only lengths of one reel's range are moved about -/
theorem rv_f {f : Int → Int} (hW : CW f) {r x y : Int} (hr : 0 ≤ r ∧ r < 4) (h : 0 ≤ x ∧ x ≤ y ∧ y < f (240 + r)) : (∀ o, 0 ≤ o ∧ o < 4 → rvF f r x y (240 + o) = f (240 + o)) ∧ rvF f r x y 308 = f 308 ∧ rvF f r x y 309 = f 309 ∧ sgl (rvF f r x y) r = sgl f r ∧ tot (rvF f r x y) = tot f ∧ 0 ≤ sI (lgs (rvF f r x y) r) x (y + 1) ∧ sI (lgs (rvF f r x y) r) x (y + 1) ≤ sgl f r := by
  have h1 := (hW r hr).1
  have hc : ∀ o, 0 ≤ o ∧ o < 4 → rvF f r x y (240 + o) = f (240 + o) := fun o ho => by
    unfold rvF; rw [if_neg (by omega)]
  have e1 : sI (lgs (rvF f r x y) r) 0 x = sI (lgs f r) 0 x := sI_congr (fun q q0 q1 => by
    unfold lgs rvF; rw [if_neg (by omega)])
  have e2 : sI (lgs (rvF f r x y) r) x (y + 1) = sI (lgs f r) x (y + 1) := sI_rev _ _ x (y + 1) rfl (fun q q0 q1 => by
    unfold lgs rvF
    rw [if_pos (by omega)]
    congr 2; omega)
  have e3 : sI (lgs (rvF f r x y) r) (y + 1) (f (240 + r)) = sI (lgs f r) (y + 1) (f (240 + r)) := sI_congr (fun q q0 q1 => by
    unfold lgs rvF; rw [if_neg (by omega)])
  have s : sgl (rvF f r x y) r = sgl f r := by
    unfold sgl
    rw [hc r hr, sI_app (g := lgs (rvF f r x y) r) (a := 0) (b := x) (c := f (240 + r)) h.1 (by omega), sI_app (g := lgs (rvF f r x y) r) (a := x) (b := y + 1) (c := f (240 + r)) (by omega) (by omega), e1, e2, e3, ← sI_app (g := lgs f r) (a := x) (b := y + 1) (c := f (240 + r)) (by omega) (by omega), ← sI_app (g := lgs f r) (a := 0) (b := x) (c := f (240 + r)) h.1 (by omega)]
  refine ⟨hc, ?_, ?_, s, ?_, ?_, ?_⟩
  · unfold rvF; rw [if_neg (by omega)]
  · unfold rvF; rw [if_neg (by omega)]
  · have := tot_one (f := f) (g := rvF f r x y) (a := r) (d := 0) hr (fun o ho h3 => by
      have h4 := (hW o ho).1
      refine sgl_same (hc o ho) (fun q q0 q1 => ?_)
      unfold rvF; rw [if_neg (by omega)]) (by omega)
    omega
  · rw [e2]; exact (sum_rg hW hr ⟨h.1, by omega⟩).1
  · rw [e2]
    have a1 := (sum_rg hW (r := r) (a := 0) (b := x) hr ⟨by omega, by omega⟩).1
    have a2 := (sum_rg hW (r := r) (a := y + 1) (b := f (240 + r)) hr ⟨by omega, by omega⟩).1
    unfold sgl
    rw [sI_app (g := lgs f r) (a := 0) (b := x) (c := f (240 + r)) h.1 (by omega), sI_app (g := lgs f r) (a := x) (b := y + 1) (c := f (240 + r)) (by omega) (by omega)]
    omega
theorem dy_f {f : Int → Int} (hW : CW f) {r x y d : Int} (hr : 0 ≤ r ∧ r < 4) (h : 0 ≤ x ∧ x ≤ y ∧ y < f (240 + r)) (hd : 0 ≤ d ∧ d < 8) : (∀ o, 0 ≤ o ∧ o < 4 → dyL f r x d (y + 1) (240 + o) = f (240 + o)) ∧ dyL f r x d (y + 1) 308 = f 308 ∧ dyL f r x d (y + 1) 309 = f 309 ∧ sgl (dyL f r x d (y + 1)) r = sgl f r ∧ tot (dyL f r x d (y + 1)) = tot f ∧ 0 ≤ sI (dyI f r d) x (y + 1) ∧ sI (dyI f r d) x (y + 1) ≤ f (240 + r) := by
  have h1 := (hW r hr).1
  have hc : ∀ o, 0 ≤ o ∧ o < 4 → dyL f r x d (y + 1) (240 + o) = f (240 + o) := fun o ho => by
    unfold dyL; rw [if_neg (by omega)]
  have hl : ∀ o q, lgs (dyL f r x d (y + 1)) o q = lgs f o q := fun o q => by
    unfold lgs dyL
    split
    · omega
    · rfl
  have hs : ∀ o, 0 ≤ o ∧ o < 4 → sgl (dyL f r x d (y + 1)) o = sgl f o := fun o ho => by
    unfold sgl
    rw [hc o ho]
    exact sI_congr (fun q _ _ => hl o q)
  refine ⟨hc, ?_, ?_, hs r hr, ?_, ?_, ?_⟩
  · unfold dyL; rw [if_neg (by omega)]
  · unfold dyL; rw [if_neg (by omega)]
  · have := tot_one (f := f) (g := dyL f r x d (y + 1)) (a := r) (d := 0) hr (fun o ho _ => hs o ho) (by rw [hs r hr]; omega)
    omega
  · have := sI_ge (g := dyI f r d) (lo := 0) (a := x) (b := y + 1) (by omega) (fun q _ _ => by unfold dyI; split <;> omega)
    omega
  · have := sI_le (g := dyI f r d) (hi := 1) (a := x) (b := y + 1) (by omega) (fun q _ _ => by unfold dyI; split <;> omega)
    omega
/-- what the law holds a change of its own kind against: the cells before (f) and behind it (g), the reels r and q, its answer -/
def LOK (kind : Int) (f g : Int → Int) (r q res : Int) : Prop :=
  (g 308 = f 308 + (if 18 ≤ kind ∧ kind ≤ 22 then 1 else 0)) ∧ (kind ≤ 38 → g 309 = f 309 + (if 23 ≤ kind ∧ kind ≤ 27 then 1 else 0)) ∧ (f 309 ≤ g 309 ∧ g 309 ≤ f 309 + 8) ∧ (kind ≤ 38 → 0 ≤ r ∧ r < 4) ∧ (18 ≤ kind ∧ kind ≤ 29 → 0 ≤ q ∧ q < 4) ∧
  (kind ≤ 13 → res = f (240 + r) + 1 ∧ g (240 + r) = f (240 + r) + 1) ∧
  (14 ≤ kind ∧ kind ≤ 15 → tot g = tot f - res ∧ g (240 + r) = f (240 + r) - 1) ∧
  (18 ≤ kind ∧ kind ≤ 38 → tot g = tot f) ∧
  (18 ≤ kind ∧ kind ≤ 22 → g (240 + r) = f (240 + r) - res ∧ g (240 + q) = res) ∧
  (23 ≤ kind ∧ kind ≤ 27 → res = f (240 + r) + f (240 + q) ∧ g (240 + q) = 0) ∧
  (28 ≤ kind ∧ kind ≤ 29 → g (240 + r) = f (240 + q) ∧ g (240 + q) = f (240 + r) ∧ sgl g q = sgl f r) ∧
  (30 ≤ kind ∧ kind ≤ 38 → g (240 + r) = f (240 + r) ∧ sgl g r = sgl f r ∧ (res ≤ sgl f r ∨ res ≤ f (240 + r))) ∧ (0 ≤ res ∧ res ≤ 6000)
section LOKS
variable {f : Int → Int} {kind r q b c d : Int}
theorem lok_0 (hW : CW f) (hk : 0 ≤ kind ∧ kind ≤ 5) (hF : FK f 0 r b c 0 = 0) : LOK kind f (refF (opF f 0 r b c 0)) r q (opR f 0 r b c 0) := by
  have hG := fA_0 (show fA f r b c = 0 from hF)
  have hn := (hW r hG.1).1
  obtain ⟨h1, h2, h3⟩ := put_f hW (v := b * 8 + c) (p := f (240 + r)) hG.1 hG.2.2.2 (by omega)
  show LOK kind f (refF (putF f r (f (240 + r)) (b * 8 + c))) r q (f (240 + r) + 1)
  unfold LOK
  rw [(refF_308 _).1, (refF_308 _).2, ref_cnt _ hG.1, h1, h2, h3, if_neg (by omega), if_neg (by omega)]
  refine ⟨by omega, by omega, by omega, by omega, by omega, by omega, by omega, by omega, by omega, by omega, by omega, by omega, by omega⟩
theorem lok_1 (hW : CW f) (hk : 6 ≤ kind ∧ kind ≤ 13) (hF : FK f 1 r b c d = 0) : LOK kind f (refF (opF f 1 r b c d)) r q (opR f 1 r b c d) := by
  have hG := fPu_0 (show fPu f r b c d = 0 from hF)
  have hn := (hW r hG.1).1
  obtain ⟨h1, h2, h3⟩ := put_f hW (v := c * 8 + d) (p := b) hG.1 (by omega) (by omega)
  show LOK kind f (refF (putF f r b (c * 8 + d))) r q (f (240 + r) + 1)
  unfold LOK
  rw [(refF_308 _).1, (refF_308 _).2, ref_cnt _ hG.1, h1, h2, h3, if_neg (by omega), if_neg (by omega)]
  refine ⟨by omega, by omega, by omega, by omega, by omega, by omega, by omega, by omega, by omega, by omega, by omega, by omega, by omega⟩
theorem lok_2 (hW : CW f) (hk : 14 ≤ kind ∧ kind ≤ 15) (hF : FK f 2 r b 0 0 = 0) : LOK kind f (refF (opF f 2 r b 0 0)) r q (opR f 2 r b 0 0) := by
  have hG := fP_0 (show fP f r b = 0 from hF)
  have hn := (hW r hG.1).1
  have hs := (hW r hG.1).2 b hG.2
  have hC := CW_take hW hG.1 hG.2
  obtain ⟨h1, h2, h3, h4⟩ := take_f hW hG.1 hG.2
  show LOK kind f (refF (takeF f r b)) r q (f (r * 60 + b) / 8)
  unfold LOK
  rw [(refF_308 _).1, (refF_308 _).2, ref_cnt _ hG.1, ref_tot hC, h1, h2, h3, h4, if_neg (by omega), if_neg (by omega)]
  refine ⟨by omega, by omega, by omega, by omega, by omega, by omega, by omega, by omega, by omega, by omega, by omega, by omega, by omega⟩
theorem lok_3 (hW : CW f) (hk : 16 ≤ kind ∧ kind ≤ 17) (hF : FK f 3 r b c 0 = 0) : LOK kind f (refF (opF f 3 r b c 0)) r q (opR f 3 r b c 0) := by
  have hG := fT_0 (show fT f r b c = 0 from hF)
  have hn := (hW r hG.1).1
  have hs := (hW r hG.1).2 b hG.2.1
  obtain ⟨h1, h2⟩ := set_f f (v := c * 8 + f (r * 60 + b) % 8) hG.1 (p := b) (by omega)
  show LOK kind f (refF (pt f (r * 60 + b) (c * 8 + f (r * 60 + b) % 8))) r q (f (r * 60 + b) / 8)
  unfold LOK
  rw [(refF_308 _).1, (refF_308 _).2, h1, h2, if_neg (by omega), if_neg (by omega)]
  refine ⟨by omega, by omega, by omega, by omega, by omega, by omega, by omega, by omega, by omega, by omega, by omega, by omega, by omega⟩
theorem lok_4 (hW : CW f) (hk : 18 ≤ kind ∧ kind ≤ 22) (hF : FK f 4 r b q 0 = 0) : LOK kind f (refF (opF f 4 r b q 0)) r q (opR f 4 r b q 0) := by
  have hG := fCu_0 (show fCu f r b q = 0 from hF)
  have hn := (hW r hG.1).1
  obtain ⟨h1, h2, h3, h4, h5⟩ := mv_f hW hG.1 hG.2.2.1 hG.2.2.2.1 hG.2.1 (by omega)
  have hC := CW_hi (v := mvF f r b q 308 + 1) (CW_mv hW hG.1 hG.2.2.1 hG.2.2.2.1 hG.2.1 (by omega)) (show (244 : Int) ≤ 308 by omega)
  have hlo : ∀ z : Int, 0 ≤ z ∧ z < 244 → pt (mvF f r b q) 308 (mvF f r b q 308 + 1) z = mvF f r b q z := fun z hz => if_neg (by omega)
  show LOK kind f (refF (pt (mvF f r b q) 308 (mvF f r b q 308 + 1))) r q (f (240 + r) - b)
  unfold LOK
  rw [(refF_308 _).1, (refF_308 _).2, ref_cnt _ hG.1, ref_cnt _ hG.2.2.1, ref_tot hC, hlo (240 + r) (by omega), hlo (240 + q) (by omega), tot_lo (CW_mv hW hG.1 hG.2.2.1 hG.2.2.2.1 hG.2.1 (by omega)) hlo, pt_s, pt_n _ _ (show (309 : Int) ≠ 308 by omega), h1, h2, h3, h4, h5, if_pos hk, if_neg (by omega)]
  refine ⟨by omega, by omega, by omega, by omega, by omega, by omega, by omega, by omega, by omega, by omega, by omega, by omega, by omega⟩
theorem lok_5 (hW : CW f) (hk : 23 ≤ kind ∧ kind ≤ 27) (hF : FK f 5 r q 0 0 = 0) : LOK kind f (refF (opF f 5 r q 0 0)) r q (opR f 5 r q 0 0) := by
  have hG := fJ_0 (show fJ f r q = 0 from hF)
  have hn := (hW r hG.1).1
  have hn2 := (hW q hG.2.1).1
  have hM := CW_mv hW hG.2.1 hG.1 (show q ≠ r by omega) (p := 0) (by omega) (by omega)
  obtain ⟨h1, h2, h3, h4, h5⟩ := mv_f hW hG.2.1 hG.1 (show q ≠ r by omega) (p := 0) (by omega) (by omega)
  have hC := CW_hi (v := mvF f q 0 r 309 + 1) hM (show (244 : Int) ≤ 309 by omega)
  have hlo : ∀ z : Int, 0 ≤ z ∧ z < 244 → pt (mvF f q 0 r) 309 (mvF f q 0 r 309 + 1) z = mvF f q 0 r z := fun z hz => if_neg (by omega)
  show LOK kind f (refF (pt (mvF f q 0 r) 309 (mvF f q 0 r 309 + 1))) r q (pt (mvF f q 0 r) 309 (mvF f q 0 r 309 + 1) (240 + r))
  unfold LOK
  rw [(refF_308 _).1, (refF_308 _).2, ref_cnt _ hG.1, ref_cnt _ hG.2.1, ref_tot hC, hlo (240 + r) (by omega), hlo (240 + q) (by omega), tot_lo hM hlo, pt_s, pt_n _ _ (show (308 : Int) ≠ 309 by omega), h1, h2, h3, h4, h5, if_neg (by omega), if_pos hk]
  refine ⟨by omega, by omega, by omega, by omega, by omega, by omega, by omega, by omega, by omega, by omega, by omega, by omega, by omega⟩
theorem lok_6 (hW : CW f) (hk : 28 ≤ kind ∧ kind ≤ 29) (hF : FK f 6 r q 0 0 = 0) : LOK kind f (refF (opF f 6 r q 0 0)) r q (opR f 6 r q 0 0) := by
  have hG := fRR_0 (show fRR r q = 0 from hF)
  have hn := (hW r hG.1).1
  have hn2 := (hW q hG.2).1
  have hC := CW_sw hW hG.1 hG.2
  obtain ⟨h1, h2, h3, h4, h5, h6, h7⟩ := sw_f hW hG.1 hG.2
  show LOK kind f (refF (swF f r q)) r q (f (240 + q))
  unfold LOK
  rw [(refF_308 _).1, (refF_308 _).2, ref_cnt _ hG.1, ref_cnt _ hG.2, ref_tot hC, ref_sgl hC hG.2, h1, h2, h3, h4, h5, h7, if_neg (by omega), if_neg (by omega)]
  refine ⟨by omega, by omega, by omega, by omega, by omega, by omega, by omega, by omega, by omega, by omega, fun _ => ⟨rfl, rfl, rfl⟩, by omega, by omega⟩
theorem lok_7 (hW : CW f) (hk : 30 ≤ kind ∧ kind ≤ 33) (hF : FK f 7 r b c 0 = 0) : LOK kind f (refF (opF f 7 r b c 0)) r q (opR f 7 r b c 0) := by
  have hG := fX_0 (show fX f r b c = 0 from hF)
  have hn := (hW r hG.1).1
  have hsr := sgl_rg hW hG.1
  have hC := CW_rv hW hG.1 (x := b) (y := c) (by omega)
  obtain ⟨h1, h2, h3, h4, h5, h6, h7⟩ := rv_f hW hG.1 (x := b) (y := c) (by omega)
  show LOK kind f (refF (rvF f r b c)) r q (sI (lgs (rvF f r b c) r) b (c + 1))
  unfold LOK
  rw [(refF_308 _).1, (refF_308 _).2, ref_cnt _ hG.1, ref_tot hC, ref_sgl hC hG.1, h1 r hG.1, h2, h3, h4, h5, if_neg (by omega), if_neg (by omega)]
  refine ⟨by omega, by omega, by omega, by omega, by omega, by omega, by omega, by omega, by omega, by omega, by omega, fun _ => ⟨rfl, rfl, Or.inl h7⟩, by omega⟩
theorem lok_8 (hW : CW f) (hk : 34 ≤ kind ∧ kind ≤ 38) (hF : FK f 8 r b c d = 0) : LOK kind f (refF (opF f 8 r b c d)) r q (opR f 8 r b c d) := by
  have hG := fD_0 (show fD f r b c d = 0 from hF)
  have hn := (hW r hG.1).1
  have hC := CW_dy hW (x := b) (c := d) (k := c + 1) (by omega) (by omega) hG.1 (by omega)
  obtain ⟨h1, h2, h3, h4, h5, h6, h7⟩ := dy_f hW hG.1 (x := b) (y := c) (d := d) (by omega) (by omega)
  show LOK kind f (refF (dyL f r b d (c + 1))) r q (sI (dyI f r d) b (c + 1))
  unfold LOK
  rw [(refF_308 _).1, (refF_308 _).2, ref_cnt _ hG.1, ref_tot hC, ref_sgl hC hG.1, h1 r hG.1, h2, h3, h4, h5, if_neg (by omega), if_neg (by omega)]
  refine ⟨by omega, by omega, by omega, by omega, by omega, by omega, by omega, by omega, by omega, by omega, by omega, fun _ => ⟨rfl, rfl, Or.inr h7⟩, by omega⟩
end LOKS
