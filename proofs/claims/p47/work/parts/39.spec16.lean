/-! whole lengths: 0 of no segment, positive of some -/
theorem sum_z {f : Int → Int} (hW : CW f) {r : Int} (hr : 0 ≤ r ∧ r < 4) : (f (240 + r) = 0 → sI (lgs f r) 0 (f (240 + r)) = 0) ∧ (f (240 + r) ≠ 0 → 1 ≤ sI (lgs f r) 0 (f (240 + r))) := by
  have hn := (hW r hr).1
  refine ⟨fun h => sI_nil (by omega), fun h => ?_⟩
  have h1 := sI_ge (g := lgs f r) (a := 0) (b := f (240 + r)) (lo := 1) (by omega) (fun p h1 h2 => by
    have := ((hW r hr).2 p ⟨h1, h2⟩)
    unfold lgs
    omega)
  omega
theorem sb_z {f : Int → Int} (hW : CW f) (hP : PW f) {r : Int} (hr : 0 ≤ r ∧ r < 4) : (f (240 + r) = 0 → sb f r (f (240 + r)) = 0) ∧ (f (240 + r) ≠ 0 → 1 ≤ sb f r (f (240 + r))) := by
  have hn := (hW r hr).1
  rw [sb_eq hP hr hn.2 (by omega)]
  exact sum_z hW hr
