abbrev rm_X3_cellAt : Room := { frames := 0, cells := 0, slots := 0, locals := 0 }
set_option maxRecDepth 100000 in
set_option maxHeartbeats 4000000 in
theorem c_X3_cellAt (l : Launch) (E : EV) (σ : SS) (i : Int) (h : 0 ≤ i ∧ i < 310) : Ki l yX3_cellAt (cw yX3_cellAt cX3_cellAt 2 (some .int)) rm_X3_cellAt E [.ref (ea E 1), .int (iI i)] σ ((σ 2) i) σ := by
  refine Ki_of (rm := rm_X3_cellAt) (mL := 2) (b := cX3_cellAt) RX3 rfl (by decide +kernel) rfl rfl [(0, .ref (ea E 1)), (1, .int (iI i))] rfl (Nat.le_of_ble_eq_true rfl) (fun p_ e_ s_ m_ a_ b_ h_ c_ Q A C hret => ?_)
  refine g_iload_n C dX3_cellAt_0 1 rfl rfl (q := 1) rfl ?_
  refine g_if_lt C dX3_cellAt_1 (by omega) (q2 := 22) rfl (q := 4) rfl (fun hb1 => ?_) (fun hb1 => ?_)
  · skip
    refine g_iconst C dX3_cellAt_22 (q := 23) rfl ?_
    exact hret _ _ _ dX3_cellAt_23 (by omega)
  · skip
    refine g_iload_n C dX3_cellAt_4 1 rfl rfl (q := 5) rfl ?_
    refine g_aload_n C dX3_cellAt_5 0 rfl rfl (q := 6) rfl ?_
    refine gf_X3_9 C dX3_cellAt_6 (q := 9) rfl ?_
    refine gn_2 C dX3_cellAt_9 (q := 10) rfl ?_
    refine g_icmp_ge C dX3_cellAt_10 (by omega) (q2 := 22) rfl (q := 13) rfl (fun hb2 => ?_) (fun hb2 => ?_)
    · skip
      refine g_iconst C dX3_cellAt_22 (q := 23) rfl ?_
      exact hret _ _ _ dX3_cellAt_23 (by omega)
    · skip
      refine g_aload_n C dX3_cellAt_13 0 rfl rfl (q := 14) rfl ?_
      refine gf_X3_9 C dX3_cellAt_14 (q := 17) rfl ?_
      refine g_iload_n C dX3_cellAt_17 1 rfl rfl (q := 18) rfl ?_
      refine gl_2 C (by omega) dX3_cellAt_18 (q := 19) rfl ?_
      refine g_goto C dX3_cellAt_19 (q := 23) rfl ?_
      exact hret _ _ _ dX3_cellAt_23 rfl
abbrev rm_X3_setCell : Room := { frames := 0, cells := 0, slots := 0, locals := 0 }
set_option maxRecDepth 100000 in
set_option maxHeartbeats 4000000 in
theorem c_X3_setCell (l : Launch) (E : EV) (σ : SS) (i v : Int) (h : 0 ≤ i ∧ i < 310) : Kv l yX3_setCell (cw yX3_setCell cX3_setCell 3 none) rm_X3_setCell E [.ref (ea E 1), .int (iI i), .int (iI v)] σ (st σ 2 (pt (σ 2) i v)) := by
  refine Kv_of (rm := rm_X3_setCell) (mL := 3) (b := cX3_setCell) RX3 rfl (by decide +kernel) rfl rfl [(0, .ref (ea E 1)), (1, .int (iI i)), (2, .int (iI v))] rfl (Nat.le_of_ble_eq_true rfl) (fun p_ e_ s_ m_ a_ b_ h_ c_ Q A C hret => ?_)
  refine g_iload_n C dX3_setCell_0 1 rfl rfl (q := 1) rfl ?_
  refine g_if_lt C dX3_setCell_1 (by omega) (q2 := 20) rfl (q := 4) rfl (fun hb1 => ?_) (fun hb1 => ?_)
  · skip
    refine g_st (σ2 := (st σ 2 (pt (σ 2) i v))) (by first | rfl | (funext q9; simp only [st]; (repeat' split) <;> first | rfl | omega | (funext j9; simp only [pt]; (repeat' split) <;> first | rfl | omega))) ?_
    exact hret _ _ dX3_setCell_20
  · skip
    refine g_iload_n C dX3_setCell_4 1 rfl rfl (q := 5) rfl ?_
    refine g_aload_n C dX3_setCell_5 0 rfl rfl (q := 6) rfl ?_
    refine gf_X3_9 C dX3_setCell_6 (q := 9) rfl ?_
    refine gn_2 C dX3_setCell_9 (q := 10) rfl ?_
    refine g_icmp_ge C dX3_setCell_10 (by omega) (q2 := 20) rfl (q := 13) rfl (fun hb2 => ?_) (fun hb2 => ?_)
    · skip
      refine g_st (σ2 := (st σ 2 (pt (σ 2) i v))) (by first | rfl | (funext q9; simp only [st]; (repeat' split) <;> first | rfl | omega | (funext j9; simp only [pt]; (repeat' split) <;> first | rfl | omega))) ?_
      exact hret _ _ dX3_setCell_20
    · skip
      refine g_aload_n C dX3_setCell_13 0 rfl rfl (q := 14) rfl ?_
      refine gf_X3_9 C dX3_setCell_14 (q := 17) rfl ?_
      refine g_iload_n C dX3_setCell_17 1 rfl rfl (q := 18) rfl ?_
      refine g_iload_n C dX3_setCell_18 2 rfl rfl (q := 19) rfl ?_
      refine gs_2 C (by omega) dX3_setCell_19 (q := 20) rfl ?_
      exact hret _ _ dX3_setCell_20
abbrev rm_X3_countOf : Room := { frames := 1, cells := 0, slots := 0, locals := 21 }
set_option maxRecDepth 100000 in
set_option maxHeartbeats 4000000 in
theorem c_X3_countOf (l : Launch) (E : EV) (σ : SS) (r : Int) (hr : 0 ≤ r ∧ r < 4) : Ki l yX3_countOf (cw yX3_countOf cX3_countOf 2 (some .int)) rm_X3_countOf E [.ref (ea E 1), .int (iI r)] σ ((σ 2) (240 + r)) σ := by
  refine Ki_of (rm := rm_X3_countOf) (mL := 2) (b := cX3_countOf) RX3 rfl (by decide +kernel) rfl rfl [(0, .ref (ea E 1)), (1, .int (iI r))] rfl (Nat.le_of_ble_eq_true rfl) (fun p_ e_ s_ m_ a_ b_ h_ c_ Q A C hret => ?_)
  refine g_aload_n C dX3_countOf_0 0 rfl rfl (q := 1) rfl ?_
  refine g_sipush C dX3_countOf_1 (by decide) (q := 4) rfl ?_
  refine g_iload_n C dX3_countOf_4 1 rfl rfl (q := 5) rfl ?_
  refine g_iadd C dX3_countOf_5 (q := 6) rfl ?_
  refine g_cV_i C (As := [.int (iI (240 + r))]) (c_X3_cellAt l E _ (240 + r)  (by omega)) ml_X3_19 mf_X3_cellAt (o := 1) (ci := 3) rfl rfl rfl rfl ⟨(Nat.le_of_ble_eq_true rfl), (Nat.le_of_ble_eq_true rfl)⟩ rfl rfl rfl (Nat.le_of_ble_eq_true rfl) ⟨(Nat.le_of_ble_eq_true rfl), (Nat.le_of_ble_eq_true rfl)⟩ dX3_countOf_6 (q := 9) rfl ?_
  exact hret _ _ _ dX3_countOf_9 rfl
abbrev rm_X3_setCount : Room := { frames := 1, cells := 0, slots := 0, locals := 22 }
set_option maxRecDepth 100000 in
set_option maxHeartbeats 4000000 in
theorem c_X3_setCount (l : Launch) (E : EV) (σ : SS) (r v : Int) (hr : 0 ≤ r ∧ r < 4) : Kv l yX3_setCount (cw yX3_setCount cX3_setCount 3 none) rm_X3_setCount E [.ref (ea E 1), .int (iI r), .int (iI v)] σ (st σ 2 (pt (σ 2) (240 + r) v)) := by
  refine Kv_of (rm := rm_X3_setCount) (mL := 3) (b := cX3_setCount) RX3 rfl (by decide +kernel) rfl rfl [(0, .ref (ea E 1)), (1, .int (iI r)), (2, .int (iI v))] rfl (Nat.le_of_ble_eq_true rfl) (fun p_ e_ s_ m_ a_ b_ h_ c_ Q A C hret => ?_)
  refine g_aload_n C dX3_setCount_0 0 rfl rfl (q := 1) rfl ?_
  refine g_sipush C dX3_setCount_1 (by decide) (q := 4) rfl ?_
  refine g_iload_n C dX3_setCount_4 1 rfl rfl (q := 5) rfl ?_
  refine g_iadd C dX3_setCount_5 (q := 6) rfl ?_
  refine g_iload_n C dX3_setCount_6 2 rfl rfl (q := 7) rfl ?_
  refine g_cV_v C (As := [.int (iI (240 + r)), .int (iI v)]) (c_X3_setCell l E _ (240 + r) v  (by omega)) ml_X3_23 mf_X3_setCell (o := 1) (ci := 3) rfl rfl rfl rfl ⟨(Nat.le_of_ble_eq_true rfl), (Nat.le_of_ble_eq_true rfl)⟩ rfl rfl rfl (Nat.le_of_ble_eq_true rfl) ⟨(Nat.le_of_ble_eq_true rfl), (Nat.le_of_ble_eq_true rfl)⟩ dX3_setCount_7 (q := 10) rfl ?_
  exact hret _ _ dX3_setCount_10
abbrev rm_X3_placeOf : Room := { frames := 0, cells := 0, slots := 0, locals := 0 }
set_option maxRecDepth 100000 in
set_option maxHeartbeats 4000000 in
theorem c_X3_placeOf (l : Launch) (E : EV) (σ : SS) (r p : Int)  : Ki l yX3_placeOf (cw yX3_placeOf cX3_placeOf 2 (some .int)) rm_X3_placeOf E [.int (iI r), .int (iI p)] σ (r * 60 + p) σ := by
  refine Ki_of (rm := rm_X3_placeOf) (mL := 2) (b := cX3_placeOf) RX3 rfl (by decide +kernel) rfl rfl [(0, .int (iI r)), (1, .int (iI p))] rfl (Nat.le_of_ble_eq_true rfl) (fun p_ e_ s_ m_ a_ b_ h_ c_ Q A C hret => ?_)
  refine g_iload_n C dX3_placeOf_0 0 rfl rfl (q := 1) rfl ?_
  refine g_bipush C dX3_placeOf_1 (by decide) (q := 3) rfl ?_
  refine g_imul C dX3_placeOf_3 (q := 4) rfl ?_
  refine g_iload_n C dX3_placeOf_4 1 rfl rfl (q := 5) rfl ?_
  refine g_iadd C dX3_placeOf_5 (q := 6) rfl ?_
  exact hret _ _ _ dX3_placeOf_6 rfl
abbrev rm_X3_segmentAt : Room := { frames := 1, cells := 0, slots := 0, locals := 21 }
set_option maxRecDepth 100000 in
set_option maxHeartbeats 4000000 in
theorem c_X3_segmentAt (l : Launch) (E : EV) (σ : SS) (r p : Int) (hr : 0 ≤ r ∧ r < 4) (hp : 0 ≤ p ∧ p < 60) : Ki l yX3_segmentAt (cw yX3_segmentAt cX3_segmentAt 3 (some .int)) rm_X3_segmentAt E [.ref (ea E 1), .int (iI r), .int (iI p)] σ ((σ 2) (r * 60 + p)) σ := by
  refine Ki_of (rm := rm_X3_segmentAt) (mL := 3) (b := cX3_segmentAt) RX3 rfl (by decide +kernel) rfl rfl [(0, .ref (ea E 1)), (1, .int (iI r)), (2, .int (iI p))] rfl (Nat.le_of_ble_eq_true rfl) (fun p_ e_ s_ m_ a_ b_ h_ c_ Q A C hret => ?_)
  refine g_aload_n C dX3_segmentAt_0 0 rfl rfl (q := 1) rfl ?_
  refine g_iload_n C dX3_segmentAt_1 1 rfl rfl (q := 2) rfl ?_
  refine g_iload_n C dX3_segmentAt_2 2 rfl rfl (q := 3) rfl ?_
  refine g_cS_i C (As := [.int (iI r), .int (iI p)]) (c_X3_placeOf l E _ r p) ml_X3_30 mf_X3_placeOf rfl rfl ⟨(Nat.le_of_ble_eq_true rfl), (Nat.le_of_ble_eq_true rfl)⟩ rfl rfl rfl (Nat.le_of_ble_eq_true rfl) ⟨(Nat.le_of_ble_eq_true rfl), (Nat.le_of_ble_eq_true rfl)⟩ dX3_segmentAt_3 (q := 6) rfl ?_
  refine g_cV_i C (As := [.int (iI (r * 60 + p))]) (c_X3_cellAt l E _ (r * 60 + p)  (by omega)) ml_X3_19 mf_X3_cellAt (o := 1) (ci := 3) rfl rfl rfl rfl ⟨(Nat.le_of_ble_eq_true rfl), (Nat.le_of_ble_eq_true rfl)⟩ rfl rfl rfl (Nat.le_of_ble_eq_true rfl) ⟨(Nat.le_of_ble_eq_true rfl), (Nat.le_of_ble_eq_true rfl)⟩ dX3_segmentAt_6 (q := 9) rfl ?_
  exact hret _ _ _ dX3_segmentAt_9 rfl
abbrev rm_X3_setSegment : Room := { frames := 1, cells := 0, slots := 0, locals := 22 }
set_option maxRecDepth 100000 in
set_option maxHeartbeats 4000000 in
theorem c_X3_setSegment (l : Launch) (E : EV) (σ : SS) (r p v : Int) (hr : 0 ≤ r ∧ r < 4) (hp : 0 ≤ p ∧ p < 60) : Kv l yX3_setSegment (cw yX3_setSegment cX3_setSegment 4 none) rm_X3_setSegment E [.ref (ea E 1), .int (iI r), .int (iI p), .int (iI v)] σ (st σ 2 (pt (σ 2) (r * 60 + p) v)) := by
  refine Kv_of (rm := rm_X3_setSegment) (mL := 4) (b := cX3_setSegment) RX3 rfl (by decide +kernel) rfl rfl [(0, .ref (ea E 1)), (1, .int (iI r)), (2, .int (iI p)), (3, .int (iI v))] rfl (Nat.le_of_ble_eq_true rfl) (fun p_ e_ s_ m_ a_ b_ h_ c_ Q A C hret => ?_)
  refine g_aload_n C dX3_setSegment_0 0 rfl rfl (q := 1) rfl ?_
  refine g_iload_n C dX3_setSegment_1 1 rfl rfl (q := 2) rfl ?_
  refine g_iload_n C dX3_setSegment_2 2 rfl rfl (q := 3) rfl ?_
  refine g_cS_i C (As := [.int (iI r), .int (iI p)]) (c_X3_placeOf l E _ r p) ml_X3_30 mf_X3_placeOf rfl rfl ⟨(Nat.le_of_ble_eq_true rfl), (Nat.le_of_ble_eq_true rfl)⟩ rfl rfl rfl (Nat.le_of_ble_eq_true rfl) ⟨(Nat.le_of_ble_eq_true rfl), (Nat.le_of_ble_eq_true rfl)⟩ dX3_setSegment_3 (q := 6) rfl ?_
  refine g_iload_n C dX3_setSegment_6 3 rfl rfl (q := 7) rfl ?_
  refine g_cV_v C (As := [.int (iI (r * 60 + p)), .int (iI v)]) (c_X3_setCell l E _ (r * 60 + p) v  (by omega)) ml_X3_23 mf_X3_setCell (o := 1) (ci := 3) rfl rfl rfl rfl ⟨(Nat.le_of_ble_eq_true rfl), (Nat.le_of_ble_eq_true rfl)⟩ rfl rfl rfl (Nat.le_of_ble_eq_true rfl) ⟨(Nat.le_of_ble_eq_true rfl), (Nat.le_of_ble_eq_true rfl)⟩ dX3_setSegment_7 (q := 10) rfl ?_
  exact hret _ _ dX3_setSegment_10
abbrev rm_X3_lengthAt : Room := { frames := 2, cells := 0, slots := 0, locals := 43 }
set_option maxRecDepth 100000 in
set_option maxHeartbeats 4000000 in
theorem c_X3_lengthAt (l : Launch) (E : EV) (σ : SS) (r p : Int) (hr : 0 ≤ r ∧ r < 4) (hp : 0 ≤ p ∧ p < 60) (hs : 0 ≤ (σ 2) (r * 60 + p) ∧ (σ 2) (r * 60 + p) < 800) : Ki l yX3_lengthAt (cw yX3_lengthAt cX3_lengthAt 3 (some .int)) rm_X3_lengthAt E [.ref (ea E 1), .int (iI r), .int (iI p)] σ ((σ 2) (r * 60 + p) / 8) σ := by
  refine Ki_of (rm := rm_X3_lengthAt) (mL := 3) (b := cX3_lengthAt) RX3 rfl (by decide +kernel) rfl rfl [(0, .ref (ea E 1)), (1, .int (iI r)), (2, .int (iI p))] rfl (Nat.le_of_ble_eq_true rfl) (fun p_ e_ s_ m_ a_ b_ h_ c_ Q A C hret => ?_)
  refine g_aload_n C dX3_lengthAt_0 0 rfl rfl (q := 1) rfl ?_
  refine g_iload_n C dX3_lengthAt_1 1 rfl rfl (q := 2) rfl ?_
  refine g_iload_n C dX3_lengthAt_2 2 rfl rfl (q := 3) rfl ?_
  refine g_cV_i C (As := [.int (iI r), .int (iI p)]) (c_X3_segmentAt l E _ r p  (by omega) (by omega)) ml_X3_34 mf_X3_segmentAt (o := 1) (ci := 3) rfl rfl rfl rfl ⟨(Nat.le_of_ble_eq_true rfl), (Nat.le_of_ble_eq_true rfl)⟩ rfl rfl rfl (Nat.le_of_ble_eq_true rfl) ⟨(Nat.le_of_ble_eq_true rfl), (Nat.le_of_ble_eq_true rfl)⟩ dX3_lengthAt_3 (q := 6) rfl ?_
  refine g_bipush C dX3_lengthAt_6 (by decide) (q := 8) rfl ?_
  refine g_idiv C dX3_lengthAt_8 (by omega) (q := 9) rfl ?_
  exact hret _ _ _ dX3_lengthAt_9 (by omega)
abbrev rm_X3_colourAt : Room := { frames := 2, cells := 0, slots := 0, locals := 43 }
set_option maxRecDepth 100000 in
set_option maxHeartbeats 4000000 in
theorem c_X3_colourAt (l : Launch) (E : EV) (σ : SS) (r p : Int) (hr : 0 ≤ r ∧ r < 4) (hp : 0 ≤ p ∧ p < 60) (hs : 0 ≤ (σ 2) (r * 60 + p) ∧ (σ 2) (r * 60 + p) < 800) : Ki l yX3_colourAt (cw yX3_colourAt cX3_colourAt 3 (some .int)) rm_X3_colourAt E [.ref (ea E 1), .int (iI r), .int (iI p)] σ ((σ 2) (r * 60 + p) % 8) σ := by
  refine Ki_of (rm := rm_X3_colourAt) (mL := 3) (b := cX3_colourAt) RX3 rfl (by decide +kernel) rfl rfl [(0, .ref (ea E 1)), (1, .int (iI r)), (2, .int (iI p))] rfl (Nat.le_of_ble_eq_true rfl) (fun p_ e_ s_ m_ a_ b_ h_ c_ Q A C hret => ?_)
  refine g_aload_n C dX3_colourAt_0 0 rfl rfl (q := 1) rfl ?_
  refine g_iload_n C dX3_colourAt_1 1 rfl rfl (q := 2) rfl ?_
  refine g_iload_n C dX3_colourAt_2 2 rfl rfl (q := 3) rfl ?_
  refine g_cV_i C (As := [.int (iI r), .int (iI p)]) (c_X3_segmentAt l E _ r p  (by omega) (by omega)) ml_X3_34 mf_X3_segmentAt (o := 1) (ci := 3) rfl rfl rfl rfl ⟨(Nat.le_of_ble_eq_true rfl), (Nat.le_of_ble_eq_true rfl)⟩ rfl rfl rfl (Nat.le_of_ble_eq_true rfl) ⟨(Nat.le_of_ble_eq_true rfl), (Nat.le_of_ble_eq_true rfl)⟩ dX3_colourAt_3 (q := 6) rfl ?_
  refine g_bipush C dX3_colourAt_6 (by decide) (q := 8) rfl ?_
  refine g_irem C dX3_colourAt_8 (by omega) (q := 9) rfl ?_
  exact hret _ _ _ dX3_colourAt_9 (by omega)
abbrev rm_X3_areTangled : Room := { frames := 3, cells := 0, slots := 0, locals := 65 }
set_option maxRecDepth 100000 in
set_option maxHeartbeats 4000000 in
theorem c_X3_areTangled (l : Launch) (E : EV) (σ : SS) (r p : Int) (hr : 0 ≤ r ∧ r < 4) (hp : -1 ≤ p ∧ p ≤ 60) (hW : CW (σ 2)) : Ki l yX3_areTangled (cw yX3_areTangled cX3_areTangled 3 (some .boolean)) rm_X3_areTangled E [.ref (ea E 1), .int (iI r), .int (iI p)] σ (tg (σ 2) r p) σ := by
  refine Kz_of (rm := rm_X3_areTangled) (mL := 3) (b := cX3_areTangled) RX3 rfl (by decide +kernel) rfl rfl [(0, .ref (ea E 1)), (1, .int (iI r)), (2, .int (iI p))] rfl (Nat.le_of_ble_eq_true rfl) (fun p_ e_ s_ m_ a_ b_ h_ c_ Q A C hret => ?_)
  have hn := (hW r hr).1
  refine g_iload_n C dX3_areTangled_0 2 rfl rfl (q := 1) rfl ?_
  refine g_if_lt C dX3_areTangled_1 (by omega) (q2 := 36) rfl (q := 4) rfl (fun hb1 => ?_) (fun hb1 => ?_)
  · skip
    refine g_iconst C dX3_areTangled_36 (q := 37) rfl ?_
    exact hret _ _ _ dX3_areTangled_37 (by omega) (by unfold tg; (first | rw [if_pos (by omega)] | rw [if_neg (by omega)]))
  · skip
    refine g_iload_n C dX3_areTangled_4 2 rfl rfl (q := 5) rfl ?_
    refine g_iconst C dX3_areTangled_5 (q := 6) rfl ?_
    refine g_iadd C dX3_areTangled_6 (q := 7) rfl ?_
    refine g_aload_n C dX3_areTangled_7 0 rfl rfl (q := 8) rfl ?_
    refine g_iload_n C dX3_areTangled_8 1 rfl rfl (q := 9) rfl ?_
    refine g_cV_i C (As := [.int (iI r)]) (c_X3_countOf l E _ r  (by omega)) ml_X3_27 mf_X3_countOf (o := 1) (ci := 3) rfl rfl rfl rfl ⟨(Nat.le_of_ble_eq_true rfl), (Nat.le_of_ble_eq_true rfl)⟩ rfl rfl rfl (Nat.le_of_ble_eq_true rfl) ⟨(Nat.le_of_ble_eq_true rfl), (Nat.le_of_ble_eq_true rfl)⟩ dX3_areTangled_9 (q := 12) rfl ?_
    refine g_icmp_ge C dX3_areTangled_12 (by omega) (q2 := 36) rfl (q := 15) rfl (fun hb2 => ?_) (fun hb2 => ?_)
    · skip
      refine g_iconst C dX3_areTangled_36 (q := 37) rfl ?_
      exact hret _ _ _ dX3_areTangled_37 (by omega) (by unfold tg; (first | rw [if_pos (by omega)] | rw [if_neg (by omega)]))
    · skip
      refine g_aload_n C dX3_areTangled_15 0 rfl rfl (q := 16) rfl ?_
      refine g_iload_n C dX3_areTangled_16 1 rfl rfl (q := 17) rfl ?_
      refine g_iload_n C dX3_areTangled_17 2 rfl rfl (q := 18) rfl ?_
      have h1 := (hW r hr).2 p (by omega)
      have h2 := (hW r hr).2 (p + 1) (by omega)
      refine g_cV_i C (As := [.int (iI r), .int (iI p)]) (c_X3_colourAt l E _ r p  (by omega) (by omega) (by omega)) ml_X3_37 mf_X3_colourAt (o := 1) (ci := 3) rfl rfl rfl rfl ⟨(Nat.le_of_ble_eq_true rfl), (Nat.le_of_ble_eq_true rfl)⟩ rfl rfl rfl (Nat.le_of_ble_eq_true rfl) ⟨(Nat.le_of_ble_eq_true rfl), (Nat.le_of_ble_eq_true rfl)⟩ dX3_areTangled_18 (q := 21) rfl ?_
      refine g_aload_n C dX3_areTangled_21 0 rfl rfl (q := 22) rfl ?_
      refine g_iload_n C dX3_areTangled_22 1 rfl rfl (q := 23) rfl ?_
      refine g_iload_n C dX3_areTangled_23 2 rfl rfl (q := 24) rfl ?_
      refine g_iconst C dX3_areTangled_24 (q := 25) rfl ?_
      refine g_iadd C dX3_areTangled_25 (q := 26) rfl ?_
      refine g_cV_i C (As := [.int (iI r), .int (iI (p + 1))]) (c_X3_colourAt l E _ r (p + 1)  (by omega) (by omega) (by omega)) ml_X3_37 mf_X3_colourAt (o := 1) (ci := 3) rfl rfl rfl rfl ⟨(Nat.le_of_ble_eq_true rfl), (Nat.le_of_ble_eq_true rfl)⟩ rfl rfl rfl (Nat.le_of_ble_eq_true rfl) ⟨(Nat.le_of_ble_eq_true rfl), (Nat.le_of_ble_eq_true rfl)⟩ dX3_areTangled_26 (q := 29) rfl ?_
      refine g_icmp_ne C dX3_areTangled_29 (by omega) (q2 := 36) rfl (q := 32) rfl (fun hb3 => ?_) (fun hb3 => ?_)
      · skip
        refine g_iconst C dX3_areTangled_36 (q := 37) rfl ?_
        exact hret _ _ _ dX3_areTangled_37 (by omega) (by unfold tg; (first | rw [if_pos (by omega)] | rw [if_neg (by omega)]))
      · skip
        refine g_iconst C dX3_areTangled_32 (q := 33) rfl ?_
        refine g_goto C dX3_areTangled_33 (q := 37) rfl ?_
        exact hret _ _ _ dX3_areTangled_37 (by omega) (by unfold tg; (first | rw [if_pos (by omega)] | rw [if_neg (by omega)]))
abbrev rm_X3_sumOfRange : Room := { frames := 3, cells := 0, slots := 0, locals := 65 }
set_option maxRecDepth 100000 in
set_option maxHeartbeats 4000000 in
theorem c_X3_sumOfRange (l : Launch) (E : EV) (σ : SS) (r a b : Int) (hr : 0 ≤ r ∧ r < 4) (ha : 0 ≤ a ∧ a ≤ 60) (hb : -1 ≤ b ∧ b < (σ 2) (240 + r)) (hW : CW (σ 2)) : Ki l yX3_sumOfRange (cw yX3_sumOfRange cX3_sumOfRange 6 (some .int)) rm_X3_sumOfRange E [.ref (ea E 1), .int (iI r), .int (iI a), .int (iI b)] σ (sI (lgs (σ 2) r) a (b + 1)) σ := by
  refine Ki_of (rm := rm_X3_sumOfRange) (mL := 6) (b := cX3_sumOfRange) RX3 rfl (by decide +kernel) rfl rfl [(0, .ref (ea E 1)), (1, .int (iI r)), (2, .int (iI a)), (3, .int (iI b))] rfl (Nat.le_of_ble_eq_true rfl) (fun p_ e_ s_ m_ a_ b_ h_ c_ Q A C hret => ?_)
  have hn := (hW r hr).1
  refine g_iconst C dX3_sumOfRange_0 (q := 1) rfl ?_
  refine g_istore C (L' := [(4, .int (iI 0)), (0, .ref (ea E 1)), (1, .int (iI r)), (2, .int (iI a)), (3, .int (iI b))]) dX3_sumOfRange_1 (by decide) rfl (q := 3) rfl ?_
  refine g_iload_n C dX3_sumOfRange_3 3 rfl rfl (q := 4) rfl ?_
  refine g_istore C (L' := [(5, .int (iI a)), (4, .int (iI 0)), (0, .ref (ea E 1)), (1, .int (iI r)), (2, .int (iI a)), (3, .int (iI b))]) dX3_sumOfRange_4 (by decide) rfl (q := 6) rfl ?_
  refine g_sub [2, 3, 4, 5, 1, 0] (L' := [(0, .ref (ea E 1)), (1, .int (iI r)), (2, .int (iI a)), (3, .int (iI b)), (4, .int (iI 0)), (5, .int (iI a))]) rfl ?_
  have lp6 : ∀ (k9 : Nat) (acc : Int) (i : Int), (b + 1 - i).toNat < k9 → (0 ≤ i ∧ i ≤ 61) → (sI (lgs (σ 2) r) a (b + 1) = acc + sI (lgs (σ 2) r) i (b + 1)) → GG p_ l e_ rm_X3_sumOfRange s_ m_ a_ b_ h_ c_ Q E A 6 σ 0 0 6 [(0, .ref (ea E 1)), (1, .int (iI r)), (2, .int (iI a)), (3, .int (iI b)), (4, .int (iI acc)), (5, .int (iI i))] [] := by
    intro k9
    induction k9 with
    | zero => intro acc i hk9; omega
    | succ k9 ih6 =>
      intro acc i hk9 hi hR
      refine g_iload C dX3_sumOfRange_6 5 rfl (q := 8) rfl ?_
      refine g_iload_n C dX3_sumOfRange_8 3 rfl rfl (q := 9) rfl ?_
      refine g_icmp_gt C dX3_sumOfRange_9 (by omega) (q2 := 30) rfl (q := 12) rfl (fun hb1 => ?_) (fun hb1 => ?_)
      · skip
        refine g_iload C dX3_sumOfRange_30 4 rfl (q := 32) rfl ?_
        exact hret _ _ _ dX3_sumOfRange_32 (by rw [hR, sI_nil (by omega)]; omega)
      · skip
        have hs := (hW r hr).2 i (by omega)
        refine g_iload C dX3_sumOfRange_12 4 rfl (q := 14) rfl ?_
        refine g_aload_n C dX3_sumOfRange_14 0 rfl rfl (q := 15) rfl ?_
        refine g_iload_n C dX3_sumOfRange_15 1 rfl rfl (q := 16) rfl ?_
        refine g_iload C dX3_sumOfRange_16 5 rfl (q := 18) rfl ?_
        refine g_cV_i C (As := [.int (iI r), .int (iI i)]) (c_X3_lengthAt l E _ r i  (by omega) (by omega) (by omega)) ml_X3_47 mf_X3_lengthAt (o := 1) (ci := 3) rfl rfl rfl rfl ⟨(Nat.le_of_ble_eq_true rfl), (Nat.le_of_ble_eq_true rfl)⟩ rfl rfl rfl (Nat.le_of_ble_eq_true rfl) ⟨(Nat.le_of_ble_eq_true rfl), (Nat.le_of_ble_eq_true rfl)⟩ dX3_sumOfRange_18 (q := 21) rfl ?_
        refine g_iadd C dX3_sumOfRange_21 (q := 22) rfl ?_
        refine g_istore C (L' := [(4, .int (iI (acc + ((σ 2) (r * 60 + i) / 8)))), (0, .ref (ea E 1)), (1, .int (iI r)), (2, .int (iI a)), (3, .int (iI b)), (5, .int (iI i))]) dX3_sumOfRange_22 (by decide) rfl (q := 24) rfl ?_
        refine g_iinc C (L' := [(5, .int (iI (i + 1))), (4, .int (iI (acc + ((σ 2) (r * 60 + i) / 8)))), (0, .ref (ea E 1)), (1, .int (iI r)), (2, .int (iI a)), (3, .int (iI b))]) dX3_sumOfRange_24 5 rfl (by decide) rfl (q := 27) rfl ?_
        refine g_goto C dX3_sumOfRange_27 (q := 6) rfl ?_
        refine g_sub [2, 3, 4, 5, 1, 0] (L' := [(0, .ref (ea E 1)), (1, .int (iI r)), (2, .int (iI a)), (3, .int (iI b)), (4, .int (iI (acc + ((σ 2) (r * 60 + i) / 8)))), (5, .int (iI (i + 1)))]) rfl ?_
        exact ih6 (acc + ((σ 2) (r * 60 + i) / 8)) (i + 1) (by omega) (by omega) (by rw [hR, sI_cons (by omega)]; unfold lgs; omega)
  exact lp6 _ 0 a (Nat.lt_succ_self _) (by omega) (by simp)
