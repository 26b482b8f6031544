abbrev rm_X4_segmentCount : Room := { frames := 2, cells := 0, slots := 0, locals := 42 }
set_option maxRecDepth 100000 in
set_option maxHeartbeats 4000000 in
theorem c_X4_segmentCount (l : Launch) (E : EV) (σ : SS) (r : Int) (hr_r : -2147483648 ≤ r ∧ r ≤ 2147483647) (hW : CW (σ 2)) (hF1 : fR r = 0) : Ki l yX4_segmentCount (cw yX4_segmentCount cX4_segmentCount 2 (some .int)) rm_X4_segmentCount E [.ref (ea E 0), .int (iI r)] σ ((σ 2) (240 + r)) σ := by
  refine Ki_of (rm := rm_X4_segmentCount) (mL := 2) (b := cX4_segmentCount) RX4 rfl (by decide +kernel) rfl rfl [(0, .ref (ea E 0)), (1, .int (iI r))] rfl (Nat.le_of_ble_eq_true rfl) (fun p_ e_ s_ m_ a_ b_ h_ c_ Q A C hret => ?_)
  have hN := CW_N hW
  have hr := fR_0 hF1
  refine g_iload_n C dX4_segmentCount_0 1 rfl rfl (q := 1) rfl ?_
  refine g_cS_i C (As := [.int (iI r)]) (c_X4_reelFault l E _ r  (by omega)) ml_X4_59 mf_X4_reelFault rfl rfl ⟨(Nat.le_of_ble_eq_true rfl), (Nat.le_of_ble_eq_true rfl)⟩ rfl rfl rfl (Nat.le_of_ble_eq_true rfl) ⟨(Nat.le_of_ble_eq_true rfl), (Nat.le_of_ble_eq_true rfl)⟩ dX4_segmentCount_1 (q := 4) rfl ?_
  refine g_cS_v C (As := [.int (iI (fR r))]) (c_X4_raise l E _ (fR r)  (by assumption)) ml_X4_63 mf_X4_raise rfl rfl ⟨(Nat.le_of_ble_eq_true rfl), (Nat.le_of_ble_eq_true rfl)⟩ rfl rfl rfl (Nat.le_of_ble_eq_true rfl) ⟨(Nat.le_of_ble_eq_true rfl), (Nat.le_of_ble_eq_true rfl)⟩ dX4_segmentCount_4 (q := 7) rfl ?_
  refine g_aload_n C dX4_segmentCount_7 0 rfl rfl (q := 8) rfl ?_
  refine gf_X4_12 C dX4_segmentCount_8 (q := 11) rfl ?_
  refine g_iload_n C dX4_segmentCount_11 1 rfl rfl (q := 12) rfl ?_
  refine g_cVN_i C (As := [.int (iI r)]) (c_X3_countOf l E _ r  (by omega)) mn_X4_67 mf_X3_countOf (o := 1) (ci := 3) rfl rfl rfl rfl ⟨(Nat.le_of_ble_eq_true rfl), (Nat.le_of_ble_eq_true rfl)⟩ rfl rfl rfl (Nat.le_of_ble_eq_true rfl) ⟨(Nat.le_of_ble_eq_true rfl), (Nat.le_of_ble_eq_true rfl)⟩ dX4_segmentCount_12 (q := 15) rfl ?_
  exact hret _ _ _ dX4_segmentCount_15 rfl
abbrev rmx_X4_segmentCount : Room := { frames := 7, cells := 1, slots := 6, locals := 102 }
set_option maxRecDepth 100000 in
set_option maxHeartbeats 4000000 in
theorem x_X4_segmentCount_11 (l : Launch) (hst : l.stackTraces = false) (E : EV) (σ : SS) (r : Int) (hr_r : -2147483648 ≤ r ∧ r ≤ 2147483647) (hW : CW (σ 2)) (hF1 : fR r = 1) : Kx l yX4_segmentCount (cw yX4_segmentCount cX4_segmentCount 2 (some .int)) rmx_X4_segmentCount E [.ref (ea E 0), .int (iI r)] σ xIOOBE σ := by
  refine Kx_of (rm := rmx_X4_segmentCount) (mL := 2) (b := cX4_segmentCount) RX4 rfl (by decide +kernel) [(0, .ref (ea E 0)), (1, .int (iI r))] rfl (Nat.le_of_ble_eq_true rfl) (fun p_ e_ s_ m_ a_ b_ h_ c_ Q A C hne hQ => ?_)
  have hN := CW_N hW
  refine g_iload_n C dX4_segmentCount_0 1 rfl rfl (q := 1) rfl ?_
  refine g_cS_i C (As := [.int (iI r)]) (c_X4_reelFault l E _ r  (by omega)) ml_X4_59 mf_X4_reelFault rfl rfl ⟨(Nat.le_of_ble_eq_true rfl), (Nat.le_of_ble_eq_true rfl)⟩ rfl rfl rfl (Nat.le_of_ble_eq_true rfl) ⟨(Nat.le_of_ble_eq_true rfl), (Nat.le_of_ble_eq_true rfl)⟩ dX4_segmentCount_1 (q := 4) rfl ?_
  exact g_xS C hne (As := [.int (iI (fR r))]) (x_X4_raise_1 l hst E _ (fR r)  (by assumption)) ml_X4_63 mf_X4_raise rfl rfl ⟨(Nat.le_of_ble_eq_true rfl), (Nat.le_of_ble_eq_true rfl)⟩ rfl rfl rfl (Nat.le_of_ble_eq_true rfl) ⟨(Nat.le_of_ble_eq_true rfl), (Nat.le_of_ble_eq_true rfl)⟩ dX4_segmentCount_4 hQ
abbrev rm_X4_length : Room := { frames := 4, cells := 0, slots := 0, locals := 86 }
set_option maxRecDepth 100000 in
set_option maxHeartbeats 4000000 in
theorem c_X4_length (l : Launch) (E : EV) (σ : SS) (r p : Int) (hr_r : -2147483648 ≤ r ∧ r ≤ 2147483647) (hr_p : -2147483648 ≤ p ∧ p ≤ 2147483647) (hW : CW (σ 2)) (hF1 : fP (σ 2) r p = 0) : Ki l yX4_length (cw yX4_length cX4_length 3 (some .int)) rm_X4_length E [.ref (ea E 0), .int (iI r), .int (iI p)] σ ((σ 2) (r * 60 + p) / 8) σ := by
  refine Ki_of (rm := rm_X4_length) (mL := 3) (b := cX4_length) RX4 rfl (by decide +kernel) rfl rfl [(0, .ref (ea E 0)), (1, .int (iI r)), (2, .int (iI p))] rfl (Nat.le_of_ble_eq_true rfl) (fun p_ e_ s_ m_ a_ b_ h_ c_ Q A C hret => ?_)
  have hN := CW_N hW
  have hG_fP_0 := fP_0 hF1
  have hn := (hW r (by omega)).1
  have hs := (hW r (by omega)).2 p (by omega)
  refine g_aload_n C dX4_length_0 0 rfl rfl (q := 1) rfl ?_
  refine g_iload_n C dX4_length_1 1 rfl rfl (q := 2) rfl ?_
  refine g_iload_n C dX4_length_2 2 rfl rfl (q := 3) rfl ?_
  refine g_cV_i C (As := [.int (iI r), .int (iI p)]) (c_X4_positionFault l E _ r p  (by omega) (by omega) (by assumption)) ml_X4_70 mf_X4_positionFault (o := 0) (ci := 4) rfl rfl rfl rfl ⟨(Nat.le_of_ble_eq_true rfl), (Nat.le_of_ble_eq_true rfl)⟩ rfl rfl rfl (Nat.le_of_ble_eq_true rfl) ⟨(Nat.le_of_ble_eq_true rfl), (Nat.le_of_ble_eq_true rfl)⟩ dX4_length_3 (q := 6) rfl ?_
  refine g_cS_v C (As := [.int (iI (fP (σ 2) r p))]) (c_X4_raise l E _ (fP (σ 2) r p)  (by assumption)) ml_X4_63 mf_X4_raise rfl rfl ⟨(Nat.le_of_ble_eq_true rfl), (Nat.le_of_ble_eq_true rfl)⟩ rfl rfl rfl (Nat.le_of_ble_eq_true rfl) ⟨(Nat.le_of_ble_eq_true rfl), (Nat.le_of_ble_eq_true rfl)⟩ dX4_length_6 (q := 9) rfl ?_
  refine g_aload_n C dX4_length_9 0 rfl rfl (q := 10) rfl ?_
  refine gf_X4_12 C dX4_length_10 (q := 13) rfl ?_
  refine g_iload_n C dX4_length_13 1 rfl rfl (q := 14) rfl ?_
  refine g_iload_n C dX4_length_14 2 rfl rfl (q := 15) rfl ?_
  refine g_cVN_i C (As := [.int (iI r), .int (iI p)]) (c_X3_lengthAt l E _ r p  (by omega) (by omega) (by omega)) mn_X4_74 mf_X3_lengthAt (o := 1) (ci := 3) rfl rfl rfl rfl ⟨(Nat.le_of_ble_eq_true rfl), (Nat.le_of_ble_eq_true rfl)⟩ rfl rfl rfl (Nat.le_of_ble_eq_true rfl) ⟨(Nat.le_of_ble_eq_true rfl), (Nat.le_of_ble_eq_true rfl)⟩ dX4_length_15 (q := 18) rfl ?_
  exact hret _ _ _ dX4_length_18 rfl
abbrev rmx_X4_length : Room := { frames := 7, cells := 1, slots := 6, locals := 102 }
set_option maxRecDepth 100000 in
set_option maxHeartbeats 4000000 in
theorem x_X4_length_11 (l : Launch) (hst : l.stackTraces = false) (E : EV) (σ : SS) (r p : Int) (hr_r : -2147483648 ≤ r ∧ r ≤ 2147483647) (hr_p : -2147483648 ≤ p ∧ p ≤ 2147483647) (hW : CW (σ 2)) (hF1 : fP (σ 2) r p = 1) : Kx l yX4_length (cw yX4_length cX4_length 3 (some .int)) rmx_X4_length E [.ref (ea E 0), .int (iI r), .int (iI p)] σ xIOOBE σ := by
  refine Kx_of (rm := rmx_X4_length) (mL := 3) (b := cX4_length) RX4 rfl (by decide +kernel) [(0, .ref (ea E 0)), (1, .int (iI r)), (2, .int (iI p))] rfl (Nat.le_of_ble_eq_true rfl) (fun p_ e_ s_ m_ a_ b_ h_ c_ Q A C hne hQ => ?_)
  have hN := CW_N hW
  refine g_aload_n C dX4_length_0 0 rfl rfl (q := 1) rfl ?_
  refine g_iload_n C dX4_length_1 1 rfl rfl (q := 2) rfl ?_
  refine g_iload_n C dX4_length_2 2 rfl rfl (q := 3) rfl ?_
  refine g_cV_i C (As := [.int (iI r), .int (iI p)]) (c_X4_positionFault l E _ r p  (by omega) (by omega) (by assumption)) ml_X4_70 mf_X4_positionFault (o := 0) (ci := 4) rfl rfl rfl rfl ⟨(Nat.le_of_ble_eq_true rfl), (Nat.le_of_ble_eq_true rfl)⟩ rfl rfl rfl (Nat.le_of_ble_eq_true rfl) ⟨(Nat.le_of_ble_eq_true rfl), (Nat.le_of_ble_eq_true rfl)⟩ dX4_length_3 (q := 6) rfl ?_
  exact g_xS C hne (As := [.int (iI (fP (σ 2) r p))]) (x_X4_raise_1 l hst E _ (fP (σ 2) r p)  (by assumption)) ml_X4_63 mf_X4_raise rfl rfl ⟨(Nat.le_of_ble_eq_true rfl), (Nat.le_of_ble_eq_true rfl)⟩ rfl rfl rfl (Nat.le_of_ble_eq_true rfl) ⟨(Nat.le_of_ble_eq_true rfl), (Nat.le_of_ble_eq_true rfl)⟩ dX4_length_6 hQ
abbrev rm_X4_colour : Room := { frames := 4, cells := 0, slots := 0, locals := 86 }
set_option maxRecDepth 100000 in
set_option maxHeartbeats 4000000 in
theorem c_X4_colour (l : Launch) (E : EV) (σ : SS) (r p : Int) (hr_r : -2147483648 ≤ r ∧ r ≤ 2147483647) (hr_p : -2147483648 ≤ p ∧ p ≤ 2147483647) (hW : CW (σ 2)) (hF1 : fP (σ 2) r p = 0) : Ki l yX4_colour (cw yX4_colour cX4_colour 3 (some .int)) rm_X4_colour E [.ref (ea E 0), .int (iI r), .int (iI p)] σ ((σ 2) (r * 60 + p) % 8) σ := by
  refine Ki_of (rm := rm_X4_colour) (mL := 3) (b := cX4_colour) RX4 rfl (by decide +kernel) rfl rfl [(0, .ref (ea E 0)), (1, .int (iI r)), (2, .int (iI p))] rfl (Nat.le_of_ble_eq_true rfl) (fun p_ e_ s_ m_ a_ b_ h_ c_ Q A C hret => ?_)
  have hN := CW_N hW
  have hG_fP_0 := fP_0 hF1
  have hn := (hW r (by omega)).1
  have hs := (hW r (by omega)).2 p (by omega)
  refine g_aload_n C dX4_colour_0 0 rfl rfl (q := 1) rfl ?_
  refine g_iload_n C dX4_colour_1 1 rfl rfl (q := 2) rfl ?_
  refine g_iload_n C dX4_colour_2 2 rfl rfl (q := 3) rfl ?_
  refine g_cV_i C (As := [.int (iI r), .int (iI p)]) (c_X4_positionFault l E _ r p  (by omega) (by omega) (by assumption)) ml_X4_70 mf_X4_positionFault (o := 0) (ci := 4) rfl rfl rfl rfl ⟨(Nat.le_of_ble_eq_true rfl), (Nat.le_of_ble_eq_true rfl)⟩ rfl rfl rfl (Nat.le_of_ble_eq_true rfl) ⟨(Nat.le_of_ble_eq_true rfl), (Nat.le_of_ble_eq_true rfl)⟩ dX4_colour_3 (q := 6) rfl ?_
  refine g_cS_v C (As := [.int (iI (fP (σ 2) r p))]) (c_X4_raise l E _ (fP (σ 2) r p)  (by assumption)) ml_X4_63 mf_X4_raise rfl rfl ⟨(Nat.le_of_ble_eq_true rfl), (Nat.le_of_ble_eq_true rfl)⟩ rfl rfl rfl (Nat.le_of_ble_eq_true rfl) ⟨(Nat.le_of_ble_eq_true rfl), (Nat.le_of_ble_eq_true rfl)⟩ dX4_colour_6 (q := 9) rfl ?_
  refine g_aload_n C dX4_colour_9 0 rfl rfl (q := 10) rfl ?_
  refine gf_X4_12 C dX4_colour_10 (q := 13) rfl ?_
  refine g_iload_n C dX4_colour_13 1 rfl rfl (q := 14) rfl ?_
  refine g_iload_n C dX4_colour_14 2 rfl rfl (q := 15) rfl ?_
  refine g_cVN_i C (As := [.int (iI r), .int (iI p)]) (c_X3_colourAt l E _ r p  (by omega) (by omega) (by omega)) mn_X4_77 mf_X3_colourAt (o := 1) (ci := 3) rfl rfl rfl rfl ⟨(Nat.le_of_ble_eq_true rfl), (Nat.le_of_ble_eq_true rfl)⟩ rfl rfl rfl (Nat.le_of_ble_eq_true rfl) ⟨(Nat.le_of_ble_eq_true rfl), (Nat.le_of_ble_eq_true rfl)⟩ dX4_colour_15 (q := 18) rfl ?_
  exact hret _ _ _ dX4_colour_18 rfl
abbrev rmx_X4_colour : Room := { frames := 7, cells := 1, slots := 6, locals := 102 }
set_option maxRecDepth 100000 in
set_option maxHeartbeats 4000000 in
theorem x_X4_colour_11 (l : Launch) (hst : l.stackTraces = false) (E : EV) (σ : SS) (r p : Int) (hr_r : -2147483648 ≤ r ∧ r ≤ 2147483647) (hr_p : -2147483648 ≤ p ∧ p ≤ 2147483647) (hW : CW (σ 2)) (hF1 : fP (σ 2) r p = 1) : Kx l yX4_colour (cw yX4_colour cX4_colour 3 (some .int)) rmx_X4_colour E [.ref (ea E 0), .int (iI r), .int (iI p)] σ xIOOBE σ := by
  refine Kx_of (rm := rmx_X4_colour) (mL := 3) (b := cX4_colour) RX4 rfl (by decide +kernel) [(0, .ref (ea E 0)), (1, .int (iI r)), (2, .int (iI p))] rfl (Nat.le_of_ble_eq_true rfl) (fun p_ e_ s_ m_ a_ b_ h_ c_ Q A C hne hQ => ?_)
  have hN := CW_N hW
  refine g_aload_n C dX4_colour_0 0 rfl rfl (q := 1) rfl ?_
  refine g_iload_n C dX4_colour_1 1 rfl rfl (q := 2) rfl ?_
  refine g_iload_n C dX4_colour_2 2 rfl rfl (q := 3) rfl ?_
  refine g_cV_i C (As := [.int (iI r), .int (iI p)]) (c_X4_positionFault l E _ r p  (by omega) (by omega) (by assumption)) ml_X4_70 mf_X4_positionFault (o := 0) (ci := 4) rfl rfl rfl rfl ⟨(Nat.le_of_ble_eq_true rfl), (Nat.le_of_ble_eq_true rfl)⟩ rfl rfl rfl (Nat.le_of_ble_eq_true rfl) ⟨(Nat.le_of_ble_eq_true rfl), (Nat.le_of_ble_eq_true rfl)⟩ dX4_colour_3 (q := 6) rfl ?_
  exact g_xS C hne (As := [.int (iI (fP (σ 2) r p))]) (x_X4_raise_1 l hst E _ (fP (σ 2) r p)  (by assumption)) ml_X4_63 mf_X4_raise rfl rfl ⟨(Nat.le_of_ble_eq_true rfl), (Nat.le_of_ble_eq_true rfl)⟩ rfl rfl rfl (Nat.le_of_ble_eq_true rfl) ⟨(Nat.le_of_ble_eq_true rfl), (Nat.le_of_ble_eq_true rfl)⟩ dX4_colour_6 hQ
abbrev rm_X4_reelLength : Room := { frames := 6, cells := 0, slots := 0, locals := 136 }
set_option maxRecDepth 100000 in
set_option maxHeartbeats 4000000 in
theorem c_X4_reelLength (l : Launch) (E : EV) (σ : SS) (r : Int) (hr_r : -2147483648 ≤ r ∧ r ≤ 2147483647) (hW : CW (σ 2)) (hF1 : fR r = 0) : Ki l yX4_reelLength (cw yX4_reelLength cX4_reelLength 2 (some .int)) rm_X4_reelLength E [.ref (ea E 0), .int (iI r)] σ (sb (σ 2) r ((σ 2) (240 + r))) σ := by
  refine Ki_of (rm := rm_X4_reelLength) (mL := 2) (b := cX4_reelLength) RX4 rfl (by decide +kernel) rfl rfl [(0, .ref (ea E 0)), (1, .int (iI r))] rfl (Nat.le_of_ble_eq_true rfl) (fun p_ e_ s_ m_ a_ b_ h_ c_ Q A C hret => ?_)
  have hN := CW_N hW
  have hr := fR_0 hF1
  refine g_iload_n C dX4_reelLength_0 1 rfl rfl (q := 1) rfl ?_
  refine g_cS_i C (As := [.int (iI r)]) (c_X4_reelFault l E _ r  (by omega)) ml_X4_59 mf_X4_reelFault rfl rfl ⟨(Nat.le_of_ble_eq_true rfl), (Nat.le_of_ble_eq_true rfl)⟩ rfl rfl rfl (Nat.le_of_ble_eq_true rfl) ⟨(Nat.le_of_ble_eq_true rfl), (Nat.le_of_ble_eq_true rfl)⟩ dX4_reelLength_1 (q := 4) rfl ?_
  refine g_cS_v C (As := [.int (iI (fR r))]) (c_X4_raise l E _ (fR r)  (by assumption)) ml_X4_63 mf_X4_raise rfl rfl ⟨(Nat.le_of_ble_eq_true rfl), (Nat.le_of_ble_eq_true rfl)⟩ rfl rfl rfl (Nat.le_of_ble_eq_true rfl) ⟨(Nat.le_of_ble_eq_true rfl), (Nat.le_of_ble_eq_true rfl)⟩ dX4_reelLength_4 (q := 7) rfl ?_
  refine g_aload_n C dX4_reelLength_7 0 rfl rfl (q := 8) rfl ?_
  refine gf_X4_12 C dX4_reelLength_8 (q := 11) rfl ?_
  refine g_iload_n C dX4_reelLength_11 1 rfl rfl (q := 12) rfl ?_
  refine g_cVN_i C (As := [.int (iI r)]) (c_X3_lengthOf l E _ r  (by omega) (by assumption)) mn_X4_80 mf_X3_lengthOf (o := 1) (ci := 3) rfl rfl rfl rfl ⟨(Nat.le_of_ble_eq_true rfl), (Nat.le_of_ble_eq_true rfl)⟩ rfl rfl rfl (Nat.le_of_ble_eq_true rfl) ⟨(Nat.le_of_ble_eq_true rfl), (Nat.le_of_ble_eq_true rfl)⟩ dX4_reelLength_12 (q := 15) rfl ?_
  exact hret _ _ _ dX4_reelLength_15 rfl
abbrev rmx_X4_reelLength : Room := { frames := 7, cells := 1, slots := 6, locals := 102 }
set_option maxRecDepth 100000 in
set_option maxHeartbeats 4000000 in
theorem x_X4_reelLength_11 (l : Launch) (hst : l.stackTraces = false) (E : EV) (σ : SS) (r : Int) (hr_r : -2147483648 ≤ r ∧ r ≤ 2147483647) (hW : CW (σ 2)) (hF1 : fR r = 1) : Kx l yX4_reelLength (cw yX4_reelLength cX4_reelLength 2 (some .int)) rmx_X4_reelLength E [.ref (ea E 0), .int (iI r)] σ xIOOBE σ := by
  refine Kx_of (rm := rmx_X4_reelLength) (mL := 2) (b := cX4_reelLength) RX4 rfl (by decide +kernel) [(0, .ref (ea E 0)), (1, .int (iI r))] rfl (Nat.le_of_ble_eq_true rfl) (fun p_ e_ s_ m_ a_ b_ h_ c_ Q A C hne hQ => ?_)
  have hN := CW_N hW
  refine g_iload_n C dX4_reelLength_0 1 rfl rfl (q := 1) rfl ?_
  refine g_cS_i C (As := [.int (iI r)]) (c_X4_reelFault l E _ r  (by omega)) ml_X4_59 mf_X4_reelFault rfl rfl ⟨(Nat.le_of_ble_eq_true rfl), (Nat.le_of_ble_eq_true rfl)⟩ rfl rfl rfl (Nat.le_of_ble_eq_true rfl) ⟨(Nat.le_of_ble_eq_true rfl), (Nat.le_of_ble_eq_true rfl)⟩ dX4_reelLength_1 (q := 4) rfl ?_
  exact g_xS C hne (As := [.int (iI (fR r))]) (x_X4_raise_1 l hst E _ (fR r)  (by assumption)) ml_X4_63 mf_X4_raise rfl rfl ⟨(Nat.le_of_ble_eq_true rfl), (Nat.le_of_ble_eq_true rfl)⟩ rfl rfl rfl (Nat.le_of_ble_eq_true rfl) ⟨(Nat.le_of_ble_eq_true rfl), (Nat.le_of_ble_eq_true rfl)⟩ dX4_reelLength_4 hQ
abbrev rm_X4_lengthBefore : Room := { frames := 5, cells := 0, slots := 0, locals := 115 }
set_option maxRecDepth 100000 in
set_option maxHeartbeats 4000000 in
theorem c_X4_lengthBefore (l : Launch) (E : EV) (σ : SS) (r p : Int) (hr_r : -2147483648 ≤ r ∧ r ≤ 2147483647) (hr_p : -2147483648 ≤ p ∧ p ≤ 2147483647) (hW : CW (σ 2)) (hF1 : fB (σ 2) r p = 0) : Ki l yX4_lengthBefore (cw yX4_lengthBefore cX4_lengthBefore 3 (some .int)) rm_X4_lengthBefore E [.ref (ea E 0), .int (iI r), .int (iI p)] σ (sb (σ 2) r p) σ := by
  refine Ki_of (rm := rm_X4_lengthBefore) (mL := 3) (b := cX4_lengthBefore) RX4 rfl (by decide +kernel) rfl rfl [(0, .ref (ea E 0)), (1, .int (iI r)), (2, .int (iI p))] rfl (Nat.le_of_ble_eq_true rfl) (fun p_ e_ s_ m_ a_ b_ h_ c_ Q A C hret => ?_)
  have hN := CW_N hW
  have hG_fB_0 := fB_0 hF1
  refine g_aload_n C dX4_lengthBefore_0 0 rfl rfl (q := 1) rfl ?_
  refine g_iload_n C dX4_lengthBefore_1 1 rfl rfl (q := 2) rfl ?_
  refine g_iload_n C dX4_lengthBefore_2 2 rfl rfl (q := 3) rfl ?_
  refine g_cV_i C (As := [.int (iI r), .int (iI p)]) (c_X4_borderFault l E _ r p  (by omega) (by omega) (by assumption)) ml_X4_83 mf_X4_borderFault (o := 0) (ci := 4) rfl rfl rfl rfl ⟨(Nat.le_of_ble_eq_true rfl), (Nat.le_of_ble_eq_true rfl)⟩ rfl rfl rfl (Nat.le_of_ble_eq_true rfl) ⟨(Nat.le_of_ble_eq_true rfl), (Nat.le_of_ble_eq_true rfl)⟩ dX4_lengthBefore_3 (q := 6) rfl ?_
  refine g_cS_v C (As := [.int (iI (fB (σ 2) r p))]) (c_X4_raise l E _ (fB (σ 2) r p)  (by assumption)) ml_X4_63 mf_X4_raise rfl rfl ⟨(Nat.le_of_ble_eq_true rfl), (Nat.le_of_ble_eq_true rfl)⟩ rfl rfl rfl (Nat.le_of_ble_eq_true rfl) ⟨(Nat.le_of_ble_eq_true rfl), (Nat.le_of_ble_eq_true rfl)⟩ dX4_lengthBefore_6 (q := 9) rfl ?_
  refine g_aload_n C dX4_lengthBefore_9 0 rfl rfl (q := 10) rfl ?_
  refine gf_X4_12 C dX4_lengthBefore_10 (q := 13) rfl ?_
  refine g_iload_n C dX4_lengthBefore_13 1 rfl rfl (q := 14) rfl ?_
  refine g_iload_n C dX4_lengthBefore_14 2 rfl rfl (q := 15) rfl ?_
  refine g_cVN_i C (As := [.int (iI r), .int (iI p)]) (c_X3_sumBefore l E _ r p  (by omega) (by omega) (by assumption)) mn_X4_86 mf_X3_sumBefore (o := 1) (ci := 3) rfl rfl rfl rfl ⟨(Nat.le_of_ble_eq_true rfl), (Nat.le_of_ble_eq_true rfl)⟩ rfl rfl rfl (Nat.le_of_ble_eq_true rfl) ⟨(Nat.le_of_ble_eq_true rfl), (Nat.le_of_ble_eq_true rfl)⟩ dX4_lengthBefore_15 (q := 18) rfl ?_
  exact hret _ _ _ dX4_lengthBefore_18 rfl
abbrev rmx_X4_lengthBefore : Room := { frames := 7, cells := 1, slots := 6, locals := 102 }
set_option maxRecDepth 100000 in
set_option maxHeartbeats 4000000 in
theorem x_X4_lengthBefore_11 (l : Launch) (hst : l.stackTraces = false) (E : EV) (σ : SS) (r p : Int) (hr_r : -2147483648 ≤ r ∧ r ≤ 2147483647) (hr_p : -2147483648 ≤ p ∧ p ≤ 2147483647) (hW : CW (σ 2)) (hF1 : fB (σ 2) r p = 1) : Kx l yX4_lengthBefore (cw yX4_lengthBefore cX4_lengthBefore 3 (some .int)) rmx_X4_lengthBefore E [.ref (ea E 0), .int (iI r), .int (iI p)] σ xIOOBE σ := by
  refine Kx_of (rm := rmx_X4_lengthBefore) (mL := 3) (b := cX4_lengthBefore) RX4 rfl (by decide +kernel) [(0, .ref (ea E 0)), (1, .int (iI r)), (2, .int (iI p))] rfl (Nat.le_of_ble_eq_true rfl) (fun p_ e_ s_ m_ a_ b_ h_ c_ Q A C hne hQ => ?_)
  have hN := CW_N hW
  refine g_aload_n C dX4_lengthBefore_0 0 rfl rfl (q := 1) rfl ?_
  refine g_iload_n C dX4_lengthBefore_1 1 rfl rfl (q := 2) rfl ?_
  refine g_iload_n C dX4_lengthBefore_2 2 rfl rfl (q := 3) rfl ?_
  refine g_cV_i C (As := [.int (iI r), .int (iI p)]) (c_X4_borderFault l E _ r p  (by omega) (by omega) (by assumption)) ml_X4_83 mf_X4_borderFault (o := 0) (ci := 4) rfl rfl rfl rfl ⟨(Nat.le_of_ble_eq_true rfl), (Nat.le_of_ble_eq_true rfl)⟩ rfl rfl rfl (Nat.le_of_ble_eq_true rfl) ⟨(Nat.le_of_ble_eq_true rfl), (Nat.le_of_ble_eq_true rfl)⟩ dX4_lengthBefore_3 (q := 6) rfl ?_
  exact g_xS C hne (As := [.int (iI (fB (σ 2) r p))]) (x_X4_raise_1 l hst E _ (fB (σ 2) r p)  (by assumption)) ml_X4_63 mf_X4_raise rfl rfl ⟨(Nat.le_of_ble_eq_true rfl), (Nat.le_of_ble_eq_true rfl)⟩ rfl rfl rfl (Nat.le_of_ble_eq_true rfl) ⟨(Nat.le_of_ble_eq_true rfl), (Nat.le_of_ble_eq_true rfl)⟩ dX4_lengthBefore_6 hQ
abbrev rm_X4_lengthBeforeByScan : Room := { frames := 4, cells := 0, slots := 0, locals := 90 }
set_option maxRecDepth 100000 in
set_option maxHeartbeats 4000000 in
theorem c_X4_lengthBeforeByScan (l : Launch) (E : EV) (σ : SS) (r p : Int) (hr_r : -2147483648 ≤ r ∧ r ≤ 2147483647) (hr_p : -2147483648 ≤ p ∧ p ≤ 2147483647) (hW : CW (σ 2)) (hF1 : fB (σ 2) r p = 0) : Ki l yX4_lengthBeforeByScan (cw yX4_lengthBeforeByScan cX4_lengthBeforeByScan 3 (some .int)) rm_X4_lengthBeforeByScan E [.ref (ea E 0), .int (iI r), .int (iI p)] σ (sI (lgs (σ 2) r) 0 (p - 1 + 1)) σ := by
  refine Ki_of (rm := rm_X4_lengthBeforeByScan) (mL := 3) (b := cX4_lengthBeforeByScan) RX4 rfl (by decide +kernel) rfl rfl [(0, .ref (ea E 0)), (1, .int (iI r)), (2, .int (iI p))] rfl (Nat.le_of_ble_eq_true rfl) (fun p_ e_ s_ m_ a_ b_ h_ c_ Q A C hret => ?_)
  have hN := CW_N hW
  have hG_fB_0 := fB_0 hF1
  have hn := (hW r (by omega)).1
  refine g_aload_n C dX4_lengthBeforeByScan_0 0 rfl rfl (q := 1) rfl ?_
  refine g_iload_n C dX4_lengthBeforeByScan_1 1 rfl rfl (q := 2) rfl ?_
  refine g_iload_n C dX4_lengthBeforeByScan_2 2 rfl rfl (q := 3) rfl ?_
  refine g_cV_i C (As := [.int (iI r), .int (iI p)]) (c_X4_borderFault l E _ r p  (by omega) (by omega) (by assumption)) ml_X4_83 mf_X4_borderFault (o := 0) (ci := 4) rfl rfl rfl rfl ⟨(Nat.le_of_ble_eq_true rfl), (Nat.le_of_ble_eq_true rfl)⟩ rfl rfl rfl (Nat.le_of_ble_eq_true rfl) ⟨(Nat.le_of_ble_eq_true rfl), (Nat.le_of_ble_eq_true rfl)⟩ dX4_lengthBeforeByScan_3 (q := 6) rfl ?_
  refine g_cS_v C (As := [.int (iI (fB (σ 2) r p))]) (c_X4_raise l E _ (fB (σ 2) r p)  (by assumption)) ml_X4_63 mf_X4_raise rfl rfl ⟨(Nat.le_of_ble_eq_true rfl), (Nat.le_of_ble_eq_true rfl)⟩ rfl rfl rfl (Nat.le_of_ble_eq_true rfl) ⟨(Nat.le_of_ble_eq_true rfl), (Nat.le_of_ble_eq_true rfl)⟩ dX4_lengthBeforeByScan_6 (q := 9) rfl ?_
  refine g_aload_n C dX4_lengthBeforeByScan_9 0 rfl rfl (q := 10) rfl ?_
  refine gf_X4_12 C dX4_lengthBeforeByScan_10 (q := 13) rfl ?_
  refine g_iload_n C dX4_lengthBeforeByScan_13 1 rfl rfl (q := 14) rfl ?_
  refine g_iconst C dX4_lengthBeforeByScan_14 (q := 15) rfl ?_
  refine g_iload_n C dX4_lengthBeforeByScan_15 2 rfl rfl (q := 16) rfl ?_
  refine g_iconst C dX4_lengthBeforeByScan_16 (q := 17) rfl ?_
  refine g_isub C dX4_lengthBeforeByScan_17 (q := 18) rfl ?_
  refine g_cVN_i C (As := [.int (iI r), .int (iI 0), .int (iI (p - 1))]) (c_X3_sumOfRange l E _ r 0 (p - 1)  (by omega) (by omega) (by omega) (by assumption)) mn_X4_89 mf_X3_sumOfRange (o := 1) (ci := 3) rfl rfl rfl rfl ⟨(Nat.le_of_ble_eq_true rfl), (Nat.le_of_ble_eq_true rfl)⟩ rfl rfl rfl (Nat.le_of_ble_eq_true rfl) ⟨(Nat.le_of_ble_eq_true rfl), (Nat.le_of_ble_eq_true rfl)⟩ dX4_lengthBeforeByScan_18 (q := 21) rfl ?_
  exact hret _ _ _ dX4_lengthBeforeByScan_21 (by omega)
abbrev rmx_X4_lengthBeforeByScan : Room := { frames := 7, cells := 1, slots := 6, locals := 102 }
set_option maxRecDepth 100000 in
set_option maxHeartbeats 4000000 in
theorem x_X4_lengthBeforeByScan_11 (l : Launch) (hst : l.stackTraces = false) (E : EV) (σ : SS) (r p : Int) (hr_r : -2147483648 ≤ r ∧ r ≤ 2147483647) (hr_p : -2147483648 ≤ p ∧ p ≤ 2147483647) (hW : CW (σ 2)) (hF1 : fB (σ 2) r p = 1) : Kx l yX4_lengthBeforeByScan (cw yX4_lengthBeforeByScan cX4_lengthBeforeByScan 3 (some .int)) rmx_X4_lengthBeforeByScan E [.ref (ea E 0), .int (iI r), .int (iI p)] σ xIOOBE σ := by
  refine Kx_of (rm := rmx_X4_lengthBeforeByScan) (mL := 3) (b := cX4_lengthBeforeByScan) RX4 rfl (by decide +kernel) [(0, .ref (ea E 0)), (1, .int (iI r)), (2, .int (iI p))] rfl (Nat.le_of_ble_eq_true rfl) (fun p_ e_ s_ m_ a_ b_ h_ c_ Q A C hne hQ => ?_)
  have hN := CW_N hW
  refine g_aload_n C dX4_lengthBeforeByScan_0 0 rfl rfl (q := 1) rfl ?_
  refine g_iload_n C dX4_lengthBeforeByScan_1 1 rfl rfl (q := 2) rfl ?_
  refine g_iload_n C dX4_lengthBeforeByScan_2 2 rfl rfl (q := 3) rfl ?_
  refine g_cV_i C (As := [.int (iI r), .int (iI p)]) (c_X4_borderFault l E _ r p  (by omega) (by omega) (by assumption)) ml_X4_83 mf_X4_borderFault (o := 0) (ci := 4) rfl rfl rfl rfl ⟨(Nat.le_of_ble_eq_true rfl), (Nat.le_of_ble_eq_true rfl)⟩ rfl rfl rfl (Nat.le_of_ble_eq_true rfl) ⟨(Nat.le_of_ble_eq_true rfl), (Nat.le_of_ble_eq_true rfl)⟩ dX4_lengthBeforeByScan_3 (q := 6) rfl ?_
  exact g_xS C hne (As := [.int (iI (fB (σ 2) r p))]) (x_X4_raise_1 l hst E _ (fB (σ 2) r p)  (by assumption)) ml_X4_63 mf_X4_raise rfl rfl ⟨(Nat.le_of_ble_eq_true rfl), (Nat.le_of_ble_eq_true rfl)⟩ rfl rfl rfl (Nat.le_of_ble_eq_true rfl) ⟨(Nat.le_of_ble_eq_true rfl), (Nat.le_of_ble_eq_true rfl)⟩ dX4_lengthBeforeByScan_6 hQ
abbrev rm_X4_positionAt : Room := { frames := 4, cells := 0, slots := 0, locals := 89 }
set_option maxRecDepth 100000 in
set_option maxHeartbeats 4000000 in
theorem c_X4_positionAt (l : Launch) (E : EV) (σ : SS) (r p : Int) (hr_r : -2147483648 ≤ r ∧ r ≤ 2147483647) (hr_p : -2147483648 ≤ p ∧ p ≤ 2147483647) (hW : CW (σ 2)) (hF1 : fR r = 0) (hne : po (σ 2) r p ≠ -1) : Ki l yX4_positionAt (cw yX4_positionAt cX4_positionAt 3 (some .int)) rm_X4_positionAt E [.ref (ea E 0), .int (iI r), .int (iI p)] σ (po (σ 2) r p) σ := by
  refine Ki_of (rm := rm_X4_positionAt) (mL := 3) (b := cX4_positionAt) RX4 rfl (by decide +kernel) rfl rfl [(0, .ref (ea E 0)), (1, .int (iI r)), (2, .int (iI p))] rfl (Nat.le_of_ble_eq_true rfl) (fun p_ e_ s_ m_ a_ b_ h_ c_ Q A C hret => ?_)
  have hN := CW_N hW
  have hr := fR_0 hF1
  refine g_iload_n C dX4_positionAt_0 1 rfl rfl (q := 1) rfl ?_
  refine g_cS_i C (As := [.int (iI r)]) (c_X4_reelFault l E _ r  (by omega)) ml_X4_59 mf_X4_reelFault rfl rfl ⟨(Nat.le_of_ble_eq_true rfl), (Nat.le_of_ble_eq_true rfl)⟩ rfl rfl rfl (Nat.le_of_ble_eq_true rfl) ⟨(Nat.le_of_ble_eq_true rfl), (Nat.le_of_ble_eq_true rfl)⟩ dX4_positionAt_1 (q := 4) rfl ?_
  refine g_cS_v C (As := [.int (iI (fR r))]) (c_X4_raise l E _ (fR r)  (by assumption)) ml_X4_63 mf_X4_raise rfl rfl ⟨(Nat.le_of_ble_eq_true rfl), (Nat.le_of_ble_eq_true rfl)⟩ rfl rfl rfl (Nat.le_of_ble_eq_true rfl) ⟨(Nat.le_of_ble_eq_true rfl), (Nat.le_of_ble_eq_true rfl)⟩ dX4_positionAt_4 (q := 7) rfl ?_
  refine g_aload_n C dX4_positionAt_7 0 rfl rfl (q := 8) rfl ?_
  refine gf_X4_12 C dX4_positionAt_8 (q := 11) rfl ?_
  refine g_iload_n C dX4_positionAt_11 1 rfl rfl (q := 12) rfl ?_
  refine g_iload_n C dX4_positionAt_12 2 rfl rfl (q := 13) rfl ?_
  refine g_cVN_i C (As := [.int (iI r), .int (iI p)]) (c_X3_positionOfOffset l E _ r p  (by omega) (by omega) (by assumption)) mn_X4_93 mf_X3_positionOfOffset (o := 1) (ci := 3) rfl rfl rfl rfl ⟨(Nat.le_of_ble_eq_true rfl), (Nat.le_of_ble_eq_true rfl)⟩ rfl rfl rfl (Nat.le_of_ble_eq_true rfl) ⟨(Nat.le_of_ble_eq_true rfl), (Nat.le_of_ble_eq_true rfl)⟩ dX4_positionAt_13 (q := 16) rfl ?_
  refine g_cS_i C (As := [.int (iI (po (σ 2) r p))]) (c_X4_found l E _ (po (σ 2) r p)  (by have hg := po_rg hW hr p; omega) (by assumption)) ml_X4_96 mf_X4_found rfl rfl ⟨(Nat.le_of_ble_eq_true rfl), (Nat.le_of_ble_eq_true rfl)⟩ rfl rfl rfl (Nat.le_of_ble_eq_true rfl) ⟨(Nat.le_of_ble_eq_true rfl), (Nat.le_of_ble_eq_true rfl)⟩ dX4_positionAt_16 (q := 19) rfl ?_
  exact hret _ _ _ dX4_positionAt_19 rfl
abbrev rmx_X4_positionAt : Room := { frames := 7, cells := 1, slots := 6, locals := 102 }
set_option maxRecDepth 100000 in
set_option maxHeartbeats 4000000 in
theorem x_X4_positionAt_11 (l : Launch) (hst : l.stackTraces = false) (E : EV) (σ : SS) (r p : Int) (hr_r : -2147483648 ≤ r ∧ r ≤ 2147483647) (hr_p : -2147483648 ≤ p ∧ p ≤ 2147483647) (hW : CW (σ 2)) (hF1 : fR r = 1) : Kx l yX4_positionAt (cw yX4_positionAt cX4_positionAt 3 (some .int)) rmx_X4_positionAt E [.ref (ea E 0), .int (iI r), .int (iI p)] σ xIOOBE σ := by
  refine Kx_of (rm := rmx_X4_positionAt) (mL := 3) (b := cX4_positionAt) RX4 rfl (by decide +kernel) [(0, .ref (ea E 0)), (1, .int (iI r)), (2, .int (iI p))] rfl (Nat.le_of_ble_eq_true rfl) (fun p_ e_ s_ m_ a_ b_ h_ c_ Q A C hne hQ => ?_)
  have hN := CW_N hW
  refine g_iload_n C dX4_positionAt_0 1 rfl rfl (q := 1) rfl ?_
  refine g_cS_i C (As := [.int (iI r)]) (c_X4_reelFault l E _ r  (by omega)) ml_X4_59 mf_X4_reelFault rfl rfl ⟨(Nat.le_of_ble_eq_true rfl), (Nat.le_of_ble_eq_true rfl)⟩ rfl rfl rfl (Nat.le_of_ble_eq_true rfl) ⟨(Nat.le_of_ble_eq_true rfl), (Nat.le_of_ble_eq_true rfl)⟩ dX4_positionAt_1 (q := 4) rfl ?_
  exact g_xS C hne (As := [.int (iI (fR r))]) (x_X4_raise_1 l hst E _ (fR r)  (by assumption)) ml_X4_63 mf_X4_raise rfl rfl ⟨(Nat.le_of_ble_eq_true rfl), (Nat.le_of_ble_eq_true rfl)⟩ rfl rfl rfl (Nat.le_of_ble_eq_true rfl) ⟨(Nat.le_of_ble_eq_true rfl), (Nat.le_of_ble_eq_true rfl)⟩ dX4_positionAt_4 hQ
set_option maxRecDepth 100000 in
set_option maxHeartbeats 4000000 in
theorem x_X4_positionAt_n (l : Launch) (hst : l.stackTraces = false) (E : EV) (σ : SS) (r p : Int) (hr_r : -2147483648 ≤ r ∧ r ≤ 2147483647) (hr_p : -2147483648 ≤ p ∧ p ≤ 2147483647) (hW : CW (σ 2)) (hF1 : fR r = 0) (hne : po (σ 2) r p = -1) : Kx l yX4_positionAt (cw yX4_positionAt cX4_positionAt 3 (some .int)) rmx_X4_positionAt E [.ref (ea E 0), .int (iI r), .int (iI p)] σ xNSEE σ := by
  refine Kx_of (rm := rmx_X4_positionAt) (mL := 3) (b := cX4_positionAt) RX4 rfl (by decide +kernel) [(0, .ref (ea E 0)), (1, .int (iI r)), (2, .int (iI p))] rfl (Nat.le_of_ble_eq_true rfl) (fun p_ e_ s_ m_ a_ b_ h_ c_ Q A C hne hQ => ?_)
  have hN := CW_N hW
  have hr := fR_0 hF1
  refine g_iload_n C dX4_positionAt_0 1 rfl rfl (q := 1) rfl ?_
  refine g_cS_i C (As := [.int (iI r)]) (c_X4_reelFault l E _ r  (by omega)) ml_X4_59 mf_X4_reelFault rfl rfl ⟨(Nat.le_of_ble_eq_true rfl), (Nat.le_of_ble_eq_true rfl)⟩ rfl rfl rfl (Nat.le_of_ble_eq_true rfl) ⟨(Nat.le_of_ble_eq_true rfl), (Nat.le_of_ble_eq_true rfl)⟩ dX4_positionAt_1 (q := 4) rfl ?_
  refine g_cS_v C (As := [.int (iI (fR r))]) (c_X4_raise l E _ (fR r)  (by assumption)) ml_X4_63 mf_X4_raise rfl rfl ⟨(Nat.le_of_ble_eq_true rfl), (Nat.le_of_ble_eq_true rfl)⟩ rfl rfl rfl (Nat.le_of_ble_eq_true rfl) ⟨(Nat.le_of_ble_eq_true rfl), (Nat.le_of_ble_eq_true rfl)⟩ dX4_positionAt_4 (q := 7) rfl ?_
  refine g_aload_n C dX4_positionAt_7 0 rfl rfl (q := 8) rfl ?_
  refine gf_X4_12 C dX4_positionAt_8 (q := 11) rfl ?_
  refine g_iload_n C dX4_positionAt_11 1 rfl rfl (q := 12) rfl ?_
  refine g_iload_n C dX4_positionAt_12 2 rfl rfl (q := 13) rfl ?_
  refine g_cVN_i C (As := [.int (iI r), .int (iI p)]) (c_X3_positionOfOffset l E _ r p  (by omega) (by omega) (by assumption)) mn_X4_93 mf_X3_positionOfOffset (o := 1) (ci := 3) rfl rfl rfl rfl ⟨(Nat.le_of_ble_eq_true rfl), (Nat.le_of_ble_eq_true rfl)⟩ rfl rfl rfl (Nat.le_of_ble_eq_true rfl) ⟨(Nat.le_of_ble_eq_true rfl), (Nat.le_of_ble_eq_true rfl)⟩ dX4_positionAt_13 (q := 16) rfl ?_
  exact g_xS C hne (As := [.int (iI (po (σ 2) r p))]) (x_X4_found_n l hst E _ (po (σ 2) r p)  (by have hg := po_rg hW hr p; omega)) ml_X4_96 mf_X4_found rfl rfl ⟨(Nat.le_of_ble_eq_true rfl), (Nat.le_of_ble_eq_true rfl)⟩ rfl rfl rfl (Nat.le_of_ble_eq_true rfl) ⟨(Nat.le_of_ble_eq_true rfl), (Nat.le_of_ble_eq_true rfl)⟩ dX4_positionAt_16 hQ
abbrev rm_X4_rangeLength : Room := { frames := 4, cells := 0, slots := 0, locals := 90 }
set_option maxRecDepth 100000 in
set_option maxHeartbeats 4000000 in
theorem c_X4_rangeLength (l : Launch) (E : EV) (σ : SS) (r x y : Int) (hr_r : -2147483648 ≤ r ∧ r ≤ 2147483647) (hr_x : -2147483648 ≤ x ∧ x ≤ 2147483647) (hr_y : -2147483648 ≤ y ∧ y ≤ 2147483647) (hW : CW (σ 2)) (hF1 : fX (σ 2) r x y = 0) : Ki l yX4_rangeLength (cw yX4_rangeLength cX4_rangeLength 4 (some .int)) rm_X4_rangeLength E [.ref (ea E 0), .int (iI r), .int (iI x), .int (iI y)] σ (sI (lgs (σ 2) r) x (y + 1)) σ := by
  refine Ki_of (rm := rm_X4_rangeLength) (mL := 4) (b := cX4_rangeLength) RX4 rfl (by decide +kernel) rfl rfl [(0, .ref (ea E 0)), (1, .int (iI r)), (2, .int (iI x)), (3, .int (iI y))] rfl (Nat.le_of_ble_eq_true rfl) (fun p_ e_ s_ m_ a_ b_ h_ c_ Q A C hret => ?_)
  have hN := CW_N hW
  have hG_fX_0 := fX_0 hF1
  have hn := (hW r (by omega)).1
  refine g_aload_n C dX4_rangeLength_0 0 rfl rfl (q := 1) rfl ?_
  refine g_iload_n C dX4_rangeLength_1 1 rfl rfl (q := 2) rfl ?_
  refine g_iload_n C dX4_rangeLength_2 2 rfl rfl (q := 3) rfl ?_
  refine g_iload_n C dX4_rangeLength_3 3 rfl rfl (q := 4) rfl ?_
  refine g_cV_i C (As := [.int (iI r), .int (iI x), .int (iI y)]) (c_X4_rangeFault l E _ r x y  (by omega) (by omega) (by omega) (by assumption)) ml_X4_99 mf_X4_rangeFault (o := 0) (ci := 4) rfl rfl rfl rfl ⟨(Nat.le_of_ble_eq_true rfl), (Nat.le_of_ble_eq_true rfl)⟩ rfl rfl rfl (Nat.le_of_ble_eq_true rfl) ⟨(Nat.le_of_ble_eq_true rfl), (Nat.le_of_ble_eq_true rfl)⟩ dX4_rangeLength_4 (q := 7) rfl ?_
  refine g_cS_v C (As := [.int (iI (fX (σ 2) r x y))]) (c_X4_raise l E _ (fX (σ 2) r x y)  (by assumption)) ml_X4_63 mf_X4_raise rfl rfl ⟨(Nat.le_of_ble_eq_true rfl), (Nat.le_of_ble_eq_true rfl)⟩ rfl rfl rfl (Nat.le_of_ble_eq_true rfl) ⟨(Nat.le_of_ble_eq_true rfl), (Nat.le_of_ble_eq_true rfl)⟩ dX4_rangeLength_7 (q := 10) rfl ?_
  refine g_aload_n C dX4_rangeLength_10 0 rfl rfl (q := 11) rfl ?_
  refine gf_X4_12 C dX4_rangeLength_11 (q := 14) rfl ?_
  refine g_iload_n C dX4_rangeLength_14 1 rfl rfl (q := 15) rfl ?_
  refine g_iload_n C dX4_rangeLength_15 2 rfl rfl (q := 16) rfl ?_
  refine g_iload_n C dX4_rangeLength_16 3 rfl rfl (q := 17) rfl ?_
  refine g_cVN_i C (As := [.int (iI r), .int (iI x), .int (iI y)]) (c_X3_sumOfRange l E _ r x y  (by omega) (by omega) (by omega) (by assumption)) mn_X4_89 mf_X3_sumOfRange (o := 1) (ci := 3) rfl rfl rfl rfl ⟨(Nat.le_of_ble_eq_true rfl), (Nat.le_of_ble_eq_true rfl)⟩ rfl rfl rfl (Nat.le_of_ble_eq_true rfl) ⟨(Nat.le_of_ble_eq_true rfl), (Nat.le_of_ble_eq_true rfl)⟩ dX4_rangeLength_17 (q := 20) rfl ?_
  exact hret _ _ _ dX4_rangeLength_20 rfl
abbrev rmx_X4_rangeLength : Room := { frames := 7, cells := 1, slots := 6, locals := 102 }
set_option maxRecDepth 100000 in
set_option maxHeartbeats 4000000 in
theorem x_X4_rangeLength_11 (l : Launch) (hst : l.stackTraces = false) (E : EV) (σ : SS) (r x y : Int) (hr_r : -2147483648 ≤ r ∧ r ≤ 2147483647) (hr_x : -2147483648 ≤ x ∧ x ≤ 2147483647) (hr_y : -2147483648 ≤ y ∧ y ≤ 2147483647) (hW : CW (σ 2)) (hF1 : fX (σ 2) r x y = 1) : Kx l yX4_rangeLength (cw yX4_rangeLength cX4_rangeLength 4 (some .int)) rmx_X4_rangeLength E [.ref (ea E 0), .int (iI r), .int (iI x), .int (iI y)] σ xIOOBE σ := by
  refine Kx_of (rm := rmx_X4_rangeLength) (mL := 4) (b := cX4_rangeLength) RX4 rfl (by decide +kernel) [(0, .ref (ea E 0)), (1, .int (iI r)), (2, .int (iI x)), (3, .int (iI y))] rfl (Nat.le_of_ble_eq_true rfl) (fun p_ e_ s_ m_ a_ b_ h_ c_ Q A C hne hQ => ?_)
  have hN := CW_N hW
  refine g_aload_n C dX4_rangeLength_0 0 rfl rfl (q := 1) rfl ?_
  refine g_iload_n C dX4_rangeLength_1 1 rfl rfl (q := 2) rfl ?_
  refine g_iload_n C dX4_rangeLength_2 2 rfl rfl (q := 3) rfl ?_
  refine g_iload_n C dX4_rangeLength_3 3 rfl rfl (q := 4) rfl ?_
  refine g_cV_i C (As := [.int (iI r), .int (iI x), .int (iI y)]) (c_X4_rangeFault l E _ r x y  (by omega) (by omega) (by omega) (by assumption)) ml_X4_99 mf_X4_rangeFault (o := 0) (ci := 4) rfl rfl rfl rfl ⟨(Nat.le_of_ble_eq_true rfl), (Nat.le_of_ble_eq_true rfl)⟩ rfl rfl rfl (Nat.le_of_ble_eq_true rfl) ⟨(Nat.le_of_ble_eq_true rfl), (Nat.le_of_ble_eq_true rfl)⟩ dX4_rangeLength_4 (q := 7) rfl ?_
  exact g_xS C hne (As := [.int (iI (fX (σ 2) r x y))]) (x_X4_raise_1 l hst E _ (fX (σ 2) r x y)  (by assumption)) ml_X4_63 mf_X4_raise rfl rfl ⟨(Nat.le_of_ble_eq_true rfl), (Nat.le_of_ble_eq_true rfl)⟩ rfl rfl rfl (Nat.le_of_ble_eq_true rfl) ⟨(Nat.le_of_ble_eq_true rfl), (Nat.le_of_ble_eq_true rfl)⟩ dX4_rangeLength_7 hQ
set_option maxRecDepth 100000 in
set_option maxHeartbeats 4000000 in
theorem x_X4_rangeLength_12 (l : Launch) (hst : l.stackTraces = false) (E : EV) (σ : SS) (r x y : Int) (hr_r : -2147483648 ≤ r ∧ r ≤ 2147483647) (hr_x : -2147483648 ≤ x ∧ x ≤ 2147483647) (hr_y : -2147483648 ≤ y ∧ y ≤ 2147483647) (hW : CW (σ 2)) (hF1 : fX (σ 2) r x y = 2) : Kx l yX4_rangeLength (cw yX4_rangeLength cX4_rangeLength 4 (some .int)) rmx_X4_rangeLength E [.ref (ea E 0), .int (iI r), .int (iI x), .int (iI y)] σ xIAE σ := by
  refine Kx_of (rm := rmx_X4_rangeLength) (mL := 4) (b := cX4_rangeLength) RX4 rfl (by decide +kernel) [(0, .ref (ea E 0)), (1, .int (iI r)), (2, .int (iI x)), (3, .int (iI y))] rfl (Nat.le_of_ble_eq_true rfl) (fun p_ e_ s_ m_ a_ b_ h_ c_ Q A C hne hQ => ?_)
  have hN := CW_N hW
  refine g_aload_n C dX4_rangeLength_0 0 rfl rfl (q := 1) rfl ?_
  refine g_iload_n C dX4_rangeLength_1 1 rfl rfl (q := 2) rfl ?_
  refine g_iload_n C dX4_rangeLength_2 2 rfl rfl (q := 3) rfl ?_
  refine g_iload_n C dX4_rangeLength_3 3 rfl rfl (q := 4) rfl ?_
  refine g_cV_i C (As := [.int (iI r), .int (iI x), .int (iI y)]) (c_X4_rangeFault l E _ r x y  (by omega) (by omega) (by omega) (by assumption)) ml_X4_99 mf_X4_rangeFault (o := 0) (ci := 4) rfl rfl rfl rfl ⟨(Nat.le_of_ble_eq_true rfl), (Nat.le_of_ble_eq_true rfl)⟩ rfl rfl rfl (Nat.le_of_ble_eq_true rfl) ⟨(Nat.le_of_ble_eq_true rfl), (Nat.le_of_ble_eq_true rfl)⟩ dX4_rangeLength_4 (q := 7) rfl ?_
  exact g_xS C hne (As := [.int (iI (fX (σ 2) r x y))]) (x_X4_raise_2 l hst E _ (fX (σ 2) r x y)  (by assumption)) ml_X4_63 mf_X4_raise rfl rfl ⟨(Nat.le_of_ble_eq_true rfl), (Nat.le_of_ble_eq_true rfl)⟩ rfl rfl rfl (Nat.le_of_ble_eq_true rfl) ⟨(Nat.le_of_ble_eq_true rfl), (Nat.le_of_ble_eq_true rfl)⟩ dX4_rangeLength_7 hQ
abbrev rm_X4_longestInRange : Room := { frames := 4, cells := 0, slots := 0, locals := 90 }
set_option maxRecDepth 100000 in
set_option maxHeartbeats 4000000 in
theorem c_X4_longestInRange (l : Launch) (E : EV) (σ : SS) (r x y : Int) (hr_r : -2147483648 ≤ r ∧ r ≤ 2147483647) (hr_x : -2147483648 ≤ x ∧ x ≤ 2147483647) (hr_y : -2147483648 ≤ y ∧ y ≤ 2147483647) (hW : CW (σ 2)) (hF1 : fX (σ 2) r x y = 0) : Ki l yX4_longestInRange (cw yX4_longestInRange cX4_longestInRange 4 (some .int)) rm_X4_longestInRange E [.ref (ea E 0), .int (iI r), .int (iI x), .int (iI y)] σ (mI (lgs (σ 2) r) x (x + 1) (y + 1)) σ := by
  refine Ki_of (rm := rm_X4_longestInRange) (mL := 4) (b := cX4_longestInRange) RX4 rfl (by decide +kernel) rfl rfl [(0, .ref (ea E 0)), (1, .int (iI r)), (2, .int (iI x)), (3, .int (iI y))] rfl (Nat.le_of_ble_eq_true rfl) (fun p_ e_ s_ m_ a_ b_ h_ c_ Q A C hret => ?_)
  have hN := CW_N hW
  have hG_fX_0 := fX_0 hF1
  have hn := (hW r (by omega)).1
  refine g_aload_n C dX4_longestInRange_0 0 rfl rfl (q := 1) rfl ?_
  refine g_iload_n C dX4_longestInRange_1 1 rfl rfl (q := 2) rfl ?_
  refine g_iload_n C dX4_longestInRange_2 2 rfl rfl (q := 3) rfl ?_
  refine g_iload_n C dX4_longestInRange_3 3 rfl rfl (q := 4) rfl ?_
  refine g_cV_i C (As := [.int (iI r), .int (iI x), .int (iI y)]) (c_X4_rangeFault l E _ r x y  (by omega) (by omega) (by omega) (by assumption)) ml_X4_99 mf_X4_rangeFault (o := 0) (ci := 4) rfl rfl rfl rfl ⟨(Nat.le_of_ble_eq_true rfl), (Nat.le_of_ble_eq_true rfl)⟩ rfl rfl rfl (Nat.le_of_ble_eq_true rfl) ⟨(Nat.le_of_ble_eq_true rfl), (Nat.le_of_ble_eq_true rfl)⟩ dX4_longestInRange_4 (q := 7) rfl ?_
  refine g_cS_v C (As := [.int (iI (fX (σ 2) r x y))]) (c_X4_raise l E _ (fX (σ 2) r x y)  (by assumption)) ml_X4_63 mf_X4_raise rfl rfl ⟨(Nat.le_of_ble_eq_true rfl), (Nat.le_of_ble_eq_true rfl)⟩ rfl rfl rfl (Nat.le_of_ble_eq_true rfl) ⟨(Nat.le_of_ble_eq_true rfl), (Nat.le_of_ble_eq_true rfl)⟩ dX4_longestInRange_7 (q := 10) rfl ?_
  refine g_aload_n C dX4_longestInRange_10 0 rfl rfl (q := 11) rfl ?_
  refine gf_X4_12 C dX4_longestInRange_11 (q := 14) rfl ?_
  refine g_iload_n C dX4_longestInRange_14 1 rfl rfl (q := 15) rfl ?_
  refine g_iload_n C dX4_longestInRange_15 2 rfl rfl (q := 16) rfl ?_
  refine g_iload_n C dX4_longestInRange_16 3 rfl rfl (q := 17) rfl ?_
  refine g_cVN_i C (As := [.int (iI r), .int (iI x), .int (iI y)]) (c_X3_longestOfRange l E _ r x y  (by omega) (by omega) (by omega) (by assumption)) mn_X4_102 mf_X3_longestOfRange (o := 1) (ci := 3) rfl rfl rfl rfl ⟨(Nat.le_of_ble_eq_true rfl), (Nat.le_of_ble_eq_true rfl)⟩ rfl rfl rfl (Nat.le_of_ble_eq_true rfl) ⟨(Nat.le_of_ble_eq_true rfl), (Nat.le_of_ble_eq_true rfl)⟩ dX4_longestInRange_17 (q := 20) rfl ?_
  exact hret _ _ _ dX4_longestInRange_20 rfl
abbrev rmx_X4_longestInRange : Room := { frames := 7, cells := 1, slots := 6, locals := 102 }
set_option maxRecDepth 100000 in
set_option maxHeartbeats 4000000 in
theorem x_X4_longestInRange_11 (l : Launch) (hst : l.stackTraces = false) (E : EV) (σ : SS) (r x y : Int) (hr_r : -2147483648 ≤ r ∧ r ≤ 2147483647) (hr_x : -2147483648 ≤ x ∧ x ≤ 2147483647) (hr_y : -2147483648 ≤ y ∧ y ≤ 2147483647) (hW : CW (σ 2)) (hF1 : fX (σ 2) r x y = 1) : Kx l yX4_longestInRange (cw yX4_longestInRange cX4_longestInRange 4 (some .int)) rmx_X4_longestInRange E [.ref (ea E 0), .int (iI r), .int (iI x), .int (iI y)] σ xIOOBE σ := by
  refine Kx_of (rm := rmx_X4_longestInRange) (mL := 4) (b := cX4_longestInRange) RX4 rfl (by decide +kernel) [(0, .ref (ea E 0)), (1, .int (iI r)), (2, .int (iI x)), (3, .int (iI y))] rfl (Nat.le_of_ble_eq_true rfl) (fun p_ e_ s_ m_ a_ b_ h_ c_ Q A C hne hQ => ?_)
  have hN := CW_N hW
  refine g_aload_n C dX4_longestInRange_0 0 rfl rfl (q := 1) rfl ?_
  refine g_iload_n C dX4_longestInRange_1 1 rfl rfl (q := 2) rfl ?_
  refine g_iload_n C dX4_longestInRange_2 2 rfl rfl (q := 3) rfl ?_
  refine g_iload_n C dX4_longestInRange_3 3 rfl rfl (q := 4) rfl ?_
  refine g_cV_i C (As := [.int (iI r), .int (iI x), .int (iI y)]) (c_X4_rangeFault l E _ r x y  (by omega) (by omega) (by omega) (by assumption)) ml_X4_99 mf_X4_rangeFault (o := 0) (ci := 4) rfl rfl rfl rfl ⟨(Nat.le_of_ble_eq_true rfl), (Nat.le_of_ble_eq_true rfl)⟩ rfl rfl rfl (Nat.le_of_ble_eq_true rfl) ⟨(Nat.le_of_ble_eq_true rfl), (Nat.le_of_ble_eq_true rfl)⟩ dX4_longestInRange_4 (q := 7) rfl ?_
  exact g_xS C hne (As := [.int (iI (fX (σ 2) r x y))]) (x_X4_raise_1 l hst E _ (fX (σ 2) r x y)  (by assumption)) ml_X4_63 mf_X4_raise rfl rfl ⟨(Nat.le_of_ble_eq_true rfl), (Nat.le_of_ble_eq_true rfl)⟩ rfl rfl rfl (Nat.le_of_ble_eq_true rfl) ⟨(Nat.le_of_ble_eq_true rfl), (Nat.le_of_ble_eq_true rfl)⟩ dX4_longestInRange_7 hQ
set_option maxRecDepth 100000 in
set_option maxHeartbeats 4000000 in
theorem x_X4_longestInRange_12 (l : Launch) (hst : l.stackTraces = false) (E : EV) (σ : SS) (r x y : Int) (hr_r : -2147483648 ≤ r ∧ r ≤ 2147483647) (hr_x : -2147483648 ≤ x ∧ x ≤ 2147483647) (hr_y : -2147483648 ≤ y ∧ y ≤ 2147483647) (hW : CW (σ 2)) (hF1 : fX (σ 2) r x y = 2) : Kx l yX4_longestInRange (cw yX4_longestInRange cX4_longestInRange 4 (some .int)) rmx_X4_longestInRange E [.ref (ea E 0), .int (iI r), .int (iI x), .int (iI y)] σ xIAE σ := by
  refine Kx_of (rm := rmx_X4_longestInRange) (mL := 4) (b := cX4_longestInRange) RX4 rfl (by decide +kernel) [(0, .ref (ea E 0)), (1, .int (iI r)), (2, .int (iI x)), (3, .int (iI y))] rfl (Nat.le_of_ble_eq_true rfl) (fun p_ e_ s_ m_ a_ b_ h_ c_ Q A C hne hQ => ?_)
  have hN := CW_N hW
  refine g_aload_n C dX4_longestInRange_0 0 rfl rfl (q := 1) rfl ?_
  refine g_iload_n C dX4_longestInRange_1 1 rfl rfl (q := 2) rfl ?_
  refine g_iload_n C dX4_longestInRange_2 2 rfl rfl (q := 3) rfl ?_
  refine g_iload_n C dX4_longestInRange_3 3 rfl rfl (q := 4) rfl ?_
  refine g_cV_i C (As := [.int (iI r), .int (iI x), .int (iI y)]) (c_X4_rangeFault l E _ r x y  (by omega) (by omega) (by omega) (by assumption)) ml_X4_99 mf_X4_rangeFault (o := 0) (ci := 4) rfl rfl rfl rfl ⟨(Nat.le_of_ble_eq_true rfl), (Nat.le_of_ble_eq_true rfl)⟩ rfl rfl rfl (Nat.le_of_ble_eq_true rfl) ⟨(Nat.le_of_ble_eq_true rfl), (Nat.le_of_ble_eq_true rfl)⟩ dX4_longestInRange_4 (q := 7) rfl ?_
  exact g_xS C hne (As := [.int (iI (fX (σ 2) r x y))]) (x_X4_raise_2 l hst E _ (fX (σ 2) r x y)  (by assumption)) ml_X4_63 mf_X4_raise rfl rfl ⟨(Nat.le_of_ble_eq_true rfl), (Nat.le_of_ble_eq_true rfl)⟩ rfl rfl rfl (Nat.le_of_ble_eq_true rfl) ⟨(Nat.le_of_ble_eq_true rfl), (Nat.le_of_ble_eq_true rfl)⟩ dX4_longestInRange_7 hQ
abbrev rm_X4_segmentAtRank : Room := { frames := 5, cells := 0, slots := 0, locals := 114 }
set_option maxRecDepth 100000 in
set_option maxHeartbeats 4000000 in
theorem c_X4_segmentAtRank (l : Launch) (E : EV) (σ : SS) (r p : Int) (hr_r : -2147483648 ≤ r ∧ r ≤ 2147483647) (hr_p : -2147483648 ≤ p ∧ p ≤ 2147483647) (hW : CW (σ 2)) (hF1 : fR r = 0) (hne : fI (rkP (σ 2) r p) 0 ((σ 2) (240 + r)) ≠ -1) : Ki l yX4_segmentAtRank (cw yX4_segmentAtRank cX4_segmentAtRank 3 (some .int)) rm_X4_segmentAtRank E [.ref (ea E 0), .int (iI r), .int (iI p)] σ (fI (rkP (σ 2) r p) 0 ((σ 2) (240 + r))) σ := by
  refine Ki_of (rm := rm_X4_segmentAtRank) (mL := 3) (b := cX4_segmentAtRank) RX4 rfl (by decide +kernel) rfl rfl [(0, .ref (ea E 0)), (1, .int (iI r)), (2, .int (iI p))] rfl (Nat.le_of_ble_eq_true rfl) (fun p_ e_ s_ m_ a_ b_ h_ c_ Q A C hret => ?_)
  have hN := CW_N hW
  have hr := fR_0 hF1
  have hn := (hW r (by omega)).1
  refine g_iload_n C dX4_segmentAtRank_0 1 rfl rfl (q := 1) rfl ?_
  refine g_cS_i C (As := [.int (iI r)]) (c_X4_reelFault l E _ r  (by omega)) ml_X4_59 mf_X4_reelFault rfl rfl ⟨(Nat.le_of_ble_eq_true rfl), (Nat.le_of_ble_eq_true rfl)⟩ rfl rfl rfl (Nat.le_of_ble_eq_true rfl) ⟨(Nat.le_of_ble_eq_true rfl), (Nat.le_of_ble_eq_true rfl)⟩ dX4_segmentAtRank_1 (q := 4) rfl ?_
  refine g_cS_v C (As := [.int (iI (fR r))]) (c_X4_raise l E _ (fR r)  (by assumption)) ml_X4_63 mf_X4_raise rfl rfl ⟨(Nat.le_of_ble_eq_true rfl), (Nat.le_of_ble_eq_true rfl)⟩ rfl rfl rfl (Nat.le_of_ble_eq_true rfl) ⟨(Nat.le_of_ble_eq_true rfl), (Nat.le_of_ble_eq_true rfl)⟩ dX4_segmentAtRank_4 (q := 7) rfl ?_
  refine g_aload_n C dX4_segmentAtRank_7 0 rfl rfl (q := 8) rfl ?_
  refine gf_X4_12 C dX4_segmentAtRank_8 (q := 11) rfl ?_
  refine g_iload_n C dX4_segmentAtRank_11 1 rfl rfl (q := 12) rfl ?_
  refine g_iload_n C dX4_segmentAtRank_12 2 rfl rfl (q := 13) rfl ?_
  refine g_cVN_i C (As := [.int (iI r), .int (iI p)]) (c_X3_positionOfRank l E _ r p  (by omega) (by omega) (by assumption)) mn_X4_105 mf_X3_positionOfRank (o := 1) (ci := 3) rfl rfl rfl rfl ⟨(Nat.le_of_ble_eq_true rfl), (Nat.le_of_ble_eq_true rfl)⟩ rfl rfl rfl (Nat.le_of_ble_eq_true rfl) ⟨(Nat.le_of_ble_eq_true rfl), (Nat.le_of_ble_eq_true rfl)⟩ dX4_segmentAtRank_13 (q := 16) rfl ?_
  refine g_cS_i C (As := [.int (iI (fI (rkP (σ 2) r p) 0 ((σ 2) (240 + r))))]) (c_X4_found l E _ (fI (rkP (σ 2) r p) 0 ((σ 2) (240 + r)))  (by have hg := fI_rg2 (P := rkP (σ 2) r p) (a := 0) (b := σ 2 (240 + r)) (by omega); omega) (by assumption)) ml_X4_96 mf_X4_found rfl rfl ⟨(Nat.le_of_ble_eq_true rfl), (Nat.le_of_ble_eq_true rfl)⟩ rfl rfl rfl (Nat.le_of_ble_eq_true rfl) ⟨(Nat.le_of_ble_eq_true rfl), (Nat.le_of_ble_eq_true rfl)⟩ dX4_segmentAtRank_16 (q := 19) rfl ?_
  exact hret _ _ _ dX4_segmentAtRank_19 rfl
abbrev rmx_X4_segmentAtRank : Room := { frames := 7, cells := 1, slots := 6, locals := 114 }
set_option maxRecDepth 100000 in
set_option maxHeartbeats 4000000 in
theorem x_X4_segmentAtRank_11 (l : Launch) (hst : l.stackTraces = false) (E : EV) (σ : SS) (r p : Int) (hr_r : -2147483648 ≤ r ∧ r ≤ 2147483647) (hr_p : -2147483648 ≤ p ∧ p ≤ 2147483647) (hW : CW (σ 2)) (hF1 : fR r = 1) : Kx l yX4_segmentAtRank (cw yX4_segmentAtRank cX4_segmentAtRank 3 (some .int)) rmx_X4_segmentAtRank E [.ref (ea E 0), .int (iI r), .int (iI p)] σ xIOOBE σ := by
  refine Kx_of (rm := rmx_X4_segmentAtRank) (mL := 3) (b := cX4_segmentAtRank) RX4 rfl (by decide +kernel) [(0, .ref (ea E 0)), (1, .int (iI r)), (2, .int (iI p))] rfl (Nat.le_of_ble_eq_true rfl) (fun p_ e_ s_ m_ a_ b_ h_ c_ Q A C hne hQ => ?_)
  have hN := CW_N hW
  refine g_iload_n C dX4_segmentAtRank_0 1 rfl rfl (q := 1) rfl ?_
  refine g_cS_i C (As := [.int (iI r)]) (c_X4_reelFault l E _ r  (by omega)) ml_X4_59 mf_X4_reelFault rfl rfl ⟨(Nat.le_of_ble_eq_true rfl), (Nat.le_of_ble_eq_true rfl)⟩ rfl rfl rfl (Nat.le_of_ble_eq_true rfl) ⟨(Nat.le_of_ble_eq_true rfl), (Nat.le_of_ble_eq_true rfl)⟩ dX4_segmentAtRank_1 (q := 4) rfl ?_
  exact g_xS C hne (As := [.int (iI (fR r))]) (x_X4_raise_1 l hst E _ (fR r)  (by assumption)) ml_X4_63 mf_X4_raise rfl rfl ⟨(Nat.le_of_ble_eq_true rfl), (Nat.le_of_ble_eq_true rfl)⟩ rfl rfl rfl (Nat.le_of_ble_eq_true rfl) ⟨(Nat.le_of_ble_eq_true rfl), (Nat.le_of_ble_eq_true rfl)⟩ dX4_segmentAtRank_4 hQ
set_option maxRecDepth 100000 in
set_option maxHeartbeats 4000000 in
theorem x_X4_segmentAtRank_n (l : Launch) (hst : l.stackTraces = false) (E : EV) (σ : SS) (r p : Int) (hr_r : -2147483648 ≤ r ∧ r ≤ 2147483647) (hr_p : -2147483648 ≤ p ∧ p ≤ 2147483647) (hW : CW (σ 2)) (hF1 : fR r = 0) (hne : fI (rkP (σ 2) r p) 0 ((σ 2) (240 + r)) = -1) : Kx l yX4_segmentAtRank (cw yX4_segmentAtRank cX4_segmentAtRank 3 (some .int)) rmx_X4_segmentAtRank E [.ref (ea E 0), .int (iI r), .int (iI p)] σ xNSEE σ := by
  refine Kx_of (rm := rmx_X4_segmentAtRank) (mL := 3) (b := cX4_segmentAtRank) RX4 rfl (by decide +kernel) [(0, .ref (ea E 0)), (1, .int (iI r)), (2, .int (iI p))] rfl (Nat.le_of_ble_eq_true rfl) (fun p_ e_ s_ m_ a_ b_ h_ c_ Q A C hne hQ => ?_)
  have hN := CW_N hW
  have hr := fR_0 hF1
  have hn := (hW r (by omega)).1
  refine g_iload_n C dX4_segmentAtRank_0 1 rfl rfl (q := 1) rfl ?_
  refine g_cS_i C (As := [.int (iI r)]) (c_X4_reelFault l E _ r  (by omega)) ml_X4_59 mf_X4_reelFault rfl rfl ⟨(Nat.le_of_ble_eq_true rfl), (Nat.le_of_ble_eq_true rfl)⟩ rfl rfl rfl (Nat.le_of_ble_eq_true rfl) ⟨(Nat.le_of_ble_eq_true rfl), (Nat.le_of_ble_eq_true rfl)⟩ dX4_segmentAtRank_1 (q := 4) rfl ?_
  refine g_cS_v C (As := [.int (iI (fR r))]) (c_X4_raise l E _ (fR r)  (by assumption)) ml_X4_63 mf_X4_raise rfl rfl ⟨(Nat.le_of_ble_eq_true rfl), (Nat.le_of_ble_eq_true rfl)⟩ rfl rfl rfl (Nat.le_of_ble_eq_true rfl) ⟨(Nat.le_of_ble_eq_true rfl), (Nat.le_of_ble_eq_true rfl)⟩ dX4_segmentAtRank_4 (q := 7) rfl ?_
  refine g_aload_n C dX4_segmentAtRank_7 0 rfl rfl (q := 8) rfl ?_
  refine gf_X4_12 C dX4_segmentAtRank_8 (q := 11) rfl ?_
  refine g_iload_n C dX4_segmentAtRank_11 1 rfl rfl (q := 12) rfl ?_
  refine g_iload_n C dX4_segmentAtRank_12 2 rfl rfl (q := 13) rfl ?_
  refine g_cVN_i C (As := [.int (iI r), .int (iI p)]) (c_X3_positionOfRank l E _ r p  (by omega) (by omega) (by assumption)) mn_X4_105 mf_X3_positionOfRank (o := 1) (ci := 3) rfl rfl rfl rfl ⟨(Nat.le_of_ble_eq_true rfl), (Nat.le_of_ble_eq_true rfl)⟩ rfl rfl rfl (Nat.le_of_ble_eq_true rfl) ⟨(Nat.le_of_ble_eq_true rfl), (Nat.le_of_ble_eq_true rfl)⟩ dX4_segmentAtRank_13 (q := 16) rfl ?_
  exact g_xS C hne (As := [.int (iI (fI (rkP (σ 2) r p) 0 ((σ 2) (240 + r))))]) (x_X4_found_n l hst E _ (fI (rkP (σ 2) r p) 0 ((σ 2) (240 + r)))  (by have hg := fI_rg2 (P := rkP (σ 2) r p) (a := 0) (b := σ 2 (240 + r)) (by omega); omega)) ml_X4_96 mf_X4_found rfl rfl ⟨(Nat.le_of_ble_eq_true rfl), (Nat.le_of_ble_eq_true rfl)⟩ rfl rfl rfl (Nat.le_of_ble_eq_true rfl) ⟨(Nat.le_of_ble_eq_true rfl), (Nat.le_of_ble_eq_true rfl)⟩ dX4_segmentAtRank_16 hQ
abbrev rm_X4_tangleCount : Room := { frames := 5, cells := 0, slots := 0, locals := 110 }
set_option maxRecDepth 100000 in
set_option maxHeartbeats 4000000 in
theorem c_X4_tangleCount (l : Launch) (E : EV) (σ : SS) (r : Int) (hr_r : -2147483648 ≤ r ∧ r ≤ 2147483647) (hW : CW (σ 2)) (hF1 : fR r = 0) : Ki l yX4_tangleCount (cw yX4_tangleCount cX4_tangleCount 2 (some .int)) rm_X4_tangleCount E [.ref (ea E 0), .int (iI r)] σ (tt (σ 2) r) σ := by
  refine Ki_of (rm := rm_X4_tangleCount) (mL := 2) (b := cX4_tangleCount) RX4 rfl (by decide +kernel) rfl rfl [(0, .ref (ea E 0)), (1, .int (iI r))] rfl (Nat.le_of_ble_eq_true rfl) (fun p_ e_ s_ m_ a_ b_ h_ c_ Q A C hret => ?_)
  have hN := CW_N hW
  have hr := fR_0 hF1
  refine g_iload_n C dX4_tangleCount_0 1 rfl rfl (q := 1) rfl ?_
  refine g_cS_i C (As := [.int (iI r)]) (c_X4_reelFault l E _ r  (by omega)) ml_X4_59 mf_X4_reelFault rfl rfl ⟨(Nat.le_of_ble_eq_true rfl), (Nat.le_of_ble_eq_true rfl)⟩ rfl rfl rfl (Nat.le_of_ble_eq_true rfl) ⟨(Nat.le_of_ble_eq_true rfl), (Nat.le_of_ble_eq_true rfl)⟩ dX4_tangleCount_1 (q := 4) rfl ?_
  refine g_cS_v C (As := [.int (iI (fR r))]) (c_X4_raise l E _ (fR r)  (by assumption)) ml_X4_63 mf_X4_raise rfl rfl ⟨(Nat.le_of_ble_eq_true rfl), (Nat.le_of_ble_eq_true rfl)⟩ rfl rfl rfl (Nat.le_of_ble_eq_true rfl) ⟨(Nat.le_of_ble_eq_true rfl), (Nat.le_of_ble_eq_true rfl)⟩ dX4_tangleCount_4 (q := 7) rfl ?_
  refine g_aload_n C dX4_tangleCount_7 0 rfl rfl (q := 8) rfl ?_
  refine gf_X4_12 C dX4_tangleCount_8 (q := 11) rfl ?_
  refine g_iload_n C dX4_tangleCount_11 1 rfl rfl (q := 12) rfl ?_
  refine g_cVN_i C (As := [.int (iI r)]) (c_X3_tanglesOf l E _ r  (by omega) (by assumption)) mn_X4_108 mf_X3_tanglesOf (o := 1) (ci := 3) rfl rfl rfl rfl ⟨(Nat.le_of_ble_eq_true rfl), (Nat.le_of_ble_eq_true rfl)⟩ rfl rfl rfl (Nat.le_of_ble_eq_true rfl) ⟨(Nat.le_of_ble_eq_true rfl), (Nat.le_of_ble_eq_true rfl)⟩ dX4_tangleCount_12 (q := 15) rfl ?_
  exact hret _ _ _ dX4_tangleCount_15 rfl
abbrev rmx_X4_tangleCount : Room := { frames := 7, cells := 1, slots := 6, locals := 102 }
set_option maxRecDepth 100000 in
set_option maxHeartbeats 4000000 in
theorem x_X4_tangleCount_11 (l : Launch) (hst : l.stackTraces = false) (E : EV) (σ : SS) (r : Int) (hr_r : -2147483648 ≤ r ∧ r ≤ 2147483647) (hW : CW (σ 2)) (hF1 : fR r = 1) : Kx l yX4_tangleCount (cw yX4_tangleCount cX4_tangleCount 2 (some .int)) rmx_X4_tangleCount E [.ref (ea E 0), .int (iI r)] σ xIOOBE σ := by
  refine Kx_of (rm := rmx_X4_tangleCount) (mL := 2) (b := cX4_tangleCount) RX4 rfl (by decide +kernel) [(0, .ref (ea E 0)), (1, .int (iI r))] rfl (Nat.le_of_ble_eq_true rfl) (fun p_ e_ s_ m_ a_ b_ h_ c_ Q A C hne hQ => ?_)
  have hN := CW_N hW
  refine g_iload_n C dX4_tangleCount_0 1 rfl rfl (q := 1) rfl ?_
  refine g_cS_i C (As := [.int (iI r)]) (c_X4_reelFault l E _ r  (by omega)) ml_X4_59 mf_X4_reelFault rfl rfl ⟨(Nat.le_of_ble_eq_true rfl), (Nat.le_of_ble_eq_true rfl)⟩ rfl rfl rfl (Nat.le_of_ble_eq_true rfl) ⟨(Nat.le_of_ble_eq_true rfl), (Nat.le_of_ble_eq_true rfl)⟩ dX4_tangleCount_1 (q := 4) rfl ?_
  exact g_xS C hne (As := [.int (iI (fR r))]) (x_X4_raise_1 l hst E _ (fR r)  (by assumption)) ml_X4_63 mf_X4_raise rfl rfl ⟨(Nat.le_of_ble_eq_true rfl), (Nat.le_of_ble_eq_true rfl)⟩ rfl rfl rfl (Nat.le_of_ble_eq_true rfl) ⟨(Nat.le_of_ble_eq_true rfl), (Nat.le_of_ble_eq_true rfl)⟩ dX4_tangleCount_4 hQ
abbrev rm_X4_tangleCountByScan : Room := { frames := 5, cells := 0, slots := 0, locals := 110 }
set_option maxRecDepth 100000 in
set_option maxHeartbeats 4000000 in
theorem c_X4_tangleCountByScan (l : Launch) (E : EV) (σ : SS) (r : Int) (hr_r : -2147483648 ≤ r ∧ r ≤ 2147483647) (hW : CW (σ 2)) (hF1 : fR r = 0) : Ki l yX4_tangleCountByScan (cw yX4_tangleCountByScan cX4_tangleCountByScan 2 (some .int)) rm_X4_tangleCountByScan E [.ref (ea E 0), .int (iI r)] σ (tbs (σ 2) r) σ := by
  refine Ki_of (rm := rm_X4_tangleCountByScan) (mL := 2) (b := cX4_tangleCountByScan) RX4 rfl (by decide +kernel) rfl rfl [(0, .ref (ea E 0)), (1, .int (iI r))] rfl (Nat.le_of_ble_eq_true rfl) (fun p_ e_ s_ m_ a_ b_ h_ c_ Q A C hret => ?_)
  have hN := CW_N hW
  have hr := fR_0 hF1
  refine g_iload_n C dX4_tangleCountByScan_0 1 rfl rfl (q := 1) rfl ?_
  refine g_cS_i C (As := [.int (iI r)]) (c_X4_reelFault l E _ r  (by omega)) ml_X4_59 mf_X4_reelFault rfl rfl ⟨(Nat.le_of_ble_eq_true rfl), (Nat.le_of_ble_eq_true rfl)⟩ rfl rfl rfl (Nat.le_of_ble_eq_true rfl) ⟨(Nat.le_of_ble_eq_true rfl), (Nat.le_of_ble_eq_true rfl)⟩ dX4_tangleCountByScan_1 (q := 4) rfl ?_
  refine g_cS_v C (As := [.int (iI (fR r))]) (c_X4_raise l E _ (fR r)  (by assumption)) ml_X4_63 mf_X4_raise rfl rfl ⟨(Nat.le_of_ble_eq_true rfl), (Nat.le_of_ble_eq_true rfl)⟩ rfl rfl rfl (Nat.le_of_ble_eq_true rfl) ⟨(Nat.le_of_ble_eq_true rfl), (Nat.le_of_ble_eq_true rfl)⟩ dX4_tangleCountByScan_4 (q := 7) rfl ?_
  refine g_aload_n C dX4_tangleCountByScan_7 0 rfl rfl (q := 8) rfl ?_
  refine gf_X4_12 C dX4_tangleCountByScan_8 (q := 11) rfl ?_
  refine g_iload_n C dX4_tangleCountByScan_11 1 rfl rfl (q := 12) rfl ?_
  refine g_cVN_i C (As := [.int (iI r)]) (c_X3_tanglesByScan l E _ r  (by omega) (by assumption)) mn_X4_111 mf_X3_tanglesByScan (o := 1) (ci := 3) rfl rfl rfl rfl ⟨(Nat.le_of_ble_eq_true rfl), (Nat.le_of_ble_eq_true rfl)⟩ rfl rfl rfl (Nat.le_of_ble_eq_true rfl) ⟨(Nat.le_of_ble_eq_true rfl), (Nat.le_of_ble_eq_true rfl)⟩ dX4_tangleCountByScan_12 (q := 15) rfl ?_
  exact hret _ _ _ dX4_tangleCountByScan_15 rfl
abbrev rmx_X4_tangleCountByScan : Room := { frames := 7, cells := 1, slots := 6, locals := 102 }
set_option maxRecDepth 100000 in
set_option maxHeartbeats 4000000 in
theorem x_X4_tangleCountByScan_11 (l : Launch) (hst : l.stackTraces = false) (E : EV) (σ : SS) (r : Int) (hr_r : -2147483648 ≤ r ∧ r ≤ 2147483647) (hW : CW (σ 2)) (hF1 : fR r = 1) : Kx l yX4_tangleCountByScan (cw yX4_tangleCountByScan cX4_tangleCountByScan 2 (some .int)) rmx_X4_tangleCountByScan E [.ref (ea E 0), .int (iI r)] σ xIOOBE σ := by
  refine Kx_of (rm := rmx_X4_tangleCountByScan) (mL := 2) (b := cX4_tangleCountByScan) RX4 rfl (by decide +kernel) [(0, .ref (ea E 0)), (1, .int (iI r))] rfl (Nat.le_of_ble_eq_true rfl) (fun p_ e_ s_ m_ a_ b_ h_ c_ Q A C hne hQ => ?_)
  have hN := CW_N hW
  refine g_iload_n C dX4_tangleCountByScan_0 1 rfl rfl (q := 1) rfl ?_
  refine g_cS_i C (As := [.int (iI r)]) (c_X4_reelFault l E _ r  (by omega)) ml_X4_59 mf_X4_reelFault rfl rfl ⟨(Nat.le_of_ble_eq_true rfl), (Nat.le_of_ble_eq_true rfl)⟩ rfl rfl rfl (Nat.le_of_ble_eq_true rfl) ⟨(Nat.le_of_ble_eq_true rfl), (Nat.le_of_ble_eq_true rfl)⟩ dX4_tangleCountByScan_1 (q := 4) rfl ?_
  exact g_xS C hne (As := [.int (iI (fR r))]) (x_X4_raise_1 l hst E _ (fR r)  (by assumption)) ml_X4_63 mf_X4_raise rfl rfl ⟨(Nat.le_of_ble_eq_true rfl), (Nat.le_of_ble_eq_true rfl)⟩ rfl rfl rfl (Nat.le_of_ble_eq_true rfl) ⟨(Nat.le_of_ble_eq_true rfl), (Nat.le_of_ble_eq_true rfl)⟩ dX4_tangleCountByScan_4 hQ
abbrev rm_X4_isTangled : Room := { frames := 4, cells := 0, slots := 0, locals := 87 }
set_option maxRecDepth 100000 in
set_option maxHeartbeats 4000000 in
theorem c_X4_isTangled (l : Launch) (E : EV) (σ : SS) (r p : Int) (hr_r : -2147483648 ≤ r ∧ r ≤ 2147483647) (hr_p : -2147483648 ≤ p ∧ p ≤ 2147483647) (hW : CW (σ 2)) (hF1 : fP (σ 2) r p = 0) : Ki l yX4_isTangled (cw yX4_isTangled cX4_isTangled 3 (some .boolean)) rm_X4_isTangled E [.ref (ea E 0), .int (iI r), .int (iI p)] σ (iT (σ 2) r p) σ := by
  refine Kz_of (rm := rm_X4_isTangled) (mL := 3) (b := cX4_isTangled) RX4 rfl (by decide +kernel) rfl rfl [(0, .ref (ea E 0)), (1, .int (iI r)), (2, .int (iI p))] rfl (Nat.le_of_ble_eq_true rfl) (fun p_ e_ s_ m_ a_ b_ h_ c_ Q A C hret => ?_)
  have hN := CW_N hW
  have hG_fP_0 := fP_0 hF1
  have hn := (hW r (by omega)).1
  have ht1 := tg_01 (σ 2) r (p - 1)
  have ht2 := tg_01 (σ 2) r p
  refine g_aload_n C dX4_isTangled_0 0 rfl rfl (q := 1) rfl ?_
  refine g_iload_n C dX4_isTangled_1 1 rfl rfl (q := 2) rfl ?_
  refine g_iload_n C dX4_isTangled_2 2 rfl rfl (q := 3) rfl ?_
  refine g_cV_i C (As := [.int (iI r), .int (iI p)]) (c_X4_positionFault l E _ r p  (by omega) (by omega) (by assumption)) ml_X4_70 mf_X4_positionFault (o := 0) (ci := 4) rfl rfl rfl rfl ⟨(Nat.le_of_ble_eq_true rfl), (Nat.le_of_ble_eq_true rfl)⟩ rfl rfl rfl (Nat.le_of_ble_eq_true rfl) ⟨(Nat.le_of_ble_eq_true rfl), (Nat.le_of_ble_eq_true rfl)⟩ dX4_isTangled_3 (q := 6) rfl ?_
  refine g_cS_v C (As := [.int (iI (fP (σ 2) r p))]) (c_X4_raise l E _ (fP (σ 2) r p)  (by assumption)) ml_X4_63 mf_X4_raise rfl rfl ⟨(Nat.le_of_ble_eq_true rfl), (Nat.le_of_ble_eq_true rfl)⟩ rfl rfl rfl (Nat.le_of_ble_eq_true rfl) ⟨(Nat.le_of_ble_eq_true rfl), (Nat.le_of_ble_eq_true rfl)⟩ dX4_isTangled_6 (q := 9) rfl ?_
  refine g_aload_n C dX4_isTangled_9 0 rfl rfl (q := 10) rfl ?_
  refine gf_X4_12 C dX4_isTangled_10 (q := 13) rfl ?_
  refine g_iload_n C dX4_isTangled_13 1 rfl rfl (q := 14) rfl ?_
  refine g_iload_n C dX4_isTangled_14 2 rfl rfl (q := 15) rfl ?_
  refine g_iconst C dX4_isTangled_15 (q := 16) rfl ?_
  refine g_isub C dX4_isTangled_16 (q := 17) rfl ?_
  refine g_cVN_i C (As := [.int (iI r), .int (iI (p - 1))]) (c_X3_areTangled l E _ r (p - 1)  (by omega) (by omega) (by assumption)) mn_X4_114 mf_X3_areTangled (o := 1) (ci := 3) rfl rfl rfl rfl ⟨(Nat.le_of_ble_eq_true rfl), (Nat.le_of_ble_eq_true rfl)⟩ rfl rfl rfl (Nat.le_of_ble_eq_true rfl) ⟨(Nat.le_of_ble_eq_true rfl), (Nat.le_of_ble_eq_true rfl)⟩ dX4_isTangled_17 (q := 20) rfl ?_
  refine g_if_ne C dX4_isTangled_20 (by omega) (q2 := 35) rfl (q := 23) rfl (fun hb1 => ?_) (fun hb1 => ?_)
  · skip
    refine g_iconst C dX4_isTangled_35 (q := 36) rfl ?_
    refine g_goto C dX4_isTangled_36 (q := 40) rfl ?_
    exact hret _ _ _ dX4_isTangled_40 (by omega) (by unfold iT; first | rw [if_pos (by omega)] | rw [if_neg (by omega)])
  · skip
    refine g_aload_n C dX4_isTangled_23 0 rfl rfl (q := 24) rfl ?_
    refine gf_X4_12 C dX4_isTangled_24 (q := 27) rfl ?_
    refine g_iload_n C dX4_isTangled_27 1 rfl rfl (q := 28) rfl ?_
    refine g_iload_n C dX4_isTangled_28 2 rfl rfl (q := 29) rfl ?_
    refine g_cVN_i C (As := [.int (iI r), .int (iI p)]) (c_X3_areTangled l E _ r p  (by omega) (by omega) (by assumption)) mn_X4_114 mf_X3_areTangled (o := 1) (ci := 3) rfl rfl rfl rfl ⟨(Nat.le_of_ble_eq_true rfl), (Nat.le_of_ble_eq_true rfl)⟩ rfl rfl rfl (Nat.le_of_ble_eq_true rfl) ⟨(Nat.le_of_ble_eq_true rfl), (Nat.le_of_ble_eq_true rfl)⟩ dX4_isTangled_29 (q := 32) rfl ?_
    refine g_if_eq C dX4_isTangled_32 (by omega) (q2 := 39) rfl (q := 35) rfl (fun hb2 => ?_) (fun hb2 => ?_)
    · skip
      refine g_iconst C dX4_isTangled_39 (q := 40) rfl ?_
      exact hret _ _ _ dX4_isTangled_40 (by omega) (by unfold iT; first | rw [if_pos (by omega)] | rw [if_neg (by omega)])
    · skip
      refine g_iconst C dX4_isTangled_35 (q := 36) rfl ?_
      refine g_goto C dX4_isTangled_36 (q := 40) rfl ?_
      exact hret _ _ _ dX4_isTangled_40 (by omega) (by unfold iT; first | rw [if_pos (by omega)] | rw [if_neg (by omega)])
abbrev rmx_X4_isTangled : Room := { frames := 7, cells := 1, slots := 6, locals := 102 }
set_option maxRecDepth 100000 in
set_option maxHeartbeats 4000000 in
theorem x_X4_isTangled_11 (l : Launch) (hst : l.stackTraces = false) (E : EV) (σ : SS) (r p : Int) (hr_r : -2147483648 ≤ r ∧ r ≤ 2147483647) (hr_p : -2147483648 ≤ p ∧ p ≤ 2147483647) (hW : CW (σ 2)) (hF1 : fP (σ 2) r p = 1) : Kx l yX4_isTangled (cw yX4_isTangled cX4_isTangled 3 (some .boolean)) rmx_X4_isTangled E [.ref (ea E 0), .int (iI r), .int (iI p)] σ xIOOBE σ := by
  refine Kx_of (rm := rmx_X4_isTangled) (mL := 3) (b := cX4_isTangled) RX4 rfl (by decide +kernel) [(0, .ref (ea E 0)), (1, .int (iI r)), (2, .int (iI p))] rfl (Nat.le_of_ble_eq_true rfl) (fun p_ e_ s_ m_ a_ b_ h_ c_ Q A C hne hQ => ?_)
  have hN := CW_N hW
  refine g_aload_n C dX4_isTangled_0 0 rfl rfl (q := 1) rfl ?_
  refine g_iload_n C dX4_isTangled_1 1 rfl rfl (q := 2) rfl ?_
  refine g_iload_n C dX4_isTangled_2 2 rfl rfl (q := 3) rfl ?_
  refine g_cV_i C (As := [.int (iI r), .int (iI p)]) (c_X4_positionFault l E _ r p  (by omega) (by omega) (by assumption)) ml_X4_70 mf_X4_positionFault (o := 0) (ci := 4) rfl rfl rfl rfl ⟨(Nat.le_of_ble_eq_true rfl), (Nat.le_of_ble_eq_true rfl)⟩ rfl rfl rfl (Nat.le_of_ble_eq_true rfl) ⟨(Nat.le_of_ble_eq_true rfl), (Nat.le_of_ble_eq_true rfl)⟩ dX4_isTangled_3 (q := 6) rfl ?_
  exact g_xS C hne (As := [.int (iI (fP (σ 2) r p))]) (x_X4_raise_1 l hst E _ (fP (σ 2) r p)  (by assumption)) ml_X4_63 mf_X4_raise rfl rfl ⟨(Nat.le_of_ble_eq_true rfl), (Nat.le_of_ble_eq_true rfl)⟩ rfl rfl rfl (Nat.le_of_ble_eq_true rfl) ⟨(Nat.le_of_ble_eq_true rfl), (Nat.le_of_ble_eq_true rfl)⟩ dX4_isTangled_6 hQ
abbrev rm_X4_longestRun : Room := { frames := 5, cells := 0, slots := 0, locals := 111 }
set_option maxRecDepth 100000 in
set_option maxHeartbeats 4000000 in
theorem c_X4_longestRun (l : Launch) (E : EV) (σ : SS) (r : Int) (hr_r : -2147483648 ≤ r ∧ r ≤ 2147483647) (hW : CW (σ 2)) (hF1 : fR r = 0) : Ki l yX4_longestRun (cw yX4_longestRun cX4_longestRun 2 (some .int)) rm_X4_longestRun E [.ref (ea E 0), .int (iI r)] σ (lrI (tg (σ 2) r) 0 0 0 ((σ 2) (240 + r))) σ := by
  refine Ki_of (rm := rm_X4_longestRun) (mL := 2) (b := cX4_longestRun) RX4 rfl (by decide +kernel) rfl rfl [(0, .ref (ea E 0)), (1, .int (iI r))] rfl (Nat.le_of_ble_eq_true rfl) (fun p_ e_ s_ m_ a_ b_ h_ c_ Q A C hret => ?_)
  have hN := CW_N hW
  have hr := fR_0 hF1
  refine g_iload_n C dX4_longestRun_0 1 rfl rfl (q := 1) rfl ?_
  refine g_cS_i C (As := [.int (iI r)]) (c_X4_reelFault l E _ r  (by omega)) ml_X4_59 mf_X4_reelFault rfl rfl ⟨(Nat.le_of_ble_eq_true rfl), (Nat.le_of_ble_eq_true rfl)⟩ rfl rfl rfl (Nat.le_of_ble_eq_true rfl) ⟨(Nat.le_of_ble_eq_true rfl), (Nat.le_of_ble_eq_true rfl)⟩ dX4_longestRun_1 (q := 4) rfl ?_
  refine g_cS_v C (As := [.int (iI (fR r))]) (c_X4_raise l E _ (fR r)  (by assumption)) ml_X4_63 mf_X4_raise rfl rfl ⟨(Nat.le_of_ble_eq_true rfl), (Nat.le_of_ble_eq_true rfl)⟩ rfl rfl rfl (Nat.le_of_ble_eq_true rfl) ⟨(Nat.le_of_ble_eq_true rfl), (Nat.le_of_ble_eq_true rfl)⟩ dX4_longestRun_4 (q := 7) rfl ?_
  refine g_aload_n C dX4_longestRun_7 0 rfl rfl (q := 8) rfl ?_
  refine gf_X4_12 C dX4_longestRun_8 (q := 11) rfl ?_
  refine g_iload_n C dX4_longestRun_11 1 rfl rfl (q := 12) rfl ?_
  refine g_cVN_i C (As := [.int (iI r)]) (c_X3_longestRunOf l E _ r  (by omega) (by assumption)) mn_X4_118 mf_X3_longestRunOf (o := 1) (ci := 3) rfl rfl rfl rfl ⟨(Nat.le_of_ble_eq_true rfl), (Nat.le_of_ble_eq_true rfl)⟩ rfl rfl rfl (Nat.le_of_ble_eq_true rfl) ⟨(Nat.le_of_ble_eq_true rfl), (Nat.le_of_ble_eq_true rfl)⟩ dX4_longestRun_12 (q := 15) rfl ?_
  exact hret _ _ _ dX4_longestRun_15 rfl
abbrev rmx_X4_longestRun : Room := { frames := 7, cells := 1, slots := 6, locals := 102 }
set_option maxRecDepth 100000 in
set_option maxHeartbeats 4000000 in
theorem x_X4_longestRun_11 (l : Launch) (hst : l.stackTraces = false) (E : EV) (σ : SS) (r : Int) (hr_r : -2147483648 ≤ r ∧ r ≤ 2147483647) (hW : CW (σ 2)) (hF1 : fR r = 1) : Kx l yX4_longestRun (cw yX4_longestRun cX4_longestRun 2 (some .int)) rmx_X4_longestRun E [.ref (ea E 0), .int (iI r)] σ xIOOBE σ := by
  refine Kx_of (rm := rmx_X4_longestRun) (mL := 2) (b := cX4_longestRun) RX4 rfl (by decide +kernel) [(0, .ref (ea E 0)), (1, .int (iI r))] rfl (Nat.le_of_ble_eq_true rfl) (fun p_ e_ s_ m_ a_ b_ h_ c_ Q A C hne hQ => ?_)
  have hN := CW_N hW
  refine g_iload_n C dX4_longestRun_0 1 rfl rfl (q := 1) rfl ?_
  refine g_cS_i C (As := [.int (iI r)]) (c_X4_reelFault l E _ r  (by omega)) ml_X4_59 mf_X4_reelFault rfl rfl ⟨(Nat.le_of_ble_eq_true rfl), (Nat.le_of_ble_eq_true rfl)⟩ rfl rfl rfl (Nat.le_of_ble_eq_true rfl) ⟨(Nat.le_of_ble_eq_true rfl), (Nat.le_of_ble_eq_true rfl)⟩ dX4_longestRun_1 (q := 4) rfl ?_
  exact g_xS C hne (As := [.int (iI (fR r))]) (x_X4_raise_1 l hst E _ (fR r)  (by assumption)) ml_X4_63 mf_X4_raise rfl rfl ⟨(Nat.le_of_ble_eq_true rfl), (Nat.le_of_ble_eq_true rfl)⟩ rfl rfl rfl (Nat.le_of_ble_eq_true rfl) ⟨(Nat.le_of_ble_eq_true rfl), (Nat.le_of_ble_eq_true rfl)⟩ dX4_longestRun_4 hQ
abbrev rm_X4_nextOfColour : Room := { frames := 4, cells := 0, slots := 0, locals := 89 }
set_option maxRecDepth 100000 in
set_option maxHeartbeats 4000000 in
theorem c_X4_nextOfColour (l : Launch) (E : EV) (σ : SS) (r p c : Int) (hr_r : -2147483648 ≤ r ∧ r ≤ 2147483647) (hr_p : -2147483648 ≤ p ∧ p ≤ 2147483647) (hr_c : -2147483648 ≤ c ∧ c ≤ 2147483647) (hW : CW (σ 2)) (hF1 : fP (σ 2) r p = 0) (hF2 : fC c = 0) (hne : fI (coP (σ 2) r c) p ((σ 2) (240 + r)) ≠ -1) : Ki l yX4_nextOfColour (cw yX4_nextOfColour cX4_nextOfColour 4 (some .int)) rm_X4_nextOfColour E [.ref (ea E 0), .int (iI r), .int (iI p), .int (iI c)] σ (fI (coP (σ 2) r c) p ((σ 2) (240 + r))) σ := by
  refine Ki_of (rm := rm_X4_nextOfColour) (mL := 4) (b := cX4_nextOfColour) RX4 rfl (by decide +kernel) rfl rfl [(0, .ref (ea E 0)), (1, .int (iI r)), (2, .int (iI p)), (3, .int (iI c))] rfl (Nat.le_of_ble_eq_true rfl) (fun p_ e_ s_ m_ a_ b_ h_ c_ Q A C hret => ?_)
  have hN := CW_N hW
  have hG_fP_0 := fP_0 hF1
  have hG_fC_0 := fC_0 hF2
  have hn := (hW r (by omega)).1
  refine g_aload_n C dX4_nextOfColour_0 0 rfl rfl (q := 1) rfl ?_
  refine g_iload_n C dX4_nextOfColour_1 1 rfl rfl (q := 2) rfl ?_
  refine g_iload_n C dX4_nextOfColour_2 2 rfl rfl (q := 3) rfl ?_
  refine g_cV_i C (As := [.int (iI r), .int (iI p)]) (c_X4_positionFault l E _ r p  (by omega) (by omega) (by assumption)) ml_X4_70 mf_X4_positionFault (o := 0) (ci := 4) rfl rfl rfl rfl ⟨(Nat.le_of_ble_eq_true rfl), (Nat.le_of_ble_eq_true rfl)⟩ rfl rfl rfl (Nat.le_of_ble_eq_true rfl) ⟨(Nat.le_of_ble_eq_true rfl), (Nat.le_of_ble_eq_true rfl)⟩ dX4_nextOfColour_3 (q := 6) rfl ?_
  refine g_cS_v C (As := [.int (iI (fP (σ 2) r p))]) (c_X4_raise l E _ (fP (σ 2) r p)  (by assumption)) ml_X4_63 mf_X4_raise rfl rfl ⟨(Nat.le_of_ble_eq_true rfl), (Nat.le_of_ble_eq_true rfl)⟩ rfl rfl rfl (Nat.le_of_ble_eq_true rfl) ⟨(Nat.le_of_ble_eq_true rfl), (Nat.le_of_ble_eq_true rfl)⟩ dX4_nextOfColour_6 (q := 9) rfl ?_
  refine g_iload_n C dX4_nextOfColour_9 3 rfl rfl (q := 10) rfl ?_
  refine g_cS_i C (As := [.int (iI c)]) (c_X4_colourFault l E _ c  (by omega)) ml_X4_121 mf_X4_colourFault rfl rfl ⟨(Nat.le_of_ble_eq_true rfl), (Nat.le_of_ble_eq_true rfl)⟩ rfl rfl rfl (Nat.le_of_ble_eq_true rfl) ⟨(Nat.le_of_ble_eq_true rfl), (Nat.le_of_ble_eq_true rfl)⟩ dX4_nextOfColour_10 (q := 13) rfl ?_
  refine g_cS_v C (As := [.int (iI (fC c))]) (c_X4_raise l E _ (fC c)  (by assumption)) ml_X4_63 mf_X4_raise rfl rfl ⟨(Nat.le_of_ble_eq_true rfl), (Nat.le_of_ble_eq_true rfl)⟩ rfl rfl rfl (Nat.le_of_ble_eq_true rfl) ⟨(Nat.le_of_ble_eq_true rfl), (Nat.le_of_ble_eq_true rfl)⟩ dX4_nextOfColour_13 (q := 16) rfl ?_
  refine g_aload_n C dX4_nextOfColour_16 0 rfl rfl (q := 17) rfl ?_
  refine gf_X4_12 C dX4_nextOfColour_17 (q := 20) rfl ?_
  refine g_iload_n C dX4_nextOfColour_20 1 rfl rfl (q := 21) rfl ?_
  refine g_iload_n C dX4_nextOfColour_21 2 rfl rfl (q := 22) rfl ?_
  refine g_iload_n C dX4_nextOfColour_22 3 rfl rfl (q := 23) rfl ?_
  refine g_cVN_i C (As := [.int (iI r), .int (iI p), .int (iI c)]) (c_X3_positionOfColour l E _ r p c  (by omega) (by omega) (by omega) (by assumption)) mn_X4_124 mf_X3_positionOfColour (o := 1) (ci := 3) rfl rfl rfl rfl ⟨(Nat.le_of_ble_eq_true rfl), (Nat.le_of_ble_eq_true rfl)⟩ rfl rfl rfl (Nat.le_of_ble_eq_true rfl) ⟨(Nat.le_of_ble_eq_true rfl), (Nat.le_of_ble_eq_true rfl)⟩ dX4_nextOfColour_23 (q := 26) rfl ?_
  refine g_cS_i C (As := [.int (iI (fI (coP (σ 2) r c) p ((σ 2) (240 + r))))]) (c_X4_found l E _ (fI (coP (σ 2) r c) p ((σ 2) (240 + r)))  (by have hg := fI_rg2 (P := coP (σ 2) r c) (a := p) (b := σ 2 (240 + r)) (by omega); omega) (by assumption)) ml_X4_96 mf_X4_found rfl rfl ⟨(Nat.le_of_ble_eq_true rfl), (Nat.le_of_ble_eq_true rfl)⟩ rfl rfl rfl (Nat.le_of_ble_eq_true rfl) ⟨(Nat.le_of_ble_eq_true rfl), (Nat.le_of_ble_eq_true rfl)⟩ dX4_nextOfColour_26 (q := 29) rfl ?_
  exact hret _ _ _ dX4_nextOfColour_29 rfl
abbrev rmx_X4_nextOfColour : Room := { frames := 7, cells := 1, slots := 6, locals := 102 }
set_option maxRecDepth 100000 in
set_option maxHeartbeats 4000000 in
theorem x_X4_nextOfColour_11 (l : Launch) (hst : l.stackTraces = false) (E : EV) (σ : SS) (r p c : Int) (hr_r : -2147483648 ≤ r ∧ r ≤ 2147483647) (hr_p : -2147483648 ≤ p ∧ p ≤ 2147483647) (hr_c : -2147483648 ≤ c ∧ c ≤ 2147483647) (hW : CW (σ 2)) (hF1 : fP (σ 2) r p = 1) : Kx l yX4_nextOfColour (cw yX4_nextOfColour cX4_nextOfColour 4 (some .int)) rmx_X4_nextOfColour E [.ref (ea E 0), .int (iI r), .int (iI p), .int (iI c)] σ xIOOBE σ := by
  refine Kx_of (rm := rmx_X4_nextOfColour) (mL := 4) (b := cX4_nextOfColour) RX4 rfl (by decide +kernel) [(0, .ref (ea E 0)), (1, .int (iI r)), (2, .int (iI p)), (3, .int (iI c))] rfl (Nat.le_of_ble_eq_true rfl) (fun p_ e_ s_ m_ a_ b_ h_ c_ Q A C hne hQ => ?_)
  have hN := CW_N hW
  refine g_aload_n C dX4_nextOfColour_0 0 rfl rfl (q := 1) rfl ?_
  refine g_iload_n C dX4_nextOfColour_1 1 rfl rfl (q := 2) rfl ?_
  refine g_iload_n C dX4_nextOfColour_2 2 rfl rfl (q := 3) rfl ?_
  refine g_cV_i C (As := [.int (iI r), .int (iI p)]) (c_X4_positionFault l E _ r p  (by omega) (by omega) (by assumption)) ml_X4_70 mf_X4_positionFault (o := 0) (ci := 4) rfl rfl rfl rfl ⟨(Nat.le_of_ble_eq_true rfl), (Nat.le_of_ble_eq_true rfl)⟩ rfl rfl rfl (Nat.le_of_ble_eq_true rfl) ⟨(Nat.le_of_ble_eq_true rfl), (Nat.le_of_ble_eq_true rfl)⟩ dX4_nextOfColour_3 (q := 6) rfl ?_
  exact g_xS C hne (As := [.int (iI (fP (σ 2) r p))]) (x_X4_raise_1 l hst E _ (fP (σ 2) r p)  (by assumption)) ml_X4_63 mf_X4_raise rfl rfl ⟨(Nat.le_of_ble_eq_true rfl), (Nat.le_of_ble_eq_true rfl)⟩ rfl rfl rfl (Nat.le_of_ble_eq_true rfl) ⟨(Nat.le_of_ble_eq_true rfl), (Nat.le_of_ble_eq_true rfl)⟩ dX4_nextOfColour_6 hQ
set_option maxRecDepth 100000 in
set_option maxHeartbeats 4000000 in
theorem x_X4_nextOfColour_22 (l : Launch) (hst : l.stackTraces = false) (E : EV) (σ : SS) (r p c : Int) (hr_r : -2147483648 ≤ r ∧ r ≤ 2147483647) (hr_p : -2147483648 ≤ p ∧ p ≤ 2147483647) (hr_c : -2147483648 ≤ c ∧ c ≤ 2147483647) (hW : CW (σ 2)) (hF1 : fP (σ 2) r p = 0) (hF2 : fC c = 2) : Kx l yX4_nextOfColour (cw yX4_nextOfColour cX4_nextOfColour 4 (some .int)) rmx_X4_nextOfColour E [.ref (ea E 0), .int (iI r), .int (iI p), .int (iI c)] σ xIAE σ := by
  refine Kx_of (rm := rmx_X4_nextOfColour) (mL := 4) (b := cX4_nextOfColour) RX4 rfl (by decide +kernel) [(0, .ref (ea E 0)), (1, .int (iI r)), (2, .int (iI p)), (3, .int (iI c))] rfl (Nat.le_of_ble_eq_true rfl) (fun p_ e_ s_ m_ a_ b_ h_ c_ Q A C hne hQ => ?_)
  have hN := CW_N hW
  have hG_fP_0 := fP_0 hF1
  refine g_aload_n C dX4_nextOfColour_0 0 rfl rfl (q := 1) rfl ?_
  refine g_iload_n C dX4_nextOfColour_1 1 rfl rfl (q := 2) rfl ?_
  refine g_iload_n C dX4_nextOfColour_2 2 rfl rfl (q := 3) rfl ?_
  refine g_cV_i C (As := [.int (iI r), .int (iI p)]) (c_X4_positionFault l E _ r p  (by omega) (by omega) (by assumption)) ml_X4_70 mf_X4_positionFault (o := 0) (ci := 4) rfl rfl rfl rfl ⟨(Nat.le_of_ble_eq_true rfl), (Nat.le_of_ble_eq_true rfl)⟩ rfl rfl rfl (Nat.le_of_ble_eq_true rfl) ⟨(Nat.le_of_ble_eq_true rfl), (Nat.le_of_ble_eq_true rfl)⟩ dX4_nextOfColour_3 (q := 6) rfl ?_
  refine g_cS_v C (As := [.int (iI (fP (σ 2) r p))]) (c_X4_raise l E _ (fP (σ 2) r p)  (by assumption)) ml_X4_63 mf_X4_raise rfl rfl ⟨(Nat.le_of_ble_eq_true rfl), (Nat.le_of_ble_eq_true rfl)⟩ rfl rfl rfl (Nat.le_of_ble_eq_true rfl) ⟨(Nat.le_of_ble_eq_true rfl), (Nat.le_of_ble_eq_true rfl)⟩ dX4_nextOfColour_6 (q := 9) rfl ?_
  refine g_iload_n C dX4_nextOfColour_9 3 rfl rfl (q := 10) rfl ?_
  refine g_cS_i C (As := [.int (iI c)]) (c_X4_colourFault l E _ c  (by omega)) ml_X4_121 mf_X4_colourFault rfl rfl ⟨(Nat.le_of_ble_eq_true rfl), (Nat.le_of_ble_eq_true rfl)⟩ rfl rfl rfl (Nat.le_of_ble_eq_true rfl) ⟨(Nat.le_of_ble_eq_true rfl), (Nat.le_of_ble_eq_true rfl)⟩ dX4_nextOfColour_10 (q := 13) rfl ?_
  exact g_xS C hne (As := [.int (iI (fC c))]) (x_X4_raise_2 l hst E _ (fC c)  (by assumption)) ml_X4_63 mf_X4_raise rfl rfl ⟨(Nat.le_of_ble_eq_true rfl), (Nat.le_of_ble_eq_true rfl)⟩ rfl rfl rfl (Nat.le_of_ble_eq_true rfl) ⟨(Nat.le_of_ble_eq_true rfl), (Nat.le_of_ble_eq_true rfl)⟩ dX4_nextOfColour_13 hQ
set_option maxRecDepth 100000 in
set_option maxHeartbeats 4000000 in
theorem x_X4_nextOfColour_n (l : Launch) (hst : l.stackTraces = false) (E : EV) (σ : SS) (r p c : Int) (hr_r : -2147483648 ≤ r ∧ r ≤ 2147483647) (hr_p : -2147483648 ≤ p ∧ p ≤ 2147483647) (hr_c : -2147483648 ≤ c ∧ c ≤ 2147483647) (hW : CW (σ 2)) (hF1 : fP (σ 2) r p = 0) (hF2 : fC c = 0) (hne : fI (coP (σ 2) r c) p ((σ 2) (240 + r)) = -1) : Kx l yX4_nextOfColour (cw yX4_nextOfColour cX4_nextOfColour 4 (some .int)) rmx_X4_nextOfColour E [.ref (ea E 0), .int (iI r), .int (iI p), .int (iI c)] σ xNSEE σ := by
  refine Kx_of (rm := rmx_X4_nextOfColour) (mL := 4) (b := cX4_nextOfColour) RX4 rfl (by decide +kernel) [(0, .ref (ea E 0)), (1, .int (iI r)), (2, .int (iI p)), (3, .int (iI c))] rfl (Nat.le_of_ble_eq_true rfl) (fun p_ e_ s_ m_ a_ b_ h_ c_ Q A C hne hQ => ?_)
  have hN := CW_N hW
  have hG_fP_0 := fP_0 hF1
  have hG_fC_0 := fC_0 hF2
  have hn := (hW r (by omega)).1
  refine g_aload_n C dX4_nextOfColour_0 0 rfl rfl (q := 1) rfl ?_
  refine g_iload_n C dX4_nextOfColour_1 1 rfl rfl (q := 2) rfl ?_
  refine g_iload_n C dX4_nextOfColour_2 2 rfl rfl (q := 3) rfl ?_
  refine g_cV_i C (As := [.int (iI r), .int (iI p)]) (c_X4_positionFault l E _ r p  (by omega) (by omega) (by assumption)) ml_X4_70 mf_X4_positionFault (o := 0) (ci := 4) rfl rfl rfl rfl ⟨(Nat.le_of_ble_eq_true rfl), (Nat.le_of_ble_eq_true rfl)⟩ rfl rfl rfl (Nat.le_of_ble_eq_true rfl) ⟨(Nat.le_of_ble_eq_true rfl), (Nat.le_of_ble_eq_true rfl)⟩ dX4_nextOfColour_3 (q := 6) rfl ?_
  refine g_cS_v C (As := [.int (iI (fP (σ 2) r p))]) (c_X4_raise l E _ (fP (σ 2) r p)  (by assumption)) ml_X4_63 mf_X4_raise rfl rfl ⟨(Nat.le_of_ble_eq_true rfl), (Nat.le_of_ble_eq_true rfl)⟩ rfl rfl rfl (Nat.le_of_ble_eq_true rfl) ⟨(Nat.le_of_ble_eq_true rfl), (Nat.le_of_ble_eq_true rfl)⟩ dX4_nextOfColour_6 (q := 9) rfl ?_
  refine g_iload_n C dX4_nextOfColour_9 3 rfl rfl (q := 10) rfl ?_
  refine g_cS_i C (As := [.int (iI c)]) (c_X4_colourFault l E _ c  (by omega)) ml_X4_121 mf_X4_colourFault rfl rfl ⟨(Nat.le_of_ble_eq_true rfl), (Nat.le_of_ble_eq_true rfl)⟩ rfl rfl rfl (Nat.le_of_ble_eq_true rfl) ⟨(Nat.le_of_ble_eq_true rfl), (Nat.le_of_ble_eq_true rfl)⟩ dX4_nextOfColour_10 (q := 13) rfl ?_
  refine g_cS_v C (As := [.int (iI (fC c))]) (c_X4_raise l E _ (fC c)  (by assumption)) ml_X4_63 mf_X4_raise rfl rfl ⟨(Nat.le_of_ble_eq_true rfl), (Nat.le_of_ble_eq_true rfl)⟩ rfl rfl rfl (Nat.le_of_ble_eq_true rfl) ⟨(Nat.le_of_ble_eq_true rfl), (Nat.le_of_ble_eq_true rfl)⟩ dX4_nextOfColour_13 (q := 16) rfl ?_
  refine g_aload_n C dX4_nextOfColour_16 0 rfl rfl (q := 17) rfl ?_
  refine gf_X4_12 C dX4_nextOfColour_17 (q := 20) rfl ?_
  refine g_iload_n C dX4_nextOfColour_20 1 rfl rfl (q := 21) rfl ?_
  refine g_iload_n C dX4_nextOfColour_21 2 rfl rfl (q := 22) rfl ?_
  refine g_iload_n C dX4_nextOfColour_22 3 rfl rfl (q := 23) rfl ?_
  refine g_cVN_i C (As := [.int (iI r), .int (iI p), .int (iI c)]) (c_X3_positionOfColour l E _ r p c  (by omega) (by omega) (by omega) (by assumption)) mn_X4_124 mf_X3_positionOfColour (o := 1) (ci := 3) rfl rfl rfl rfl ⟨(Nat.le_of_ble_eq_true rfl), (Nat.le_of_ble_eq_true rfl)⟩ rfl rfl rfl (Nat.le_of_ble_eq_true rfl) ⟨(Nat.le_of_ble_eq_true rfl), (Nat.le_of_ble_eq_true rfl)⟩ dX4_nextOfColour_23 (q := 26) rfl ?_
  exact g_xS C hne (As := [.int (iI (fI (coP (σ 2) r c) p ((σ 2) (240 + r))))]) (x_X4_found_n l hst E _ (fI (coP (σ 2) r c) p ((σ 2) (240 + r)))  (by have hg := fI_rg2 (P := coP (σ 2) r c) (a := p) (b := σ 2 (240 + r)) (by omega); omega)) ml_X4_96 mf_X4_found rfl rfl ⟨(Nat.le_of_ble_eq_true rfl), (Nat.le_of_ble_eq_true rfl)⟩ rfl rfl rfl (Nat.le_of_ble_eq_true rfl) ⟨(Nat.le_of_ble_eq_true rfl), (Nat.le_of_ble_eq_true rfl)⟩ dX4_nextOfColour_26 hQ
abbrev rm_X4_colourLength : Room := { frames := 4, cells := 0, slots := 0, locals := 89 }
set_option maxRecDepth 100000 in
set_option maxHeartbeats 4000000 in
theorem c_X4_colourLength (l : Launch) (E : EV) (σ : SS) (r c : Int) (hr_r : -2147483648 ≤ r ∧ r ≤ 2147483647) (hr_c : -2147483648 ≤ c ∧ c ≤ 2147483647) (hW : CW (σ 2)) (hF1 : fR r = 0) (hF2 : fC c = 0) : Ki l yX4_colourLength (cw yX4_colourLength cX4_colourLength 3 (some .int)) rm_X4_colourLength E [.ref (ea E 0), .int (iI r), .int (iI c)] σ (sc (σ 2) r c) σ := by
  refine Ki_of (rm := rm_X4_colourLength) (mL := 3) (b := cX4_colourLength) RX4 rfl (by decide +kernel) rfl rfl [(0, .ref (ea E 0)), (1, .int (iI r)), (2, .int (iI c))] rfl (Nat.le_of_ble_eq_true rfl) (fun p_ e_ s_ m_ a_ b_ h_ c_ Q A C hret => ?_)
  have hN := CW_N hW
  have hr := fR_0 hF1
  have hG_fC_0 := fC_0 hF2
  refine g_iload_n C dX4_colourLength_0 1 rfl rfl (q := 1) rfl ?_
  refine g_cS_i C (As := [.int (iI r)]) (c_X4_reelFault l E _ r  (by omega)) ml_X4_59 mf_X4_reelFault rfl rfl ⟨(Nat.le_of_ble_eq_true rfl), (Nat.le_of_ble_eq_true rfl)⟩ rfl rfl rfl (Nat.le_of_ble_eq_true rfl) ⟨(Nat.le_of_ble_eq_true rfl), (Nat.le_of_ble_eq_true rfl)⟩ dX4_colourLength_1 (q := 4) rfl ?_
  refine g_cS_v C (As := [.int (iI (fR r))]) (c_X4_raise l E _ (fR r)  (by assumption)) ml_X4_63 mf_X4_raise rfl rfl ⟨(Nat.le_of_ble_eq_true rfl), (Nat.le_of_ble_eq_true rfl)⟩ rfl rfl rfl (Nat.le_of_ble_eq_true rfl) ⟨(Nat.le_of_ble_eq_true rfl), (Nat.le_of_ble_eq_true rfl)⟩ dX4_colourLength_4 (q := 7) rfl ?_
  refine g_iload_n C dX4_colourLength_7 2 rfl rfl (q := 8) rfl ?_
  refine g_cS_i C (As := [.int (iI c)]) (c_X4_colourFault l E _ c  (by omega)) ml_X4_121 mf_X4_colourFault rfl rfl ⟨(Nat.le_of_ble_eq_true rfl), (Nat.le_of_ble_eq_true rfl)⟩ rfl rfl rfl (Nat.le_of_ble_eq_true rfl) ⟨(Nat.le_of_ble_eq_true rfl), (Nat.le_of_ble_eq_true rfl)⟩ dX4_colourLength_8 (q := 11) rfl ?_
  refine g_cS_v C (As := [.int (iI (fC c))]) (c_X4_raise l E _ (fC c)  (by assumption)) ml_X4_63 mf_X4_raise rfl rfl ⟨(Nat.le_of_ble_eq_true rfl), (Nat.le_of_ble_eq_true rfl)⟩ rfl rfl rfl (Nat.le_of_ble_eq_true rfl) ⟨(Nat.le_of_ble_eq_true rfl), (Nat.le_of_ble_eq_true rfl)⟩ dX4_colourLength_11 (q := 14) rfl ?_
  refine g_aload_n C dX4_colourLength_14 0 rfl rfl (q := 15) rfl ?_
  refine gf_X4_12 C dX4_colourLength_15 (q := 18) rfl ?_
  refine g_iload_n C dX4_colourLength_18 1 rfl rfl (q := 19) rfl ?_
  refine g_iload_n C dX4_colourLength_19 2 rfl rfl (q := 20) rfl ?_
  refine g_cVN_i C (As := [.int (iI r), .int (iI c)]) (c_X3_sumOfColour l E _ r c  (by omega) (by omega) (by assumption)) mn_X4_127 mf_X3_sumOfColour (o := 1) (ci := 3) rfl rfl rfl rfl ⟨(Nat.le_of_ble_eq_true rfl), (Nat.le_of_ble_eq_true rfl)⟩ rfl rfl rfl (Nat.le_of_ble_eq_true rfl) ⟨(Nat.le_of_ble_eq_true rfl), (Nat.le_of_ble_eq_true rfl)⟩ dX4_colourLength_20 (q := 23) rfl ?_
  exact hret _ _ _ dX4_colourLength_23 rfl
abbrev rmx_X4_colourLength : Room := { frames := 7, cells := 1, slots := 6, locals := 102 }
set_option maxRecDepth 100000 in
set_option maxHeartbeats 4000000 in
theorem x_X4_colourLength_11 (l : Launch) (hst : l.stackTraces = false) (E : EV) (σ : SS) (r c : Int) (hr_r : -2147483648 ≤ r ∧ r ≤ 2147483647) (hr_c : -2147483648 ≤ c ∧ c ≤ 2147483647) (hW : CW (σ 2)) (hF1 : fR r = 1) : Kx l yX4_colourLength (cw yX4_colourLength cX4_colourLength 3 (some .int)) rmx_X4_colourLength E [.ref (ea E 0), .int (iI r), .int (iI c)] σ xIOOBE σ := by
  refine Kx_of (rm := rmx_X4_colourLength) (mL := 3) (b := cX4_colourLength) RX4 rfl (by decide +kernel) [(0, .ref (ea E 0)), (1, .int (iI r)), (2, .int (iI c))] rfl (Nat.le_of_ble_eq_true rfl) (fun p_ e_ s_ m_ a_ b_ h_ c_ Q A C hne hQ => ?_)
  have hN := CW_N hW
  refine g_iload_n C dX4_colourLength_0 1 rfl rfl (q := 1) rfl ?_
  refine g_cS_i C (As := [.int (iI r)]) (c_X4_reelFault l E _ r  (by omega)) ml_X4_59 mf_X4_reelFault rfl rfl ⟨(Nat.le_of_ble_eq_true rfl), (Nat.le_of_ble_eq_true rfl)⟩ rfl rfl rfl (Nat.le_of_ble_eq_true rfl) ⟨(Nat.le_of_ble_eq_true rfl), (Nat.le_of_ble_eq_true rfl)⟩ dX4_colourLength_1 (q := 4) rfl ?_
  exact g_xS C hne (As := [.int (iI (fR r))]) (x_X4_raise_1 l hst E _ (fR r)  (by assumption)) ml_X4_63 mf_X4_raise rfl rfl ⟨(Nat.le_of_ble_eq_true rfl), (Nat.le_of_ble_eq_true rfl)⟩ rfl rfl rfl (Nat.le_of_ble_eq_true rfl) ⟨(Nat.le_of_ble_eq_true rfl), (Nat.le_of_ble_eq_true rfl)⟩ dX4_colourLength_4 hQ
set_option maxRecDepth 100000 in
set_option maxHeartbeats 4000000 in
theorem x_X4_colourLength_22 (l : Launch) (hst : l.stackTraces = false) (E : EV) (σ : SS) (r c : Int) (hr_r : -2147483648 ≤ r ∧ r ≤ 2147483647) (hr_c : -2147483648 ≤ c ∧ c ≤ 2147483647) (hW : CW (σ 2)) (hF1 : fR r = 0) (hF2 : fC c = 2) : Kx l yX4_colourLength (cw yX4_colourLength cX4_colourLength 3 (some .int)) rmx_X4_colourLength E [.ref (ea E 0), .int (iI r), .int (iI c)] σ xIAE σ := by
  refine Kx_of (rm := rmx_X4_colourLength) (mL := 3) (b := cX4_colourLength) RX4 rfl (by decide +kernel) [(0, .ref (ea E 0)), (1, .int (iI r)), (2, .int (iI c))] rfl (Nat.le_of_ble_eq_true rfl) (fun p_ e_ s_ m_ a_ b_ h_ c_ Q A C hne hQ => ?_)
  have hN := CW_N hW
  have hr := fR_0 hF1
  refine g_iload_n C dX4_colourLength_0 1 rfl rfl (q := 1) rfl ?_
  refine g_cS_i C (As := [.int (iI r)]) (c_X4_reelFault l E _ r  (by omega)) ml_X4_59 mf_X4_reelFault rfl rfl ⟨(Nat.le_of_ble_eq_true rfl), (Nat.le_of_ble_eq_true rfl)⟩ rfl rfl rfl (Nat.le_of_ble_eq_true rfl) ⟨(Nat.le_of_ble_eq_true rfl), (Nat.le_of_ble_eq_true rfl)⟩ dX4_colourLength_1 (q := 4) rfl ?_
  refine g_cS_v C (As := [.int (iI (fR r))]) (c_X4_raise l E _ (fR r)  (by assumption)) ml_X4_63 mf_X4_raise rfl rfl ⟨(Nat.le_of_ble_eq_true rfl), (Nat.le_of_ble_eq_true rfl)⟩ rfl rfl rfl (Nat.le_of_ble_eq_true rfl) ⟨(Nat.le_of_ble_eq_true rfl), (Nat.le_of_ble_eq_true rfl)⟩ dX4_colourLength_4 (q := 7) rfl ?_
  refine g_iload_n C dX4_colourLength_7 2 rfl rfl (q := 8) rfl ?_
  refine g_cS_i C (As := [.int (iI c)]) (c_X4_colourFault l E _ c  (by omega)) ml_X4_121 mf_X4_colourFault rfl rfl ⟨(Nat.le_of_ble_eq_true rfl), (Nat.le_of_ble_eq_true rfl)⟩ rfl rfl rfl (Nat.le_of_ble_eq_true rfl) ⟨(Nat.le_of_ble_eq_true rfl), (Nat.le_of_ble_eq_true rfl)⟩ dX4_colourLength_8 (q := 11) rfl ?_
  exact g_xS C hne (As := [.int (iI (fC c))]) (x_X4_raise_2 l hst E _ (fC c)  (by assumption)) ml_X4_63 mf_X4_raise rfl rfl ⟨(Nat.le_of_ble_eq_true rfl), (Nat.le_of_ble_eq_true rfl)⟩ rfl rfl rfl (Nat.le_of_ble_eq_true rfl) ⟨(Nat.le_of_ble_eq_true rfl), (Nat.le_of_ble_eq_true rfl)⟩ dX4_colourLength_11 hQ
abbrev rm_X4_colourAtRank : Room := { frames := 6, cells := 0, slots := 0, locals := 139 }
set_option maxRecDepth 100000 in
set_option maxHeartbeats 4000000 in
theorem c_X4_colourAtRank (l : Launch) (E : EV) (σ : SS) (r p : Int) (hr_r : -2147483648 ≤ r ∧ r ≤ 2147483647) (hr_p : -2147483648 ≤ p ∧ p ≤ 2147483647) (hW : CW (σ 2)) (hF1 : fR r = 0) (hne : fI (rcP (σ 2) r p) 0 8 ≠ -1) : Ki l yX4_colourAtRank (cw yX4_colourAtRank cX4_colourAtRank 3 (some .int)) rm_X4_colourAtRank E [.ref (ea E 0), .int (iI r), .int (iI p)] σ (fI (rcP (σ 2) r p) 0 8) σ := by
  refine Ki_of (rm := rm_X4_colourAtRank) (mL := 3) (b := cX4_colourAtRank) RX4 rfl (by decide +kernel) rfl rfl [(0, .ref (ea E 0)), (1, .int (iI r)), (2, .int (iI p))] rfl (Nat.le_of_ble_eq_true rfl) (fun p_ e_ s_ m_ a_ b_ h_ c_ Q A C hret => ?_)
  have hN := CW_N hW
  have hr := fR_0 hF1
  refine g_iload_n C dX4_colourAtRank_0 1 rfl rfl (q := 1) rfl ?_
  refine g_cS_i C (As := [.int (iI r)]) (c_X4_reelFault l E _ r  (by omega)) ml_X4_59 mf_X4_reelFault rfl rfl ⟨(Nat.le_of_ble_eq_true rfl), (Nat.le_of_ble_eq_true rfl)⟩ rfl rfl rfl (Nat.le_of_ble_eq_true rfl) ⟨(Nat.le_of_ble_eq_true rfl), (Nat.le_of_ble_eq_true rfl)⟩ dX4_colourAtRank_1 (q := 4) rfl ?_
  refine g_cS_v C (As := [.int (iI (fR r))]) (c_X4_raise l E _ (fR r)  (by assumption)) ml_X4_63 mf_X4_raise rfl rfl ⟨(Nat.le_of_ble_eq_true rfl), (Nat.le_of_ble_eq_true rfl)⟩ rfl rfl rfl (Nat.le_of_ble_eq_true rfl) ⟨(Nat.le_of_ble_eq_true rfl), (Nat.le_of_ble_eq_true rfl)⟩ dX4_colourAtRank_4 (q := 7) rfl ?_
  refine g_aload_n C dX4_colourAtRank_7 0 rfl rfl (q := 8) rfl ?_
  refine gf_X4_12 C dX4_colourAtRank_8 (q := 11) rfl ?_
  refine g_iload_n C dX4_colourAtRank_11 1 rfl rfl (q := 12) rfl ?_
  refine g_iload_n C dX4_colourAtRank_12 2 rfl rfl (q := 13) rfl ?_
  refine g_cVN_i C (As := [.int (iI r), .int (iI p)]) (c_X3_colourOfRank l E _ r p  (by omega) (by omega) (by assumption)) mn_X4_130 mf_X3_colourOfRank (o := 1) (ci := 3) rfl rfl rfl rfl ⟨(Nat.le_of_ble_eq_true rfl), (Nat.le_of_ble_eq_true rfl)⟩ rfl rfl rfl (Nat.le_of_ble_eq_true rfl) ⟨(Nat.le_of_ble_eq_true rfl), (Nat.le_of_ble_eq_true rfl)⟩ dX4_colourAtRank_13 (q := 16) rfl ?_
  refine g_cS_i C (As := [.int (iI (fI (rcP (σ 2) r p) 0 8))]) (c_X4_found l E _ (fI (rcP (σ 2) r p) 0 8)  (by have hg := fI_rg2 (P := rcP (σ 2) r p) (a := 0) (b := 8) (by omega); omega) (by assumption)) ml_X4_96 mf_X4_found rfl rfl ⟨(Nat.le_of_ble_eq_true rfl), (Nat.le_of_ble_eq_true rfl)⟩ rfl rfl rfl (Nat.le_of_ble_eq_true rfl) ⟨(Nat.le_of_ble_eq_true rfl), (Nat.le_of_ble_eq_true rfl)⟩ dX4_colourAtRank_16 (q := 19) rfl ?_
  exact hret _ _ _ dX4_colourAtRank_19 rfl
abbrev rmx_X4_colourAtRank : Room := { frames := 7, cells := 1, slots := 6, locals := 139 }
set_option maxRecDepth 100000 in
set_option maxHeartbeats 4000000 in
theorem x_X4_colourAtRank_11 (l : Launch) (hst : l.stackTraces = false) (E : EV) (σ : SS) (r p : Int) (hr_r : -2147483648 ≤ r ∧ r ≤ 2147483647) (hr_p : -2147483648 ≤ p ∧ p ≤ 2147483647) (hW : CW (σ 2)) (hF1 : fR r = 1) : Kx l yX4_colourAtRank (cw yX4_colourAtRank cX4_colourAtRank 3 (some .int)) rmx_X4_colourAtRank E [.ref (ea E 0), .int (iI r), .int (iI p)] σ xIOOBE σ := by
  refine Kx_of (rm := rmx_X4_colourAtRank) (mL := 3) (b := cX4_colourAtRank) RX4 rfl (by decide +kernel) [(0, .ref (ea E 0)), (1, .int (iI r)), (2, .int (iI p))] rfl (Nat.le_of_ble_eq_true rfl) (fun p_ e_ s_ m_ a_ b_ h_ c_ Q A C hne hQ => ?_)
  have hN := CW_N hW
  refine g_iload_n C dX4_colourAtRank_0 1 rfl rfl (q := 1) rfl ?_
  refine g_cS_i C (As := [.int (iI r)]) (c_X4_reelFault l E _ r  (by omega)) ml_X4_59 mf_X4_reelFault rfl rfl ⟨(Nat.le_of_ble_eq_true rfl), (Nat.le_of_ble_eq_true rfl)⟩ rfl rfl rfl (Nat.le_of_ble_eq_true rfl) ⟨(Nat.le_of_ble_eq_true rfl), (Nat.le_of_ble_eq_true rfl)⟩ dX4_colourAtRank_1 (q := 4) rfl ?_
  exact g_xS C hne (As := [.int (iI (fR r))]) (x_X4_raise_1 l hst E _ (fR r)  (by assumption)) ml_X4_63 mf_X4_raise rfl rfl ⟨(Nat.le_of_ble_eq_true rfl), (Nat.le_of_ble_eq_true rfl)⟩ rfl rfl rfl (Nat.le_of_ble_eq_true rfl) ⟨(Nat.le_of_ble_eq_true rfl), (Nat.le_of_ble_eq_true rfl)⟩ dX4_colourAtRank_4 hQ
set_option maxRecDepth 100000 in
set_option maxHeartbeats 4000000 in
theorem x_X4_colourAtRank_n (l : Launch) (hst : l.stackTraces = false) (E : EV) (σ : SS) (r p : Int) (hr_r : -2147483648 ≤ r ∧ r ≤ 2147483647) (hr_p : -2147483648 ≤ p ∧ p ≤ 2147483647) (hW : CW (σ 2)) (hF1 : fR r = 0) (hne : fI (rcP (σ 2) r p) 0 8 = -1) : Kx l yX4_colourAtRank (cw yX4_colourAtRank cX4_colourAtRank 3 (some .int)) rmx_X4_colourAtRank E [.ref (ea E 0), .int (iI r), .int (iI p)] σ xNSEE σ := by
  refine Kx_of (rm := rmx_X4_colourAtRank) (mL := 3) (b := cX4_colourAtRank) RX4 rfl (by decide +kernel) [(0, .ref (ea E 0)), (1, .int (iI r)), (2, .int (iI p))] rfl (Nat.le_of_ble_eq_true rfl) (fun p_ e_ s_ m_ a_ b_ h_ c_ Q A C hne hQ => ?_)
  have hN := CW_N hW
  have hr := fR_0 hF1
  refine g_iload_n C dX4_colourAtRank_0 1 rfl rfl (q := 1) rfl ?_
  refine g_cS_i C (As := [.int (iI r)]) (c_X4_reelFault l E _ r  (by omega)) ml_X4_59 mf_X4_reelFault rfl rfl ⟨(Nat.le_of_ble_eq_true rfl), (Nat.le_of_ble_eq_true rfl)⟩ rfl rfl rfl (Nat.le_of_ble_eq_true rfl) ⟨(Nat.le_of_ble_eq_true rfl), (Nat.le_of_ble_eq_true rfl)⟩ dX4_colourAtRank_1 (q := 4) rfl ?_
  refine g_cS_v C (As := [.int (iI (fR r))]) (c_X4_raise l E _ (fR r)  (by assumption)) ml_X4_63 mf_X4_raise rfl rfl ⟨(Nat.le_of_ble_eq_true rfl), (Nat.le_of_ble_eq_true rfl)⟩ rfl rfl rfl (Nat.le_of_ble_eq_true rfl) ⟨(Nat.le_of_ble_eq_true rfl), (Nat.le_of_ble_eq_true rfl)⟩ dX4_colourAtRank_4 (q := 7) rfl ?_
  refine g_aload_n C dX4_colourAtRank_7 0 rfl rfl (q := 8) rfl ?_
  refine gf_X4_12 C dX4_colourAtRank_8 (q := 11) rfl ?_
  refine g_iload_n C dX4_colourAtRank_11 1 rfl rfl (q := 12) rfl ?_
  refine g_iload_n C dX4_colourAtRank_12 2 rfl rfl (q := 13) rfl ?_
  refine g_cVN_i C (As := [.int (iI r), .int (iI p)]) (c_X3_colourOfRank l E _ r p  (by omega) (by omega) (by assumption)) mn_X4_130 mf_X3_colourOfRank (o := 1) (ci := 3) rfl rfl rfl rfl ⟨(Nat.le_of_ble_eq_true rfl), (Nat.le_of_ble_eq_true rfl)⟩ rfl rfl rfl (Nat.le_of_ble_eq_true rfl) ⟨(Nat.le_of_ble_eq_true rfl), (Nat.le_of_ble_eq_true rfl)⟩ dX4_colourAtRank_13 (q := 16) rfl ?_
  exact g_xS C hne (As := [.int (iI (fI (rcP (σ 2) r p) 0 8))]) (x_X4_found_n l hst E _ (fI (rcP (σ 2) r p) 0 8)  (by have hg := fI_rg2 (P := rcP (σ 2) r p) (a := 0) (b := 8) (by omega); omega)) ml_X4_96 mf_X4_found rfl rfl ⟨(Nat.le_of_ble_eq_true rfl), (Nat.le_of_ble_eq_true rfl)⟩ rfl rfl rfl (Nat.le_of_ble_eq_true rfl) ⟨(Nat.le_of_ble_eq_true rfl), (Nat.le_of_ble_eq_true rfl)⟩ dX4_colourAtRank_16 hQ
abbrev rm_X4_isSymmetric : Room := { frames := 3, cells := 0, slots := 0, locals := 66 }
set_option maxRecDepth 100000 in
set_option maxHeartbeats 4000000 in
theorem c_X4_isSymmetric (l : Launch) (E : EV) (σ : SS) (r : Int) (hr_r : -2147483648 ≤ r ∧ r ≤ 2147483647) (hW : CW (σ 2)) (hF1 : fR r = 0) : Ki l yX4_isSymmetric (cw yX4_isSymmetric cX4_isSymmetric 2 (some .boolean)) rm_X4_isSymmetric E [.ref (ea E 0), .int (iI r)] σ (bk (σ 2) r) σ := by
  refine Kz_of (rm := rm_X4_isSymmetric) (mL := 2) (b := cX4_isSymmetric) RX4 rfl (by decide +kernel) rfl rfl [(0, .ref (ea E 0)), (1, .int (iI r))] rfl (Nat.le_of_ble_eq_true rfl) (fun p_ e_ s_ m_ a_ b_ h_ c_ Q A C hret => ?_)
  have hN := CW_N hW
  have hr := fR_0 hF1
  refine g_iload_n C dX4_isSymmetric_0 1 rfl rfl (q := 1) rfl ?_
  refine g_cS_i C (As := [.int (iI r)]) (c_X4_reelFault l E _ r  (by omega)) ml_X4_59 mf_X4_reelFault rfl rfl ⟨(Nat.le_of_ble_eq_true rfl), (Nat.le_of_ble_eq_true rfl)⟩ rfl rfl rfl (Nat.le_of_ble_eq_true rfl) ⟨(Nat.le_of_ble_eq_true rfl), (Nat.le_of_ble_eq_true rfl)⟩ dX4_isSymmetric_1 (q := 4) rfl ?_
  refine g_cS_v C (As := [.int (iI (fR r))]) (c_X4_raise l E _ (fR r)  (by assumption)) ml_X4_63 mf_X4_raise rfl rfl ⟨(Nat.le_of_ble_eq_true rfl), (Nat.le_of_ble_eq_true rfl)⟩ rfl rfl rfl (Nat.le_of_ble_eq_true rfl) ⟨(Nat.le_of_ble_eq_true rfl), (Nat.le_of_ble_eq_true rfl)⟩ dX4_isSymmetric_4 (q := 7) rfl ?_
  refine g_aload_n C dX4_isSymmetric_7 0 rfl rfl (q := 8) rfl ?_
  refine gf_X4_12 C dX4_isSymmetric_8 (q := 11) rfl ?_
  refine g_iload_n C dX4_isSymmetric_11 1 rfl rfl (q := 12) rfl ?_
  refine g_cVN_i C (As := [.int (iI r)]) (c_X3_readsTheSameBackwards l E _ r  (by omega) (by assumption)) mn_X4_133 mf_X3_readsTheSameBackwards (o := 1) (ci := 3) rfl rfl rfl rfl ⟨(Nat.le_of_ble_eq_true rfl), (Nat.le_of_ble_eq_true rfl)⟩ rfl rfl rfl (Nat.le_of_ble_eq_true rfl) ⟨(Nat.le_of_ble_eq_true rfl), (Nat.le_of_ble_eq_true rfl)⟩ dX4_isSymmetric_12 (q := 15) rfl ?_
  exact hret _ _ _ dX4_isSymmetric_15 (by unfold bk; split <;> simp) rfl
abbrev rmx_X4_isSymmetric : Room := { frames := 7, cells := 1, slots := 6, locals := 102 }
set_option maxRecDepth 100000 in
set_option maxHeartbeats 4000000 in
theorem x_X4_isSymmetric_11 (l : Launch) (hst : l.stackTraces = false) (E : EV) (σ : SS) (r : Int) (hr_r : -2147483648 ≤ r ∧ r ≤ 2147483647) (hW : CW (σ 2)) (hF1 : fR r = 1) : Kx l yX4_isSymmetric (cw yX4_isSymmetric cX4_isSymmetric 2 (some .boolean)) rmx_X4_isSymmetric E [.ref (ea E 0), .int (iI r)] σ xIOOBE σ := by
  refine Kx_of (rm := rmx_X4_isSymmetric) (mL := 2) (b := cX4_isSymmetric) RX4 rfl (by decide +kernel) [(0, .ref (ea E 0)), (1, .int (iI r))] rfl (Nat.le_of_ble_eq_true rfl) (fun p_ e_ s_ m_ a_ b_ h_ c_ Q A C hne hQ => ?_)
  have hN := CW_N hW
  refine g_iload_n C dX4_isSymmetric_0 1 rfl rfl (q := 1) rfl ?_
  refine g_cS_i C (As := [.int (iI r)]) (c_X4_reelFault l E _ r  (by omega)) ml_X4_59 mf_X4_reelFault rfl rfl ⟨(Nat.le_of_ble_eq_true rfl), (Nat.le_of_ble_eq_true rfl)⟩ rfl rfl rfl (Nat.le_of_ble_eq_true rfl) ⟨(Nat.le_of_ble_eq_true rfl), (Nat.le_of_ble_eq_true rfl)⟩ dX4_isSymmetric_1 (q := 4) rfl ?_
  exact g_xS C hne (As := [.int (iI (fR r))]) (x_X4_raise_1 l hst E _ (fR r)  (by assumption)) ml_X4_63 mf_X4_raise rfl rfl ⟨(Nat.le_of_ble_eq_true rfl), (Nat.le_of_ble_eq_true rfl)⟩ rfl rfl rfl (Nat.le_of_ble_eq_true rfl) ⟨(Nat.le_of_ble_eq_true rfl), (Nat.le_of_ble_eq_true rfl)⟩ dX4_isSymmetric_4 hQ
abbrev rm_X4_commonBeginning : Room := { frames := 3, cells := 0, slots := 0, locals := 67 }
set_option maxRecDepth 100000 in
set_option maxHeartbeats 4000000 in
theorem c_X4_commonBeginning (l : Launch) (E : EV) (σ : SS) (r o : Int) (hr_r : -2147483648 ≤ r ∧ r ≤ 2147483647) (hr_o : -2147483648 ≤ o ∧ o ≤ 2147483647) (hW : CW (σ 2)) (hF1 : fRR r o = 0) : Ki l yX4_commonBeginning (cw yX4_commonBeginning cX4_commonBeginning 3 (some .int)) rm_X4_commonBeginning E [.ref (ea E 0), .int (iI r), .int (iI o)] σ (sh (σ 2) r o) σ := by
  refine Ki_of (rm := rm_X4_commonBeginning) (mL := 3) (b := cX4_commonBeginning) RX4 rfl (by decide +kernel) rfl rfl [(0, .ref (ea E 0)), (1, .int (iI r)), (2, .int (iI o))] rfl (Nat.le_of_ble_eq_true rfl) (fun p_ e_ s_ m_ a_ b_ h_ c_ Q A C hret => ?_)
  have hN := CW_N hW
  have hG_fRR_0 := fRR_0 hF1
  refine g_iload_n C dX4_commonBeginning_0 1 rfl rfl (q := 1) rfl ?_
  refine g_iload_n C dX4_commonBeginning_1 2 rfl rfl (q := 2) rfl ?_
  refine g_cS_i C (As := [.int (iI r), .int (iI o)]) (c_X4_pairFault l E _ r o  (by omega) (by omega)) ml_X4_137 mf_X4_pairFault rfl rfl ⟨(Nat.le_of_ble_eq_true rfl), (Nat.le_of_ble_eq_true rfl)⟩ rfl rfl rfl (Nat.le_of_ble_eq_true rfl) ⟨(Nat.le_of_ble_eq_true rfl), (Nat.le_of_ble_eq_true rfl)⟩ dX4_commonBeginning_2 (q := 5) rfl ?_
  refine g_cS_v C (As := [.int (iI (fRR r o))]) (c_X4_raise l E _ (fRR r o)  (by assumption)) ml_X4_63 mf_X4_raise rfl rfl ⟨(Nat.le_of_ble_eq_true rfl), (Nat.le_of_ble_eq_true rfl)⟩ rfl rfl rfl (Nat.le_of_ble_eq_true rfl) ⟨(Nat.le_of_ble_eq_true rfl), (Nat.le_of_ble_eq_true rfl)⟩ dX4_commonBeginning_5 (q := 8) rfl ?_
  refine g_aload_n C dX4_commonBeginning_8 0 rfl rfl (q := 9) rfl ?_
  refine gf_X4_12 C dX4_commonBeginning_9 (q := 12) rfl ?_
  refine g_iload_n C dX4_commonBeginning_12 1 rfl rfl (q := 13) rfl ?_
  refine g_iload_n C dX4_commonBeginning_13 2 rfl rfl (q := 14) rfl ?_
  refine g_cVN_i C (As := [.int (iI r), .int (iI o)]) (c_X3_sharedBeginning l E _ r o  (by omega) (by omega) (by assumption)) mn_X4_140 mf_X3_sharedBeginning (o := 1) (ci := 3) rfl rfl rfl rfl ⟨(Nat.le_of_ble_eq_true rfl), (Nat.le_of_ble_eq_true rfl)⟩ rfl rfl rfl (Nat.le_of_ble_eq_true rfl) ⟨(Nat.le_of_ble_eq_true rfl), (Nat.le_of_ble_eq_true rfl)⟩ dX4_commonBeginning_14 (q := 17) rfl ?_
  exact hret _ _ _ dX4_commonBeginning_17 rfl
abbrev rmx_X4_commonBeginning : Room := { frames := 7, cells := 1, slots := 6, locals := 102 }
set_option maxRecDepth 100000 in
set_option maxHeartbeats 4000000 in
theorem x_X4_commonBeginning_11 (l : Launch) (hst : l.stackTraces = false) (E : EV) (σ : SS) (r o : Int) (hr_r : -2147483648 ≤ r ∧ r ≤ 2147483647) (hr_o : -2147483648 ≤ o ∧ o ≤ 2147483647) (hW : CW (σ 2)) (hF1 : fRR r o = 1) : Kx l yX4_commonBeginning (cw yX4_commonBeginning cX4_commonBeginning 3 (some .int)) rmx_X4_commonBeginning E [.ref (ea E 0), .int (iI r), .int (iI o)] σ xIOOBE σ := by
  refine Kx_of (rm := rmx_X4_commonBeginning) (mL := 3) (b := cX4_commonBeginning) RX4 rfl (by decide +kernel) [(0, .ref (ea E 0)), (1, .int (iI r)), (2, .int (iI o))] rfl (Nat.le_of_ble_eq_true rfl) (fun p_ e_ s_ m_ a_ b_ h_ c_ Q A C hne hQ => ?_)
  have hN := CW_N hW
  refine g_iload_n C dX4_commonBeginning_0 1 rfl rfl (q := 1) rfl ?_
  refine g_iload_n C dX4_commonBeginning_1 2 rfl rfl (q := 2) rfl ?_
  refine g_cS_i C (As := [.int (iI r), .int (iI o)]) (c_X4_pairFault l E _ r o  (by omega) (by omega)) ml_X4_137 mf_X4_pairFault rfl rfl ⟨(Nat.le_of_ble_eq_true rfl), (Nat.le_of_ble_eq_true rfl)⟩ rfl rfl rfl (Nat.le_of_ble_eq_true rfl) ⟨(Nat.le_of_ble_eq_true rfl), (Nat.le_of_ble_eq_true rfl)⟩ dX4_commonBeginning_2 (q := 5) rfl ?_
  exact g_xS C hne (As := [.int (iI (fRR r o))]) (x_X4_raise_1 l hst E _ (fRR r o)  (by assumption)) ml_X4_63 mf_X4_raise rfl rfl ⟨(Nat.le_of_ble_eq_true rfl), (Nat.le_of_ble_eq_true rfl)⟩ rfl rfl rfl (Nat.le_of_ble_eq_true rfl) ⟨(Nat.le_of_ble_eq_true rfl), (Nat.le_of_ble_eq_true rfl)⟩ dX4_commonBeginning_5 hQ
abbrev rm_X4_areEqual : Room := { frames := 3, cells := 0, slots := 0, locals := 67 }
set_option maxRecDepth 100000 in
set_option maxHeartbeats 4000000 in
theorem c_X4_areEqual (l : Launch) (E : EV) (σ : SS) (r o : Int) (hr_r : -2147483648 ≤ r ∧ r ≤ 2147483647) (hr_o : -2147483648 ≤ o ∧ o ≤ 2147483647) (hW : CW (σ 2)) (hF1 : fRR r o = 0) : Ki l yX4_areEqual (cw yX4_areEqual cX4_areEqual 4 (some .boolean)) rm_X4_areEqual E [.ref (ea E 0), .int (iI r), .int (iI o)] σ (eqR (σ 2) r o) σ := by
  refine Kz_of (rm := rm_X4_areEqual) (mL := 4) (b := cX4_areEqual) RX4 rfl (by decide +kernel) rfl rfl [(0, .ref (ea E 0)), (1, .int (iI r)), (2, .int (iI o))] rfl (Nat.le_of_ble_eq_true rfl) (fun p_ e_ s_ m_ a_ b_ h_ c_ Q A C hret => ?_)
  have hN := CW_N hW
  have hG_fRR_0 := fRR_0 hF1
  have hn := (hW r (by omega)).1
  have hn2 := (hW o (by omega)).1
  have hg := sh_rg hW (r := r) (o := o) (by omega) (by omega)
  refine g_iload_n C dX4_areEqual_0 1 rfl rfl (q := 1) rfl ?_
  refine g_iload_n C dX4_areEqual_1 2 rfl rfl (q := 2) rfl ?_
  refine g_cS_i C (As := [.int (iI r), .int (iI o)]) (c_X4_pairFault l E _ r o  (by omega) (by omega)) ml_X4_137 mf_X4_pairFault rfl rfl ⟨(Nat.le_of_ble_eq_true rfl), (Nat.le_of_ble_eq_true rfl)⟩ rfl rfl rfl (Nat.le_of_ble_eq_true rfl) ⟨(Nat.le_of_ble_eq_true rfl), (Nat.le_of_ble_eq_true rfl)⟩ dX4_areEqual_2 (q := 5) rfl ?_
  refine g_cS_v C (As := [.int (iI (fRR r o))]) (c_X4_raise l E _ (fRR r o)  (by assumption)) ml_X4_63 mf_X4_raise rfl rfl ⟨(Nat.le_of_ble_eq_true rfl), (Nat.le_of_ble_eq_true rfl)⟩ rfl rfl rfl (Nat.le_of_ble_eq_true rfl) ⟨(Nat.le_of_ble_eq_true rfl), (Nat.le_of_ble_eq_true rfl)⟩ dX4_areEqual_5 (q := 8) rfl ?_
  refine g_aload_n C dX4_areEqual_8 0 rfl rfl (q := 9) rfl ?_
  refine gf_X4_12 C dX4_areEqual_9 (q := 12) rfl ?_
  refine g_iload_n C dX4_areEqual_12 1 rfl rfl (q := 13) rfl ?_
  refine g_cVN_i C (As := [.int (iI r)]) (c_X3_countOf l E _ r  (by omega)) mn_X4_67 mf_X3_countOf (o := 1) (ci := 3) rfl rfl rfl rfl ⟨(Nat.le_of_ble_eq_true rfl), (Nat.le_of_ble_eq_true rfl)⟩ rfl rfl rfl (Nat.le_of_ble_eq_true rfl) ⟨(Nat.le_of_ble_eq_true rfl), (Nat.le_of_ble_eq_true rfl)⟩ dX4_areEqual_13 (q := 16) rfl ?_
  refine g_istore_n C (L' := [(3, .int (iI ((σ 2) (240 + r)))), (0, .ref (ea E 0)), (1, .int (iI r)), (2, .int (iI o))]) dX4_areEqual_16 rfl (by decide) rfl (q := 17) rfl ?_
  refine g_iload_n C dX4_areEqual_17 0 rfl rfl (q := 18) rfl ?_
  refine g_aload_n C dX4_areEqual_18 1 rfl rfl (q := 19) rfl ?_
  refine gf_X4_12 C dX4_areEqual_19 (q := 22) rfl ?_
  refine g_iload_n C dX4_areEqual_22 3 rfl rfl (q := 23) rfl ?_
  refine g_cVN_i C (As := [.int (iI o)]) (c_X3_countOf l E _ o  (by omega)) mn_X4_67 mf_X3_countOf (o := 1) (ci := 3) rfl rfl rfl rfl ⟨(Nat.le_of_ble_eq_true rfl), (Nat.le_of_ble_eq_true rfl)⟩ rfl rfl rfl (Nat.le_of_ble_eq_true rfl) ⟨(Nat.le_of_ble_eq_true rfl), (Nat.le_of_ble_eq_true rfl)⟩ dX4_areEqual_23 (q := 26) rfl ?_
  refine g_icmp_ne C dX4_areEqual_26 (by omega) (q2 := 46) rfl (q := 29) rfl (fun hb1 => ?_) (fun hb1 => ?_)
  · skip
    refine g_iconst C dX4_areEqual_46 (q := 47) rfl ?_
    exact hret _ _ _ dX4_areEqual_47 (by omega) (by unfold eqR; first | rw [if_pos (by omega)] | rw [if_neg (by omega)])
  · skip
    refine g_iload_n C dX4_areEqual_29 0 rfl rfl (q := 30) rfl ?_
    refine g_aload_n C dX4_areEqual_30 1 rfl rfl (q := 31) rfl ?_
    refine gf_X4_12 C dX4_areEqual_31 (q := 34) rfl ?_
    refine g_iload_n C dX4_areEqual_34 2 rfl rfl (q := 35) rfl ?_
    refine g_iload_n C dX4_areEqual_35 3 rfl rfl (q := 36) rfl ?_
    refine g_cVN_i C (As := [.int (iI r), .int (iI o)]) (c_X3_sharedBeginning l E _ r o  (by omega) (by omega) (by assumption)) mn_X4_140 mf_X3_sharedBeginning (o := 1) (ci := 3) rfl rfl rfl rfl ⟨(Nat.le_of_ble_eq_true rfl), (Nat.le_of_ble_eq_true rfl)⟩ rfl rfl rfl (Nat.le_of_ble_eq_true rfl) ⟨(Nat.le_of_ble_eq_true rfl), (Nat.le_of_ble_eq_true rfl)⟩ dX4_areEqual_36 (q := 39) rfl ?_
    refine g_icmp_ne C dX4_areEqual_39 (by omega) (q2 := 46) rfl (q := 42) rfl (fun hb2 => ?_) (fun hb2 => ?_)
    · skip
      refine g_iconst C dX4_areEqual_46 (q := 47) rfl ?_
      exact hret _ _ _ dX4_areEqual_47 (by omega) (by unfold eqR; first | rw [if_pos (by omega)] | rw [if_neg (by omega)])
    · skip
      refine g_iconst C dX4_areEqual_42 (q := 43) rfl ?_
      refine g_goto C dX4_areEqual_43 (q := 47) rfl ?_
      exact hret _ _ _ dX4_areEqual_47 (by omega) (by unfold eqR; first | rw [if_pos (by omega)] | rw [if_neg (by omega)])
abbrev rmx_X4_areEqual : Room := { frames := 7, cells := 1, slots := 6, locals := 102 }
set_option maxRecDepth 100000 in
set_option maxHeartbeats 4000000 in
theorem x_X4_areEqual_11 (l : Launch) (hst : l.stackTraces = false) (E : EV) (σ : SS) (r o : Int) (hr_r : -2147483648 ≤ r ∧ r ≤ 2147483647) (hr_o : -2147483648 ≤ o ∧ o ≤ 2147483647) (hW : CW (σ 2)) (hF1 : fRR r o = 1) : Kx l yX4_areEqual (cw yX4_areEqual cX4_areEqual 4 (some .boolean)) rmx_X4_areEqual E [.ref (ea E 0), .int (iI r), .int (iI o)] σ xIOOBE σ := by
  refine Kx_of (rm := rmx_X4_areEqual) (mL := 4) (b := cX4_areEqual) RX4 rfl (by decide +kernel) [(0, .ref (ea E 0)), (1, .int (iI r)), (2, .int (iI o))] rfl (Nat.le_of_ble_eq_true rfl) (fun p_ e_ s_ m_ a_ b_ h_ c_ Q A C hne hQ => ?_)
  have hN := CW_N hW
  refine g_iload_n C dX4_areEqual_0 1 rfl rfl (q := 1) rfl ?_
  refine g_iload_n C dX4_areEqual_1 2 rfl rfl (q := 2) rfl ?_
  refine g_cS_i C (As := [.int (iI r), .int (iI o)]) (c_X4_pairFault l E _ r o  (by omega) (by omega)) ml_X4_137 mf_X4_pairFault rfl rfl ⟨(Nat.le_of_ble_eq_true rfl), (Nat.le_of_ble_eq_true rfl)⟩ rfl rfl rfl (Nat.le_of_ble_eq_true rfl) ⟨(Nat.le_of_ble_eq_true rfl), (Nat.le_of_ble_eq_true rfl)⟩ dX4_areEqual_2 (q := 5) rfl ?_
  exact g_xS C hne (As := [.int (iI (fRR r o))]) (x_X4_raise_1 l hst E _ (fRR r o)  (by assumption)) ml_X4_63 mf_X4_raise rfl rfl ⟨(Nat.le_of_ble_eq_true rfl), (Nat.le_of_ble_eq_true rfl)⟩ rfl rfl rfl (Nat.le_of_ble_eq_true rfl) ⟨(Nat.le_of_ble_eq_true rfl), (Nat.le_of_ble_eq_true rfl)⟩ dX4_areEqual_5 hQ
abbrev rm_X4_totalLength : Room := { frames := 6, cells := 0, slots := 0, locals := 136 }
set_option maxRecDepth 100000 in
set_option maxHeartbeats 4000000 in
theorem c_X4_totalLength (l : Launch) (E : EV) (σ : SS) (hW : CW (σ 2)) (hP : PW (σ 2)) : Kl l yX4_totalLength (cw yX4_totalLength cX4_totalLength 4 (some .long)) rm_X4_totalLength E [.ref (ea E 0)] σ (0 + sb (σ 2) 0 ((σ 2) (240 + 0)) + sb (σ 2) 1 ((σ 2) (240 + 1)) + sb (σ 2) 2 ((σ 2) (240 + 2)) + sb (σ 2) 3 ((σ 2) (240 + 3))) σ := by
  refine Kl_of (rm := rm_X4_totalLength) (mL := 4) (b := cX4_totalLength) RX4 rfl (by decide +kernel) rfl rfl [(0, .ref (ea E 0))] rfl (Nat.le_of_ble_eq_true rfl) (fun p_ e_ s_ m_ a_ b_ h_ c_ Q A C hret => ?_)
  have hg0 := sb_rg hW hP (r := 0) (by omega)
  have hg1 := sb_rg hW hP (r := 1) (by omega)
  have hg2 := sb_rg hW hP (r := 2) (by omega)
  have hg3 := sb_rg hW hP (r := 3) (by omega)
  refine g_lconst C (y := 0) dX4_totalLength_0 (by decide) (q := 1) rfl ?_
  refine g_lstore_n C (L' := [(1, .long (iL 0)), (0, .ref (ea E 0))]) dX4_totalLength_1 rfl (by decide) rfl (q := 2) rfl ?_
  refine g_iconst C dX4_totalLength_2 (q := 3) rfl ?_
  refine g_istore_n C (L' := [(3, .int (iI 0)), (1, .long (iL 0)), (0, .ref (ea E 0))]) dX4_totalLength_3 rfl (by decide) rfl (q := 4) rfl ?_
  refine g_iload_n C dX4_totalLength_4 0 rfl rfl (q := 5) rfl ?_
  refine g_iconst C dX4_totalLength_5 (q := 6) rfl ?_
  refine g_icmp_ge C dX4_totalLength_6 (by omega) (q2 := 27) rfl (q := 9) rfl (fun hb1 => ?_) (fun hb1 => ?_)
  · skip
    exfalso; omega
  · skip
    refine g_lload_n C dX4_totalLength_9 1 rfl rfl (q := 10) rfl ?_
    refine g_aload_n C dX4_totalLength_10 2 rfl rfl (q := 11) rfl ?_
    refine gf_X4_12 C dX4_totalLength_11 (q := 14) rfl ?_
    refine g_iload_n C dX4_totalLength_14 0 rfl rfl (q := 15) rfl ?_
    refine g_cVN_i C (As := [.int (iI 0)]) (c_X3_lengthOf l E _ 0  (by omega) (by assumption)) mn_X4_80 mf_X3_lengthOf (o := 1) (ci := 3) rfl rfl rfl rfl ⟨(Nat.le_of_ble_eq_true rfl), (Nat.le_of_ble_eq_true rfl)⟩ rfl rfl rfl (Nat.le_of_ble_eq_true rfl) ⟨(Nat.le_of_ble_eq_true rfl), (Nat.le_of_ble_eq_true rfl)⟩ dX4_totalLength_15 (q := 18) rfl ?_
    refine g_i2l C dX4_totalLength_18 (by omega) (q := 19) rfl ?_
    refine g_ladd C dX4_totalLength_19 (q := 20) rfl ?_
    refine g_lstore_n C (L' := [(1, .long (iL (0 + sb (σ 2) 0 ((σ 2) (240 + 0))))), (3, .int (iI 0)), (0, .ref (ea E 0))]) dX4_totalLength_20 rfl (by decide) rfl (q := 21) rfl ?_
    refine g_iinc C (L' := [(3, .int (iI (0 + 1))), (1, .long (iL (0 + sb (σ 2) 0 ((σ 2) (240 + 0))))), (0, .ref (ea E 0))]) dX4_totalLength_21 1 rfl (by decide) rfl (q := 24) rfl ?_
    refine g_loc (L' := [(3, .int (iI 1)), (1, .long (iL (0 + sb (σ 2) 0 ((σ 2) (240 + 0))))), (0, .ref (ea E 0))]) rfl ?_
    refine g_goto C dX4_totalLength_24 (q := 4) rfl ?_
    refine g_iload_n C dX4_totalLength_4 0 rfl rfl (q := 5) rfl ?_
    refine g_iconst C dX4_totalLength_5 (q := 6) rfl ?_
    refine g_icmp_ge C dX4_totalLength_6 (by omega) (q2 := 27) rfl (q := 9) rfl (fun hb2 => ?_) (fun hb2 => ?_)
    · skip
      exfalso; omega
    · skip
      refine g_lload_n C dX4_totalLength_9 1 rfl rfl (q := 10) rfl ?_
      refine g_aload_n C dX4_totalLength_10 2 rfl rfl (q := 11) rfl ?_
      refine gf_X4_12 C dX4_totalLength_11 (q := 14) rfl ?_
      refine g_iload_n C dX4_totalLength_14 0 rfl rfl (q := 15) rfl ?_
      refine g_cVN_i C (As := [.int (iI 1)]) (c_X3_lengthOf l E _ 1  (by omega) (by assumption)) mn_X4_80 mf_X3_lengthOf (o := 1) (ci := 3) rfl rfl rfl rfl ⟨(Nat.le_of_ble_eq_true rfl), (Nat.le_of_ble_eq_true rfl)⟩ rfl rfl rfl (Nat.le_of_ble_eq_true rfl) ⟨(Nat.le_of_ble_eq_true rfl), (Nat.le_of_ble_eq_true rfl)⟩ dX4_totalLength_15 (q := 18) rfl ?_
      refine g_i2l C dX4_totalLength_18 (by omega) (q := 19) rfl ?_
      refine g_ladd C dX4_totalLength_19 (q := 20) rfl ?_
      refine g_lstore_n C (L' := [(1, .long (iL (0 + sb (σ 2) 0 ((σ 2) (240 + 0)) + sb (σ 2) 1 ((σ 2) (240 + 1))))), (3, .int (iI 1)), (0, .ref (ea E 0))]) dX4_totalLength_20 rfl (by decide) rfl (q := 21) rfl ?_
      refine g_iinc C (L' := [(3, .int (iI (1 + 1))), (1, .long (iL (0 + sb (σ 2) 0 ((σ 2) (240 + 0)) + sb (σ 2) 1 ((σ 2) (240 + 1))))), (0, .ref (ea E 0))]) dX4_totalLength_21 1 rfl (by decide) rfl (q := 24) rfl ?_
      refine g_loc (L' := [(3, .int (iI 2)), (1, .long (iL (0 + sb (σ 2) 0 ((σ 2) (240 + 0)) + sb (σ 2) 1 ((σ 2) (240 + 1))))), (0, .ref (ea E 0))]) rfl ?_
      refine g_goto C dX4_totalLength_24 (q := 4) rfl ?_
      refine g_iload_n C dX4_totalLength_4 0 rfl rfl (q := 5) rfl ?_
      refine g_iconst C dX4_totalLength_5 (q := 6) rfl ?_
      refine g_icmp_ge C dX4_totalLength_6 (by omega) (q2 := 27) rfl (q := 9) rfl (fun hb3 => ?_) (fun hb3 => ?_)
      · skip
        exfalso; omega
      · skip
        refine g_lload_n C dX4_totalLength_9 1 rfl rfl (q := 10) rfl ?_
        refine g_aload_n C dX4_totalLength_10 2 rfl rfl (q := 11) rfl ?_
        refine gf_X4_12 C dX4_totalLength_11 (q := 14) rfl ?_
        refine g_iload_n C dX4_totalLength_14 0 rfl rfl (q := 15) rfl ?_
        refine g_cVN_i C (As := [.int (iI 2)]) (c_X3_lengthOf l E _ 2  (by omega) (by assumption)) mn_X4_80 mf_X3_lengthOf (o := 1) (ci := 3) rfl rfl rfl rfl ⟨(Nat.le_of_ble_eq_true rfl), (Nat.le_of_ble_eq_true rfl)⟩ rfl rfl rfl (Nat.le_of_ble_eq_true rfl) ⟨(Nat.le_of_ble_eq_true rfl), (Nat.le_of_ble_eq_true rfl)⟩ dX4_totalLength_15 (q := 18) rfl ?_
        refine g_i2l C dX4_totalLength_18 (by omega) (q := 19) rfl ?_
        refine g_ladd C dX4_totalLength_19 (q := 20) rfl ?_
        refine g_lstore_n C (L' := [(1, .long (iL (0 + sb (σ 2) 0 ((σ 2) (240 + 0)) + sb (σ 2) 1 ((σ 2) (240 + 1)) + sb (σ 2) 2 ((σ 2) (240 + 2))))), (3, .int (iI 2)), (0, .ref (ea E 0))]) dX4_totalLength_20 rfl (by decide) rfl (q := 21) rfl ?_
        refine g_iinc C (L' := [(3, .int (iI (2 + 1))), (1, .long (iL (0 + sb (σ 2) 0 ((σ 2) (240 + 0)) + sb (σ 2) 1 ((σ 2) (240 + 1)) + sb (σ 2) 2 ((σ 2) (240 + 2))))), (0, .ref (ea E 0))]) dX4_totalLength_21 1 rfl (by decide) rfl (q := 24) rfl ?_
        refine g_loc (L' := [(3, .int (iI 3)), (1, .long (iL (0 + sb (σ 2) 0 ((σ 2) (240 + 0)) + sb (σ 2) 1 ((σ 2) (240 + 1)) + sb (σ 2) 2 ((σ 2) (240 + 2))))), (0, .ref (ea E 0))]) rfl ?_
        refine g_goto C dX4_totalLength_24 (q := 4) rfl ?_
        refine g_iload_n C dX4_totalLength_4 0 rfl rfl (q := 5) rfl ?_
        refine g_iconst C dX4_totalLength_5 (q := 6) rfl ?_
        refine g_icmp_ge C dX4_totalLength_6 (by omega) (q2 := 27) rfl (q := 9) rfl (fun hb4 => ?_) (fun hb4 => ?_)
        · skip
          exfalso; omega
        · skip
          refine g_lload_n C dX4_totalLength_9 1 rfl rfl (q := 10) rfl ?_
          refine g_aload_n C dX4_totalLength_10 2 rfl rfl (q := 11) rfl ?_
          refine gf_X4_12 C dX4_totalLength_11 (q := 14) rfl ?_
          refine g_iload_n C dX4_totalLength_14 0 rfl rfl (q := 15) rfl ?_
          refine g_cVN_i C (As := [.int (iI 3)]) (c_X3_lengthOf l E _ 3  (by omega) (by assumption)) mn_X4_80 mf_X3_lengthOf (o := 1) (ci := 3) rfl rfl rfl rfl ⟨(Nat.le_of_ble_eq_true rfl), (Nat.le_of_ble_eq_true rfl)⟩ rfl rfl rfl (Nat.le_of_ble_eq_true rfl) ⟨(Nat.le_of_ble_eq_true rfl), (Nat.le_of_ble_eq_true rfl)⟩ dX4_totalLength_15 (q := 18) rfl ?_
          refine g_i2l C dX4_totalLength_18 (by omega) (q := 19) rfl ?_
          refine g_ladd C dX4_totalLength_19 (q := 20) rfl ?_
          refine g_lstore_n C (L' := [(1, .long (iL (0 + sb (σ 2) 0 ((σ 2) (240 + 0)) + sb (σ 2) 1 ((σ 2) (240 + 1)) + sb (σ 2) 2 ((σ 2) (240 + 2)) + sb (σ 2) 3 ((σ 2) (240 + 3))))), (3, .int (iI 3)), (0, .ref (ea E 0))]) dX4_totalLength_20 rfl (by decide) rfl (q := 21) rfl ?_
          refine g_iinc C (L' := [(3, .int (iI (3 + 1))), (1, .long (iL (0 + sb (σ 2) 0 ((σ 2) (240 + 0)) + sb (σ 2) 1 ((σ 2) (240 + 1)) + sb (σ 2) 2 ((σ 2) (240 + 2)) + sb (σ 2) 3 ((σ 2) (240 + 3))))), (0, .ref (ea E 0))]) dX4_totalLength_21 1 rfl (by decide) rfl (q := 24) rfl ?_
          refine g_loc (L' := [(3, .int (iI 4)), (1, .long (iL (0 + sb (σ 2) 0 ((σ 2) (240 + 0)) + sb (σ 2) 1 ((σ 2) (240 + 1)) + sb (σ 2) 2 ((σ 2) (240 + 2)) + sb (σ 2) 3 ((σ 2) (240 + 3))))), (0, .ref (ea E 0))]) rfl ?_
          refine g_goto C dX4_totalLength_24 (q := 4) rfl ?_
          refine g_iload_n C dX4_totalLength_4 0 rfl rfl (q := 5) rfl ?_
          refine g_iconst C dX4_totalLength_5 (q := 6) rfl ?_
          refine g_icmp_ge C dX4_totalLength_6 (by omega) (q2 := 27) rfl (q := 9) rfl (fun hb5 => ?_) (fun hb5 => ?_)
          · skip
            refine g_lload_n C dX4_totalLength_27 1 rfl rfl (q := 28) rfl ?_
            exact hret _ _ _ dX4_totalLength_28 rfl
          · skip
            exfalso; omega
abbrev rm_X4_cutCount : Room := { frames := 1, cells := 0, slots := 0, locals := 21 }
set_option maxRecDepth 100000 in
set_option maxHeartbeats 4000000 in
theorem c_X4_cutCount (l : Launch) (E : EV) (σ : SS)  : Ki l yX4_cutCount (cw yX4_cutCount cX4_cutCount 1 (some .int)) rm_X4_cutCount E [.ref (ea E 0)] σ ((σ 2) 308) σ := by
  refine Ki_of (rm := rm_X4_cutCount) (mL := 1) (b := cX4_cutCount) RX4 rfl (by decide +kernel) rfl rfl [(0, .ref (ea E 0))] rfl (Nat.le_of_ble_eq_true rfl) (fun p_ e_ s_ m_ a_ b_ h_ c_ Q A C hret => ?_)
  refine g_aload_n C dX4_cutCount_0 0 rfl rfl (q := 1) rfl ?_
  refine gf_X4_12 C dX4_cutCount_1 (q := 4) rfl ?_
  refine g_sipush C dX4_cutCount_4 (by decide) (q := 7) rfl ?_
  refine g_cVN_i C (As := [.int (iI 308)]) (c_X3_cellAt l E _ 308  (by omega)) mn_X4_143 mf_X3_cellAt (o := 1) (ci := 3) rfl rfl rfl rfl ⟨(Nat.le_of_ble_eq_true rfl), (Nat.le_of_ble_eq_true rfl)⟩ rfl rfl rfl (Nat.le_of_ble_eq_true rfl) ⟨(Nat.le_of_ble_eq_true rfl), (Nat.le_of_ble_eq_true rfl)⟩ dX4_cutCount_7 (q := 10) rfl ?_
  exact hret _ _ _ dX4_cutCount_10 rfl
abbrev rm_X4_spliceCount : Room := { frames := 1, cells := 0, slots := 0, locals := 21 }
set_option maxRecDepth 100000 in
set_option maxHeartbeats 4000000 in
theorem c_X4_spliceCount (l : Launch) (E : EV) (σ : SS)  : Ki l yX4_spliceCount (cw yX4_spliceCount cX4_spliceCount 1 (some .int)) rm_X4_spliceCount E [.ref (ea E 0)] σ ((σ 2) 309) σ := by
  refine Ki_of (rm := rm_X4_spliceCount) (mL := 1) (b := cX4_spliceCount) RX4 rfl (by decide +kernel) rfl rfl [(0, .ref (ea E 0))] rfl (Nat.le_of_ble_eq_true rfl) (fun p_ e_ s_ m_ a_ b_ h_ c_ Q A C hret => ?_)
  refine g_aload_n C dX4_spliceCount_0 0 rfl rfl (q := 1) rfl ?_
  refine gf_X4_12 C dX4_spliceCount_1 (q := 4) rfl ?_
  refine g_sipush C dX4_spliceCount_4 (by decide) (q := 7) rfl ?_
  refine g_cVN_i C (As := [.int (iI 309)]) (c_X3_cellAt l E _ 309  (by omega)) mn_X4_143 mf_X3_cellAt (o := 1) (ci := 3) rfl rfl rfl rfl ⟨(Nat.le_of_ble_eq_true rfl), (Nat.le_of_ble_eq_true rfl)⟩ rfl rfl rfl (Nat.le_of_ble_eq_true rfl) ⟨(Nat.le_of_ble_eq_true rfl), (Nat.le_of_ble_eq_true rfl)⟩ dX4_spliceCount_7 (q := 10) rfl ?_
  exact hret _ _ _ dX4_spliceCount_10 rfl
