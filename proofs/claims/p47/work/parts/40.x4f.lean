abbrev rm_X4_meanLength : Room := { frames := 6, cells := 0, slots := 0, locals := 136 }
set_option maxRecDepth 100000 in
set_option maxHeartbeats 4000000 in
theorem c_X4_meanLength (l : Launch) (E : EV) (σ : SS) (r : Int) (hr_r : -2147483648 ≤ r ∧ r ≤ 2147483647) (hW : CW (σ 2)) (hP : PW (σ 2)) (hF1 : fR r = 0) (hz : (σ 2) (240 + r) ≠ 0) : Kd l yX4_meanLength (cw yX4_meanLength cX4_meanLength 3 (some .double)) rm_X4_meanLength E [.ref (ea E 0), .int (iI r)] σ (FP.ddiv (FP.i2d (iI (sb (σ 2) r ((σ 2) (240 + r))))) (FP.i2d (iI ((σ 2) (240 + r))))) σ := by
  refine Kd_of (rm := rm_X4_meanLength) (mL := 3) (b := cX4_meanLength) RX4 rfl (by decide +kernel) rfl rfl [(0, .ref (ea E 0)), (1, .int (iI r))] rfl (Nat.le_of_ble_eq_true rfl) (fun p_ e_ s_ m_ a_ b_ h_ c_ Q A C hret => ?_)
  have hr := fR_0 hF1
  have hn := (hW r hr).1
  have hsb := sb_rg hW hP hr
  have hsz := sb_z hW hP hr
  have hN := CW_N hW
  refine g_iload_n C dX4_meanLength_0 1 rfl rfl (q := 1) rfl ?_
  refine g_cS_i C (As := [.int (iI r)]) (c_X4_reelFault l E _ r  (by omega)) ml_X4_59 mf_X4_reelFault rfl rfl ⟨(Nat.le_of_ble_eq_true rfl), (Nat.le_of_ble_eq_true rfl)⟩ rfl rfl rfl (Nat.le_of_ble_eq_true rfl) ⟨(Nat.le_of_ble_eq_true rfl), (Nat.le_of_ble_eq_true rfl)⟩ dX4_meanLength_1 (q := 4) rfl ?_
  refine g_cS_v C (As := [.int (iI (fR r))]) (c_X4_raise l E _ (fR r)  (by assumption)) ml_X4_63 mf_X4_raise rfl rfl ⟨(Nat.le_of_ble_eq_true rfl), (Nat.le_of_ble_eq_true rfl)⟩ rfl rfl rfl (Nat.le_of_ble_eq_true rfl) ⟨(Nat.le_of_ble_eq_true rfl), (Nat.le_of_ble_eq_true rfl)⟩ dX4_meanLength_4 (q := 7) rfl ?_
  refine g_aload_n C dX4_meanLength_7 0 rfl rfl (q := 8) rfl ?_
  refine gf_X4_12 C dX4_meanLength_8 (q := 11) rfl ?_
  refine g_iload_n C dX4_meanLength_11 1 rfl rfl (q := 12) rfl ?_
  refine g_cVN_i C (As := [.int (iI r)]) (c_X3_countOf l E _ r  (by omega)) mn_X4_67 mf_X3_countOf (o := 1) (ci := 3) rfl rfl rfl rfl ⟨(Nat.le_of_ble_eq_true rfl), (Nat.le_of_ble_eq_true rfl)⟩ rfl rfl rfl (Nat.le_of_ble_eq_true rfl) ⟨(Nat.le_of_ble_eq_true rfl), (Nat.le_of_ble_eq_true rfl)⟩ dX4_meanLength_12 (q := 15) rfl ?_
  refine g_istore_n C (L' := [(2, .int (iI ((σ 2) (240 + r)))), (0, .ref (ea E 0)), (1, .int (iI r))]) dX4_meanLength_15 rfl (by decide) rfl (q := 16) rfl ?_
  refine g_iload_n C dX4_meanLength_16 0 rfl rfl (q := 17) rfl ?_
  refine g_if_ne C dX4_meanLength_17 (by omega) (q2 := 30) rfl (q := 20) rfl (fun hb1 => ?_) (fun hb1 => ?_)
  · skip
    refine g_aload_n C dX4_meanLength_30 1 rfl rfl (q := 31) rfl ?_
    refine gf_X4_12 C dX4_meanLength_31 (q := 34) rfl ?_
    refine g_iload_n C dX4_meanLength_34 2 rfl rfl (q := 35) rfl ?_
    refine g_cVN_i C (As := [.int (iI r)]) (c_X3_lengthOf l E _ r  (by omega) (by assumption)) mn_X4_80 mf_X3_lengthOf (o := 1) (ci := 3) rfl rfl rfl rfl ⟨(Nat.le_of_ble_eq_true rfl), (Nat.le_of_ble_eq_true rfl)⟩ rfl rfl rfl (Nat.le_of_ble_eq_true rfl) ⟨(Nat.le_of_ble_eq_true rfl), (Nat.le_of_ble_eq_true rfl)⟩ dX4_meanLength_35 (q := 38) rfl ?_
    refine g_i2d C dX4_meanLength_38 (q := 39) rfl ?_
    refine g_iload_n C dX4_meanLength_39 0 rfl rfl (q := 40) rfl ?_
    refine g_i2d C dX4_meanLength_40 (q := 41) rfl ?_
    refine g_ddiv C (by exact nn64 (by omega) (by omega)) dX4_meanLength_41 (q := 42) rfl ?_
    exact hret _ _ _ dX4_meanLength_42 rfl
  · skip
    exfalso; omega
abbrev rmx_X4_meanLength : Room := { frames := 7, cells := 1, slots := 6, locals := 102 }
set_option maxRecDepth 100000 in
set_option maxHeartbeats 4000000 in
theorem x_X4_meanLength_2 (l : Launch) (hst : l.stackTraces = false) (E : EV) (σ : SS) (r : Int) (hr_r : -2147483648 ≤ r ∧ r ≤ 2147483647) (hW : CW (σ 2)) (hP : PW (σ 2)) (hF1 : fR r = 0) (hz : (σ 2) (240 + r) = 0) : Kx l yX4_meanLength (cw yX4_meanLength cX4_meanLength 3 (some .double)) rmx_X4_meanLength E [.ref (ea E 0), .int (iI r)] σ xAE σ := by
  refine Kx_of (rm := rmx_X4_meanLength) (mL := 3) (b := cX4_meanLength) RX4 rfl (by decide +kernel) [(0, .ref (ea E 0)), (1, .int (iI r))] rfl (Nat.le_of_ble_eq_true rfl) (fun p_ e_ s_ m_ a_ b_ h_ c_ Q A C hne hQ => ?_)
  have hr := fR_0 hF1
  have hn := (hW r hr).1
  have hsb := sb_rg hW hP hr
  have hsz := sb_z hW hP hr
  have hN := CW_N hW
  refine g_iload_n C dX4_meanLength_0 1 rfl rfl (q := 1) rfl ?_
  refine g_cS_i C (As := [.int (iI r)]) (c_X4_reelFault l E _ r  (by omega)) ml_X4_59 mf_X4_reelFault rfl rfl ⟨(Nat.le_of_ble_eq_true rfl), (Nat.le_of_ble_eq_true rfl)⟩ rfl rfl rfl (Nat.le_of_ble_eq_true rfl) ⟨(Nat.le_of_ble_eq_true rfl), (Nat.le_of_ble_eq_true rfl)⟩ dX4_meanLength_1 (q := 4) rfl ?_
  refine g_cS_v C (As := [.int (iI (fR r))]) (c_X4_raise l E _ (fR r)  (by assumption)) ml_X4_63 mf_X4_raise rfl rfl ⟨(Nat.le_of_ble_eq_true rfl), (Nat.le_of_ble_eq_true rfl)⟩ rfl rfl rfl (Nat.le_of_ble_eq_true rfl) ⟨(Nat.le_of_ble_eq_true rfl), (Nat.le_of_ble_eq_true rfl)⟩ dX4_meanLength_4 (q := 7) rfl ?_
  refine g_aload_n C dX4_meanLength_7 0 rfl rfl (q := 8) rfl ?_
  refine gf_X4_12 C dX4_meanLength_8 (q := 11) rfl ?_
  refine g_iload_n C dX4_meanLength_11 1 rfl rfl (q := 12) rfl ?_
  refine g_cVN_i C (As := [.int (iI r)]) (c_X3_countOf l E _ r  (by omega)) mn_X4_67 mf_X3_countOf (o := 1) (ci := 3) rfl rfl rfl rfl ⟨(Nat.le_of_ble_eq_true rfl), (Nat.le_of_ble_eq_true rfl)⟩ rfl rfl rfl (Nat.le_of_ble_eq_true rfl) ⟨(Nat.le_of_ble_eq_true rfl), (Nat.le_of_ble_eq_true rfl)⟩ dX4_meanLength_12 (q := 15) rfl ?_
  refine g_istore_n C (L' := [(2, .int (iI ((σ 2) (240 + r)))), (0, .ref (ea E 0)), (1, .int (iI r))]) dX4_meanLength_15 rfl (by decide) rfl (q := 16) rfl ?_
  refine g_iload_n C dX4_meanLength_16 0 rfl rfl (q := 17) rfl ?_
  refine g_if_ne C dX4_meanLength_17 (by omega) (q2 := 30) rfl (q := 20) rfl (fun hb1 => ?_) (fun hb1 => ?_)
  · skip
    exfalso; omega
  · skip
    exact g_thr C hst hne tf_AE (List.mem_of_getElem? (i := 28) rfl) ⟨(Nat.le_of_ble_eq_true rfl), (Nat.le_of_ble_eq_true rfl), (Nat.le_of_ble_eq_true rfl), (Nat.le_of_ble_eq_true rfl)⟩ dX4_meanLength_20 dX4_meanLength_23 dX4_meanLength_24 dX4_meanLength_26 dX4_meanLength_29 hQ
set_option maxRecDepth 100000 in
set_option maxHeartbeats 4000000 in
theorem x_X4_meanLength_1 (l : Launch) (hst : l.stackTraces = false) (E : EV) (σ : SS) (r : Int) (hr_r : -2147483648 ≤ r ∧ r ≤ 2147483647) (hW : CW (σ 2)) (hF1 : fR r = 1) : Kx l yX4_meanLength (cw yX4_meanLength cX4_meanLength 3 (some .double)) rmx_X4_meanLength E [.ref (ea E 0), .int (iI r)] σ xIOOBE σ := by
  refine Kx_of (rm := rmx_X4_meanLength) (mL := 3) (b := cX4_meanLength) RX4 rfl (by decide +kernel) [(0, .ref (ea E 0)), (1, .int (iI r))] rfl (Nat.le_of_ble_eq_true rfl) (fun p_ e_ s_ m_ a_ b_ h_ c_ Q A C hne hQ => ?_)
  refine g_iload_n C dX4_meanLength_0 1 rfl rfl (q := 1) rfl ?_
  refine g_cS_i C (As := [.int (iI r)]) (c_X4_reelFault l E _ r  (by omega)) ml_X4_59 mf_X4_reelFault rfl rfl ⟨(Nat.le_of_ble_eq_true rfl), (Nat.le_of_ble_eq_true rfl)⟩ rfl rfl rfl (Nat.le_of_ble_eq_true rfl) ⟨(Nat.le_of_ble_eq_true rfl), (Nat.le_of_ble_eq_true rfl)⟩ dX4_meanLength_1 (q := 4) rfl ?_
  exact g_xS C hne (As := [.int (iI (fR r))]) (x_X4_raise_1 l hst E _ (fR r)  (by assumption)) ml_X4_63 mf_X4_raise rfl rfl ⟨(Nat.le_of_ble_eq_true rfl), (Nat.le_of_ble_eq_true rfl)⟩ rfl rfl rfl (Nat.le_of_ble_eq_true rfl) ⟨(Nat.le_of_ble_eq_true rfl), (Nat.le_of_ble_eq_true rfl)⟩ dX4_meanLength_4 hQ
abbrev rm_X4_colourShare : Room := { frames := 6, cells := 0, slots := 0, locals := 136 }
set_option maxRecDepth 100000 in
set_option maxHeartbeats 4000000 in
theorem c_X4_colourShare (l : Launch) (E : EV) (σ : SS) (r c : Int) (hr_r : -2147483648 ≤ r ∧ r ≤ 2147483647) (hr_c : -2147483648 ≤ c ∧ c ≤ 2147483647) (hW : CW (σ 2)) (hP : PW (σ 2)) (hF1 : fR r = 0) (hF2 : fC c = 0) (hz : (σ 2) (240 + r) ≠ 0) : Kf l yX4_colourShare (cw yX4_colourShare cX4_colourShare 4 (some .float)) rm_X4_colourShare E [.ref (ea E 0), .int (iI r), .int (iI c)] σ (FP.fdiv (FP.i2f (iI (sc (σ 2) r c))) (FP.i2f (iI (sb (σ 2) r ((σ 2) (240 + r)))))) σ := by
  refine Kf_of (rm := rm_X4_colourShare) (mL := 4) (b := cX4_colourShare) RX4 rfl (by decide +kernel) rfl rfl [(0, .ref (ea E 0)), (1, .int (iI r)), (2, .int (iI c))] rfl (Nat.le_of_ble_eq_true rfl) (fun p_ e_ s_ m_ a_ b_ h_ c_ Q A C hret => ?_)
  have hr := fR_0 hF1
  have hn := (hW r hr).1
  have hsb := sb_rg hW hP hr
  have hsz := sb_z hW hP hr
  have hN := CW_N hW
  have hcc := fC_0 hF2
  have hsc := sc_rg hW hr c
  refine g_iload_n C dX4_colourShare_0 1 rfl rfl (q := 1) rfl ?_
  refine g_cS_i C (As := [.int (iI r)]) (c_X4_reelFault l E _ r  (by omega)) ml_X4_59 mf_X4_reelFault rfl rfl ⟨(Nat.le_of_ble_eq_true rfl), (Nat.le_of_ble_eq_true rfl)⟩ rfl rfl rfl (Nat.le_of_ble_eq_true rfl) ⟨(Nat.le_of_ble_eq_true rfl), (Nat.le_of_ble_eq_true rfl)⟩ dX4_colourShare_1 (q := 4) rfl ?_
  refine g_cS_v C (As := [.int (iI (fR r))]) (c_X4_raise l E _ (fR r)  (by assumption)) ml_X4_63 mf_X4_raise rfl rfl ⟨(Nat.le_of_ble_eq_true rfl), (Nat.le_of_ble_eq_true rfl)⟩ rfl rfl rfl (Nat.le_of_ble_eq_true rfl) ⟨(Nat.le_of_ble_eq_true rfl), (Nat.le_of_ble_eq_true rfl)⟩ dX4_colourShare_4 (q := 7) rfl ?_
  refine g_iload_n C dX4_colourShare_7 2 rfl rfl (q := 8) rfl ?_
  refine g_cS_i C (As := [.int (iI c)]) (c_X4_colourFault l E _ c  (by omega)) ml_X4_121 mf_X4_colourFault rfl rfl ⟨(Nat.le_of_ble_eq_true rfl), (Nat.le_of_ble_eq_true rfl)⟩ rfl rfl rfl (Nat.le_of_ble_eq_true rfl) ⟨(Nat.le_of_ble_eq_true rfl), (Nat.le_of_ble_eq_true rfl)⟩ dX4_colourShare_8 (q := 11) rfl ?_
  refine g_cS_v C (As := [.int (iI (fC c))]) (c_X4_raise l E _ (fC c)  (by assumption)) ml_X4_63 mf_X4_raise rfl rfl ⟨(Nat.le_of_ble_eq_true rfl), (Nat.le_of_ble_eq_true rfl)⟩ rfl rfl rfl (Nat.le_of_ble_eq_true rfl) ⟨(Nat.le_of_ble_eq_true rfl), (Nat.le_of_ble_eq_true rfl)⟩ dX4_colourShare_11 (q := 14) rfl ?_
  refine g_aload_n C dX4_colourShare_14 0 rfl rfl (q := 15) rfl ?_
  refine gf_X4_12 C dX4_colourShare_15 (q := 18) rfl ?_
  refine g_iload_n C dX4_colourShare_18 1 rfl rfl (q := 19) rfl ?_
  refine g_cVN_i C (As := [.int (iI r)]) (c_X3_lengthOf l E _ r  (by omega) (by assumption)) mn_X4_80 mf_X3_lengthOf (o := 1) (ci := 3) rfl rfl rfl rfl ⟨(Nat.le_of_ble_eq_true rfl), (Nat.le_of_ble_eq_true rfl)⟩ rfl rfl rfl (Nat.le_of_ble_eq_true rfl) ⟨(Nat.le_of_ble_eq_true rfl), (Nat.le_of_ble_eq_true rfl)⟩ dX4_colourShare_19 (q := 22) rfl ?_
  refine g_istore_n C (L' := [(3, .int (iI (sb (σ 2) r ((σ 2) (240 + r))))), (0, .ref (ea E 0)), (1, .int (iI r)), (2, .int (iI c))]) dX4_colourShare_22 rfl (by decide) rfl (q := 23) rfl ?_
  refine g_iload_n C dX4_colourShare_23 0 rfl rfl (q := 24) rfl ?_
  refine g_if_ne C dX4_colourShare_24 (by omega) (q2 := 37) rfl (q := 27) rfl (fun hb1 => ?_) (fun hb1 => ?_)
  · skip
    refine g_aload_n C dX4_colourShare_37 1 rfl rfl (q := 38) rfl ?_
    refine gf_X4_12 C dX4_colourShare_38 (q := 41) rfl ?_
    refine g_iload_n C dX4_colourShare_41 2 rfl rfl (q := 42) rfl ?_
    refine g_iload_n C dX4_colourShare_42 3 rfl rfl (q := 43) rfl ?_
    refine g_cVN_i C (As := [.int (iI r), .int (iI c)]) (c_X3_sumOfColour l E _ r c  (by omega) (by omega) (by assumption)) mn_X4_127 mf_X3_sumOfColour (o := 1) (ci := 3) rfl rfl rfl rfl ⟨(Nat.le_of_ble_eq_true rfl), (Nat.le_of_ble_eq_true rfl)⟩ rfl rfl rfl (Nat.le_of_ble_eq_true rfl) ⟨(Nat.le_of_ble_eq_true rfl), (Nat.le_of_ble_eq_true rfl)⟩ dX4_colourShare_43 (q := 46) rfl ?_
    refine g_i2f C dX4_colourShare_46 (q := 47) rfl ?_
    refine g_iload_n C dX4_colourShare_47 0 rfl rfl (q := 48) rfl ?_
    refine g_i2f C dX4_colourShare_48 (q := 49) rfl ?_
    refine g_fdiv C (by exact nn32 (by omega) (by omega)) dX4_colourShare_49 (q := 50) rfl ?_
    exact hret _ _ _ dX4_colourShare_50 rfl
  · skip
    exfalso; omega
abbrev rmx_X4_colourShare : Room := { frames := 7, cells := 1, slots := 6, locals := 136 }
set_option maxRecDepth 100000 in
set_option maxHeartbeats 4000000 in
theorem x_X4_colourShare_3 (l : Launch) (hst : l.stackTraces = false) (E : EV) (σ : SS) (r c : Int) (hr_r : -2147483648 ≤ r ∧ r ≤ 2147483647) (hr_c : -2147483648 ≤ c ∧ c ≤ 2147483647) (hW : CW (σ 2)) (hP : PW (σ 2)) (hF1 : fR r = 0) (hF2 : fC c = 0) (hz : (σ 2) (240 + r) = 0) : Kx l yX4_colourShare (cw yX4_colourShare cX4_colourShare 4 (some .float)) rmx_X4_colourShare E [.ref (ea E 0), .int (iI r), .int (iI c)] σ xAE σ := by
  refine Kx_of (rm := rmx_X4_colourShare) (mL := 4) (b := cX4_colourShare) RX4 rfl (by decide +kernel) [(0, .ref (ea E 0)), (1, .int (iI r)), (2, .int (iI c))] rfl (Nat.le_of_ble_eq_true rfl) (fun p_ e_ s_ m_ a_ b_ h_ c_ Q A C hne hQ => ?_)
  have hr := fR_0 hF1
  have hn := (hW r hr).1
  have hsb := sb_rg hW hP hr
  have hsz := sb_z hW hP hr
  have hN := CW_N hW
  have hcc := fC_0 hF2
  have hsc := sc_rg hW hr c
  refine g_iload_n C dX4_colourShare_0 1 rfl rfl (q := 1) rfl ?_
  refine g_cS_i C (As := [.int (iI r)]) (c_X4_reelFault l E _ r  (by omega)) ml_X4_59 mf_X4_reelFault rfl rfl ⟨(Nat.le_of_ble_eq_true rfl), (Nat.le_of_ble_eq_true rfl)⟩ rfl rfl rfl (Nat.le_of_ble_eq_true rfl) ⟨(Nat.le_of_ble_eq_true rfl), (Nat.le_of_ble_eq_true rfl)⟩ dX4_colourShare_1 (q := 4) rfl ?_
  refine g_cS_v C (As := [.int (iI (fR r))]) (c_X4_raise l E _ (fR r)  (by assumption)) ml_X4_63 mf_X4_raise rfl rfl ⟨(Nat.le_of_ble_eq_true rfl), (Nat.le_of_ble_eq_true rfl)⟩ rfl rfl rfl (Nat.le_of_ble_eq_true rfl) ⟨(Nat.le_of_ble_eq_true rfl), (Nat.le_of_ble_eq_true rfl)⟩ dX4_colourShare_4 (q := 7) rfl ?_
  refine g_iload_n C dX4_colourShare_7 2 rfl rfl (q := 8) rfl ?_
  refine g_cS_i C (As := [.int (iI c)]) (c_X4_colourFault l E _ c  (by omega)) ml_X4_121 mf_X4_colourFault rfl rfl ⟨(Nat.le_of_ble_eq_true rfl), (Nat.le_of_ble_eq_true rfl)⟩ rfl rfl rfl (Nat.le_of_ble_eq_true rfl) ⟨(Nat.le_of_ble_eq_true rfl), (Nat.le_of_ble_eq_true rfl)⟩ dX4_colourShare_8 (q := 11) rfl ?_
  refine g_cS_v C (As := [.int (iI (fC c))]) (c_X4_raise l E _ (fC c)  (by assumption)) ml_X4_63 mf_X4_raise rfl rfl ⟨(Nat.le_of_ble_eq_true rfl), (Nat.le_of_ble_eq_true rfl)⟩ rfl rfl rfl (Nat.le_of_ble_eq_true rfl) ⟨(Nat.le_of_ble_eq_true rfl), (Nat.le_of_ble_eq_true rfl)⟩ dX4_colourShare_11 (q := 14) rfl ?_
  refine g_aload_n C dX4_colourShare_14 0 rfl rfl (q := 15) rfl ?_
  refine gf_X4_12 C dX4_colourShare_15 (q := 18) rfl ?_
  refine g_iload_n C dX4_colourShare_18 1 rfl rfl (q := 19) rfl ?_
  refine g_cVN_i C (As := [.int (iI r)]) (c_X3_lengthOf l E _ r  (by omega) (by assumption)) mn_X4_80 mf_X3_lengthOf (o := 1) (ci := 3) rfl rfl rfl rfl ⟨(Nat.le_of_ble_eq_true rfl), (Nat.le_of_ble_eq_true rfl)⟩ rfl rfl rfl (Nat.le_of_ble_eq_true rfl) ⟨(Nat.le_of_ble_eq_true rfl), (Nat.le_of_ble_eq_true rfl)⟩ dX4_colourShare_19 (q := 22) rfl ?_
  refine g_istore_n C (L' := [(3, .int (iI (sb (σ 2) r ((σ 2) (240 + r))))), (0, .ref (ea E 0)), (1, .int (iI r)), (2, .int (iI c))]) dX4_colourShare_22 rfl (by decide) rfl (q := 23) rfl ?_
  refine g_iload_n C dX4_colourShare_23 0 rfl rfl (q := 24) rfl ?_
  refine g_if_ne C dX4_colourShare_24 (by omega) (q2 := 37) rfl (q := 27) rfl (fun hb1 => ?_) (fun hb1 => ?_)
  · skip
    exfalso; omega
  · skip
    exact g_thr C hst hne tf_AE (List.mem_of_getElem? (i := 28) rfl) ⟨(Nat.le_of_ble_eq_true rfl), (Nat.le_of_ble_eq_true rfl), (Nat.le_of_ble_eq_true rfl), (Nat.le_of_ble_eq_true rfl)⟩ dX4_colourShare_27 dX4_colourShare_30 dX4_colourShare_31 dX4_colourShare_33 dX4_colourShare_36 hQ
set_option maxRecDepth 100000 in
set_option maxHeartbeats 4000000 in
theorem x_X4_colourShare_2 (l : Launch) (hst : l.stackTraces = false) (E : EV) (σ : SS) (r c : Int) (hr_r : -2147483648 ≤ r ∧ r ≤ 2147483647) (hr_c : -2147483648 ≤ c ∧ c ≤ 2147483647) (hW : CW (σ 2)) (hF1 : fR r = 0) (hF2 : fC c = 2) : Kx l yX4_colourShare (cw yX4_colourShare cX4_colourShare 4 (some .float)) rmx_X4_colourShare E [.ref (ea E 0), .int (iI r), .int (iI c)] σ xIAE σ := by
  refine Kx_of (rm := rmx_X4_colourShare) (mL := 4) (b := cX4_colourShare) RX4 rfl (by decide +kernel) [(0, .ref (ea E 0)), (1, .int (iI r)), (2, .int (iI c))] rfl (Nat.le_of_ble_eq_true rfl) (fun p_ e_ s_ m_ a_ b_ h_ c_ Q A C hne hQ => ?_)
  have hr := fR_0 hF1
  refine g_iload_n C dX4_colourShare_0 1 rfl rfl (q := 1) rfl ?_
  refine g_cS_i C (As := [.int (iI r)]) (c_X4_reelFault l E _ r  (by omega)) ml_X4_59 mf_X4_reelFault rfl rfl ⟨(Nat.le_of_ble_eq_true rfl), (Nat.le_of_ble_eq_true rfl)⟩ rfl rfl rfl (Nat.le_of_ble_eq_true rfl) ⟨(Nat.le_of_ble_eq_true rfl), (Nat.le_of_ble_eq_true rfl)⟩ dX4_colourShare_1 (q := 4) rfl ?_
  refine g_cS_v C (As := [.int (iI (fR r))]) (c_X4_raise l E _ (fR r)  (by assumption)) ml_X4_63 mf_X4_raise rfl rfl ⟨(Nat.le_of_ble_eq_true rfl), (Nat.le_of_ble_eq_true rfl)⟩ rfl rfl rfl (Nat.le_of_ble_eq_true rfl) ⟨(Nat.le_of_ble_eq_true rfl), (Nat.le_of_ble_eq_true rfl)⟩ dX4_colourShare_4 (q := 7) rfl ?_
  refine g_iload_n C dX4_colourShare_7 2 rfl rfl (q := 8) rfl ?_
  refine g_cS_i C (As := [.int (iI c)]) (c_X4_colourFault l E _ c  (by omega)) ml_X4_121 mf_X4_colourFault rfl rfl ⟨(Nat.le_of_ble_eq_true rfl), (Nat.le_of_ble_eq_true rfl)⟩ rfl rfl rfl (Nat.le_of_ble_eq_true rfl) ⟨(Nat.le_of_ble_eq_true rfl), (Nat.le_of_ble_eq_true rfl)⟩ dX4_colourShare_8 (q := 11) rfl ?_
  exact g_xS C hne (As := [.int (iI (fC c))]) (x_X4_raise_2 l hst E _ (fC c)  (by assumption)) ml_X4_63 mf_X4_raise rfl rfl ⟨(Nat.le_of_ble_eq_true rfl), (Nat.le_of_ble_eq_true rfl)⟩ rfl rfl rfl (Nat.le_of_ble_eq_true rfl) ⟨(Nat.le_of_ble_eq_true rfl), (Nat.le_of_ble_eq_true rfl)⟩ dX4_colourShare_11 hQ
set_option maxRecDepth 100000 in
set_option maxHeartbeats 4000000 in
theorem x_X4_colourShare_1 (l : Launch) (hst : l.stackTraces = false) (E : EV) (σ : SS) (r c : Int) (hr_r : -2147483648 ≤ r ∧ r ≤ 2147483647) (hr_c : -2147483648 ≤ c ∧ c ≤ 2147483647) (hW : CW (σ 2)) (hF1 : fR r = 1) : Kx l yX4_colourShare (cw yX4_colourShare cX4_colourShare 4 (some .float)) rmx_X4_colourShare E [.ref (ea E 0), .int (iI r), .int (iI c)] σ xIOOBE σ := by
  refine Kx_of (rm := rmx_X4_colourShare) (mL := 4) (b := cX4_colourShare) RX4 rfl (by decide +kernel) [(0, .ref (ea E 0)), (1, .int (iI r)), (2, .int (iI c))] rfl (Nat.le_of_ble_eq_true rfl) (fun p_ e_ s_ m_ a_ b_ h_ c_ Q A C hne hQ => ?_)
  refine g_iload_n C dX4_colourShare_0 1 rfl rfl (q := 1) rfl ?_
  refine g_cS_i C (As := [.int (iI r)]) (c_X4_reelFault l E _ r  (by omega)) ml_X4_59 mf_X4_reelFault rfl rfl ⟨(Nat.le_of_ble_eq_true rfl), (Nat.le_of_ble_eq_true rfl)⟩ rfl rfl rfl (Nat.le_of_ble_eq_true rfl) ⟨(Nat.le_of_ble_eq_true rfl), (Nat.le_of_ble_eq_true rfl)⟩ dX4_colourShare_1 (q := 4) rfl ?_
  exact g_xS C hne (As := [.int (iI (fR r))]) (x_X4_raise_1 l hst E _ (fR r)  (by assumption)) ml_X4_63 mf_X4_raise rfl rfl ⟨(Nat.le_of_ble_eq_true rfl), (Nat.le_of_ble_eq_true rfl)⟩ rfl rfl rfl (Nat.le_of_ble_eq_true rfl) ⟨(Nat.le_of_ble_eq_true rfl), (Nat.le_of_ble_eq_true rfl)⟩ dX4_colourShare_4 hQ
