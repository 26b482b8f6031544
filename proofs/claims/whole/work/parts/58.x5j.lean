abbrev rm_X5_meanLength : Room := { frames := 3, cells := 0, slots := 0, locals := 69 }
set_option maxRecDepth 100000 in
set_option maxHeartbeats 4000000 in
theorem c_X5_meanLength (l : Launch) (E : EV) (σ : SS) (r : Int) (f : Int → Int) (hM : MS f (σ 14)) (hr_r : -2147483648 ≤ r ∧ r ≤ 2147483647) (hF1 : fR r = 0) (hz : f (240 + r) ≠ 0) : Kd l yX5_meanLength (cw yX5_meanLength cX5_meanLength 2 (some .double)) rm_X5_meanLength E [.ref (ea E 13), .int (iI r)] σ (FP.ddiv (FP.i2d (iI (sI (lgs f r) 0 (f (240 + r))))) (FP.i2d (iI (f (240 + r))))) (st σ 13 (pt (σ 13) 0 0)) := by
  refine Kd_of (rm := rm_X5_meanLength) (mL := 2) (b := cX5_meanLength) RX5 rfl (by decide +kernel) rfl rfl [(0, .ref (ea E 13)), (1, .int (iI r))] rfl (Nat.le_of_ble_eq_true rfl) (fun p_ e_ s_ m_ a_ b_ h_ c_ Q A C hret => ?_)
  have hB := bR_iff r
  have hB1 := bR_01 r
  have hr := fR_0 hF1
  have hm_r := (hM.2.1 r hr).1
  have hn_r := (hM.1 r hr).1
  have hsw : 0 ≤ sI (lgs f r) 0 (f (240 + r)) ∧ sI (lgs f r) 0 (f (240 + r)) ≤ 5940 := sum_rg hM.1 hr (by omega)
  have hsz := sum_z hM.1 hr
  refine g_aload_n C dX5_meanLength_0 0 rfl rfl (q := 1) rfl ?_
  refine g_iload_n C dX5_meanLength_1 1 rfl rfl (q := 2) rfl ?_
  refine g_cS_i C (As := [.int (iI r)]) (c_X5_isReel l E _ r  (by omega)) ml_X5_58 mf_X5_isReel rfl rfl ⟨(Nat.le_of_ble_eq_true rfl), (Nat.le_of_ble_eq_true rfl)⟩ rfl rfl rfl (Nat.le_of_ble_eq_true rfl) ⟨(Nat.le_of_ble_eq_true rfl), (Nat.le_of_ble_eq_true rfl)⟩ dX5_meanLength_2 (q := 5) rfl ?_
  refine g_if_ne C dX5_meanLength_5 (by omega) (q2 := 12) rfl (q := 8) rfl (fun hb1 => ?_) (fun hb1 => ?_)
  · skip
    refine g_aload_n C dX5_meanLength_12 0 rfl rfl (q := 13) rfl ?_
    refine g_iload_n C dX5_meanLength_13 1 rfl rfl (q := 14) rfl ?_
    refine g_cV_i C (As := [.int (iI r)]) (c_X5_many l E _ r  (by omega)) ml_X5_62 mf_X5_many (o := 13) (ci := 5) rfl rfl rfl rfl ⟨(Nat.le_of_ble_eq_true rfl), (Nat.le_of_ble_eq_true rfl)⟩ rfl rfl rfl (Nat.le_of_ble_eq_true rfl) ⟨(Nat.le_of_ble_eq_true rfl), (Nat.le_of_ble_eq_true rfl)⟩ dX5_meanLength_14 (q := 17) rfl ?_
    refine g_if_ne C dX5_meanLength_17 (by omega) (q2 := 24) rfl (q := 20) rfl (fun hb2 => ?_) (fun hb2 => ?_)
    · skip
      refine g_iconst C dX5_meanLength_24 (q := 25) rfl ?_
      refine gp_X5_38 C dX5_meanLength_25 (q := 28) rfl ?_
      refine g_aload_n C dX5_meanLength_28 0 rfl rfl (q := 29) rfl ?_
      refine gf_X5_38 C dX5_meanLength_29 (q := 32) rfl ?_
      refine g_top (b := 0) rfl ?_
      refine g_if_le C dX5_meanLength_32 (by omega) (q2 := 39) rfl (q := 35) rfl (fun hb3 => ?_) (fun hb3 => ?_)
      · skip
        refine g_aload_n C dX5_meanLength_39 0 rfl rfl (q := 40) rfl ?_
        refine g_iload_n C dX5_meanLength_40 1 rfl rfl (q := 41) rfl ?_
        refine g_cV_i C (As := [.int (iI r)]) (c_X5_whole l E _ r f (by show MS f (σ 14); assumption) (by omega)) ml_X5_134 mf_X5_whole (o := 13) (ci := 5) rfl rfl rfl rfl ⟨(Nat.le_of_ble_eq_true rfl), (Nat.le_of_ble_eq_true rfl)⟩ rfl rfl rfl (Nat.le_of_ble_eq_true rfl) ⟨(Nat.le_of_ble_eq_true rfl), (Nat.le_of_ble_eq_true rfl)⟩ dX5_meanLength_41 (q := 44) rfl ?_
        refine g_i2d C dX5_meanLength_44 (q := 45) rfl ?_
        refine g_aload_n C dX5_meanLength_45 0 rfl rfl (q := 46) rfl ?_
        refine g_iload_n C dX5_meanLength_46 1 rfl rfl (q := 47) rfl ?_
        refine g_cV_i C (As := [.int (iI r)]) (c_X5_many l E _ r  (by omega)) ml_X5_62 mf_X5_many (o := 13) (ci := 5) rfl rfl rfl rfl ⟨(Nat.le_of_ble_eq_true rfl), (Nat.le_of_ble_eq_true rfl)⟩ rfl rfl rfl (Nat.le_of_ble_eq_true rfl) ⟨(Nat.le_of_ble_eq_true rfl), (Nat.le_of_ble_eq_true rfl)⟩ dX5_meanLength_47 (q := 50) rfl ?_
        refine g_top (b := (σ 14) (2 + 121 * r)) rfl ?_
        refine g_top (b := f (240 + r)) (by exact hm_r) ?_
        refine g_i2d C dX5_meanLength_50 (q := 51) rfl ?_
        refine g_ddiv C (by exact nn64 (by omega) (by omega)) dX5_meanLength_51 (q := 52) rfl ?_
        exact hret _ _ _ dX5_meanLength_52 rfl
      · skip
        exfalso; omega
    · skip
      exfalso; omega
  · skip
    exfalso; omega
set_option maxRecDepth 100000 in
set_option maxHeartbeats 4000000 in
theorem c_X5_meanLength_2 (l : Launch) (E : EV) (σ : SS) (r : Int) (f : Int → Int) (hM : MS f (σ 14)) (hr_r : -2147483648 ≤ r ∧ r ≤ 2147483647) (hF1 : fR r = 0) (hz : f (240 + r) = 0) : Kd l yX5_meanLength (cw yX5_meanLength cX5_meanLength 2 (some .double)) rm_X5_meanLength E [.ref (ea E 13), .int (iI r)] σ FP.dconst0 (st σ 13 (pt (σ 13) 0 2)) := by
  refine Kd_of (rm := rm_X5_meanLength) (mL := 2) (b := cX5_meanLength) RX5 rfl (by decide +kernel) rfl rfl [(0, .ref (ea E 13)), (1, .int (iI r))] rfl (Nat.le_of_ble_eq_true rfl) (fun p_ e_ s_ m_ a_ b_ h_ c_ Q A C hret => ?_)
  have hB := bR_iff r
  have hB1 := bR_01 r
  have hr := fR_0 hF1
  have hm_r := (hM.2.1 r hr).1
  have hn_r := (hM.1 r hr).1
  have hsw : 0 ≤ sI (lgs f r) 0 (f (240 + r)) ∧ sI (lgs f r) 0 (f (240 + r)) ≤ 5940 := sum_rg hM.1 hr (by omega)
  have hsz := sum_z hM.1 hr
  refine g_aload_n C dX5_meanLength_0 0 rfl rfl (q := 1) rfl ?_
  refine g_iload_n C dX5_meanLength_1 1 rfl rfl (q := 2) rfl ?_
  refine g_cS_i C (As := [.int (iI r)]) (c_X5_isReel l E _ r  (by omega)) ml_X5_58 mf_X5_isReel rfl rfl ⟨(Nat.le_of_ble_eq_true rfl), (Nat.le_of_ble_eq_true rfl)⟩ rfl rfl rfl (Nat.le_of_ble_eq_true rfl) ⟨(Nat.le_of_ble_eq_true rfl), (Nat.le_of_ble_eq_true rfl)⟩ dX5_meanLength_2 (q := 5) rfl ?_
  refine g_if_ne C dX5_meanLength_5 (by omega) (q2 := 12) rfl (q := 8) rfl (fun hb1 => ?_) (fun hb1 => ?_)
  · skip
    refine g_aload_n C dX5_meanLength_12 0 rfl rfl (q := 13) rfl ?_
    refine g_iload_n C dX5_meanLength_13 1 rfl rfl (q := 14) rfl ?_
    refine g_cV_i C (As := [.int (iI r)]) (c_X5_many l E _ r  (by omega)) ml_X5_62 mf_X5_many (o := 13) (ci := 5) rfl rfl rfl rfl ⟨(Nat.le_of_ble_eq_true rfl), (Nat.le_of_ble_eq_true rfl)⟩ rfl rfl rfl (Nat.le_of_ble_eq_true rfl) ⟨(Nat.le_of_ble_eq_true rfl), (Nat.le_of_ble_eq_true rfl)⟩ dX5_meanLength_14 (q := 17) rfl ?_
    refine g_if_ne C dX5_meanLength_17 (by omega) (q2 := 24) rfl (q := 20) rfl (fun hb2 => ?_) (fun hb2 => ?_)
    · skip
      exfalso; omega
    · skip
      refine g_iconst C dX5_meanLength_20 (q := 21) rfl ?_
      refine g_goto C dX5_meanLength_21 (q := 25) rfl ?_
      refine gp_X5_38 C dX5_meanLength_25 (q := 28) rfl ?_
      refine g_aload_n C dX5_meanLength_28 0 rfl rfl (q := 29) rfl ?_
      refine gf_X5_38 C dX5_meanLength_29 (q := 32) rfl ?_
      refine g_top (b := 2) rfl ?_
      refine g_if_le C dX5_meanLength_32 (by omega) (q2 := 39) rfl (q := 35) rfl (fun hb3 => ?_) (fun hb3 => ?_)
      · skip
        exfalso; omega
      · skip
        refine g_dconst0 C dX5_meanLength_35 (q := 36) rfl ?_
        refine g_goto C dX5_meanLength_36 (q := 52) rfl ?_
        exact hret _ _ _ dX5_meanLength_52 rfl
  · skip
    exfalso; omega
set_option maxRecDepth 100000 in
set_option maxHeartbeats 4000000 in
theorem c_X5_meanLength_1 (l : Launch) (E : EV) (σ : SS) (r : Int) (f : Int → Int) (hM : MS f (σ 14)) (hr_r : -2147483648 ≤ r ∧ r ≤ 2147483647) (hF1 : fR r = 1) : Kd l yX5_meanLength (cw yX5_meanLength cX5_meanLength 2 (some .double)) rm_X5_meanLength E [.ref (ea E 13), .int (iI r)] σ FP.dconst0 (st σ 13 (pt (σ 13) 0 1)) := by
  refine Kd_of (rm := rm_X5_meanLength) (mL := 2) (b := cX5_meanLength) RX5 rfl (by decide +kernel) rfl rfl [(0, .ref (ea E 13)), (1, .int (iI r))] rfl (Nat.le_of_ble_eq_true rfl) (fun p_ e_ s_ m_ a_ b_ h_ c_ Q A C hret => ?_)
  have hB := bR_iff r
  have hB1 := bR_01 r
  have hnr : ¬ (0 ≤ r ∧ r < 4) := by intro h9; unfold fR at hF1; rw [if_pos h9] at hF1; omega
  refine g_aload_n C dX5_meanLength_0 0 rfl rfl (q := 1) rfl ?_
  refine g_iload_n C dX5_meanLength_1 1 rfl rfl (q := 2) rfl ?_
  refine g_cS_i C (As := [.int (iI r)]) (c_X5_isReel l E _ r  (by omega)) ml_X5_58 mf_X5_isReel rfl rfl ⟨(Nat.le_of_ble_eq_true rfl), (Nat.le_of_ble_eq_true rfl)⟩ rfl rfl rfl (Nat.le_of_ble_eq_true rfl) ⟨(Nat.le_of_ble_eq_true rfl), (Nat.le_of_ble_eq_true rfl)⟩ dX5_meanLength_2 (q := 5) rfl ?_
  refine g_if_ne C dX5_meanLength_5 (by omega) (q2 := 12) rfl (q := 8) rfl (fun hb1 => ?_) (fun hb1 => ?_)
  · skip
    exfalso; omega
  · skip
    refine g_iconst C dX5_meanLength_8 (q := 9) rfl ?_
    refine g_goto C dX5_meanLength_9 (q := 25) rfl ?_
    refine gp_X5_38 C dX5_meanLength_25 (q := 28) rfl ?_
    refine g_aload_n C dX5_meanLength_28 0 rfl rfl (q := 29) rfl ?_
    refine gf_X5_38 C dX5_meanLength_29 (q := 32) rfl ?_
    refine g_top (b := 1) rfl ?_
    refine g_if_le C dX5_meanLength_32 (by omega) (q2 := 39) rfl (q := 35) rfl (fun hb2 => ?_) (fun hb2 => ?_)
    · skip
      exfalso; omega
    · skip
      refine g_dconst0 C dX5_meanLength_35 (q := 36) rfl ?_
      refine g_goto C dX5_meanLength_36 (q := 52) rfl ?_
      exact hret _ _ _ dX5_meanLength_52 rfl
abbrev rm_X5_colourShare : Room := { frames := 3, cells := 0, slots := 0, locals := 69 }
set_option maxRecDepth 100000 in
set_option maxHeartbeats 4000000 in
theorem c_X5_colourShare (l : Launch) (E : EV) (σ : SS) (r c : Int) (f : Int → Int) (hM : MS f (σ 14)) (hr_r : -2147483648 ≤ r ∧ r ≤ 2147483647) (hr_c : -2147483648 ≤ c ∧ c ≤ 2147483647) (hF1 : fR r = 0) (hF2 : fC c = 0) (hz : f (240 + r) ≠ 0) : Kf l yX5_colourShare (cw yX5_colourShare cX5_colourShare 3 (some .float)) rm_X5_colourShare E [.ref (ea E 13), .int (iI r), .int (iI c)] σ (FP.fdiv (FP.i2f (iI (sc f r c))) (FP.i2f (iI (sI (lgs f r) 0 (f (240 + r)))))) (st σ 13 (pt (σ 13) 0 0)) := by
  refine Kf_of (rm := rm_X5_colourShare) (mL := 3) (b := cX5_colourShare) RX5 rfl (by decide +kernel) rfl rfl [(0, .ref (ea E 13)), (1, .int (iI r)), (2, .int (iI c))] rfl (Nat.le_of_ble_eq_true rfl) (fun p_ e_ s_ m_ a_ b_ h_ c_ Q A C hret => ?_)
  have hB := bR_iff r
  have hB1 := bR_01 r
  have hr := fR_0 hF1
  have hm_r := (hM.2.1 r hr).1
  have hn_r := (hM.1 r hr).1
  have hsw : 0 ≤ sI (lgs f r) 0 (f (240 + r)) ∧ sI (lgs f r) 0 (f (240 + r)) ≤ 5940 := sum_rg hM.1 hr (by omega)
  have hsz := sum_z hM.1 hr
  have hcc := fC_0 hF2
  have hC := bC_iff c
  have hC1 := bC_01 c
  have hsc := sc_rg hM.1 hr c
  refine g_aload_n C dX5_colourShare_0 0 rfl rfl (q := 1) rfl ?_
  refine g_iload_n C dX5_colourShare_1 1 rfl rfl (q := 2) rfl ?_
  refine g_cS_i C (As := [.int (iI r)]) (c_X5_isReel l E _ r  (by omega)) ml_X5_58 mf_X5_isReel rfl rfl ⟨(Nat.le_of_ble_eq_true rfl), (Nat.le_of_ble_eq_true rfl)⟩ rfl rfl rfl (Nat.le_of_ble_eq_true rfl) ⟨(Nat.le_of_ble_eq_true rfl), (Nat.le_of_ble_eq_true rfl)⟩ dX5_colourShare_2 (q := 5) rfl ?_
  refine g_if_ne C dX5_colourShare_5 (by omega) (q2 := 12) rfl (q := 8) rfl (fun hb1 => ?_) (fun hb1 => ?_)
  · skip
    refine g_iload_n C dX5_colourShare_12 2 rfl rfl (q := 13) rfl ?_
    refine g_cS_i C (As := [.int (iI c)]) (c_X5_isColour l E _ c  (by omega)) ml_X5_72 mf_X5_isColour rfl rfl ⟨(Nat.le_of_ble_eq_true rfl), (Nat.le_of_ble_eq_true rfl)⟩ rfl rfl rfl (Nat.le_of_ble_eq_true rfl) ⟨(Nat.le_of_ble_eq_true rfl), (Nat.le_of_ble_eq_true rfl)⟩ dX5_colourShare_13 (q := 16) rfl ?_
    refine g_if_ne C dX5_colourShare_16 (by omega) (q2 := 23) rfl (q := 19) rfl (fun hb2 => ?_) (fun hb2 => ?_)
    · skip
      refine g_aload_n C dX5_colourShare_23 0 rfl rfl (q := 24) rfl ?_
      refine g_iload_n C dX5_colourShare_24 1 rfl rfl (q := 25) rfl ?_
      refine g_cV_i C (As := [.int (iI r)]) (c_X5_many l E _ r  (by omega)) ml_X5_62 mf_X5_many (o := 13) (ci := 5) rfl rfl rfl rfl ⟨(Nat.le_of_ble_eq_true rfl), (Nat.le_of_ble_eq_true rfl)⟩ rfl rfl rfl (Nat.le_of_ble_eq_true rfl) ⟨(Nat.le_of_ble_eq_true rfl), (Nat.le_of_ble_eq_true rfl)⟩ dX5_colourShare_25 (q := 28) rfl ?_
      refine g_if_ne C dX5_colourShare_28 (by omega) (q2 := 35) rfl (q := 31) rfl (fun hb3 => ?_) (fun hb3 => ?_)
      · skip
        refine g_iconst C dX5_colourShare_35 (q := 36) rfl ?_
        refine gp_X5_38 C dX5_colourShare_36 (q := 39) rfl ?_
        refine g_aload_n C dX5_colourShare_39 0 rfl rfl (q := 40) rfl ?_
        refine gf_X5_38 C dX5_colourShare_40 (q := 43) rfl ?_
        refine g_top (b := 0) rfl ?_
        refine g_if_le C dX5_colourShare_43 (by omega) (q2 := 50) rfl (q := 46) rfl (fun hb4 => ?_) (fun hb4 => ?_)
        · skip
          refine g_aload_n C dX5_colourShare_50 0 rfl rfl (q := 51) rfl ?_
          refine g_iload_n C dX5_colourShare_51 1 rfl rfl (q := 52) rfl ?_
          refine g_iload_n C dX5_colourShare_52 2 rfl rfl (q := 53) rfl ?_
          refine g_cV_i C (As := [.int (iI r), .int (iI c)]) (c_X5_dyed l E _ r c f (by show MS f (σ 14); assumption) (by omega) (by omega)) ml_X5_149 mf_X5_dyed (o := 13) (ci := 5) rfl rfl rfl rfl ⟨(Nat.le_of_ble_eq_true rfl), (Nat.le_of_ble_eq_true rfl)⟩ rfl rfl rfl (Nat.le_of_ble_eq_true rfl) ⟨(Nat.le_of_ble_eq_true rfl), (Nat.le_of_ble_eq_true rfl)⟩ dX5_colourShare_53 (q := 56) rfl ?_
          refine g_i2f C dX5_colourShare_56 (q := 57) rfl ?_
          refine g_aload_n C dX5_colourShare_57 0 rfl rfl (q := 58) rfl ?_
          refine g_iload_n C dX5_colourShare_58 1 rfl rfl (q := 59) rfl ?_
          refine g_cV_i C (As := [.int (iI r)]) (c_X5_whole l E _ r f (by show MS f (σ 14); assumption) (by omega)) ml_X5_134 mf_X5_whole (o := 13) (ci := 5) rfl rfl rfl rfl ⟨(Nat.le_of_ble_eq_true rfl), (Nat.le_of_ble_eq_true rfl)⟩ rfl rfl rfl (Nat.le_of_ble_eq_true rfl) ⟨(Nat.le_of_ble_eq_true rfl), (Nat.le_of_ble_eq_true rfl)⟩ dX5_colourShare_59 (q := 62) rfl ?_
          refine g_i2f C dX5_colourShare_62 (q := 63) rfl ?_
          refine g_fdiv C (by exact nn32 (by omega) (by omega)) dX5_colourShare_63 (q := 64) rfl ?_
          exact hret _ _ _ dX5_colourShare_64 rfl
        · skip
          exfalso; omega
      · skip
        exfalso; omega
    · skip
      exfalso; omega
  · skip
    exfalso; omega
set_option maxRecDepth 100000 in
set_option maxHeartbeats 4000000 in
theorem c_X5_colourShare_3 (l : Launch) (E : EV) (σ : SS) (r c : Int) (f : Int → Int) (hM : MS f (σ 14)) (hr_r : -2147483648 ≤ r ∧ r ≤ 2147483647) (hr_c : -2147483648 ≤ c ∧ c ≤ 2147483647) (hF1 : fR r = 0) (hF2 : fC c = 0) (hz : f (240 + r) = 0) : Kf l yX5_colourShare (cw yX5_colourShare cX5_colourShare 3 (some .float)) rm_X5_colourShare E [.ref (ea E 13), .int (iI r), .int (iI c)] σ FP.fconst0 (st σ 13 (pt (σ 13) 0 3)) := by
  refine Kf_of (rm := rm_X5_colourShare) (mL := 3) (b := cX5_colourShare) RX5 rfl (by decide +kernel) rfl rfl [(0, .ref (ea E 13)), (1, .int (iI r)), (2, .int (iI c))] rfl (Nat.le_of_ble_eq_true rfl) (fun p_ e_ s_ m_ a_ b_ h_ c_ Q A C hret => ?_)
  have hB := bR_iff r
  have hB1 := bR_01 r
  have hr := fR_0 hF1
  have hm_r := (hM.2.1 r hr).1
  have hn_r := (hM.1 r hr).1
  have hsw : 0 ≤ sI (lgs f r) 0 (f (240 + r)) ∧ sI (lgs f r) 0 (f (240 + r)) ≤ 5940 := sum_rg hM.1 hr (by omega)
  have hsz := sum_z hM.1 hr
  have hcc := fC_0 hF2
  have hC := bC_iff c
  have hC1 := bC_01 c
  have hsc := sc_rg hM.1 hr c
  refine g_aload_n C dX5_colourShare_0 0 rfl rfl (q := 1) rfl ?_
  refine g_iload_n C dX5_colourShare_1 1 rfl rfl (q := 2) rfl ?_
  refine g_cS_i C (As := [.int (iI r)]) (c_X5_isReel l E _ r  (by omega)) ml_X5_58 mf_X5_isReel rfl rfl ⟨(Nat.le_of_ble_eq_true rfl), (Nat.le_of_ble_eq_true rfl)⟩ rfl rfl rfl (Nat.le_of_ble_eq_true rfl) ⟨(Nat.le_of_ble_eq_true rfl), (Nat.le_of_ble_eq_true rfl)⟩ dX5_colourShare_2 (q := 5) rfl ?_
  refine g_if_ne C dX5_colourShare_5 (by omega) (q2 := 12) rfl (q := 8) rfl (fun hb1 => ?_) (fun hb1 => ?_)
  · skip
    refine g_iload_n C dX5_colourShare_12 2 rfl rfl (q := 13) rfl ?_
    refine g_cS_i C (As := [.int (iI c)]) (c_X5_isColour l E _ c  (by omega)) ml_X5_72 mf_X5_isColour rfl rfl ⟨(Nat.le_of_ble_eq_true rfl), (Nat.le_of_ble_eq_true rfl)⟩ rfl rfl rfl (Nat.le_of_ble_eq_true rfl) ⟨(Nat.le_of_ble_eq_true rfl), (Nat.le_of_ble_eq_true rfl)⟩ dX5_colourShare_13 (q := 16) rfl ?_
    refine g_if_ne C dX5_colourShare_16 (by omega) (q2 := 23) rfl (q := 19) rfl (fun hb2 => ?_) (fun hb2 => ?_)
    · skip
      refine g_aload_n C dX5_colourShare_23 0 rfl rfl (q := 24) rfl ?_
      refine g_iload_n C dX5_colourShare_24 1 rfl rfl (q := 25) rfl ?_
      refine g_cV_i C (As := [.int (iI r)]) (c_X5_many l E _ r  (by omega)) ml_X5_62 mf_X5_many (o := 13) (ci := 5) rfl rfl rfl rfl ⟨(Nat.le_of_ble_eq_true rfl), (Nat.le_of_ble_eq_true rfl)⟩ rfl rfl rfl (Nat.le_of_ble_eq_true rfl) ⟨(Nat.le_of_ble_eq_true rfl), (Nat.le_of_ble_eq_true rfl)⟩ dX5_colourShare_25 (q := 28) rfl ?_
      refine g_if_ne C dX5_colourShare_28 (by omega) (q2 := 35) rfl (q := 31) rfl (fun hb3 => ?_) (fun hb3 => ?_)
      · skip
        exfalso; omega
      · skip
        refine g_iconst C dX5_colourShare_31 (q := 32) rfl ?_
        refine g_goto C dX5_colourShare_32 (q := 36) rfl ?_
        refine gp_X5_38 C dX5_colourShare_36 (q := 39) rfl ?_
        refine g_aload_n C dX5_colourShare_39 0 rfl rfl (q := 40) rfl ?_
        refine gf_X5_38 C dX5_colourShare_40 (q := 43) rfl ?_
        refine g_top (b := 3) rfl ?_
        refine g_if_le C dX5_colourShare_43 (by omega) (q2 := 50) rfl (q := 46) rfl (fun hb4 => ?_) (fun hb4 => ?_)
        · skip
          exfalso; omega
        · skip
          refine g_fconst0 C dX5_colourShare_46 (q := 47) rfl ?_
          refine g_goto C dX5_colourShare_47 (q := 64) rfl ?_
          exact hret _ _ _ dX5_colourShare_64 rfl
    · skip
      exfalso; omega
  · skip
    exfalso; omega
set_option maxRecDepth 100000 in
set_option maxHeartbeats 4000000 in
theorem c_X5_colourShare_2 (l : Launch) (E : EV) (σ : SS) (r c : Int) (f : Int → Int) (hM : MS f (σ 14)) (hr_r : -2147483648 ≤ r ∧ r ≤ 2147483647) (hr_c : -2147483648 ≤ c ∧ c ≤ 2147483647) (hF1 : fR r = 0) (hF2 : fC c = 2) : Kf l yX5_colourShare (cw yX5_colourShare cX5_colourShare 3 (some .float)) rm_X5_colourShare E [.ref (ea E 13), .int (iI r), .int (iI c)] σ FP.fconst0 (st σ 13 (pt (σ 13) 0 2)) := by
  refine Kf_of (rm := rm_X5_colourShare) (mL := 3) (b := cX5_colourShare) RX5 rfl (by decide +kernel) rfl rfl [(0, .ref (ea E 13)), (1, .int (iI r)), (2, .int (iI c))] rfl (Nat.le_of_ble_eq_true rfl) (fun p_ e_ s_ m_ a_ b_ h_ c_ Q A C hret => ?_)
  have hB := bR_iff r
  have hB1 := bR_01 r
  have hr := fR_0 hF1
  have hC := bC_iff c
  have hC1 := bC_01 c
  have hnc : ¬ (0 ≤ c ∧ c < 8) := by intro h9; unfold fC at hF2; rw [if_pos h9] at hF2; omega
  refine g_aload_n C dX5_colourShare_0 0 rfl rfl (q := 1) rfl ?_
  refine g_iload_n C dX5_colourShare_1 1 rfl rfl (q := 2) rfl ?_
  refine g_cS_i C (As := [.int (iI r)]) (c_X5_isReel l E _ r  (by omega)) ml_X5_58 mf_X5_isReel rfl rfl ⟨(Nat.le_of_ble_eq_true rfl), (Nat.le_of_ble_eq_true rfl)⟩ rfl rfl rfl (Nat.le_of_ble_eq_true rfl) ⟨(Nat.le_of_ble_eq_true rfl), (Nat.le_of_ble_eq_true rfl)⟩ dX5_colourShare_2 (q := 5) rfl ?_
  refine g_if_ne C dX5_colourShare_5 (by omega) (q2 := 12) rfl (q := 8) rfl (fun hb1 => ?_) (fun hb1 => ?_)
  · skip
    refine g_iload_n C dX5_colourShare_12 2 rfl rfl (q := 13) rfl ?_
    refine g_cS_i C (As := [.int (iI c)]) (c_X5_isColour l E _ c  (by omega)) ml_X5_72 mf_X5_isColour rfl rfl ⟨(Nat.le_of_ble_eq_true rfl), (Nat.le_of_ble_eq_true rfl)⟩ rfl rfl rfl (Nat.le_of_ble_eq_true rfl) ⟨(Nat.le_of_ble_eq_true rfl), (Nat.le_of_ble_eq_true rfl)⟩ dX5_colourShare_13 (q := 16) rfl ?_
    refine g_if_ne C dX5_colourShare_16 (by omega) (q2 := 23) rfl (q := 19) rfl (fun hb2 => ?_) (fun hb2 => ?_)
    · skip
      exfalso; omega
    · skip
      refine g_iconst C dX5_colourShare_19 (q := 20) rfl ?_
      refine g_goto C dX5_colourShare_20 (q := 36) rfl ?_
      refine gp_X5_38 C dX5_colourShare_36 (q := 39) rfl ?_
      refine g_aload_n C dX5_colourShare_39 0 rfl rfl (q := 40) rfl ?_
      refine gf_X5_38 C dX5_colourShare_40 (q := 43) rfl ?_
      refine g_top (b := 2) rfl ?_
      refine g_if_le C dX5_colourShare_43 (by omega) (q2 := 50) rfl (q := 46) rfl (fun hb3 => ?_) (fun hb3 => ?_)
      · skip
        exfalso; omega
      · skip
        refine g_fconst0 C dX5_colourShare_46 (q := 47) rfl ?_
        refine g_goto C dX5_colourShare_47 (q := 64) rfl ?_
        exact hret _ _ _ dX5_colourShare_64 rfl
  · skip
    exfalso; omega
set_option maxRecDepth 100000 in
set_option maxHeartbeats 4000000 in
theorem c_X5_colourShare_1 (l : Launch) (E : EV) (σ : SS) (r c : Int) (f : Int → Int) (hM : MS f (σ 14)) (hr_r : -2147483648 ≤ r ∧ r ≤ 2147483647) (hr_c : -2147483648 ≤ c ∧ c ≤ 2147483647) (hF1 : fR r = 1) : Kf l yX5_colourShare (cw yX5_colourShare cX5_colourShare 3 (some .float)) rm_X5_colourShare E [.ref (ea E 13), .int (iI r), .int (iI c)] σ FP.fconst0 (st σ 13 (pt (σ 13) 0 1)) := by
  refine Kf_of (rm := rm_X5_colourShare) (mL := 3) (b := cX5_colourShare) RX5 rfl (by decide +kernel) rfl rfl [(0, .ref (ea E 13)), (1, .int (iI r)), (2, .int (iI c))] rfl (Nat.le_of_ble_eq_true rfl) (fun p_ e_ s_ m_ a_ b_ h_ c_ Q A C hret => ?_)
  have hB := bR_iff r
  have hB1 := bR_01 r
  have hnr : ¬ (0 ≤ r ∧ r < 4) := by intro h9; unfold fR at hF1; rw [if_pos h9] at hF1; omega
  refine g_aload_n C dX5_colourShare_0 0 rfl rfl (q := 1) rfl ?_
  refine g_iload_n C dX5_colourShare_1 1 rfl rfl (q := 2) rfl ?_
  refine g_cS_i C (As := [.int (iI r)]) (c_X5_isReel l E _ r  (by omega)) ml_X5_58 mf_X5_isReel rfl rfl ⟨(Nat.le_of_ble_eq_true rfl), (Nat.le_of_ble_eq_true rfl)⟩ rfl rfl rfl (Nat.le_of_ble_eq_true rfl) ⟨(Nat.le_of_ble_eq_true rfl), (Nat.le_of_ble_eq_true rfl)⟩ dX5_colourShare_2 (q := 5) rfl ?_
  refine g_if_ne C dX5_colourShare_5 (by omega) (q2 := 12) rfl (q := 8) rfl (fun hb1 => ?_) (fun hb1 => ?_)
  · skip
    exfalso; omega
  · skip
    refine g_iconst C dX5_colourShare_8 (q := 9) rfl ?_
    refine g_goto C dX5_colourShare_9 (q := 36) rfl ?_
    refine gp_X5_38 C dX5_colourShare_36 (q := 39) rfl ?_
    refine g_aload_n C dX5_colourShare_39 0 rfl rfl (q := 40) rfl ?_
    refine gf_X5_38 C dX5_colourShare_40 (q := 43) rfl ?_
    refine g_top (b := 1) rfl ?_
    refine g_if_le C dX5_colourShare_43 (by omega) (q2 := 50) rfl (q := 46) rfl (fun hb2 => ?_) (fun hb2 => ?_)
    · skip
      exfalso; omega
    · skip
      refine g_fconst0 C dX5_colourShare_46 (q := 47) rfl ?_
      refine g_goto C dX5_colourShare_47 (q := 64) rfl ?_
      exact hret _ _ _ dX5_colourShare_64 rfl
