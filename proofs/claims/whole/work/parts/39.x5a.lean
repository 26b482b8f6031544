abbrev rm_X5_thrown : Room := { frames := 0, cells := 0, slots := 0, locals := 0 }
set_option maxRecDepth 100000 in
set_option maxHeartbeats 4000000 in
theorem c_X5_thrown (l : Launch) (E : EV) (σ : SS)  : Ki l yX5_thrown (cw yX5_thrown cX5_thrown 1 (some .int)) rm_X5_thrown E [.ref (ea E 13)] σ (σ 13 0) σ := by
  refine Ki_of (rm := rm_X5_thrown) (mL := 1) (b := cX5_thrown) RX5 rfl (by decide +kernel) rfl rfl [(0, .ref (ea E 13))] rfl (Nat.le_of_ble_eq_true rfl) (fun p_ e_ s_ m_ a_ b_ h_ c_ Q A C hret => ?_)
  refine g_aload_n C dX5_thrown_0 0 rfl rfl (q := 1) rfl ?_
  refine gf_X5_38 C dX5_thrown_1 (q := 4) rfl ?_
  exact hret _ _ _ dX5_thrown_4 rfl
abbrev rm_X5_fails : Room := { frames := 0, cells := 0, slots := 0, locals := 0 }
set_option maxRecDepth 100000 in
set_option maxHeartbeats 4000000 in
theorem c_X5_fails (l : Launch) (E : EV) (σ : SS) (c : Int)  : Ki l yX5_fails (cw yX5_fails cX5_fails 2 (some .int)) rm_X5_fails E [.ref (ea E 13), .int (iI c)] σ 0 (st σ 13 (pt (σ 13) 0 c)) := by
  refine Ki_of (rm := rm_X5_fails) (mL := 2) (b := cX5_fails) RX5 rfl (by decide +kernel) rfl rfl [(0, .ref (ea E 13)), (1, .int (iI c))] rfl (Nat.le_of_ble_eq_true rfl) (fun p_ e_ s_ m_ a_ b_ h_ c_ Q A C hret => ?_)
  refine g_aload_n C dX5_fails_0 0 rfl rfl (q := 1) rfl ?_
  refine g_iload_n C dX5_fails_1 1 rfl rfl (q := 2) rfl ?_
  refine gp_X5_38 C dX5_fails_2 (q := 5) rfl ?_
  refine g_iconst C dX5_fails_5 (q := 6) rfl ?_
  exact hret _ _ _ dX5_fails_6 rfl
abbrev rm_X5_in : Room := { frames := 0, cells := 0, slots := 0, locals := 0 }
set_option maxRecDepth 100000 in
set_option maxHeartbeats 4000000 in
theorem c_X5_in (l : Launch) (E : EV) (σ : SS) (v lo hi : Int) (hr_v : -2147483648 ≤ v ∧ v ≤ 2147483647) (hr_lo : -2147483648 ≤ lo ∧ lo ≤ 2147483647) (hr_hi : -2147483648 ≤ hi ∧ hi ≤ 2147483647) : Ki l yX5_in (cw yX5_in cX5_in 3 (some .boolean)) rm_X5_in E [.int (iI v), .int (iI lo), .int (iI hi)] σ (bI v lo hi) σ := by
  refine Kz_of (rm := rm_X5_in) (mL := 3) (b := cX5_in) RX5 rfl (by decide +kernel) rfl rfl [(0, .int (iI v)), (1, .int (iI lo)), (2, .int (iI hi))] rfl (Nat.le_of_ble_eq_true rfl) (fun p_ e_ s_ m_ a_ b_ h_ c_ Q A C hret => ?_)
  refine g_iload_n C dX5_in_0 0 rfl rfl (q := 1) rfl ?_
  refine g_iload_n C dX5_in_1 1 rfl rfl (q := 2) rfl ?_
  refine g_icmp_lt C dX5_in_2 (by omega) (q2 := 14) rfl (q := 5) rfl (fun hb1 => ?_) (fun hb1 => ?_)
  · skip
    refine g_iconst C dX5_in_14 (q := 15) rfl ?_
    exact hret _ _ _ dX5_in_15 (by omega) (by unfold bI; first | rw [if_pos (by omega)] | rw [if_neg (by omega)])
  · skip
    refine g_iload_n C dX5_in_5 0 rfl rfl (q := 6) rfl ?_
    refine g_iload_n C dX5_in_6 2 rfl rfl (q := 7) rfl ?_
    refine g_icmp_gt C dX5_in_7 (by omega) (q2 := 14) rfl (q := 10) rfl (fun hb2 => ?_) (fun hb2 => ?_)
    · skip
      refine g_iconst C dX5_in_14 (q := 15) rfl ?_
      exact hret _ _ _ dX5_in_15 (by omega) (by unfold bI; first | rw [if_pos (by omega)] | rw [if_neg (by omega)])
    · skip
      refine g_iconst C dX5_in_10 (q := 11) rfl ?_
      refine g_goto C dX5_in_11 (q := 15) rfl ?_
      exact hret _ _ _ dX5_in_15 (by omega) (by unfold bI; first | rw [if_pos (by omega)] | rw [if_neg (by omega)])
abbrev rm_X5_isReel : Room := { frames := 1, cells := 0, slots := 0, locals := 22 }
set_option maxRecDepth 100000 in
set_option maxHeartbeats 4000000 in
theorem c_X5_isReel (l : Launch) (E : EV) (σ : SS) (r : Int) (hr_r : -2147483648 ≤ r ∧ r ≤ 2147483647) : Ki l yX5_isReel (cw yX5_isReel cX5_isReel 1 (some .boolean)) rm_X5_isReel E [.int (iI r)] σ (bR r) σ := by
  refine Kz_of (rm := rm_X5_isReel) (mL := 1) (b := cX5_isReel) RX5 rfl (by decide +kernel) rfl rfl [(0, .int (iI r))] rfl (Nat.le_of_ble_eq_true rfl) (fun p_ e_ s_ m_ a_ b_ h_ c_ Q A C hret => ?_)
  refine g_iload_n C dX5_isReel_0 0 rfl rfl (q := 1) rfl ?_
  refine g_iconst C dX5_isReel_1 (q := 2) rfl ?_
  refine g_iconst C dX5_isReel_2 (q := 3) rfl ?_
  refine g_cS_i C (As := [.int (iI r), .int (iI 0), .int (iI 3)]) (c_X5_in l E _ r 0 3  (by omega) (by omega) (by omega)) ml_X5_54 mf_X5_in rfl rfl ⟨(Nat.le_of_ble_eq_true rfl), (Nat.le_of_ble_eq_true rfl)⟩ rfl rfl rfl (Nat.le_of_ble_eq_true rfl) ⟨(Nat.le_of_ble_eq_true rfl), (Nat.le_of_ble_eq_true rfl)⟩ dX5_isReel_3 (q := 6) rfl ?_
  exact hret _ _ _ dX5_isReel_6 (by exact bI_01 _ _ _) (by unfold bI bR; (repeat' split) <;> omega)
abbrev rm_X5_isLength : Room := { frames := 1, cells := 0, slots := 0, locals := 22 }
set_option maxRecDepth 100000 in
set_option maxHeartbeats 4000000 in
theorem c_X5_isLength (l : Launch) (E : EV) (σ : SS) (r : Int) (hr_r : -2147483648 ≤ r ∧ r ≤ 2147483647) : Ki l yX5_isLength (cw yX5_isLength cX5_isLength 1 (some .boolean)) rm_X5_isLength E [.int (iI r)] σ (bL r) σ := by
  refine Kz_of (rm := rm_X5_isLength) (mL := 1) (b := cX5_isLength) RX5 rfl (by decide +kernel) rfl rfl [(0, .int (iI r))] rfl (Nat.le_of_ble_eq_true rfl) (fun p_ e_ s_ m_ a_ b_ h_ c_ Q A C hret => ?_)
  refine g_iload_n C dX5_isLength_0 0 rfl rfl (q := 1) rfl ?_
  refine g_iconst C dX5_isLength_1 (q := 2) rfl ?_
  refine g_bipush C dX5_isLength_2 (by decide) (q := 4) rfl ?_
  refine g_cS_i C (As := [.int (iI r), .int (iI 1), .int (iI 99)]) (c_X5_in l E _ r 1 99  (by omega) (by omega) (by omega)) ml_X5_54 mf_X5_in rfl rfl ⟨(Nat.le_of_ble_eq_true rfl), (Nat.le_of_ble_eq_true rfl)⟩ rfl rfl rfl (Nat.le_of_ble_eq_true rfl) ⟨(Nat.le_of_ble_eq_true rfl), (Nat.le_of_ble_eq_true rfl)⟩ dX5_isLength_4 (q := 7) rfl ?_
  exact hret _ _ _ dX5_isLength_7 (by exact bI_01 _ _ _) (by unfold bI bL; (repeat' split) <;> omega)
abbrev rm_X5_isColour : Room := { frames := 1, cells := 0, slots := 0, locals := 22 }
set_option maxRecDepth 100000 in
set_option maxHeartbeats 4000000 in
theorem c_X5_isColour (l : Launch) (E : EV) (σ : SS) (r : Int) (hr_r : -2147483648 ≤ r ∧ r ≤ 2147483647) : Ki l yX5_isColour (cw yX5_isColour cX5_isColour 1 (some .boolean)) rm_X5_isColour E [.int (iI r)] σ (bC r) σ := by
  refine Kz_of (rm := rm_X5_isColour) (mL := 1) (b := cX5_isColour) RX5 rfl (by decide +kernel) rfl rfl [(0, .int (iI r))] rfl (Nat.le_of_ble_eq_true rfl) (fun p_ e_ s_ m_ a_ b_ h_ c_ Q A C hret => ?_)
  refine g_iload_n C dX5_isColour_0 0 rfl rfl (q := 1) rfl ?_
  refine g_iconst C dX5_isColour_1 (q := 2) rfl ?_
  refine g_bipush C dX5_isColour_2 (by decide) (q := 4) rfl ?_
  refine g_cS_i C (As := [.int (iI r), .int (iI 0), .int (iI 7)]) (c_X5_in l E _ r 0 7  (by omega) (by omega) (by omega)) ml_X5_54 mf_X5_in rfl rfl ⟨(Nat.le_of_ble_eq_true rfl), (Nat.le_of_ble_eq_true rfl)⟩ rfl rfl rfl (Nat.le_of_ble_eq_true rfl) ⟨(Nat.le_of_ble_eq_true rfl), (Nat.le_of_ble_eq_true rfl)⟩ dX5_isColour_4 (q := 7) rfl ?_
  exact hret _ _ _ dX5_isColour_7 (by exact bI_01 _ _ _) (by unfold bI bC; (repeat' split) <;> omega)
abbrev rm_X5_many : Room := { frames := 0, cells := 0, slots := 0, locals := 0 }
set_option maxRecDepth 100000 in
set_option maxHeartbeats 4000000 in
theorem c_X5_many (l : Launch) (E : EV) (σ : SS) (r : Int) (hr : 0 ≤ r ∧ r < 4) : Ki l yX5_many (cw yX5_many cX5_many 2 (some .int)) rm_X5_many E [.ref (ea E 13), .int (iI r)] σ ((σ 14) (2 + 121 * r)) σ := by
  refine Ki_of (rm := rm_X5_many) (mL := 2) (b := cX5_many) RX5 rfl (by decide +kernel) rfl rfl [(0, .ref (ea E 13)), (1, .int (iI r))] rfl (Nat.le_of_ble_eq_true rfl) (fun p_ e_ s_ m_ a_ b_ h_ c_ Q A C hret => ?_)
  refine g_aload_n C dX5_many_0 0 rfl rfl (q := 1) rfl ?_
  refine gf_X5_7 C dX5_many_1 (q := 4) rfl ?_
  refine g_iconst C dX5_many_4 (q := 5) rfl ?_
  refine g_bipush C dX5_many_5 (by decide) (q := 7) rfl ?_
  refine g_iload_n C dX5_many_7 1 rfl rfl (q := 8) rfl ?_
  refine g_imul C dX5_many_8 (q := 9) rfl ?_
  refine g_iadd C dX5_many_9 (q := 10) rfl ?_
  refine gl_14 C (by omega) dX5_many_10 (q := 11) rfl ?_
  exact hret _ _ _ dX5_many_11 (by omega)
abbrev rm_X5_counts : Room := { frames := 0, cells := 0, slots := 0, locals := 0 }
set_option maxRecDepth 100000 in
set_option maxHeartbeats 4000000 in
theorem c_X5_counts (l : Launch) (E : EV) (σ : SS) (r v : Int) (hr : 0 ≤ r ∧ r < 4) : Kv l yX5_counts (cw yX5_counts cX5_counts 3 none) rm_X5_counts E [.ref (ea E 13), .int (iI r), .int (iI v)] σ (st σ 14 (pt (σ 14) (2 + 121 * r) v)) := by
  refine Kv_of (rm := rm_X5_counts) (mL := 3) (b := cX5_counts) RX5 rfl (by decide +kernel) rfl rfl [(0, .ref (ea E 13)), (1, .int (iI r)), (2, .int (iI v))] rfl (Nat.le_of_ble_eq_true rfl) (fun p_ e_ s_ m_ a_ b_ h_ c_ Q A C hret => ?_)
  refine g_aload_n C dX5_counts_0 0 rfl rfl (q := 1) rfl ?_
  refine gf_X5_7 C dX5_counts_1 (q := 4) rfl ?_
  refine g_iconst C dX5_counts_4 (q := 5) rfl ?_
  refine g_bipush C dX5_counts_5 (by decide) (q := 7) rfl ?_
  refine g_iload_n C dX5_counts_7 1 rfl rfl (q := 8) rfl ?_
  refine g_imul C dX5_counts_8 (q := 9) rfl ?_
  refine g_iadd C dX5_counts_9 (q := 10) rfl ?_
  refine g_iload_n C dX5_counts_10 2 rfl rfl (q := 11) rfl ?_
  refine gs_14 C (by omega) dX5_counts_11 (q := 12) rfl ?_
  refine g_st (σ2 := (st σ 14 (pt (σ 14) (2 + 121 * r) v))) (by first | rfl | (funext q9; simp only [st]; (repeat' split) <;> first | rfl | omega | (funext j9; simp only [pt]; (repeat' split) <;> first | rfl | omega))) ?_
  exact hret _ _ dX5_counts_12
abbrev rm_X5_at : Room := { frames := 0, cells := 0, slots := 0, locals := 0 }
set_option maxRecDepth 100000 in
set_option maxHeartbeats 4000000 in
theorem c_X5_at_0 (l : Launch) (E : EV) (σ : SS) (r p : Int) (hr : 0 ≤ r ∧ r < 4) (hp : 0 ≤ p ∧ p < 60) : Ki l yX5_at (cw yX5_at cX5_at 4 (some .int)) rm_X5_at E [.ref (ea E 13), .int (iI r), .int (iI p), .int (iI 0)] σ ((σ 14) (3 + 121 * r + 2 * p)) σ := by
  refine Ki_of (rm := rm_X5_at) (mL := 4) (b := cX5_at) RX5 rfl (by decide +kernel) rfl rfl [(0, .ref (ea E 13)), (1, .int (iI r)), (2, .int (iI p)), (3, .int (iI 0))] rfl (Nat.le_of_ble_eq_true rfl) (fun p_ e_ s_ m_ a_ b_ h_ c_ Q A C hret => ?_)
  refine g_aload_n C dX5_at_0 0 rfl rfl (q := 1) rfl ?_
  refine gf_X5_7 C dX5_at_1 (q := 4) rfl ?_
  refine g_iconst C dX5_at_4 (q := 5) rfl ?_
  refine g_bipush C dX5_at_5 (by decide) (q := 7) rfl ?_
  refine g_iload_n C dX5_at_7 1 rfl rfl (q := 8) rfl ?_
  refine g_imul C dX5_at_8 (q := 9) rfl ?_
  refine g_iadd C dX5_at_9 (q := 10) rfl ?_
  refine g_iconst C dX5_at_10 (q := 11) rfl ?_
  refine g_iadd C dX5_at_11 (q := 12) rfl ?_
  refine g_iconst C dX5_at_12 (q := 13) rfl ?_
  refine g_iload_n C dX5_at_13 2 rfl rfl (q := 14) rfl ?_
  refine g_imul C dX5_at_14 (q := 15) rfl ?_
  refine g_iadd C dX5_at_15 (q := 16) rfl ?_
  refine g_iload_n C dX5_at_16 3 rfl rfl (q := 17) rfl ?_
  refine g_iadd C dX5_at_17 (q := 18) rfl ?_
  refine gl_14 C (by omega) dX5_at_18 (q := 19) rfl ?_
  exact hret _ _ _ dX5_at_19 (by congr 1; omega)
set_option maxRecDepth 100000 in
set_option maxHeartbeats 4000000 in
theorem c_X5_at_1 (l : Launch) (E : EV) (σ : SS) (r p : Int) (hr : 0 ≤ r ∧ r < 4) (hp : 0 ≤ p ∧ p < 60) : Ki l yX5_at (cw yX5_at cX5_at 4 (some .int)) rm_X5_at E [.ref (ea E 13), .int (iI r), .int (iI p), .int (iI 1)] σ ((σ 14) (4 + 121 * r + 2 * p)) σ := by
  refine Ki_of (rm := rm_X5_at) (mL := 4) (b := cX5_at) RX5 rfl (by decide +kernel) rfl rfl [(0, .ref (ea E 13)), (1, .int (iI r)), (2, .int (iI p)), (3, .int (iI 1))] rfl (Nat.le_of_ble_eq_true rfl) (fun p_ e_ s_ m_ a_ b_ h_ c_ Q A C hret => ?_)
  refine g_aload_n C dX5_at_0 0 rfl rfl (q := 1) rfl ?_
  refine gf_X5_7 C dX5_at_1 (q := 4) rfl ?_
  refine g_iconst C dX5_at_4 (q := 5) rfl ?_
  refine g_bipush C dX5_at_5 (by decide) (q := 7) rfl ?_
  refine g_iload_n C dX5_at_7 1 rfl rfl (q := 8) rfl ?_
  refine g_imul C dX5_at_8 (q := 9) rfl ?_
  refine g_iadd C dX5_at_9 (q := 10) rfl ?_
  refine g_iconst C dX5_at_10 (q := 11) rfl ?_
  refine g_iadd C dX5_at_11 (q := 12) rfl ?_
  refine g_iconst C dX5_at_12 (q := 13) rfl ?_
  refine g_iload_n C dX5_at_13 2 rfl rfl (q := 14) rfl ?_
  refine g_imul C dX5_at_14 (q := 15) rfl ?_
  refine g_iadd C dX5_at_15 (q := 16) rfl ?_
  refine g_iload_n C dX5_at_16 3 rfl rfl (q := 17) rfl ?_
  refine g_iadd C dX5_at_17 (q := 18) rfl ?_
  refine gl_14 C (by omega) dX5_at_18 (q := 19) rfl ?_
  exact hret _ _ _ dX5_at_19 (by congr 1; omega)
abbrev rm_X5_sets : Room := { frames := 0, cells := 0, slots := 0, locals := 0 }
set_option maxRecDepth 100000 in
set_option maxHeartbeats 4000000 in
theorem c_X5_sets (l : Launch) (E : EV) (σ : SS) (r p x c : Int) (hr : 0 ≤ r ∧ r < 4) (hp : 0 ≤ p ∧ p < 60) : Kv l yX5_sets (cw yX5_sets cX5_sets 5 none) rm_X5_sets E [.ref (ea E 13), .int (iI r), .int (iI p), .int (iI x), .int (iI c)] σ (st σ 14 (mS (σ 14) r p x c)) := by
  refine Kv_of (rm := rm_X5_sets) (mL := 5) (b := cX5_sets) RX5 rfl (by decide +kernel) rfl rfl [(0, .ref (ea E 13)), (1, .int (iI r)), (2, .int (iI p)), (3, .int (iI x)), (4, .int (iI c))] rfl (Nat.le_of_ble_eq_true rfl) (fun p_ e_ s_ m_ a_ b_ h_ c_ Q A C hret => ?_)
  refine g_aload_n C dX5_sets_0 0 rfl rfl (q := 1) rfl ?_
  refine gf_X5_7 C dX5_sets_1 (q := 4) rfl ?_
  refine g_iconst C dX5_sets_4 (q := 5) rfl ?_
  refine g_bipush C dX5_sets_5 (by decide) (q := 7) rfl ?_
  refine g_iload_n C dX5_sets_7 1 rfl rfl (q := 8) rfl ?_
  refine g_imul C dX5_sets_8 (q := 9) rfl ?_
  refine g_iadd C dX5_sets_9 (q := 10) rfl ?_
  refine g_iconst C dX5_sets_10 (q := 11) rfl ?_
  refine g_iadd C dX5_sets_11 (q := 12) rfl ?_
  refine g_iconst C dX5_sets_12 (q := 13) rfl ?_
  refine g_iload_n C dX5_sets_13 2 rfl rfl (q := 14) rfl ?_
  refine g_imul C dX5_sets_14 (q := 15) rfl ?_
  refine g_iadd C dX5_sets_15 (q := 16) rfl ?_
  refine g_iload_n C dX5_sets_16 3 rfl rfl (q := 17) rfl ?_
  refine gs_14 C (by omega) dX5_sets_17 (q := 18) rfl ?_
  refine g_aload_n C dX5_sets_18 0 rfl rfl (q := 19) rfl ?_
  refine gf_X5_7 C dX5_sets_19 (q := 22) rfl ?_
  refine g_iconst C dX5_sets_22 (q := 23) rfl ?_
  refine g_bipush C dX5_sets_23 (by decide) (q := 25) rfl ?_
  refine g_iload_n C dX5_sets_25 1 rfl rfl (q := 26) rfl ?_
  refine g_imul C dX5_sets_26 (q := 27) rfl ?_
  refine g_iadd C dX5_sets_27 (q := 28) rfl ?_
  refine g_iconst C dX5_sets_28 (q := 29) rfl ?_
  refine g_iadd C dX5_sets_29 (q := 30) rfl ?_
  refine g_iconst C dX5_sets_30 (q := 31) rfl ?_
  refine g_iload_n C dX5_sets_31 2 rfl rfl (q := 32) rfl ?_
  refine g_imul C dX5_sets_32 (q := 33) rfl ?_
  refine g_iadd C dX5_sets_33 (q := 34) rfl ?_
  refine g_iload C dX5_sets_34 4 rfl (q := 36) rfl ?_
  refine gs_14 C (by omega) dX5_sets_36 (q := 37) rfl ?_
  refine g_st (σ2 := (st σ 14 (pt (pt (σ 14) (2 + (121 * r) + 1 + (2 * p)) x) (2 + (121 * r) + 2 + (2 * p)) c))) (st_st _ _ _ _) ?_
  refine g_st (σ2 := (st σ 14 (mS (σ 14) r p x c))) (congrArg (st _ 14) (by unfold mS; rw [show 2 + 121 * r + 1 + 2 * p = 3 + 121 * r + 2 * p by omega, show 2 + 121 * r + 2 + 2 * p = 4 + 121 * r + 2 * p by omega])) ?_
  exact hret _ _ dX5_sets_37
abbrev rm_X5_done : Room := { frames := 0, cells := 0, slots := 0, locals := 0 }
set_option maxRecDepth 100000 in
set_option maxHeartbeats 4000000 in
theorem c_X5_done (l : Launch) (E : EV) (σ : SS) (v : Int)  : Ki l yX5_done (cw yX5_done cX5_done 2 (some .int)) rm_X5_done E [.ref (ea E 13), .int (iI v)] σ 0 (st σ 13 (pt (σ 13) 14 v)) := by
  refine Ki_of (rm := rm_X5_done) (mL := 2) (b := cX5_done) RX5 rfl (by decide +kernel) rfl rfl [(0, .ref (ea E 13)), (1, .int (iI v))] rfl (Nat.le_of_ble_eq_true rfl) (fun p_ e_ s_ m_ a_ b_ h_ c_ Q A C hret => ?_)
  refine g_aload_n C dX5_done_0 0 rfl rfl (q := 1) rfl ?_
  refine g_iload_n C dX5_done_1 1 rfl rfl (q := 2) rfl ?_
  refine gp_X5_44 C dX5_done_2 (q := 5) rfl ?_
  refine g_iconst C dX5_done_5 (q := 6) rfl ?_
  exact hret _ _ _ dX5_done_6 rfl
abbrev rm_X5_isSegment : Room := { frames := 2, cells := 0, slots := 0, locals := 42 }
set_option maxRecDepth 100000 in
set_option maxHeartbeats 4000000 in
theorem c_X5_isSegment (l : Launch) (E : EV) (σ : SS) (r p : Int) (f : Int → Int) (hM : MS f (σ 14)) (hr_r : -2147483648 ≤ r ∧ r ≤ 2147483647) (hr_p : -2147483648 ≤ p ∧ p ≤ 2147483647) : Ki l yX5_isSegment (cw yX5_isSegment cX5_isSegment 3 (some .boolean)) rm_X5_isSegment E [.ref (ea E 13), .int (iI r), .int (iI p)] σ (bP f r p) σ := by
  refine Kz_of (rm := rm_X5_isSegment) (mL := 3) (b := cX5_isSegment) RX5 rfl (by decide +kernel) rfl rfl [(0, .ref (ea E 13)), (1, .int (iI r)), (2, .int (iI p))] rfl (Nat.le_of_ble_eq_true rfl) (fun p_ e_ s_ m_ a_ b_ h_ c_ Q A C hret => ?_)
  have hB := bR_iff r
  have hB1 := bR_01 r
  have hC := bI_01 p 0 (σ 14 (2 + 121 * r) - 1)
  have hC1 := bI_iff p 0 (σ 14 (2 + 121 * r) - 1)
  refine g_iload_n C dX5_isSegment_0 1 rfl rfl (q := 1) rfl ?_
  refine g_cS_i C (As := [.int (iI r)]) (c_X5_isReel l E _ r  (by omega)) ml_X5_58 mf_X5_isReel rfl rfl ⟨(Nat.le_of_ble_eq_true rfl), (Nat.le_of_ble_eq_true rfl)⟩ rfl rfl rfl (Nat.le_of_ble_eq_true rfl) ⟨(Nat.le_of_ble_eq_true rfl), (Nat.le_of_ble_eq_true rfl)⟩ dX5_isSegment_1 (q := 4) rfl ?_
  refine g_if_eq C dX5_isSegment_4 (by omega) (q2 := 26) rfl (q := 7) rfl (fun hb1 => ?_) (fun hb1 => ?_)
  · skip
    refine g_iconst C dX5_isSegment_26 (q := 27) rfl ?_
    exact hret _ _ _ dX5_isSegment_27 (by omega) (by unfold bP; first | rw [if_pos (by omega)] | rw [if_neg (by omega)])
  · skip
    have hm_r := (hM.2.1 r (by omega)).1
    have hn_r := (hM.1 r (by omega)).1
    refine g_iload_n C dX5_isSegment_7 2 rfl rfl (q := 8) rfl ?_
    refine g_iconst C dX5_isSegment_8 (q := 9) rfl ?_
    refine g_aload_n C dX5_isSegment_9 0 rfl rfl (q := 10) rfl ?_
    refine g_iload_n C dX5_isSegment_10 1 rfl rfl (q := 11) rfl ?_
    refine g_cV_i C (As := [.int (iI r)]) (c_X5_many l E _ r  (by omega)) ml_X5_62 mf_X5_many (o := 13) (ci := 5) rfl rfl rfl rfl ⟨(Nat.le_of_ble_eq_true rfl), (Nat.le_of_ble_eq_true rfl)⟩ rfl rfl rfl (Nat.le_of_ble_eq_true rfl) ⟨(Nat.le_of_ble_eq_true rfl), (Nat.le_of_ble_eq_true rfl)⟩ dX5_isSegment_11 (q := 14) rfl ?_
    refine g_iconst C dX5_isSegment_14 (q := 15) rfl ?_
    refine g_isub C dX5_isSegment_15 (q := 16) rfl ?_
    refine g_cS_i C (As := [.int (iI p), .int (iI 0), .int (iI ((σ 14) (2 + 121 * r) - 1))]) (c_X5_in l E _ p 0 ((σ 14) (2 + 121 * r) - 1)  (by omega) (by omega) (by omega)) ml_X5_54 mf_X5_in rfl rfl ⟨(Nat.le_of_ble_eq_true rfl), (Nat.le_of_ble_eq_true rfl)⟩ rfl rfl rfl (Nat.le_of_ble_eq_true rfl) ⟨(Nat.le_of_ble_eq_true rfl), (Nat.le_of_ble_eq_true rfl)⟩ dX5_isSegment_16 (q := 19) rfl ?_
    refine g_if_eq C dX5_isSegment_19 (by omega) (q2 := 26) rfl (q := 22) rfl (fun hb2 => ?_) (fun hb2 => ?_)
    · skip
      refine g_iconst C dX5_isSegment_26 (q := 27) rfl ?_
      exact hret _ _ _ dX5_isSegment_27 (by omega) (by unfold bP; first | rw [if_pos (by omega)] | rw [if_neg (by omega)])
    · skip
      refine g_iconst C dX5_isSegment_22 (q := 23) rfl ?_
      refine g_goto C dX5_isSegment_23 (q := 27) rfl ?_
      exact hret _ _ _ dX5_isSegment_27 (by omega) (by unfold bP; first | rw [if_pos (by omega)] | rw [if_neg (by omega)])
abbrev rm_X5_isBefore : Room := { frames := 2, cells := 0, slots := 0, locals := 42 }
set_option maxRecDepth 100000 in
set_option maxHeartbeats 4000000 in
theorem c_X5_isBefore (l : Launch) (E : EV) (σ : SS) (r p : Int) (f : Int → Int) (hM : MS f (σ 14)) (hr_r : -2147483648 ≤ r ∧ r ≤ 2147483647) (hr_p : -2147483648 ≤ p ∧ p ≤ 2147483647) : Ki l yX5_isBefore (cw yX5_isBefore cX5_isBefore 3 (some .boolean)) rm_X5_isBefore E [.ref (ea E 13), .int (iI r), .int (iI p)] σ (bB f r p) σ := by
  refine Kz_of (rm := rm_X5_isBefore) (mL := 3) (b := cX5_isBefore) RX5 rfl (by decide +kernel) rfl rfl [(0, .ref (ea E 13)), (1, .int (iI r)), (2, .int (iI p))] rfl (Nat.le_of_ble_eq_true rfl) (fun p_ e_ s_ m_ a_ b_ h_ c_ Q A C hret => ?_)
  have hB := bR_iff r
  have hB1 := bR_01 r
  have hC := bI_01 p 0 (σ 14 (2 + 121 * r))
  have hC1 := bI_iff p 0 (σ 14 (2 + 121 * r))
  refine g_iload_n C dX5_isBefore_0 1 rfl rfl (q := 1) rfl ?_
  refine g_cS_i C (As := [.int (iI r)]) (c_X5_isReel l E _ r  (by omega)) ml_X5_58 mf_X5_isReel rfl rfl ⟨(Nat.le_of_ble_eq_true rfl), (Nat.le_of_ble_eq_true rfl)⟩ rfl rfl rfl (Nat.le_of_ble_eq_true rfl) ⟨(Nat.le_of_ble_eq_true rfl), (Nat.le_of_ble_eq_true rfl)⟩ dX5_isBefore_1 (q := 4) rfl ?_
  refine g_if_eq C dX5_isBefore_4 (by omega) (q2 := 24) rfl (q := 7) rfl (fun hb1 => ?_) (fun hb1 => ?_)
  · skip
    refine g_iconst C dX5_isBefore_24 (q := 25) rfl ?_
    exact hret _ _ _ dX5_isBefore_25 (by omega) (by unfold bB; first | rw [if_pos (by omega)] | rw [if_neg (by omega)])
  · skip
    have hm_r := (hM.2.1 r (by omega)).1
    have hn_r := (hM.1 r (by omega)).1
    refine g_iload_n C dX5_isBefore_7 2 rfl rfl (q := 8) rfl ?_
    refine g_iconst C dX5_isBefore_8 (q := 9) rfl ?_
    refine g_aload_n C dX5_isBefore_9 0 rfl rfl (q := 10) rfl ?_
    refine g_iload_n C dX5_isBefore_10 1 rfl rfl (q := 11) rfl ?_
    refine g_cV_i C (As := [.int (iI r)]) (c_X5_many l E _ r  (by omega)) ml_X5_62 mf_X5_many (o := 13) (ci := 5) rfl rfl rfl rfl ⟨(Nat.le_of_ble_eq_true rfl), (Nat.le_of_ble_eq_true rfl)⟩ rfl rfl rfl (Nat.le_of_ble_eq_true rfl) ⟨(Nat.le_of_ble_eq_true rfl), (Nat.le_of_ble_eq_true rfl)⟩ dX5_isBefore_11 (q := 14) rfl ?_
    refine g_cS_i C (As := [.int (iI p), .int (iI 0), .int (iI ((σ 14) (2 + 121 * r)))]) (c_X5_in l E _ p 0 ((σ 14) (2 + 121 * r))  (by omega) (by omega) (by omega)) ml_X5_54 mf_X5_in rfl rfl ⟨(Nat.le_of_ble_eq_true rfl), (Nat.le_of_ble_eq_true rfl)⟩ rfl rfl rfl (Nat.le_of_ble_eq_true rfl) ⟨(Nat.le_of_ble_eq_true rfl), (Nat.le_of_ble_eq_true rfl)⟩ dX5_isBefore_14 (q := 17) rfl ?_
    refine g_if_eq C dX5_isBefore_17 (by omega) (q2 := 24) rfl (q := 20) rfl (fun hb2 => ?_) (fun hb2 => ?_)
    · skip
      refine g_iconst C dX5_isBefore_24 (q := 25) rfl ?_
      exact hret _ _ _ dX5_isBefore_25 (by omega) (by unfold bB; first | rw [if_pos (by omega)] | rw [if_neg (by omega)])
    · skip
      refine g_iconst C dX5_isBefore_20 (q := 21) rfl ?_
      refine g_goto C dX5_isBefore_21 (q := 25) rfl ?_
      exact hret _ _ _ dX5_isBefore_25 (by omega) (by unfold bB; first | rw [if_pos (by omega)] | rw [if_neg (by omega)])
