abbrev rm_X0_isFull : Room := { frames := 0, cells := 0, slots := 0, locals := 0 }
set_option maxRecDepth 100000 in
set_option maxHeartbeats 4000000 in
theorem c_X0_isFull (l : Launch) (E : EV) (σ : SS) (hn : 0 ≤ (σ 7 1) ∧ (σ 7 1) < 60) : Ki l yX0_isFull (cw yX0_isFull cX0_isFull 1 (some .boolean)) rm_X0_isFull E [.ref (ea E 7)] σ 0 σ := by
  refine Kz_of (rm := rm_X0_isFull) (mL := 1) (b := cX0_isFull) RX0 rfl (by decide +kernel) rfl rfl [(0, .ref (ea E 7))] rfl (Nat.le_of_ble_eq_true rfl) (fun p_ e_ s_ m_ a_ b_ h_ c_ Q A C hret => ?_)
  refine g_aload_n C dX0_isFull_0 0 rfl rfl (q := 1) rfl ?_
  refine gf_X0_15 C dX0_isFull_1 (q := 4) rfl ?_
  refine g_aload_n C dX0_isFull_4 0 rfl rfl (q := 5) rfl ?_
  refine gf_X0_9 C dX0_isFull_5 (q := 8) rfl ?_
  refine gn_8 C dX0_isFull_8 (q := 9) rfl ?_
  refine g_icmp_lt C dX0_isFull_9 (by omega) (q2 := 16) rfl (q := 12) rfl (fun hb1 => ?_) (fun hb1 => ?_)
  · skip
    refine g_iconst C dX0_isFull_16 (q := 17) rfl ?_
    exact hret _ _ _ dX0_isFull_17 (by omega) rfl
  · skip
    exfalso; omega
set_option maxRecDepth 100000 in
set_option maxHeartbeats 4000000 in
theorem c_X0_isFull_f (l : Launch) (E : EV) (σ : SS) (hn : (σ 7 1) = 60) : Ki l yX0_isFull (cw yX0_isFull cX0_isFull 1 (some .boolean)) rm_X0_isFull E [.ref (ea E 7)] σ 1 σ := by
  refine Kz_of (rm := rm_X0_isFull) (mL := 1) (b := cX0_isFull) RX0 rfl (by decide +kernel) rfl rfl [(0, .ref (ea E 7))] rfl (Nat.le_of_ble_eq_true rfl) (fun p_ e_ s_ m_ a_ b_ h_ c_ Q A C hret => ?_)
  refine g_aload_n C dX0_isFull_0 0 rfl rfl (q := 1) rfl ?_
  refine gf_X0_15 C dX0_isFull_1 (q := 4) rfl ?_
  refine g_aload_n C dX0_isFull_4 0 rfl rfl (q := 5) rfl ?_
  refine gf_X0_9 C dX0_isFull_5 (q := 8) rfl ?_
  refine gn_8 C dX0_isFull_8 (q := 9) rfl ?_
  refine g_icmp_lt C dX0_isFull_9 (by omega) (q2 := 16) rfl (q := 12) rfl (fun hb1 => ?_) (fun hb1 => ?_)
  · skip
    exfalso; omega
  · skip
    refine g_iconst C dX0_isFull_12 (q := 13) rfl ?_
    refine g_goto C dX0_isFull_13 (q := 17) rfl ?_
    exact hret _ _ _ dX0_isFull_17 (by omega) rfl
abbrev rm_X0_addCharacter : Room := { frames := 0, cells := 0, slots := 0, locals := 0 }
set_option maxRecDepth 100000 in
set_option maxHeartbeats 4000000 in
theorem c_X0_addCharacter (l : Launch) (E : EV) (σ : SS) (c : Int) (hn : 0 ≤ (σ 7 1) ∧ (σ 7 1) < 60) (hc : 0 ≤ c ∧ c < 65536) : Ki l yX0_addCharacter (cw yX0_addCharacter cX0_addCharacter 2 (some .int)) rm_X0_addCharacter E [.ref (ea E 7), .int (iI c)] σ ((σ 7 1) + 1) (st (st σ 7 (pt (σ 7) 1 ((σ 7 1) + 1))) 8 (pt (σ 8) (σ 7 1) c)) := by
  refine Ki_of (rm := rm_X0_addCharacter) (mL := 2) (b := cX0_addCharacter) RX0 rfl (by decide +kernel) rfl rfl [(0, .ref (ea E 7)), (1, .int (iI c))] rfl (Nat.le_of_ble_eq_true rfl) (fun p_ e_ s_ m_ a_ b_ h_ c_ Q A C hret => ?_)
  refine g_aload_n C dX0_addCharacter_0 0 rfl rfl (q := 1) rfl ?_
  refine gf_X0_15 C dX0_addCharacter_1 (q := 4) rfl ?_
  refine g_if_lt C dX0_addCharacter_4 (by omega) (q2 := 39) rfl (q := 7) rfl (fun hb1 => ?_) (fun hb1 => ?_)
  · skip
    exfalso; omega
  · skip
    refine g_aload_n C dX0_addCharacter_7 0 rfl rfl (q := 8) rfl ?_
    refine gf_X0_15 C dX0_addCharacter_8 (q := 11) rfl ?_
    refine g_aload_n C dX0_addCharacter_11 0 rfl rfl (q := 12) rfl ?_
    refine gf_X0_9 C dX0_addCharacter_12 (q := 15) rfl ?_
    refine gn_8 C dX0_addCharacter_15 (q := 16) rfl ?_
    refine g_icmp_ge C dX0_addCharacter_16 (by omega) (q2 := 39) rfl (q := 19) rfl (fun hb2 => ?_) (fun hb2 => ?_)
    · skip
      exfalso; omega
    · skip
      refine g_aload_n C dX0_addCharacter_19 0 rfl rfl (q := 20) rfl ?_
      refine gf_X0_9 C dX0_addCharacter_20 (q := 23) rfl ?_
      refine g_aload_n C dX0_addCharacter_23 0 rfl rfl (q := 24) rfl ?_
      refine gf_X0_15 C dX0_addCharacter_24 (q := 27) rfl ?_
      refine g_iload_n C dX0_addCharacter_27 1 rfl rfl (q := 28) rfl ?_
      refine gs_8 C (by omega) (by omega) dX0_addCharacter_28 (q := 29) rfl ?_
      refine g_aload_n C dX0_addCharacter_29 0 rfl rfl (q := 30) rfl ?_
      refine g_dup C dX0_addCharacter_30 rfl (q := 31) rfl ?_
      refine gf_X0_15 C dX0_addCharacter_31 (q := 34) rfl ?_
      refine g_top (b := (σ 7 1)) rfl ?_
      refine g_iconst C dX0_addCharacter_34 (q := 35) rfl ?_
      refine g_iadd C dX0_addCharacter_35 (q := 36) rfl ?_
      refine gp_X0_15 C dX0_addCharacter_36 (q := 39) rfl ?_
      refine g_st (σ2 := (st (st σ 7 (pt (σ 7) 1 ((σ 7 1) + 1))) 8 (pt (σ 8) (σ 7 1) c))) (st_cm σ (o := 8) (q := 7) (pt (σ 8) (σ 7 1) c) (pt (σ 7) 1 ((σ 7 1) + 1)) (by decide)) ?_
      refine g_aload_n C dX0_addCharacter_39 0 rfl rfl (q := 40) rfl ?_
      refine gf_X0_15 C dX0_addCharacter_40 (q := 43) rfl ?_
      refine g_top (b := (σ 7 1) + 1) rfl ?_
      exact hret _ _ _ dX0_addCharacter_43 rfl
abbrev rm_X0_clearText : Room := { frames := 0, cells := 0, slots := 0, locals := 0 }
set_option maxRecDepth 100000 in
set_option maxHeartbeats 4000000 in
theorem c_X0_clearText (l : Launch) (E : EV) (σ : SS)  : Kv l yX0_clearText (cw yX0_clearText cX0_clearText 1 none) rm_X0_clearText E [.ref (ea E 7)] σ (st σ 7 (pt (σ 7) 1 0)) := by
  refine Kv_of (rm := rm_X0_clearText) (mL := 1) (b := cX0_clearText) RX0 rfl (by decide +kernel) rfl rfl [(0, .ref (ea E 7))] rfl (Nat.le_of_ble_eq_true rfl) (fun p_ e_ s_ m_ a_ b_ h_ c_ Q A C hret => ?_)
  refine g_aload_n C dX0_clearText_0 0 rfl rfl (q := 1) rfl ?_
  refine g_iconst C dX0_clearText_1 (q := 2) rfl ?_
  refine gp_X0_15 C dX0_clearText_2 (q := 5) rfl ?_
  exact hret _ _ dX0_clearText_5
abbrev rm_X0_commandCount : Room := { frames := 0, cells := 0, slots := 0, locals := 0 }
set_option maxRecDepth 100000 in
set_option maxHeartbeats 4000000 in
theorem c_X0_commandCount (l : Launch) (E : EV) (σ : SS)  : Ki l yX0_commandCount (cw yX0_commandCount cX0_commandCount 1 (some .int)) rm_X0_commandCount E [.ref (ea E 7)] σ (σ 7 5) σ := by
  refine Ki_of (rm := rm_X0_commandCount) (mL := 1) (b := cX0_commandCount) RX0 rfl (by decide +kernel) rfl rfl [(0, .ref (ea E 7))] rfl (Nat.le_of_ble_eq_true rfl) (fun p_ e_ s_ m_ a_ b_ h_ c_ Q A C hret => ?_)
  refine g_aload_n C dX0_commandCount_0 0 rfl rfl (q := 1) rfl ?_
  refine gf_X0_29 C dX0_commandCount_1 (q := 4) rfl ?_
  exact hret _ _ _ dX0_commandCount_4 rfl
abbrev rm_X0_kindOf : Room := { frames := 0, cells := 0, slots := 0, locals := 0 }
set_option maxRecDepth 100000 in
set_option maxHeartbeats 4000000 in
theorem c_X0_kindOf (l : Launch) (E : EV) (σ : SS) (i : Int) (hi : 0 ≤ i ∧ i < 8) : Ki l yX0_kindOf (cw yX0_kindOf cX0_kindOf 2 (some .int)) rm_X0_kindOf E [.ref (ea E 7), .int (iI i)] σ ((σ 9) i) σ := by
  refine Ki_of (rm := rm_X0_kindOf) (mL := 2) (b := cX0_kindOf) RX0 rfl (by decide +kernel) rfl rfl [(0, .ref (ea E 7)), (1, .int (iI i))] rfl (Nat.le_of_ble_eq_true rfl) (fun p_ e_ s_ m_ a_ b_ h_ c_ Q A C hret => ?_)
  refine g_iload_n C dX0_kindOf_0 1 rfl rfl (q := 1) rfl ?_
  refine g_if_lt C dX0_kindOf_1 (by omega) (q2 := 22) rfl (q := 4) rfl (fun hb1 => ?_) (fun hb1 => ?_)
  · skip
    exfalso; omega
  · skip
    refine g_iload_n C dX0_kindOf_4 1 rfl rfl (q := 5) rfl ?_
    refine g_aload_n C dX0_kindOf_5 0 rfl rfl (q := 6) rfl ?_
    refine gf_X0_22 C dX0_kindOf_6 (q := 9) rfl ?_
    refine gn_9 C dX0_kindOf_9 (q := 10) rfl ?_
    refine g_icmp_ge C dX0_kindOf_10 (by omega) (q2 := 22) rfl (q := 13) rfl (fun hb2 => ?_) (fun hb2 => ?_)
    · skip
      exfalso; omega
    · skip
      refine g_aload_n C dX0_kindOf_13 0 rfl rfl (q := 14) rfl ?_
      refine gf_X0_22 C dX0_kindOf_14 (q := 17) rfl ?_
      refine g_iload_n C dX0_kindOf_17 1 rfl rfl (q := 18) rfl ?_
      refine gl_9 C (by omega) dX0_kindOf_18 (q := 19) rfl ?_
      refine g_goto C dX0_kindOf_19 (q := 23) rfl ?_
      exact hret _ _ _ dX0_kindOf_23 rfl
abbrev rm_X0_parameterOf : Room := { frames := 0, cells := 0, slots := 0, locals := 0 }
set_option maxRecDepth 100000 in
set_option maxHeartbeats 4000000 in
theorem c_X0_parameterOf (l : Launch) (E : EV) (σ : SS) (i j : Int) (hi : 0 ≤ i ∧ i < 8) (hj : 0 ≤ j ∧ j < 4) : Ki l yX0_parameterOf (cw yX0_parameterOf cX0_parameterOf 4 (some .int)) rm_X0_parameterOf E [.ref (ea E 7), .int (iI i), .int (iI j)] σ ((σ 10) (i * 4 + j)) σ := by
  refine Ki_of (rm := rm_X0_parameterOf) (mL := 4) (b := cX0_parameterOf) RX0 rfl (by decide +kernel) rfl rfl [(0, .ref (ea E 7)), (1, .int (iI i)), (2, .int (iI j))] rfl (Nat.le_of_ble_eq_true rfl) (fun p_ e_ s_ m_ a_ b_ h_ c_ Q A C hret => ?_)
  refine g_iload_n C dX0_parameterOf_0 1 rfl rfl (q := 1) rfl ?_
  refine g_iconst C dX0_parameterOf_1 (q := 2) rfl ?_
  refine g_imul C dX0_parameterOf_2 (q := 3) rfl ?_
  refine g_iload_n C dX0_parameterOf_3 2 rfl rfl (q := 4) rfl ?_
  refine g_iadd C dX0_parameterOf_4 (q := 5) rfl ?_
  refine g_istore_n C (L' := [(3, .int (iI (i * 4 + j))), (0, .ref (ea E 7)), (1, .int (iI i)), (2, .int (iI j))]) dX0_parameterOf_5 rfl (by decide) rfl (q := 6) rfl ?_
  refine g_iload_n C dX0_parameterOf_6 0 rfl rfl (q := 7) rfl ?_
  refine g_if_lt C dX0_parameterOf_7 (by omega) (q2 := 28) rfl (q := 10) rfl (fun hb1 => ?_) (fun hb1 => ?_)
  · skip
    exfalso; omega
  · skip
    refine g_iload_n C dX0_parameterOf_10 0 rfl rfl (q := 11) rfl ?_
    refine g_aload_n C dX0_parameterOf_11 1 rfl rfl (q := 12) rfl ?_
    refine gf_X0_26 C dX0_parameterOf_12 (q := 15) rfl ?_
    refine gn_10 C dX0_parameterOf_15 (q := 16) rfl ?_
    refine g_icmp_ge C dX0_parameterOf_16 (by omega) (q2 := 28) rfl (q := 19) rfl (fun hb2 => ?_) (fun hb2 => ?_)
    · skip
      exfalso; omega
    · skip
      refine g_aload_n C dX0_parameterOf_19 1 rfl rfl (q := 20) rfl ?_
      refine gf_X0_26 C dX0_parameterOf_20 (q := 23) rfl ?_
      refine g_iload_n C dX0_parameterOf_23 0 rfl rfl (q := 24) rfl ?_
      refine gl_10 C (by omega) dX0_parameterOf_24 (q := 25) rfl ?_
      refine g_goto C dX0_parameterOf_25 (q := 29) rfl ?_
      exact hret _ _ _ dX0_parameterOf_29 rfl
abbrev rm_X0_signAt : Room := { frames := 0, cells := 0, slots := 0, locals := 0 }
set_option maxRecDepth 100000 in
set_option maxHeartbeats 4000000 in
theorem c_X0_signAt (l : Launch) (E : EV) (σ : SS) (i : Int) (hi : -2147483648 ≤ i ∧ i ≤ 2147483647) (hT : TW (σ 8) (σ 7 1)) : Ki l yX0_signAt (cw yX0_signAt cX0_signAt 2 (some .char)) rm_X0_signAt E [.ref (ea E 7), .int (iI i)] σ (sg (σ 8) (σ 7 1) i) σ := by
  refine Kc_of (rm := rm_X0_signAt) (mL := 2) (b := cX0_signAt) RX0 rfl (by decide +kernel) rfl rfl [(0, .ref (ea E 7)), (1, .int (iI i))] rfl (Nat.le_of_ble_eq_true rfl) (fun p_ e_ s_ m_ a_ b_ h_ c_ Q A C hret => ?_)
  have hg := sg_rg hT i
  have hn := hT.1
  refine g_iload_n C dX0_signAt_0 1 rfl rfl (q := 1) rfl ?_
  refine g_if_lt C dX0_signAt_1 (by omega) (q2 := 30) rfl (q := 4) rfl (fun hb1 => ?_) (fun hb1 => ?_)
  · skip
    refine g_iconst C dX0_signAt_30 (q := 31) rfl ?_
    exact hret _ _ _ dX0_signAt_31 (by omega) (by unfold sg; first | rw [if_pos (by omega)] | rw [if_neg (by omega)])
  · skip
    refine g_iload_n C dX0_signAt_4 1 rfl rfl (q := 5) rfl ?_
    refine g_aload_n C dX0_signAt_5 0 rfl rfl (q := 6) rfl ?_
    refine gf_X0_15 C dX0_signAt_6 (q := 9) rfl ?_
    refine g_icmp_ge C dX0_signAt_9 (by omega) (q2 := 30) rfl (q := 12) rfl (fun hb2 => ?_) (fun hb2 => ?_)
    · skip
      refine g_iconst C dX0_signAt_30 (q := 31) rfl ?_
      exact hret _ _ _ dX0_signAt_31 (by omega) (by unfold sg; first | rw [if_pos (by omega)] | rw [if_neg (by omega)])
    · skip
      refine g_iload_n C dX0_signAt_12 1 rfl rfl (q := 13) rfl ?_
      refine g_aload_n C dX0_signAt_13 0 rfl rfl (q := 14) rfl ?_
      refine gf_X0_9 C dX0_signAt_14 (q := 17) rfl ?_
      refine gn_8 C dX0_signAt_17 (q := 18) rfl ?_
      refine g_icmp_ge C dX0_signAt_18 (by omega) (q2 := 30) rfl (q := 21) rfl (fun hb3 => ?_) (fun hb3 => ?_)
      · skip
        exfalso; omega
      · skip
        have hc := hT.2 i (by omega)
        refine g_aload_n C dX0_signAt_21 0 rfl rfl (q := 22) rfl ?_
        refine gf_X0_9 C dX0_signAt_22 (q := 25) rfl ?_
        refine g_iload_n C dX0_signAt_25 1 rfl rfl (q := 26) rfl ?_
        refine gl_8 C (by omega) dX0_signAt_26 (q := 27) rfl ?_
        refine g_goto C dX0_signAt_27 (q := 31) rfl ?_
        exact hret _ _ _ dX0_signAt_31 (by omega) (by unfold sg; first | rw [if_pos (by omega)] | rw [if_neg (by omega)])
abbrev rm_X0_isDigit : Room := { frames := 0, cells := 0, slots := 0, locals := 0 }
set_option maxRecDepth 100000 in
set_option maxHeartbeats 4000000 in
theorem c_X0_isDigit (l : Launch) (E : EV) (σ : SS) (c : Int) (hc : 0 ≤ c ∧ c < 65536) : Ki l yX0_isDigit (cw yX0_isDigit cX0_isDigit 1 (some .boolean)) rm_X0_isDigit E [.int (iI c)] σ (bD c) σ := by
  refine Kz_of (rm := rm_X0_isDigit) (mL := 1) (b := cX0_isDigit) RX0 rfl (by decide +kernel) rfl rfl [(0, .int (iI c))] rfl (Nat.le_of_ble_eq_true rfl) (fun p_ e_ s_ m_ a_ b_ h_ c_ Q A C hret => ?_)
  refine g_iload_n C dX0_isDigit_0 0 rfl rfl (q := 1) rfl ?_
  refine g_bipush C dX0_isDigit_1 (by decide) (q := 3) rfl ?_
  refine g_icmp_lt C dX0_isDigit_3 (by omega) (q2 := 16) rfl (q := 6) rfl (fun hb1 => ?_) (fun hb1 => ?_)
  · skip
    refine g_iconst C dX0_isDigit_16 (q := 17) rfl ?_
    exact hret _ _ _ dX0_isDigit_17 (by omega) (by unfold bD; first | rw [if_pos (by omega)] | rw [if_neg (by omega)])
  · skip
    refine g_iload_n C dX0_isDigit_6 0 rfl rfl (q := 7) rfl ?_
    refine g_bipush C dX0_isDigit_7 (by decide) (q := 9) rfl ?_
    refine g_icmp_gt C dX0_isDigit_9 (by omega) (q2 := 16) rfl (q := 12) rfl (fun hb2 => ?_) (fun hb2 => ?_)
    · skip
      refine g_iconst C dX0_isDigit_16 (q := 17) rfl ?_
      exact hret _ _ _ dX0_isDigit_17 (by omega) (by unfold bD; first | rw [if_pos (by omega)] | rw [if_neg (by omega)])
    · skip
      refine g_iconst C dX0_isDigit_12 (q := 13) rfl ?_
      refine g_goto C dX0_isDigit_13 (q := 17) rfl ?_
      exact hret _ _ _ dX0_isDigit_17 (by omega) (by unfold bD; first | rw [if_pos (by omega)] | rw [if_neg (by omega)])
abbrev rm_X0_addParameter : Room := { frames := 0, cells := 0, slots := 0, locals := 0 }
set_option maxRecDepth 100000 in
set_option maxHeartbeats 4000000 in
theorem c_X0_addParameter (l : Launch) (E : EV) (σ : SS) (v : Int) (hm : 0 ≤ (σ 7 5) ∧ (σ 7 5) < 8) (hj : 0 ≤ (σ 7 6) ∧ (σ 7 6) < 4) : Kv l yX0_addParameter (cw yX0_addParameter cX0_addParameter 3 none) rm_X0_addParameter E [.ref (ea E 7), .int (iI v)] σ (st (st σ 7 (pt (σ 7) 6 ((σ 7 6) + 1))) 10 (pt (σ 10) ((σ 7 5) * 4 + (σ 7 6)) v)) := by
  refine Kv_of (rm := rm_X0_addParameter) (mL := 3) (b := cX0_addParameter) RX0 rfl (by decide +kernel) rfl rfl [(0, .ref (ea E 7)), (1, .int (iI v))] rfl (Nat.le_of_ble_eq_true rfl) (fun p_ e_ s_ m_ a_ b_ h_ c_ Q A C hret => ?_)
  refine g_aload_n C dX0_addParameter_0 0 rfl rfl (q := 1) rfl ?_
  refine gf_X0_29 C dX0_addParameter_1 (q := 4) rfl ?_
  refine g_iconst C dX0_addParameter_4 (q := 5) rfl ?_
  refine g_imul C dX0_addParameter_5 (q := 6) rfl ?_
  refine g_aload_n C dX0_addParameter_6 0 rfl rfl (q := 7) rfl ?_
  refine gf_X0_32 C dX0_addParameter_7 (q := 10) rfl ?_
  refine g_iadd C dX0_addParameter_10 (q := 11) rfl ?_
  refine g_istore_n C (L' := [(2, .int (iI ((σ 7 5) * 4 + (σ 7 6)))), (0, .ref (ea E 7)), (1, .int (iI v))]) dX0_addParameter_11 rfl (by decide) rfl (q := 12) rfl ?_
  refine g_iload_n C dX0_addParameter_12 0 rfl rfl (q := 13) rfl ?_
  refine g_if_lt C dX0_addParameter_13 (by omega) (q2 := 32) rfl (q := 16) rfl (fun hb1 => ?_) (fun hb1 => ?_)
  · skip
    exfalso; omega
  · skip
    refine g_iload_n C dX0_addParameter_16 0 rfl rfl (q := 17) rfl ?_
    refine g_aload_n C dX0_addParameter_17 1 rfl rfl (q := 18) rfl ?_
    refine gf_X0_26 C dX0_addParameter_18 (q := 21) rfl ?_
    refine gn_10 C dX0_addParameter_21 (q := 22) rfl ?_
    refine g_icmp_ge C dX0_addParameter_22 (by omega) (q2 := 32) rfl (q := 25) rfl (fun hb2 => ?_) (fun hb2 => ?_)
    · skip
      exfalso; omega
    · skip
      refine g_aload_n C dX0_addParameter_25 1 rfl rfl (q := 26) rfl ?_
      refine gf_X0_26 C dX0_addParameter_26 (q := 29) rfl ?_
      refine g_iload_n C dX0_addParameter_29 0 rfl rfl (q := 30) rfl ?_
      refine g_iload_n C dX0_addParameter_30 2 rfl rfl (q := 31) rfl ?_
      refine gs_10 C (by omega) dX0_addParameter_31 (q := 32) rfl ?_
      refine g_aload_n C dX0_addParameter_32 1 rfl rfl (q := 33) rfl ?_
      refine g_dup C dX0_addParameter_33 rfl (q := 34) rfl ?_
      refine gf_X0_32 C dX0_addParameter_34 (q := 37) rfl ?_
      refine g_top (b := (σ 7 6)) rfl ?_
      refine g_iconst C dX0_addParameter_37 (q := 38) rfl ?_
      refine g_iadd C dX0_addParameter_38 (q := 39) rfl ?_
      refine gp_X0_32 C dX0_addParameter_39 (q := 42) rfl ?_
      refine g_st (σ2 := (st (st σ 7 (pt (σ 7) 6 ((σ 7 6) + 1))) 10 (pt (σ 10) ((σ 7 5) * 4 + (σ 7 6)) v))) (st_cm σ (o := 10) (q := 7) (pt (σ 10) ((σ 7 5) * 4 + (σ 7 6)) v) (pt (σ 7) 6 ((σ 7 6) + 1)) (by decide)) ?_
      exact hret _ _ dX0_addParameter_42
abbrev rm_X0_addCommand : Room := { frames := 0, cells := 0, slots := 0, locals := 0 }
set_option maxRecDepth 100000 in
set_option maxHeartbeats 4000000 in
theorem c_X0_addCommand (l : Launch) (E : EV) (σ : SS) (k : Int) (hm : 0 ≤ (σ 7 5) ∧ (σ 7 5) < 8) : Kv l yX0_addCommand (cw yX0_addCommand cX0_addCommand 2 none) rm_X0_addCommand E [.ref (ea E 7), .int (iI k)] σ (st (st σ 7 (pt (σ 7) 5 ((σ 7 5) + 1))) 9 (pt (σ 9) (σ 7 5) k)) := by
  refine Kv_of (rm := rm_X0_addCommand) (mL := 2) (b := cX0_addCommand) RX0 rfl (by decide +kernel) rfl rfl [(0, .ref (ea E 7)), (1, .int (iI k))] rfl (Nat.le_of_ble_eq_true rfl) (fun p_ e_ s_ m_ a_ b_ h_ c_ Q A C hret => ?_)
  refine g_aload_n C dX0_addCommand_0 0 rfl rfl (q := 1) rfl ?_
  refine gf_X0_29 C dX0_addCommand_1 (q := 4) rfl ?_
  refine g_if_lt C dX0_addCommand_4 (by omega) (q2 := 39) rfl (q := 7) rfl (fun hb1 => ?_) (fun hb1 => ?_)
  · skip
    exfalso; omega
  · skip
    refine g_aload_n C dX0_addCommand_7 0 rfl rfl (q := 8) rfl ?_
    refine gf_X0_29 C dX0_addCommand_8 (q := 11) rfl ?_
    refine g_aload_n C dX0_addCommand_11 0 rfl rfl (q := 12) rfl ?_
    refine gf_X0_22 C dX0_addCommand_12 (q := 15) rfl ?_
    refine gn_9 C dX0_addCommand_15 (q := 16) rfl ?_
    refine g_icmp_ge C dX0_addCommand_16 (by omega) (q2 := 39) rfl (q := 19) rfl (fun hb2 => ?_) (fun hb2 => ?_)
    · skip
      exfalso; omega
    · skip
      refine g_aload_n C dX0_addCommand_19 0 rfl rfl (q := 20) rfl ?_
      refine gf_X0_22 C dX0_addCommand_20 (q := 23) rfl ?_
      refine g_aload_n C dX0_addCommand_23 0 rfl rfl (q := 24) rfl ?_
      refine gf_X0_29 C dX0_addCommand_24 (q := 27) rfl ?_
      refine g_iload_n C dX0_addCommand_27 1 rfl rfl (q := 28) rfl ?_
      refine gs_9 C (by omega) dX0_addCommand_28 (q := 29) rfl ?_
      refine g_aload_n C dX0_addCommand_29 0 rfl rfl (q := 30) rfl ?_
      refine g_dup C dX0_addCommand_30 rfl (q := 31) rfl ?_
      refine gf_X0_29 C dX0_addCommand_31 (q := 34) rfl ?_
      refine g_top (b := (σ 7 5)) rfl ?_
      refine g_iconst C dX0_addCommand_34 (q := 35) rfl ?_
      refine g_iadd C dX0_addCommand_35 (q := 36) rfl ?_
      refine gp_X0_29 C dX0_addCommand_36 (q := 39) rfl ?_
      refine g_st (σ2 := (st (st σ 7 (pt (σ 7) 5 ((σ 7 5) + 1))) 9 (pt (σ 9) (σ 7 5) k))) (st_cm σ (o := 9) (q := 7) (pt (σ 9) (σ 7 5) k) (pt (σ 7) 5 ((σ 7 5) + 1)) (by decide)) ?_
      exact hret _ _ dX0_addCommand_39
abbrev rm_X0_readSign : Room := { frames := 1, cells := 0, slots := 0, locals := 21 }
set_option maxRecDepth 100000 in
set_option maxHeartbeats 4000000 in
theorem c_X0_readSign (l : Launch) (E : EV) (σ : SS) (c : Int) (hc : 0 ≤ c ∧ c < 65536) (hT : TW (σ 8) (σ 7 1)) (ha : 0 ≤ (σ 7 2) ∧ (σ 7 2) ≤ 1000) : Ki l yX0_readSign (cw yX0_readSign cX0_readSign 2 (some .boolean)) rm_X0_readSign E [.ref (ea E 7), .int (iI c)] σ (bE (sg (σ 8) (σ 7 1) (σ 7 2)) c) (st σ 7 (pt (σ 7) 2 (if sg (σ 8) (σ 7 1) (σ 7 2) = c then (σ 7 2) + 1 else (σ 7 2)))) := by
  refine Kz_of (rm := rm_X0_readSign) (mL := 2) (b := cX0_readSign) RX0 rfl (by decide +kernel) rfl rfl [(0, .ref (ea E 7)), (1, .int (iI c))] rfl (Nat.le_of_ble_eq_true rfl) (fun p_ e_ s_ m_ a_ b_ h_ c_ Q A C hret => ?_)
  have hg := sg_rg hT (σ 7 2)
  refine g_aload_n C dX0_readSign_0 0 rfl rfl (q := 1) rfl ?_
  refine g_aload_n C dX0_readSign_1 0 rfl rfl (q := 2) rfl ?_
  refine gf_X0_19 C dX0_readSign_2 (q := 5) rfl ?_
  refine g_cV_i C (As := [.int (iI (σ 7 2))]) (c_X0_signAt l E _ (σ 7 2)  (by omega) (by assumption)) ml_X0_70 mf_X0_signAt (o := 7) (ci := 0) rfl rfl rfl rfl ⟨(Nat.le_of_ble_eq_true rfl), (Nat.le_of_ble_eq_true rfl)⟩ rfl rfl rfl (Nat.le_of_ble_eq_true rfl) ⟨(Nat.le_of_ble_eq_true rfl), (Nat.le_of_ble_eq_true rfl)⟩ dX0_readSign_5 (q := 8) rfl ?_
  refine g_iload_n C dX0_readSign_8 1 rfl rfl (q := 9) rfl ?_
  refine g_icmp_eq C dX0_readSign_9 (by omega) (q2 := 14) rfl (q := 12) rfl (fun hb1 => ?_) (fun hb1 => ?_)
  · skip
    refine g_aload_n C dX0_readSign_14 0 rfl rfl (q := 15) rfl ?_
    refine g_dup C dX0_readSign_15 rfl (q := 16) rfl ?_
    refine gf_X0_19 C dX0_readSign_16 (q := 19) rfl ?_
    refine g_iconst C dX0_readSign_19 (q := 20) rfl ?_
    refine g_iadd C dX0_readSign_20 (q := 21) rfl ?_
    refine gp_X0_19 C dX0_readSign_21 (q := 24) rfl ?_
    refine g_iconst C dX0_readSign_24 (q := 25) rfl ?_
    refine g_st (σ2 := (st σ 7 (pt (σ 7) 2 (if sg (σ 8) (σ 7 1) (σ 7 2) = c then (σ 7 2) + 1 else (σ 7 2))))) (by (repeat (first | rw [if_pos (by omega)] | rw [if_neg (by omega)])) <;> (try first | rfl | exact (st3_id σ).symm | exact (st1_id σ 7 2).symm | (rw [Int.zero_add]; done) | (rw [Int.zero_add, show σ 7 2 + 1 + 1 = σ 7 2 + 2 by omega]))) ?_
    exact hret _ _ _ dX0_readSign_25 (by omega) (by unfold bE; first | rw [if_pos (by omega)] | rw [if_neg (by omega)])
  · skip
    refine g_iconst C dX0_readSign_12 (q := 13) rfl ?_
    refine g_st (σ2 := (st σ 7 (pt (σ 7) 2 (if sg (σ 8) (σ 7 1) (σ 7 2) = c then (σ 7 2) + 1 else (σ 7 2))))) (by (repeat (first | rw [if_pos (by omega)] | rw [if_neg (by omega)])) <;> (try first | rfl | exact (st3_id σ).symm | exact (st1_id σ 7 2).symm | (rw [Int.zero_add]; done) | (rw [Int.zero_add, show σ 7 2 + 1 + 1 = σ 7 2 + 2 by omega]))) ?_
    exact hret _ _ _ dX0_readSign_13 (by omega) (by unfold bE; first | rw [if_pos (by omega)] | rw [if_neg (by omega)])
abbrev rm_X0_readDigits : Room := { frames := 1, cells := 0, slots := 0, locals := 22 }
set_option maxRecDepth 100000 in
set_option maxHeartbeats 4000000 in
theorem c_X0_readDigits_1 (l : Launch) (E : EV) (σ : SS) (hT : TW (σ 8) (σ 7 1)) (ha : 0 ≤ (σ 7 2) ∧ (σ 7 2) ≤ 1000) (hm : 0 ≤ (σ 7 5) ∧ (σ 7 5) < 8) (hj : 0 ≤ (σ 7 6) ∧ (σ 7 6) < 4) : Ki l yX0_readDigits (cw yX0_readDigits cX0_readDigits 4 (some .boolean)) rm_X0_readDigits E [.ref (ea E 7), .int (iI 1)] σ (bD (sg (σ 8) (σ 7 1) (σ 7 2))) (st (st σ 7 (pt (pt (σ 7) 2 (if bD (sg (σ 8) (σ 7 1) (σ 7 2)) = 0 then (σ 7 2) else (σ 7 2) + 1)) 6 (if bD (sg (σ 8) (σ 7 1) (σ 7 2)) = 0 then (σ 7 6) else (σ 7 6) + 1))) 10 (if bD (sg (σ 8) (σ 7 1) (σ 7 2)) = 0 then (σ 10) else pt (σ 10) ((σ 7 5) * 4 + (σ 7 6)) (sg (σ 8) (σ 7 1) (σ 7 2) - 48))) := by
  refine Kz_of (rm := rm_X0_readDigits) (mL := 4) (b := cX0_readDigits) RX0 rfl (by decide +kernel) rfl rfl [(0, .ref (ea E 7)), (1, .int (iI 1))] rfl (Nat.le_of_ble_eq_true rfl) (fun p_ e_ s_ m_ a_ b_ h_ c_ Q A C hret => ?_)
  have hg := sg_rg hT (σ 7 2)
  have hg1 := sg_rg hT (σ 7 2 + 1)
  have hd := bD_01 (sg (σ 8) (σ 7 1) (σ 7 2))
  have hd1 := bD_01 (sg (σ 8) (σ 7 1) (σ 7 2 + 1))
  refine g_iconst C dX0_readDigits_0 (q := 1) rfl ?_
  refine g_istore_n C (L' := [(2, .int (iI 0)), (0, .ref (ea E 7)), (1, .int (iI 1))]) dX0_readDigits_1 rfl (by decide) rfl (q := 2) rfl ?_
  refine g_iconst C dX0_readDigits_2 (q := 3) rfl ?_
  refine g_istore_n C (L' := [(3, .int (iI 0)), (2, .int (iI 0)), (0, .ref (ea E 7)), (1, .int (iI 1))]) dX0_readDigits_3 rfl (by decide) rfl (q := 4) rfl ?_
  refine g_iload_n C dX0_readDigits_4 0 rfl rfl (q := 5) rfl ?_
  refine g_iload_n C dX0_readDigits_5 3 rfl rfl (q := 6) rfl ?_
  refine g_icmp_ge C dX0_readDigits_6 (by omega) (q2 := 56) rfl (q := 9) rfl (fun hb1 => ?_) (fun hb1 => ?_)
  · skip
    exfalso; omega
  · skip
    refine g_aload_n C dX0_readDigits_9 2 rfl rfl (q := 10) rfl ?_
    refine g_aload_n C dX0_readDigits_10 2 rfl rfl (q := 11) rfl ?_
    refine gf_X0_19 C dX0_readDigits_11 (q := 14) rfl ?_
    refine g_cV_i C (As := [.int (iI (σ 7 2))]) (c_X0_signAt l E _ (σ 7 2)  (by omega) (by assumption)) ml_X0_70 mf_X0_signAt (o := 7) (ci := 0) rfl rfl rfl rfl ⟨(Nat.le_of_ble_eq_true rfl), (Nat.le_of_ble_eq_true rfl)⟩ rfl rfl rfl (Nat.le_of_ble_eq_true rfl) ⟨(Nat.le_of_ble_eq_true rfl), (Nat.le_of_ble_eq_true rfl)⟩ dX0_readDigits_14 (q := 17) rfl ?_
    refine g_cS_i C (As := [.int (iI (sg (σ 8) (σ 7 1) (σ 7 2)))]) (c_X0_isDigit l E _ (sg (σ 8) (σ 7 1) (σ 7 2))  (by omega)) ml_X0_100 mf_X0_isDigit rfl rfl ⟨(Nat.le_of_ble_eq_true rfl), (Nat.le_of_ble_eq_true rfl)⟩ rfl rfl rfl (Nat.le_of_ble_eq_true rfl) ⟨(Nat.le_of_ble_eq_true rfl), (Nat.le_of_ble_eq_true rfl)⟩ dX0_readDigits_17 (q := 20) rfl ?_
    refine g_if_eq C dX0_readDigits_20 (by omega) (q2 := 56) rfl (q := 23) rfl (fun hb2 => ?_) (fun hb2 => ?_)
    · skip
      refine g_iload_n C dX0_readDigits_56 0 rfl rfl (q := 57) rfl ?_
      refine g_if_ne C dX0_readDigits_57 (by omega) (q2 := 62) rfl (q := 60) rfl (fun hb3 => ?_) (fun hb3 => ?_)
      · skip
        exfalso; omega
      · skip
        refine g_iconst C dX0_readDigits_60 (q := 61) rfl ?_
        refine g_st (σ2 := (st (st σ 7 (pt (pt (σ 7) 2 (if bD (sg (σ 8) (σ 7 1) (σ 7 2)) = 0 then (σ 7 2) else (σ 7 2) + 1)) 6 (if bD (sg (σ 8) (σ 7 1) (σ 7 2)) = 0 then (σ 7 6) else (σ 7 6) + 1))) 10 (if bD (sg (σ 8) (σ 7 1) (σ 7 2)) = 0 then (σ 10) else pt (σ 10) ((σ 7 5) * 4 + (σ 7 6)) (sg (σ 8) (σ 7 1) (σ 7 2) - 48)))) (by (repeat (first | rw [if_pos (by omega)] | rw [if_neg (by omega)])) <;> (try first | rfl | exact (st3_id σ).symm | exact (st1_id σ 7 2).symm | (rw [Int.zero_add]; done) | (rw [Int.zero_add, show σ 7 2 + 1 + 1 = σ 7 2 + 2 by omega]))) ?_
        exact hret _ _ _ dX0_readDigits_61 (by omega) (by omega)
    · skip
      refine g_iload_n C dX0_readDigits_23 1 rfl rfl (q := 24) rfl ?_
      refine g_bipush C dX0_readDigits_24 (by decide) (q := 26) rfl ?_
      refine g_imul C dX0_readDigits_26 (q := 27) rfl ?_
      refine g_top (b := 0) (by decide) ?_
      refine g_aload_n C dX0_readDigits_27 2 rfl rfl (q := 28) rfl ?_
      refine g_aload_n C dX0_readDigits_28 2 rfl rfl (q := 29) rfl ?_
      refine gf_X0_19 C dX0_readDigits_29 (q := 32) rfl ?_
      refine g_cV_i C (As := [.int (iI (σ 7 2))]) (c_X0_signAt l E _ (σ 7 2)  (by omega) (by assumption)) ml_X0_70 mf_X0_signAt (o := 7) (ci := 0) rfl rfl rfl rfl ⟨(Nat.le_of_ble_eq_true rfl), (Nat.le_of_ble_eq_true rfl)⟩ rfl rfl rfl (Nat.le_of_ble_eq_true rfl) ⟨(Nat.le_of_ble_eq_true rfl), (Nat.le_of_ble_eq_true rfl)⟩ dX0_readDigits_32 (q := 35) rfl ?_
      refine g_bipush C dX0_readDigits_35 (by decide) (q := 37) rfl ?_
      refine g_isub C dX0_readDigits_37 (q := 38) rfl ?_
      refine g_iadd C dX0_readDigits_38 (q := 39) rfl ?_
      refine g_istore_n C (L' := [(2, .int (iI (0 + (sg (σ 8) (σ 7 1) (σ 7 2) - 48)))), (3, .int (iI 0)), (0, .ref (ea E 7)), (1, .int (iI 1))]) dX0_readDigits_39 rfl (by decide) rfl (q := 40) rfl ?_
      refine g_iinc C (L' := [(3, .int (iI (0 + 1))), (2, .int (iI (0 + (sg (σ 8) (σ 7 1) (σ 7 2) - 48)))), (0, .ref (ea E 7)), (1, .int (iI 1))]) dX0_readDigits_40 1 rfl (by decide) rfl (q := 43) rfl ?_
      refine g_loc (L' := [(3, .int (iI 1)), (2, .int (iI (0 + (sg (σ 8) (σ 7 1) (σ 7 2) - 48)))), (0, .ref (ea E 7)), (1, .int (iI 1))]) rfl ?_
      refine g_aload_n C dX0_readDigits_43 2 rfl rfl (q := 44) rfl ?_
      refine g_dup C dX0_readDigits_44 rfl (q := 45) rfl ?_
      refine gf_X0_19 C dX0_readDigits_45 (q := 48) rfl ?_
      refine g_iconst C dX0_readDigits_48 (q := 49) rfl ?_
      refine g_iadd C dX0_readDigits_49 (q := 50) rfl ?_
      refine gp_X0_19 C dX0_readDigits_50 (q := 53) rfl ?_
      refine g_goto C dX0_readDigits_53 (q := 4) rfl ?_
      refine g_iload_n C dX0_readDigits_4 0 rfl rfl (q := 5) rfl ?_
      refine g_iload_n C dX0_readDigits_5 3 rfl rfl (q := 6) rfl ?_
      refine g_icmp_ge C dX0_readDigits_6 (by omega) (q2 := 56) rfl (q := 9) rfl (fun hb4 => ?_) (fun hb4 => ?_)
      · skip
        refine g_iload_n C dX0_readDigits_56 0 rfl rfl (q := 57) rfl ?_
        refine g_if_ne C dX0_readDigits_57 (by omega) (q2 := 62) rfl (q := 60) rfl (fun hb5 => ?_) (fun hb5 => ?_)
        · skip
          refine g_aload_n C dX0_readDigits_62 2 rfl rfl (q := 63) rfl ?_
          refine g_iload_n C dX0_readDigits_63 1 rfl rfl (q := 64) rfl ?_
          refine g_cV_v C (As := [.int (iI (0 + (sg (σ 8) (σ 7 1) (σ 7 2) - 48)))]) (c_X0_addParameter l E _ (0 + (sg (σ 8) (σ 7 1) (σ 7 2) - 48))  (by show 0 ≤ (σ 7 5) ∧ (σ 7 5) < 8; omega) (by show 0 ≤ (σ 7 6) ∧ (σ 7 6) < 4; omega)) ml_X0_103 mf_X0_addParameter (o := 7) (ci := 0) rfl rfl rfl rfl ⟨(Nat.le_of_ble_eq_true rfl), (Nat.le_of_ble_eq_true rfl)⟩ rfl rfl rfl (Nat.le_of_ble_eq_true rfl) ⟨(Nat.le_of_ble_eq_true rfl), (Nat.le_of_ble_eq_true rfl)⟩ dX0_readDigits_64 (q := 67) rfl ?_
          refine g_st (σ2 := (st (st σ 7 (pt (pt (σ 7) 2 ((σ 7 2) + 1)) 6 ((σ 7 6) + 1))) 10 (pt (σ 10) ((σ 7 5) * 4 + (σ 7 6)) (0 + (sg (σ 8) (σ 7 1) (σ 7 2) - 48))))) (congrArg (fun g9 => st g9 10 (pt (σ 10) ((σ 7 5) * 4 + (σ 7 6)) (0 + (sg (σ 8) (σ 7 1) (σ 7 2) - 48)))) (st_st _ _ _ _)) ?_
          refine g_iconst C dX0_readDigits_67 (q := 68) rfl ?_
          refine g_st (σ2 := (st (st σ 7 (pt (pt (σ 7) 2 (if bD (sg (σ 8) (σ 7 1) (σ 7 2)) = 0 then (σ 7 2) else (σ 7 2) + 1)) 6 (if bD (sg (σ 8) (σ 7 1) (σ 7 2)) = 0 then (σ 7 6) else (σ 7 6) + 1))) 10 (if bD (sg (σ 8) (σ 7 1) (σ 7 2)) = 0 then (σ 10) else pt (σ 10) ((σ 7 5) * 4 + (σ 7 6)) (sg (σ 8) (σ 7 1) (σ 7 2) - 48)))) (by (repeat (first | rw [if_pos (by omega)] | rw [if_neg (by omega)])) <;> (try first | rfl | exact (st3_id σ).symm | exact (st1_id σ 7 2).symm | (rw [Int.zero_add]; done) | (rw [Int.zero_add, show σ 7 2 + 1 + 1 = σ 7 2 + 2 by omega]))) ?_
          exact hret _ _ _ dX0_readDigits_68 (by omega) (by omega)
        · skip
          exfalso; omega
      · skip
        exfalso; omega
set_option maxRecDepth 100000 in
set_option maxHeartbeats 4000000 in
theorem c_X0_readDigits_2 (l : Launch) (E : EV) (σ : SS) (hT : TW (σ 8) (σ 7 1)) (ha : 0 ≤ (σ 7 2) ∧ (σ 7 2) ≤ 1000) (hm : 0 ≤ (σ 7 5) ∧ (σ 7 5) < 8) (hj : 0 ≤ (σ 7 6) ∧ (σ 7 6) < 4) : Ki l yX0_readDigits (cw yX0_readDigits cX0_readDigits 4 (some .boolean)) rm_X0_readDigits E [.ref (ea E 7), .int (iI 2)] σ (bD (sg (σ 8) (σ 7 1) (σ 7 2))) (st (st σ 7 (pt (pt (σ 7) 2 (if bD (sg (σ 8) (σ 7 1) (σ 7 2)) = 0 then (σ 7 2) else if bD (sg (σ 8) (σ 7 1) ((σ 7 2) + 1)) = 1 then (σ 7 2) + 2 else (σ 7 2) + 1)) 6 (if bD (sg (σ 8) (σ 7 1) (σ 7 2)) = 0 then (σ 7 6) else (σ 7 6) + 1))) 10 (if bD (sg (σ 8) (σ 7 1) (σ 7 2)) = 0 then (σ 10) else pt (σ 10) ((σ 7 5) * 4 + (σ 7 6)) (if bD (sg (σ 8) (σ 7 1) ((σ 7 2) + 1)) = 1 then (sg (σ 8) (σ 7 1) (σ 7 2) - 48) * 10 + (sg (σ 8) (σ 7 1) ((σ 7 2) + 1) - 48) else sg (σ 8) (σ 7 1) (σ 7 2) - 48))) := by
  refine Kz_of (rm := rm_X0_readDigits) (mL := 4) (b := cX0_readDigits) RX0 rfl (by decide +kernel) rfl rfl [(0, .ref (ea E 7)), (1, .int (iI 2))] rfl (Nat.le_of_ble_eq_true rfl) (fun p_ e_ s_ m_ a_ b_ h_ c_ Q A C hret => ?_)
  have hg := sg_rg hT (σ 7 2)
  have hg1 := sg_rg hT (σ 7 2 + 1)
  have hd := bD_01 (sg (σ 8) (σ 7 1) (σ 7 2))
  have hd1 := bD_01 (sg (σ 8) (σ 7 1) (σ 7 2 + 1))
  refine g_iconst C dX0_readDigits_0 (q := 1) rfl ?_
  refine g_istore_n C (L' := [(2, .int (iI 0)), (0, .ref (ea E 7)), (1, .int (iI 2))]) dX0_readDigits_1 rfl (by decide) rfl (q := 2) rfl ?_
  refine g_iconst C dX0_readDigits_2 (q := 3) rfl ?_
  refine g_istore_n C (L' := [(3, .int (iI 0)), (2, .int (iI 0)), (0, .ref (ea E 7)), (1, .int (iI 2))]) dX0_readDigits_3 rfl (by decide) rfl (q := 4) rfl ?_
  refine g_iload_n C dX0_readDigits_4 0 rfl rfl (q := 5) rfl ?_
  refine g_iload_n C dX0_readDigits_5 3 rfl rfl (q := 6) rfl ?_
  refine g_icmp_ge C dX0_readDigits_6 (by omega) (q2 := 56) rfl (q := 9) rfl (fun hb1 => ?_) (fun hb1 => ?_)
  · skip
    exfalso; omega
  · skip
    refine g_aload_n C dX0_readDigits_9 2 rfl rfl (q := 10) rfl ?_
    refine g_aload_n C dX0_readDigits_10 2 rfl rfl (q := 11) rfl ?_
    refine gf_X0_19 C dX0_readDigits_11 (q := 14) rfl ?_
    refine g_cV_i C (As := [.int (iI (σ 7 2))]) (c_X0_signAt l E _ (σ 7 2)  (by omega) (by assumption)) ml_X0_70 mf_X0_signAt (o := 7) (ci := 0) rfl rfl rfl rfl ⟨(Nat.le_of_ble_eq_true rfl), (Nat.le_of_ble_eq_true rfl)⟩ rfl rfl rfl (Nat.le_of_ble_eq_true rfl) ⟨(Nat.le_of_ble_eq_true rfl), (Nat.le_of_ble_eq_true rfl)⟩ dX0_readDigits_14 (q := 17) rfl ?_
    refine g_cS_i C (As := [.int (iI (sg (σ 8) (σ 7 1) (σ 7 2)))]) (c_X0_isDigit l E _ (sg (σ 8) (σ 7 1) (σ 7 2))  (by omega)) ml_X0_100 mf_X0_isDigit rfl rfl ⟨(Nat.le_of_ble_eq_true rfl), (Nat.le_of_ble_eq_true rfl)⟩ rfl rfl rfl (Nat.le_of_ble_eq_true rfl) ⟨(Nat.le_of_ble_eq_true rfl), (Nat.le_of_ble_eq_true rfl)⟩ dX0_readDigits_17 (q := 20) rfl ?_
    refine g_if_eq C dX0_readDigits_20 (by omega) (q2 := 56) rfl (q := 23) rfl (fun hb2 => ?_) (fun hb2 => ?_)
    · skip
      refine g_iload_n C dX0_readDigits_56 0 rfl rfl (q := 57) rfl ?_
      refine g_if_ne C dX0_readDigits_57 (by omega) (q2 := 62) rfl (q := 60) rfl (fun hb3 => ?_) (fun hb3 => ?_)
      · skip
        exfalso; omega
      · skip
        refine g_iconst C dX0_readDigits_60 (q := 61) rfl ?_
        refine g_st (σ2 := (st (st σ 7 (pt (pt (σ 7) 2 (if bD (sg (σ 8) (σ 7 1) (σ 7 2)) = 0 then (σ 7 2) else if bD (sg (σ 8) (σ 7 1) ((σ 7 2) + 1)) = 1 then (σ 7 2) + 2 else (σ 7 2) + 1)) 6 (if bD (sg (σ 8) (σ 7 1) (σ 7 2)) = 0 then (σ 7 6) else (σ 7 6) + 1))) 10 (if bD (sg (σ 8) (σ 7 1) (σ 7 2)) = 0 then (σ 10) else pt (σ 10) ((σ 7 5) * 4 + (σ 7 6)) (if bD (sg (σ 8) (σ 7 1) ((σ 7 2) + 1)) = 1 then (sg (σ 8) (σ 7 1) (σ 7 2) - 48) * 10 + (sg (σ 8) (σ 7 1) ((σ 7 2) + 1) - 48) else sg (σ 8) (σ 7 1) (σ 7 2) - 48)))) (by (repeat (first | rw [if_pos (by omega)] | rw [if_neg (by omega)])) <;> (try first | rfl | exact (st3_id σ).symm | exact (st1_id σ 7 2).symm | (rw [Int.zero_add]; done) | (rw [Int.zero_add, show σ 7 2 + 1 + 1 = σ 7 2 + 2 by omega]))) ?_
        exact hret _ _ _ dX0_readDigits_61 (by omega) (by omega)
    · skip
      refine g_iload_n C dX0_readDigits_23 1 rfl rfl (q := 24) rfl ?_
      refine g_bipush C dX0_readDigits_24 (by decide) (q := 26) rfl ?_
      refine g_imul C dX0_readDigits_26 (q := 27) rfl ?_
      refine g_top (b := 0) (by decide) ?_
      refine g_aload_n C dX0_readDigits_27 2 rfl rfl (q := 28) rfl ?_
      refine g_aload_n C dX0_readDigits_28 2 rfl rfl (q := 29) rfl ?_
      refine gf_X0_19 C dX0_readDigits_29 (q := 32) rfl ?_
      refine g_cV_i C (As := [.int (iI (σ 7 2))]) (c_X0_signAt l E _ (σ 7 2)  (by omega) (by assumption)) ml_X0_70 mf_X0_signAt (o := 7) (ci := 0) rfl rfl rfl rfl ⟨(Nat.le_of_ble_eq_true rfl), (Nat.le_of_ble_eq_true rfl)⟩ rfl rfl rfl (Nat.le_of_ble_eq_true rfl) ⟨(Nat.le_of_ble_eq_true rfl), (Nat.le_of_ble_eq_true rfl)⟩ dX0_readDigits_32 (q := 35) rfl ?_
      refine g_bipush C dX0_readDigits_35 (by decide) (q := 37) rfl ?_
      refine g_isub C dX0_readDigits_37 (q := 38) rfl ?_
      refine g_iadd C dX0_readDigits_38 (q := 39) rfl ?_
      refine g_istore_n C (L' := [(2, .int (iI (0 + (sg (σ 8) (σ 7 1) (σ 7 2) - 48)))), (3, .int (iI 0)), (0, .ref (ea E 7)), (1, .int (iI 2))]) dX0_readDigits_39 rfl (by decide) rfl (q := 40) rfl ?_
      refine g_iinc C (L' := [(3, .int (iI (0 + 1))), (2, .int (iI (0 + (sg (σ 8) (σ 7 1) (σ 7 2) - 48)))), (0, .ref (ea E 7)), (1, .int (iI 2))]) dX0_readDigits_40 1 rfl (by decide) rfl (q := 43) rfl ?_
      refine g_loc (L' := [(3, .int (iI 1)), (2, .int (iI (0 + (sg (σ 8) (σ 7 1) (σ 7 2) - 48)))), (0, .ref (ea E 7)), (1, .int (iI 2))]) rfl ?_
      refine g_aload_n C dX0_readDigits_43 2 rfl rfl (q := 44) rfl ?_
      refine g_dup C dX0_readDigits_44 rfl (q := 45) rfl ?_
      refine gf_X0_19 C dX0_readDigits_45 (q := 48) rfl ?_
      refine g_iconst C dX0_readDigits_48 (q := 49) rfl ?_
      refine g_iadd C dX0_readDigits_49 (q := 50) rfl ?_
      refine gp_X0_19 C dX0_readDigits_50 (q := 53) rfl ?_
      refine g_goto C dX0_readDigits_53 (q := 4) rfl ?_
      refine g_iload_n C dX0_readDigits_4 0 rfl rfl (q := 5) rfl ?_
      refine g_iload_n C dX0_readDigits_5 3 rfl rfl (q := 6) rfl ?_
      refine g_icmp_ge C dX0_readDigits_6 (by omega) (q2 := 56) rfl (q := 9) rfl (fun hb4 => ?_) (fun hb4 => ?_)
      · skip
        exfalso; omega
      · skip
        refine g_aload_n C dX0_readDigits_9 2 rfl rfl (q := 10) rfl ?_
        refine g_aload_n C dX0_readDigits_10 2 rfl rfl (q := 11) rfl ?_
        refine gf_X0_19 C dX0_readDigits_11 (q := 14) rfl ?_
        refine g_top (b := (σ 7 2) + 1) rfl ?_
        refine g_cV_i C (As := [.int (iI ((σ 7 2) + 1))]) (c_X0_signAt l E _ ((σ 7 2) + 1)  (by omega) (by show TW (σ 8) (σ 7 1); assumption)) ml_X0_70 mf_X0_signAt (o := 7) (ci := 0) rfl rfl rfl rfl ⟨(Nat.le_of_ble_eq_true rfl), (Nat.le_of_ble_eq_true rfl)⟩ rfl rfl rfl (Nat.le_of_ble_eq_true rfl) ⟨(Nat.le_of_ble_eq_true rfl), (Nat.le_of_ble_eq_true rfl)⟩ dX0_readDigits_14 (q := 17) rfl ?_
        refine g_top (b := sg (σ 8) (σ 7 1) ((σ 7 2) + 1)) rfl ?_
        refine g_cS_i C (As := [.int (iI (sg (σ 8) (σ 7 1) ((σ 7 2) + 1)))]) (c_X0_isDigit l E _ (sg (σ 8) (σ 7 1) ((σ 7 2) + 1))  (by omega)) ml_X0_100 mf_X0_isDigit rfl rfl ⟨(Nat.le_of_ble_eq_true rfl), (Nat.le_of_ble_eq_true rfl)⟩ rfl rfl rfl (Nat.le_of_ble_eq_true rfl) ⟨(Nat.le_of_ble_eq_true rfl), (Nat.le_of_ble_eq_true rfl)⟩ dX0_readDigits_17 (q := 20) rfl ?_
        refine g_if_eq C dX0_readDigits_20 (by omega) (q2 := 56) rfl (q := 23) rfl (fun hb5 => ?_) (fun hb5 => ?_)
        · skip
          refine g_iload_n C dX0_readDigits_56 0 rfl rfl (q := 57) rfl ?_
          refine g_if_ne C dX0_readDigits_57 (by omega) (q2 := 62) rfl (q := 60) rfl (fun hb6 => ?_) (fun hb6 => ?_)
          · skip
            refine g_aload_n C dX0_readDigits_62 2 rfl rfl (q := 63) rfl ?_
            refine g_iload_n C dX0_readDigits_63 1 rfl rfl (q := 64) rfl ?_
            refine g_cV_v C (As := [.int (iI (0 + (sg (σ 8) (σ 7 1) (σ 7 2) - 48)))]) (c_X0_addParameter l E _ (0 + (sg (σ 8) (σ 7 1) (σ 7 2) - 48))  (by show 0 ≤ (σ 7 5) ∧ (σ 7 5) < 8; omega) (by show 0 ≤ (σ 7 6) ∧ (σ 7 6) < 4; omega)) ml_X0_103 mf_X0_addParameter (o := 7) (ci := 0) rfl rfl rfl rfl ⟨(Nat.le_of_ble_eq_true rfl), (Nat.le_of_ble_eq_true rfl)⟩ rfl rfl rfl (Nat.le_of_ble_eq_true rfl) ⟨(Nat.le_of_ble_eq_true rfl), (Nat.le_of_ble_eq_true rfl)⟩ dX0_readDigits_64 (q := 67) rfl ?_
            refine g_st (σ2 := (st (st σ 7 (pt (pt (σ 7) 2 ((σ 7 2) + 1)) 6 ((σ 7 6) + 1))) 10 (pt (σ 10) ((σ 7 5) * 4 + (σ 7 6)) (0 + (sg (σ 8) (σ 7 1) (σ 7 2) - 48))))) (congrArg (fun g9 => st g9 10 (pt (σ 10) ((σ 7 5) * 4 + (σ 7 6)) (0 + (sg (σ 8) (σ 7 1) (σ 7 2) - 48)))) (st_st _ _ _ _)) ?_
            refine g_iconst C dX0_readDigits_67 (q := 68) rfl ?_
            refine g_st (σ2 := (st (st σ 7 (pt (pt (σ 7) 2 (if bD (sg (σ 8) (σ 7 1) (σ 7 2)) = 0 then (σ 7 2) else if bD (sg (σ 8) (σ 7 1) ((σ 7 2) + 1)) = 1 then (σ 7 2) + 2 else (σ 7 2) + 1)) 6 (if bD (sg (σ 8) (σ 7 1) (σ 7 2)) = 0 then (σ 7 6) else (σ 7 6) + 1))) 10 (if bD (sg (σ 8) (σ 7 1) (σ 7 2)) = 0 then (σ 10) else pt (σ 10) ((σ 7 5) * 4 + (σ 7 6)) (if bD (sg (σ 8) (σ 7 1) ((σ 7 2) + 1)) = 1 then (sg (σ 8) (σ 7 1) (σ 7 2) - 48) * 10 + (sg (σ 8) (σ 7 1) ((σ 7 2) + 1) - 48) else sg (σ 8) (σ 7 1) (σ 7 2) - 48)))) (by (repeat (first | rw [if_pos (by omega)] | rw [if_neg (by omega)])) <;> (try first | rfl | exact (st3_id σ).symm | exact (st1_id σ 7 2).symm | (rw [Int.zero_add]; done) | (rw [Int.zero_add, show σ 7 2 + 1 + 1 = σ 7 2 + 2 by omega]))) ?_
            exact hret _ _ _ dX0_readDigits_68 (by omega) (by omega)
          · skip
            exfalso; omega
        · skip
          refine g_iload_n C dX0_readDigits_23 1 rfl rfl (q := 24) rfl ?_
          refine g_bipush C dX0_readDigits_24 (by decide) (q := 26) rfl ?_
          refine g_imul C dX0_readDigits_26 (q := 27) rfl ?_
          refine g_aload_n C dX0_readDigits_27 2 rfl rfl (q := 28) rfl ?_
          refine g_aload_n C dX0_readDigits_28 2 rfl rfl (q := 29) rfl ?_
          refine gf_X0_19 C dX0_readDigits_29 (q := 32) rfl ?_
          refine g_top (b := (σ 7 2) + 1) rfl ?_
          refine g_cV_i C (As := [.int (iI ((σ 7 2) + 1))]) (c_X0_signAt l E _ ((σ 7 2) + 1)  (by omega) (by show TW (σ 8) (σ 7 1); assumption)) ml_X0_70 mf_X0_signAt (o := 7) (ci := 0) rfl rfl rfl rfl ⟨(Nat.le_of_ble_eq_true rfl), (Nat.le_of_ble_eq_true rfl)⟩ rfl rfl rfl (Nat.le_of_ble_eq_true rfl) ⟨(Nat.le_of_ble_eq_true rfl), (Nat.le_of_ble_eq_true rfl)⟩ dX0_readDigits_32 (q := 35) rfl ?_
          refine g_top (b := sg (σ 8) (σ 7 1) ((σ 7 2) + 1)) rfl ?_
          refine g_bipush C dX0_readDigits_35 (by decide) (q := 37) rfl ?_
          refine g_isub C dX0_readDigits_37 (q := 38) rfl ?_
          refine g_iadd C dX0_readDigits_38 (q := 39) rfl ?_
          refine g_istore_n C (L' := [(2, .int (iI ((0 + (sg (σ 8) (σ 7 1) (σ 7 2) - 48)) * 10 + (sg (σ 8) (σ 7 1) ((σ 7 2) + 1) - 48)))), (3, .int (iI 1)), (0, .ref (ea E 7)), (1, .int (iI 2))]) dX0_readDigits_39 rfl (by decide) rfl (q := 40) rfl ?_
          refine g_iinc C (L' := [(3, .int (iI (1 + 1))), (2, .int (iI ((0 + (sg (σ 8) (σ 7 1) (σ 7 2) - 48)) * 10 + (sg (σ 8) (σ 7 1) ((σ 7 2) + 1) - 48)))), (0, .ref (ea E 7)), (1, .int (iI 2))]) dX0_readDigits_40 1 rfl (by decide) rfl (q := 43) rfl ?_
          refine g_loc (L' := [(3, .int (iI 2)), (2, .int (iI ((0 + (sg (σ 8) (σ 7 1) (σ 7 2) - 48)) * 10 + (sg (σ 8) (σ 7 1) ((σ 7 2) + 1) - 48)))), (0, .ref (ea E 7)), (1, .int (iI 2))]) rfl ?_
          refine g_aload_n C dX0_readDigits_43 2 rfl rfl (q := 44) rfl ?_
          refine g_dup C dX0_readDigits_44 rfl (q := 45) rfl ?_
          refine gf_X0_19 C dX0_readDigits_45 (q := 48) rfl ?_
          refine g_top (b := (σ 7 2) + 1) rfl ?_
          refine g_iconst C dX0_readDigits_48 (q := 49) rfl ?_
          refine g_iadd C dX0_readDigits_49 (q := 50) rfl ?_
          refine gp_X0_19 C dX0_readDigits_50 (q := 53) rfl ?_
          refine g_st (σ2 := (st σ 7 (pt (σ 7) 2 ((σ 7 2) + 1 + 1)))) ((congrArg (st (st σ 7 (pt (σ 7) 2 ((σ 7 2) + 1))) 7) (pt_pt _ _ _ _)).trans (st_st _ _ _ _)) ?_
          refine g_goto C dX0_readDigits_53 (q := 4) rfl ?_
          refine g_iload_n C dX0_readDigits_4 0 rfl rfl (q := 5) rfl ?_
          refine g_iload_n C dX0_readDigits_5 3 rfl rfl (q := 6) rfl ?_
          refine g_icmp_ge C dX0_readDigits_6 (by omega) (q2 := 56) rfl (q := 9) rfl (fun hb7 => ?_) (fun hb7 => ?_)
          · skip
            refine g_iload_n C dX0_readDigits_56 0 rfl rfl (q := 57) rfl ?_
            refine g_if_ne C dX0_readDigits_57 (by omega) (q2 := 62) rfl (q := 60) rfl (fun hb8 => ?_) (fun hb8 => ?_)
            · skip
              refine g_aload_n C dX0_readDigits_62 2 rfl rfl (q := 63) rfl ?_
              refine g_iload_n C dX0_readDigits_63 1 rfl rfl (q := 64) rfl ?_
              refine g_cV_v C (As := [.int (iI ((0 + (sg (σ 8) (σ 7 1) (σ 7 2) - 48)) * 10 + (sg (σ 8) (σ 7 1) ((σ 7 2) + 1) - 48)))]) (c_X0_addParameter l E _ ((0 + (sg (σ 8) (σ 7 1) (σ 7 2) - 48)) * 10 + (sg (σ 8) (σ 7 1) ((σ 7 2) + 1) - 48))  (by show 0 ≤ (σ 7 5) ∧ (σ 7 5) < 8; omega) (by show 0 ≤ (σ 7 6) ∧ (σ 7 6) < 4; omega)) ml_X0_103 mf_X0_addParameter (o := 7) (ci := 0) rfl rfl rfl rfl ⟨(Nat.le_of_ble_eq_true rfl), (Nat.le_of_ble_eq_true rfl)⟩ rfl rfl rfl (Nat.le_of_ble_eq_true rfl) ⟨(Nat.le_of_ble_eq_true rfl), (Nat.le_of_ble_eq_true rfl)⟩ dX0_readDigits_64 (q := 67) rfl ?_
              refine g_st (σ2 := (st (st σ 7 (pt (pt (σ 7) 2 ((σ 7 2) + 1 + 1)) 6 ((σ 7 6) + 1))) 10 (pt (σ 10) ((σ 7 5) * 4 + (σ 7 6)) ((0 + (sg (σ 8) (σ 7 1) (σ 7 2) - 48)) * 10 + (sg (σ 8) (σ 7 1) ((σ 7 2) + 1) - 48))))) (congrArg (fun g9 => st g9 10 (pt (σ 10) ((σ 7 5) * 4 + (σ 7 6)) ((0 + (sg (σ 8) (σ 7 1) (σ 7 2) - 48)) * 10 + (sg (σ 8) (σ 7 1) ((σ 7 2) + 1) - 48)))) (st_st _ _ _ _)) ?_
              refine g_iconst C dX0_readDigits_67 (q := 68) rfl ?_
              refine g_st (σ2 := (st (st σ 7 (pt (pt (σ 7) 2 (if bD (sg (σ 8) (σ 7 1) (σ 7 2)) = 0 then (σ 7 2) else if bD (sg (σ 8) (σ 7 1) ((σ 7 2) + 1)) = 1 then (σ 7 2) + 2 else (σ 7 2) + 1)) 6 (if bD (sg (σ 8) (σ 7 1) (σ 7 2)) = 0 then (σ 7 6) else (σ 7 6) + 1))) 10 (if bD (sg (σ 8) (σ 7 1) (σ 7 2)) = 0 then (σ 10) else pt (σ 10) ((σ 7 5) * 4 + (σ 7 6)) (if bD (sg (σ 8) (σ 7 1) ((σ 7 2) + 1)) = 1 then (sg (σ 8) (σ 7 1) (σ 7 2) - 48) * 10 + (sg (σ 8) (σ 7 1) ((σ 7 2) + 1) - 48) else sg (σ 8) (σ 7 1) (σ 7 2) - 48)))) (by (repeat (first | rw [if_pos (by omega)] | rw [if_neg (by omega)])) <;> (try first | rfl | exact (st3_id σ).symm | exact (st1_id σ 7 2).symm | (rw [Int.zero_add]; done) | (rw [Int.zero_add, show σ 7 2 + 1 + 1 = σ 7 2 + 2 by omega]))) ?_
              exact hret _ _ _ dX0_readDigits_68 (by omega) (by omega)
            · skip
              exfalso; omega
          · skip
            exfalso; omega
abbrev rm_X0_readColour : Room := { frames := 1, cells := 0, slots := 0, locals := 22 }
set_option maxRecDepth 100000 in
set_option maxHeartbeats 4000000 in
theorem c_X0_readColour (l : Launch) (E : EV) (σ : SS) (hT : TW (σ 8) (σ 7 1)) (ha : 0 ≤ (σ 7 2) ∧ (σ 7 2) ≤ 1000) (hm : 0 ≤ (σ 7 5) ∧ (σ 7 5) < 8) (hj : 0 ≤ (σ 7 6) ∧ (σ 7 6) < 4) : Ki l yX0_readColour (cw yX0_readColour cX0_readColour 2 (some .boolean)) rm_X0_readColour E [.ref (ea E 7)] σ (bC (sg (σ 8) (σ 7 1) (σ 7 2) - 97)) (st (st σ 7 (pt (pt (σ 7) 2 (if bC (sg (σ 8) (σ 7 1) (σ 7 2) - 97) = 0 then (σ 7 2) else (σ 7 2) + 1)) 6 (if bC (sg (σ 8) (σ 7 1) (σ 7 2) - 97) = 0 then (σ 7 6) else (σ 7 6) + 1))) 10 (if bC (sg (σ 8) (σ 7 1) (σ 7 2) - 97) = 0 then (σ 10) else pt (σ 10) ((σ 7 5) * 4 + (σ 7 6)) (sg (σ 8) (σ 7 1) (σ 7 2) - 97))) := by
  refine Kz_of (rm := rm_X0_readColour) (mL := 2) (b := cX0_readColour) RX0 rfl (by decide +kernel) rfl rfl [(0, .ref (ea E 7))] rfl (Nat.le_of_ble_eq_true rfl) (fun p_ e_ s_ m_ a_ b_ h_ c_ Q A C hret => ?_)
  have hg := sg_rg hT (σ 7 2)
  have hd := bC_01 (sg (σ 8) (σ 7 1) (σ 7 2) - 97)
  refine g_aload_n C dX0_readColour_0 0 rfl rfl (q := 1) rfl ?_
  refine g_aload_n C dX0_readColour_1 0 rfl rfl (q := 2) rfl ?_
  refine gf_X0_19 C dX0_readColour_2 (q := 5) rfl ?_
  refine g_cV_i C (As := [.int (iI (σ 7 2))]) (c_X0_signAt l E _ (σ 7 2)  (by omega) (by assumption)) ml_X0_70 mf_X0_signAt (o := 7) (ci := 0) rfl rfl rfl rfl ⟨(Nat.le_of_ble_eq_true rfl), (Nat.le_of_ble_eq_true rfl)⟩ rfl rfl rfl (Nat.le_of_ble_eq_true rfl) ⟨(Nat.le_of_ble_eq_true rfl), (Nat.le_of_ble_eq_true rfl)⟩ dX0_readColour_5 (q := 8) rfl ?_
  refine g_bipush C dX0_readColour_8 (by decide) (q := 10) rfl ?_
  refine g_isub C dX0_readColour_10 (q := 11) rfl ?_
  refine g_istore_n C (L' := [(1, .int (iI (sg (σ 8) (σ 7 1) (σ 7 2) - 97))), (0, .ref (ea E 7))]) dX0_readColour_11 rfl (by decide) rfl (q := 12) rfl ?_
  refine g_iload_n C dX0_readColour_12 0 rfl rfl (q := 13) rfl ?_
  refine g_cSN_i C (As := [.int (iI (sg (σ 8) (σ 7 1) (σ 7 2) - 97))]) (c_X4_isColour l E _ (sg (σ 8) (σ 7 1) (σ 7 2) - 97)  (by omega)) mn_X0_106 mf_X4_isColour rfl ⟨(Nat.le_of_ble_eq_true rfl), (Nat.le_of_ble_eq_true rfl)⟩ rfl rfl rfl (Nat.le_of_ble_eq_true rfl) ⟨(Nat.le_of_ble_eq_true rfl), (Nat.le_of_ble_eq_true rfl)⟩ dX0_readColour_13 (q := 16) rfl ?_
  refine g_if_ne C dX0_readColour_16 (by omega) (q2 := 21) rfl (q := 19) rfl (fun hb1 => ?_) (fun hb1 => ?_)
  · skip
    refine g_aload_n C dX0_readColour_21 1 rfl rfl (q := 22) rfl ?_
    refine g_iload_n C dX0_readColour_22 0 rfl rfl (q := 23) rfl ?_
    refine g_cV_v C (As := [.int (iI (sg (σ 8) (σ 7 1) (σ 7 2) - 97))]) (c_X0_addParameter l E _ (sg (σ 8) (σ 7 1) (σ 7 2) - 97)  (by omega) (by omega)) ml_X0_103 mf_X0_addParameter (o := 7) (ci := 0) rfl rfl rfl rfl ⟨(Nat.le_of_ble_eq_true rfl), (Nat.le_of_ble_eq_true rfl)⟩ rfl rfl rfl (Nat.le_of_ble_eq_true rfl) ⟨(Nat.le_of_ble_eq_true rfl), (Nat.le_of_ble_eq_true rfl)⟩ dX0_readColour_23 (q := 26) rfl ?_
    refine g_aload_n C dX0_readColour_26 1 rfl rfl (q := 27) rfl ?_
    refine g_dup C dX0_readColour_27 rfl (q := 28) rfl ?_
    refine gf_X0_19 C dX0_readColour_28 (q := 31) rfl ?_
    refine g_top (b := (σ 7 2)) rfl ?_
    refine g_iconst C dX0_readColour_31 (q := 32) rfl ?_
    refine g_iadd C dX0_readColour_32 (q := 33) rfl ?_
    refine gp_X0_19 C dX0_readColour_33 (q := 36) rfl ?_
    refine g_st (σ2 := (st (st σ 7 (pt (pt (σ 7) 2 ((σ 7 2) + 1)) 6 ((σ 7 6) + 1))) 10 (pt (σ 10) ((σ 7 5) * 4 + (σ 7 6)) (sg (σ 8) (σ 7 1) (σ 7 2) - 97)))) ((congrArg (st (st (st σ 7 (pt (σ 7) 6 ((σ 7 6) + 1))) 10 (pt (σ 10) ((σ 7 5) * 4 + (σ 7 6)) (sg (σ 8) (σ 7 1) (σ 7 2) - 97))) 7) (pt_cm (σ 7) (k := 6) (j := 2) ((σ 7 6) + 1) ((σ 7 2) + 1) (by decide))).trans ((st_cm (st σ 7 (pt (σ 7) 6 ((σ 7 6) + 1))) (o := 10) (q := 7) (pt (σ 10) ((σ 7 5) * 4 + (σ 7 6)) (sg (σ 8) (σ 7 1) (σ 7 2) - 97)) (pt (pt (σ 7) 2 ((σ 7 2) + 1)) 6 ((σ 7 6) + 1)) (by decide)).trans (congrArg (fun g9 => st g9 10 (pt (σ 10) ((σ 7 5) * 4 + (σ 7 6)) (sg (σ 8) (σ 7 1) (σ 7 2) - 97))) (st_st _ _ _ _)))) ?_
    refine g_iconst C dX0_readColour_36 (q := 37) rfl ?_
    refine g_st (σ2 := (st (st σ 7 (pt (pt (σ 7) 2 (if bC (sg (σ 8) (σ 7 1) (σ 7 2) - 97) = 0 then (σ 7 2) else (σ 7 2) + 1)) 6 (if bC (sg (σ 8) (σ 7 1) (σ 7 2) - 97) = 0 then (σ 7 6) else (σ 7 6) + 1))) 10 (if bC (sg (σ 8) (σ 7 1) (σ 7 2) - 97) = 0 then (σ 10) else pt (σ 10) ((σ 7 5) * 4 + (σ 7 6)) (sg (σ 8) (σ 7 1) (σ 7 2) - 97)))) (by (repeat (first | rw [if_pos (by omega)] | rw [if_neg (by omega)])) <;> (try first | rfl | exact (st3_id σ).symm | exact (st1_id σ 7 2).symm | (rw [Int.zero_add]; done) | (rw [Int.zero_add, show σ 7 2 + 1 + 1 = σ 7 2 + 2 by omega]))) ?_
    exact hret _ _ _ dX0_readColour_37 (by omega) (by omega)
  · skip
    refine g_iconst C dX0_readColour_19 (q := 20) rfl ?_
    refine g_st (σ2 := (st (st σ 7 (pt (pt (σ 7) 2 (if bC (sg (σ 8) (σ 7 1) (σ 7 2) - 97) = 0 then (σ 7 2) else (σ 7 2) + 1)) 6 (if bC (sg (σ 8) (σ 7 1) (σ 7 2) - 97) = 0 then (σ 7 6) else (σ 7 6) + 1))) 10 (if bC (sg (σ 8) (σ 7 1) (σ 7 2) - 97) = 0 then (σ 10) else pt (σ 10) ((σ 7 5) * 4 + (σ 7 6)) (sg (σ 8) (σ 7 1) (σ 7 2) - 97)))) (by (repeat (first | rw [if_pos (by omega)] | rw [if_neg (by omega)])) <;> (try first | rfl | exact (st3_id σ).symm | exact (st1_id σ 7 2).symm | (rw [Int.zero_add]; done) | (rw [Int.zero_add, show σ 7 2 + 1 + 1 = σ 7 2 + 2 by omega]))) ?_
    exact hret _ _ _ dX0_readColour_20 (by omega) (by omega)
