abbrev rm_X0_readPiece : Room := { frames := 2, cells := 0, slots := 0, locals := 45 }
set_option maxRecDepth 100000 in
set_option maxHeartbeats 4000000 in
theorem c_X0_readPiece (l : Launch) (E : EV) (σ : SS) (c : Int) (hc : 0 ≤ c ∧ c < 65536) (hT : TW (σ 8) (σ 7 1)) (ha : 0 ≤ (σ 7 2) ∧ (σ 7 2) ≤ 1000) (hm : 0 ≤ (σ 7 5) ∧ (σ 7 5) < 8) (hj : 0 ≤ (σ 7 6) ∧ ((σ 7 6) < 4 ∨ isV c = 0)) : Ki l yX0_readPiece (cw yX0_readPiece cX0_readPiece 2 (some .boolean)) rm_X0_readPiece E [.ref (ea E 7), .int (iI c)] σ (okP (σ 8) (σ 7 1) c (σ 7 2)) (st (st σ 7 (pt (pt (σ 7) 2 (atP (σ 8) (σ 7 1) c (σ 7 2))) 6 (jP (σ 8) (σ 7 1) c (σ 7 2) (σ 7 6)))) 10 (pP (σ 8) (σ 7 1) ((σ 7 5) * 4) c (σ 7 2) (σ 7 6) (σ 10))) := by
  refine Kz_of (rm := rm_X0_readPiece) (mL := 2) (b := cX0_readPiece) RX0 rfl (by decide +kernel) rfl rfl [(0, .ref (ea E 7)), (1, .int (iI c))] rfl (Nat.le_of_ble_eq_true rfl) (fun p_ e_ s_ m_ a_ b_ h_ c_ Q A C hret => ?_)
  have hg := sg_rg hT (σ 7 2)
  refine g_iload_n C dX0_readPiece_0 1 rfl rfl (q := 1) rfl ?_
  rcases (show c = 67 ∨ c = 68 ∨ c = 78 ∨ (c ≠ 67 ∧ c ≠ 68 ∧ c ≠ 78) by omega) with rfl | rfl | rfl | hb1
  · skip
    refine g_look C dX0_readPiece_1 (by omega) (by decide) (off := 47) (by decide) (q := 48) rfl ?_
    refine g_aload_n C dX0_readPiece_48 0 rfl rfl (q := 49) rfl ?_
    refine g_cV_i C (As := []) (c_X0_readColour l E _   (by assumption) (by omega) (by omega) (by (have h67 : isV 67 = 1 := rfl; have h68 : isV 68 = 1 := rfl; have h78 : isV 78 = 1 := rfl; omega))) ml_X0_97 mf_X0_readColour (o := 7) (ci := 0) rfl rfl rfl rfl ⟨(Nat.le_of_ble_eq_true rfl), (Nat.le_of_ble_eq_true rfl)⟩ rfl rfl rfl (Nat.le_of_ble_eq_true rfl) ⟨(Nat.le_of_ble_eq_true rfl), (Nat.le_of_ble_eq_true rfl)⟩ dX0_readPiece_49 (q := 52) rfl ?_
    refine g_st (σ2 := (st (st σ 7 (pt (pt (σ 7) 2 (atP (σ 8) (σ 7 1) 67 (σ 7 2))) 6 (jP (σ 8) (σ 7 1) 67 (σ 7 2) (σ 7 6)))) 10 (pP (σ 8) (σ 7 1) ((σ 7 5) * 4) 67 (σ 7 2) (σ 7 6) (σ 10)))) (by first | (rw [at68, p68, j68]; done) | (rw [at78, p78, j78]; done) | (rw [at67, p67, j67]; done) | (rw [atS (by omega), pS (by omega), jS (by omega), stS]; done)) ?_
    exact hret _ _ _ dX0_readPiece_52 (by first | exact bD_01 _ | exact bC_01 _ | exact bE_01 _ _) (by first | rfl | exact (okS (by omega)).symm)
  · skip
    refine g_look C dX0_readPiece_1 (by omega) (by decide) (off := 35) (by decide) (q := 36) rfl ?_
    refine g_aload_n C dX0_readPiece_36 0 rfl rfl (q := 37) rfl ?_
    refine g_iconst C dX0_readPiece_37 (q := 38) rfl ?_
    refine g_cV_i C (As := [.int (iI 1)]) (c_X0_readDigits_1 l E _   (by assumption) (by omega) (by omega) (by (have h67 : isV 67 = 1 := rfl; have h68 : isV 68 = 1 := rfl; have h78 : isV 78 = 1 := rfl; omega))) ml_X0_93 mf_X0_readDigits (o := 7) (ci := 0) rfl rfl rfl rfl ⟨(Nat.le_of_ble_eq_true rfl), (Nat.le_of_ble_eq_true rfl)⟩ rfl rfl rfl (Nat.le_of_ble_eq_true rfl) ⟨(Nat.le_of_ble_eq_true rfl), (Nat.le_of_ble_eq_true rfl)⟩ dX0_readPiece_38 (q := 41) rfl ?_
    refine g_st (σ2 := (st (st σ 7 (pt (pt (σ 7) 2 (atP (σ 8) (σ 7 1) 68 (σ 7 2))) 6 (jP (σ 8) (σ 7 1) 68 (σ 7 2) (σ 7 6)))) 10 (pP (σ 8) (σ 7 1) ((σ 7 5) * 4) 68 (σ 7 2) (σ 7 6) (σ 10)))) (by first | (rw [at68, p68, j68]; done) | (rw [at78, p78, j78]; done) | (rw [at67, p67, j67]; done) | (rw [atS (by omega), pS (by omega), jS (by omega), stS]; done)) ?_
    exact hret _ _ _ dX0_readPiece_41 (by first | exact bD_01 _ | exact bC_01 _ | exact bE_01 _ _) (by first | rfl | exact (okS (by omega)).symm)
  · skip
    refine g_look C dX0_readPiece_1 (by omega) (by decide) (off := 41) (by decide) (q := 42) rfl ?_
    refine g_aload_n C dX0_readPiece_42 0 rfl rfl (q := 43) rfl ?_
    refine g_iconst C dX0_readPiece_43 (q := 44) rfl ?_
    refine g_cV_i C (As := [.int (iI 2)]) (c_X0_readDigits_2 l E _   (by assumption) (by omega) (by omega) (by (have h67 : isV 67 = 1 := rfl; have h68 : isV 68 = 1 := rfl; have h78 : isV 78 = 1 := rfl; omega))) ml_X0_93 mf_X0_readDigits (o := 7) (ci := 0) rfl rfl rfl rfl ⟨(Nat.le_of_ble_eq_true rfl), (Nat.le_of_ble_eq_true rfl)⟩ rfl rfl rfl (Nat.le_of_ble_eq_true rfl) ⟨(Nat.le_of_ble_eq_true rfl), (Nat.le_of_ble_eq_true rfl)⟩ dX0_readPiece_44 (q := 47) rfl ?_
    refine g_st (σ2 := (st (st σ 7 (pt (pt (σ 7) 2 (atP (σ 8) (σ 7 1) 78 (σ 7 2))) 6 (jP (σ 8) (σ 7 1) 78 (σ 7 2) (σ 7 6)))) 10 (pP (σ 8) (σ 7 1) ((σ 7 5) * 4) 78 (σ 7 2) (σ 7 6) (σ 10)))) (by first | (rw [at68, p68, j68]; done) | (rw [at78, p78, j78]; done) | (rw [at67, p67, j67]; done) | (rw [atS (by omega), pS (by omega), jS (by omega), stS]; done)) ?_
    exact hret _ _ _ dX0_readPiece_47 (by first | exact bD_01 _ | exact bC_01 _ | exact bE_01 _ _) (by first | rfl | exact (okS (by omega)).symm)
  · skip
    refine g_look C dX0_readPiece_1 (by omega) (by decide) (off := 52) (by simp [Op.lookupswitch.offset]; omega) (q := 53) rfl ?_
    refine g_aload_n C dX0_readPiece_53 0 rfl rfl (q := 54) rfl ?_
    refine g_iload_n C dX0_readPiece_54 1 rfl rfl (q := 55) rfl ?_
    refine g_cV_i C (As := [.int (iI c)]) (c_X0_readSign l E _ c  (by omega) (by assumption) (by omega)) ml_X0_39 mf_X0_readSign (o := 7) (ci := 0) rfl rfl rfl rfl ⟨(Nat.le_of_ble_eq_true rfl), (Nat.le_of_ble_eq_true rfl)⟩ rfl rfl rfl (Nat.le_of_ble_eq_true rfl) ⟨(Nat.le_of_ble_eq_true rfl), (Nat.le_of_ble_eq_true rfl)⟩ dX0_readPiece_55 (q := 58) rfl ?_
    refine g_st (σ2 := (st (st σ 7 (pt (pt (σ 7) 2 (atP (σ 8) (σ 7 1) c (σ 7 2))) 6 (jP (σ 8) (σ 7 1) c (σ 7 2) (σ 7 6)))) 10 (pP (σ 8) (σ 7 1) ((σ 7 5) * 4) c (σ 7 2) (σ 7 6) (σ 10)))) (by first | (rw [at68, p68, j68]; done) | (rw [at78, p78, j78]; done) | (rw [at67, p67, j67]; done) | (rw [atS (by omega), pS (by omega), jS (by omega), stS]; done)) ?_
    exact hret _ _ _ dX0_readPiece_58 (by first | exact bD_01 _ | exact bC_01 _ | exact bE_01 _ _) (by first | rfl | exact (okS (by omega)).symm)
abbrev rm_X0_kindAhead : Room := { frames := 1, cells := 0, slots := 0, locals := 21 }
set_option maxRecDepth 100000 in
set_option maxHeartbeats 4000000 in
theorem c_X0_kindAhead (l : Launch) (E : EV) (σ : SS) (hT : TW (σ 8) (σ 7 1)) (ha : 0 ≤ (σ 7 2) ∧ (σ 7 2) ≤ 1000) : Ki l yX0_kindAhead (cw yX0_kindAhead cX0_kindAhead 1 (some .int)) rm_X0_kindAhead E [.ref (ea E 7)] σ (rcK (σ 8) (σ 7 1) (σ 7 2)) σ := by
  refine Ki_of (rm := rm_X0_kindAhead) (mL := 1) (b := cX0_kindAhead) RX0 rfl (by decide +kernel) rfl rfl [(0, .ref (ea E 7))] rfl (Nat.le_of_ble_eq_true rfl) (fun p_ e_ s_ m_ a_ b_ h_ c_ Q A C hret => ?_)
  have hg := sg_rg hT (σ 7 2)
  have hg1 := sg_rg hT (σ 7 2 + 1)
  refine g_aload_n C dX0_kindAhead_0 0 rfl rfl (q := 1) rfl ?_
  refine g_aload_n C dX0_kindAhead_1 0 rfl rfl (q := 2) rfl ?_
  refine gf_X0_19 C dX0_kindAhead_2 (q := 5) rfl ?_
  refine g_cV_i C (As := [.int (iI (σ 7 2))]) (c_X0_signAt l E _ (σ 7 2)  (by omega) (by assumption)) ml_X0_70 mf_X0_signAt (o := 7) (ci := 0) rfl rfl rfl rfl ⟨(Nat.le_of_ble_eq_true rfl), (Nat.le_of_ble_eq_true rfl)⟩ rfl rfl rfl (Nat.le_of_ble_eq_true rfl) ⟨(Nat.le_of_ble_eq_true rfl), (Nat.le_of_ble_eq_true rfl)⟩ dX0_kindAhead_5 (q := 8) rfl ?_
  rcases (show sg (σ 8) (σ 7 1) (σ 7 2) = 97 ∨ sg (σ 8) (σ 7 1) (σ 7 2) = 98 ∨ sg (σ 8) (σ 7 1) (σ 7 2) = 99 ∨ sg (σ 8) (σ 7 1) (σ 7 2) = 100 ∨ sg (σ 8) (σ 7 1) (σ 7 2) = 101 ∨ sg (σ 8) (σ 7 1) (σ 7 2) = 102 ∨ sg (σ 8) (σ 7 1) (σ 7 2) = 103 ∨ sg (σ 8) (σ 7 1) (σ 7 2) = 104 ∨ sg (σ 8) (σ 7 1) (σ 7 2) = 105 ∨ sg (σ 8) (σ 7 1) (σ 7 2) = 106 ∨ sg (σ 8) (σ 7 1) (σ 7 2) = 107 ∨ sg (σ 8) (σ 7 1) (σ 7 2) = 108 ∨ sg (σ 8) (σ 7 1) (σ 7 2) = 109 ∨ sg (σ 8) (σ 7 1) (σ 7 2) = 110 ∨ sg (σ 8) (σ 7 1) (σ 7 2) = 111 ∨ sg (σ 8) (σ 7 1) (σ 7 2) = 112 ∨ sg (σ 8) (σ 7 1) (σ 7 2) = 113 ∨ sg (σ 8) (σ 7 1) (σ 7 2) = 114 ∨ sg (σ 8) (σ 7 1) (σ 7 2) = 115 ∨ sg (σ 8) (σ 7 1) (σ 7 2) = 116 ∨ (sg (σ 8) (σ 7 1) (σ 7 2) < 97 ∨ 116 < sg (σ 8) (σ 7 1) (σ 7 2)) by omega) with hb1 | hb1 | hb1 | hb1 | hb1 | hb1 | hb1 | hb1 | hb1 | hb1 | hb1 | hb1 | hb1 | hb1 | hb1 | hb1 | hb1 | hb1 | hb1 | hb1 | hb1
  · skip
    refine g_top (b := 97) hb1 ?_
    refine g_tabI C dX0_kindAhead_8 (by omega) (by decide) (by decide) (off := 96) rfl (q := 104) rfl ?_
    refine g_iconst C dX0_kindAhead_104 (q := 105) rfl ?_
    exact hret _ _ _ dX0_kindAhead_105 (by unfold rcK kdA; (repeat (first | rw [if_pos (by omega)] | rw [if_neg (by omega)])) <;> (try rfl))
  · skip
    refine g_top (b := 98) hb1 ?_
    refine g_tabI C dX0_kindAhead_8 (by omega) (by decide) (by decide) (off := 134) rfl (q := 142) rfl ?_
    refine g_iconst C dX0_kindAhead_142 (q := 143) rfl ?_
    exact hret _ _ _ dX0_kindAhead_143 (by unfold rcK kdA; (repeat (first | rw [if_pos (by omega)] | rw [if_neg (by omega)])) <;> (try rfl))
  · skip
    refine g_top (b := 99) hb1 ?_
    refine g_tabI C dX0_kindAhead_8 (by omega) (by decide) (by decide) (off := 124) rfl (q := 132) rfl ?_
    refine g_iconst C dX0_kindAhead_132 (q := 133) rfl ?_
    exact hret _ _ _ dX0_kindAhead_133 (by unfold rcK kdA; (repeat (first | rw [if_pos (by omega)] | rw [if_neg (by omega)])) <;> (try rfl))
  · skip
    refine g_top (b := 100) hb1 ?_
    refine g_tabI C dX0_kindAhead_8 (by omega) (by decide) (by decide) (off := 100) rfl (q := 108) rfl ?_
    refine g_aload_n C dX0_kindAhead_108 0 rfl rfl (q := 109) rfl ?_
    refine g_aload_n C dX0_kindAhead_109 0 rfl rfl (q := 110) rfl ?_
    refine gf_X0_19 C dX0_kindAhead_110 (q := 113) rfl ?_
    refine g_iconst C dX0_kindAhead_113 (q := 114) rfl ?_
    refine g_iadd C dX0_kindAhead_114 (q := 115) rfl ?_
    refine g_cV_i C (As := [.int (iI ((σ 7 2) + 1))]) (c_X0_signAt l E _ ((σ 7 2) + 1)  (by omega) (by assumption)) ml_X0_70 mf_X0_signAt (o := 7) (ci := 0) rfl rfl rfl rfl ⟨(Nat.le_of_ble_eq_true rfl), (Nat.le_of_ble_eq_true rfl)⟩ rfl rfl rfl (Nat.le_of_ble_eq_true rfl) ⟨(Nat.le_of_ble_eq_true rfl), (Nat.le_of_ble_eq_true rfl)⟩ dX0_kindAhead_115 (q := 118) rfl ?_
    refine g_bipush C dX0_kindAhead_118 (by decide) (q := 120) rfl ?_
    refine g_icmp_ne C dX0_kindAhead_120 (by omega) (q2 := 128) rfl (q := 123) rfl (fun hb2 => ?_) (fun hb2 => ?_)
    · skip
      refine g_iconst C dX0_kindAhead_128 (q := 129) rfl ?_
      exact hret _ _ _ dX0_kindAhead_129 (by unfold rcK kdA; (repeat (first | rw [if_pos (by omega)] | rw [if_neg (by omega)])) <;> (try rfl))
    · skip
      refine g_bipush C dX0_kindAhead_123 (by decide) (q := 125) rfl ?_
      refine g_goto C dX0_kindAhead_125 (q := 129) rfl ?_
      exact hret _ _ _ dX0_kindAhead_129 (by unfold rcK kdA; (repeat (first | rw [if_pos (by omega)] | rw [if_neg (by omega)])) <;> (try rfl))
  · skip
    refine g_top (b := 101) hb1 ?_
    refine g_tabI C dX0_kindAhead_8 (by omega) (by decide) (by decide) (off := 134) rfl (q := 142) rfl ?_
    refine g_iconst C dX0_kindAhead_142 (q := 143) rfl ?_
    exact hret _ _ _ dX0_kindAhead_143 (by unfold rcK kdA; (repeat (first | rw [if_pos (by omega)] | rw [if_neg (by omega)])) <;> (try rfl))
  · skip
    refine g_top (b := 102) hb1 ?_
    refine g_tabI C dX0_kindAhead_8 (by omega) (by decide) (by decide) (off := 131) rfl (q := 139) rfl ?_
    refine g_bipush C dX0_kindAhead_139 (by decide) (q := 141) rfl ?_
    exact hret _ _ _ dX0_kindAhead_141 (by unfold rcK kdA; (repeat (first | rw [if_pos (by omega)] | rw [if_neg (by omega)])) <;> (try rfl))
  · skip
    refine g_top (b := 103) hb1 ?_
    refine g_tabI C dX0_kindAhead_8 (by omega) (by decide) (by decide) (off := 134) rfl (q := 142) rfl ?_
    refine g_iconst C dX0_kindAhead_142 (q := 143) rfl ?_
    exact hret _ _ _ dX0_kindAhead_143 (by unfold rcK kdA; (repeat (first | rw [if_pos (by omega)] | rw [if_neg (by omega)])) <;> (try rfl))
  · skip
    refine g_top (b := 104) hb1 ?_
    refine g_tabI C dX0_kindAhead_8 (by omega) (by decide) (by decide) (off := 134) rfl (q := 142) rfl ?_
    refine g_iconst C dX0_kindAhead_142 (q := 143) rfl ?_
    exact hret _ _ _ dX0_kindAhead_143 (by unfold rcK kdA; (repeat (first | rw [if_pos (by omega)] | rw [if_neg (by omega)])) <;> (try rfl))
  · skip
    refine g_top (b := 105) hb1 ?_
    refine g_tabI C dX0_kindAhead_8 (by omega) (by decide) (by decide) (off := 134) rfl (q := 142) rfl ?_
    refine g_iconst C dX0_kindAhead_142 (q := 143) rfl ?_
    exact hret _ _ _ dX0_kindAhead_143 (by unfold rcK kdA; (repeat (first | rw [if_pos (by omega)] | rw [if_neg (by omega)])) <;> (try rfl))
  · skip
    refine g_top (b := 106) hb1 ?_
    refine g_tabI C dX0_kindAhead_8 (by omega) (by decide) (by decide) (off := 126) rfl (q := 134) rfl ?_
    refine g_iconst C dX0_kindAhead_134 (q := 135) rfl ?_
    exact hret _ _ _ dX0_kindAhead_135 (by unfold rcK kdA; (repeat (first | rw [if_pos (by omega)] | rw [if_neg (by omega)])) <;> (try rfl))
  · skip
    refine g_top (b := 107) hb1 ?_
    refine g_tabI C dX0_kindAhead_8 (by omega) (by decide) (by decide) (off := 134) rfl (q := 142) rfl ?_
    refine g_iconst C dX0_kindAhead_142 (q := 143) rfl ?_
    exact hret _ _ _ dX0_kindAhead_143 (by unfold rcK kdA; (repeat (first | rw [if_pos (by omega)] | rw [if_neg (by omega)])) <;> (try rfl))
  · skip
    refine g_top (b := 108) hb1 ?_
    refine g_tabI C dX0_kindAhead_8 (by omega) (by decide) (by decide) (off := 134) rfl (q := 142) rfl ?_
    refine g_iconst C dX0_kindAhead_142 (q := 143) rfl ?_
    exact hret _ _ _ dX0_kindAhead_143 (by unfold rcK kdA; (repeat (first | rw [if_pos (by omega)] | rw [if_neg (by omega)])) <;> (try rfl))
  · skip
    refine g_top (b := 109) hb1 ?_
    refine g_tabI C dX0_kindAhead_8 (by omega) (by decide) (by decide) (off := 134) rfl (q := 142) rfl ?_
    refine g_iconst C dX0_kindAhead_142 (q := 143) rfl ?_
    exact hret _ _ _ dX0_kindAhead_143 (by unfold rcK kdA; (repeat (first | rw [if_pos (by omega)] | rw [if_neg (by omega)])) <;> (try rfl))
  · skip
    refine g_top (b := 110) hb1 ?_
    refine g_tabI C dX0_kindAhead_8 (by omega) (by decide) (by decide) (off := 134) rfl (q := 142) rfl ?_
    refine g_iconst C dX0_kindAhead_142 (q := 143) rfl ?_
    exact hret _ _ _ dX0_kindAhead_143 (by unfold rcK kdA; (repeat (first | rw [if_pos (by omega)] | rw [if_neg (by omega)])) <;> (try rfl))
  · skip
    refine g_top (b := 111) hb1 ?_
    refine g_tabI C dX0_kindAhead_8 (by omega) (by decide) (by decide) (off := 134) rfl (q := 142) rfl ?_
    refine g_iconst C dX0_kindAhead_142 (q := 143) rfl ?_
    exact hret _ _ _ dX0_kindAhead_143 (by unfold rcK kdA; (repeat (first | rw [if_pos (by omega)] | rw [if_neg (by omega)])) <;> (try rfl))
  · skip
    refine g_top (b := 112) hb1 ?_
    refine g_tabI C dX0_kindAhead_8 (by omega) (by decide) (by decide) (off := 98) rfl (q := 106) rfl ?_
    refine g_iconst C dX0_kindAhead_106 (q := 107) rfl ?_
    exact hret _ _ _ dX0_kindAhead_107 (by unfold rcK kdA; (repeat (first | rw [if_pos (by omega)] | rw [if_neg (by omega)])) <;> (try rfl))
  · skip
    refine g_top (b := 113) hb1 ?_
    refine g_tabI C dX0_kindAhead_8 (by omega) (by decide) (by decide) (off := 134) rfl (q := 142) rfl ?_
    refine g_iconst C dX0_kindAhead_142 (q := 143) rfl ?_
    exact hret _ _ _ dX0_kindAhead_143 (by unfold rcK kdA; (repeat (first | rw [if_pos (by omega)] | rw [if_neg (by omega)])) <;> (try rfl))
  · skip
    refine g_top (b := 114) hb1 ?_
    refine g_tabI C dX0_kindAhead_8 (by omega) (by decide) (by decide) (off := 134) rfl (q := 142) rfl ?_
    refine g_iconst C dX0_kindAhead_142 (q := 143) rfl ?_
    exact hret _ _ _ dX0_kindAhead_143 (by unfold rcK kdA; (repeat (first | rw [if_pos (by omega)] | rw [if_neg (by omega)])) <;> (try rfl))
  · skip
    refine g_top (b := 115) hb1 ?_
    refine g_tabI C dX0_kindAhead_8 (by omega) (by decide) (by decide) (off := 128) rfl (q := 136) rfl ?_
    refine g_bipush C dX0_kindAhead_136 (by decide) (q := 138) rfl ?_
    exact hret _ _ _ dX0_kindAhead_138 (by unfold rcK kdA; (repeat (first | rw [if_pos (by omega)] | rw [if_neg (by omega)])) <;> (try rfl))
  · skip
    refine g_top (b := 116) hb1 ?_
    refine g_tabI C dX0_kindAhead_8 (by omega) (by decide) (by decide) (off := 122) rfl (q := 130) rfl ?_
    refine g_iconst C dX0_kindAhead_130 (q := 131) rfl ?_
    exact hret _ _ _ dX0_kindAhead_131 (by unfold rcK kdA; (repeat (first | rw [if_pos (by omega)] | rw [if_neg (by omega)])) <;> (try rfl))
  · skip
    refine g_tabO C dX0_kindAhead_8 (by omega) hb1 (q := 142) rfl ?_
    refine g_iconst C dX0_kindAhead_142 (q := 143) rfl ?_
    exact hret _ _ _ dX0_kindAhead_143 (by unfold rcK kdA; (repeat (first | rw [if_pos (by omega)] | rw [if_neg (by omega)])) <;> (try rfl))
abbrev rm_X0_formOf : Room := { frames := 0, cells := 0, slots := 0, locals := 0 }
set_option maxRecDepth 100000 in
set_option maxHeartbeats 4000000 in
theorem c_X0_formOf (l : Launch) (E : EV) (σ : SS) (k : Int) (hk : -1 ≤ k ∧ k ≤ 8) : Kr l yX0_formOf (cw yX0_formOf cX0_formOf 1 (some (.object "java/lang/String"))) rm_X0_formOf E [.int (iI k)] σ (ek E (fW k)) σ := by
  refine Kr_of (rm := rm_X0_formOf) (mL := 1) (b := cX0_formOf) RX0 rfl (by decide +kernel) rfl rfl [(0, .int (iI k))] rfl (Nat.le_of_ble_eq_true rfl) (fun p_ e_ s_ m_ a_ b_ h_ c_ Q A C hret => ?_)
  refine g_iload_n C dX0_formOf_0 0 rfl rfl (q := 1) rfl ?_
  rcases (show k = 0 ∨ k = 1 ∨ k = 2 ∨ k = 3 ∨ k = 4 ∨ k = 5 ∨ k = 6 ∨ k = 7 ∨ k = 8 ∨ (k < 0 ∨ 8 < k) by omega) with rfl | rfl | rfl | rfl | rfl | rfl | rfl | rfl | rfl | hb1
  · skip
    refine g_tabI C dX0_formOf_1 (by omega) (by decide) (by decide) (off := 51) rfl (q := 52) rfl ?_
    refine g_ldcS C (w := 15) (tx := "add D NC") (by decide +kernel) dX0_formOf_52 (q := 54) rfl ?_
    exact hret _ _ _ dX0_formOf_54 (by first | rfl | (rw [show k = -1 by omega]; rfl))
  · skip
    refine g_tabI C dX0_formOf_1 (by omega) (by decide) (by decide) (off := 54) rfl (q := 55) rfl ?_
    refine g_ldcS C (w := 16) (tx := "put D@N NC") (by decide +kernel) dX0_formOf_55 (q := 57) rfl ?_
    exact hret _ _ _ dX0_formOf_57 (by first | rfl | (rw [show k = -1 by omega]; rfl))
  · skip
    refine g_tabI C dX0_formOf_1 (by omega) (by decide) (by decide) (off := 57) rfl (q := 58) rfl ?_
    refine g_ldcS C (w := 17) (tx := "drop D@N") (by decide +kernel) dX0_formOf_58 (q := 60) rfl ?_
    exact hret _ _ _ dX0_formOf_60 (by first | rfl | (rw [show k = -1 by omega]; rfl))
  · skip
    refine g_tabI C dX0_formOf_1 (by omega) (by decide) (by decide) (off := 60) rfl (q := 61) rfl ?_
    refine g_ldcS C (w := 18) (tx := "tie D@N=N") (by decide +kernel) dX0_formOf_61 (q := 63) rfl ?_
    exact hret _ _ _ dX0_formOf_63 (by first | rfl | (rw [show k = -1 by omega]; rfl))
  · skip
    refine g_tabI C dX0_formOf_1 (by omega) (by decide) (by decide) (off := 63) rfl (q := 64) rfl ?_
    refine g_ldcS C (w := 19) (tx := "cut D@N>D") (by decide +kernel) dX0_formOf_64 (q := 66) rfl ?_
    exact hret _ _ _ dX0_formOf_66 (by first | rfl | (rw [show k = -1 by omega]; rfl))
  · skip
    refine g_tabI C dX0_formOf_1 (by omega) (by decide) (by decide) (off := 66) rfl (q := 67) rfl ?_
    refine g_ldcS C (w := 20) (tx := "join D<D") (by decide +kernel) dX0_formOf_67 (q := 69) rfl ?_
    exact hret _ _ _ dX0_formOf_69 (by first | rfl | (rw [show k = -1 by omega]; rfl))
  · skip
    refine g_tabI C dX0_formOf_1 (by omega) (by decide) (by decide) (off := 69) rfl (q := 70) rfl ?_
    refine g_ldcS C (w := 21) (tx := "swap DD") (by decide +kernel) dX0_formOf_70 (q := 72) rfl ?_
    exact hret _ _ _ dX0_formOf_72 (by first | rfl | (rw [show k = -1 by omega]; rfl))
  · skip
    refine g_tabI C dX0_formOf_1 (by omega) (by decide) (by decide) (off := 72) rfl (q := 73) rfl ?_
    refine g_ldcS C (w := 22) (tx := "flip D@N-N") (by decide +kernel) dX0_formOf_73 (q := 75) rfl ?_
    exact hret _ _ _ dX0_formOf_75 (by first | rfl | (rw [show k = -1 by omega]; rfl))
  · skip
    refine g_tabI C dX0_formOf_1 (by omega) (by decide) (by decide) (off := 75) rfl (q := 76) rfl ?_
    refine g_ldcS C (w := 23) (tx := "dye D@N-N C") (by decide +kernel) dX0_formOf_76 (q := 78) rfl ?_
    exact hret _ _ _ dX0_formOf_78 (by first | rfl | (rw [show k = -1 by omega]; rfl))
  · skip
    refine g_tabO C dX0_formOf_1 (by omega) hb1 (q := 79) rfl ?_
    refine g_ldcS C (w := 24) (tx := "") (by decide +kernel) dX0_formOf_79 (q := 81) rfl ?_
    exact hret _ _ _ dX0_formOf_81 (by first | rfl | (rw [show k = -1 by omega]; rfl))
abbrev rm_X0_readCommand : Room := { frames := 4, cells := 0, slots := 0, locals := 111 }
set_option maxRecDepth 100000 in
set_option maxHeartbeats 4000000 in
theorem c_X0_readCommand_n (l : Launch) (E : EV) (σ : SS) (hT : TW (σ 8) (σ 7 1)) (ha : 0 ≤ (σ 7 2) ∧ (σ 7 2) ≤ 900) (hm : 0 ≤ (σ 7 5) ∧ (σ 7 5) < 8) (hk : rcK (σ 8) (σ 7 1) (σ 7 2) = -1) : Ki l yX0_readCommand (cw yX0_readCommand cX0_readCommand 4 (some .boolean)) rm_X0_readCommand E [.ref (ea E 7)] σ 0 σ := by
  refine Kz_of (rm := rm_X0_readCommand) (mL := 4) (b := cX0_readCommand) RX0 rfl (by decide +kernel) rfl rfl [(0, .ref (ea E 7))] rfl (Nat.le_of_ble_eq_true rfl) (fun p_ e_ s_ m_ a_ b_ h_ c_ Q A C hret => ?_)
  have hkr := rcK_rg (σ 8) (σ 7 1) (σ 7 2)
  have hw : fW (rcK (σ 8) (σ 7 1) (σ 7 2)) < sN := fW_lt hkr
  have h0 := fW_no hk
  refine g_aload_n C dX0_readCommand_0 0 rfl rfl (q := 1) rfl ?_
  refine g_cV_i C (As := []) (c_X0_kindAhead l E _   (by assumption) (by omega)) ml_X0_43 mf_X0_kindAhead (o := 7) (ci := 0) rfl rfl rfl rfl ⟨(Nat.le_of_ble_eq_true rfl), (Nat.le_of_ble_eq_true rfl)⟩ rfl rfl rfl (Nat.le_of_ble_eq_true rfl) ⟨(Nat.le_of_ble_eq_true rfl), (Nat.le_of_ble_eq_true rfl)⟩ dX0_readCommand_1 (q := 4) rfl ?_
  refine g_istore_n C (L' := [(1, .int (iI (rcK (σ 8) (σ 7 1) (σ 7 2)))), (0, .ref (ea E 7))]) dX0_readCommand_4 rfl (by decide) rfl (q := 5) rfl ?_
  refine g_iload_n C dX0_readCommand_5 0 rfl rfl (q := 6) rfl ?_
  refine g_cS_r C (As := [.int (iI (rcK (σ 8) (σ 7 1) (σ 7 2)))]) (c_X0_formOf l E _ (rcK (σ 8) (σ 7 1) (σ 7 2))  (by omega)) ml_X0_47 mf_X0_formOf rfl rfl ⟨(Nat.le_of_ble_eq_true rfl), (Nat.le_of_ble_eq_true rfl)⟩ rfl rfl rfl (Nat.le_of_ble_eq_true rfl) ⟨(Nat.le_of_ble_eq_true rfl), (Nat.le_of_ble_eq_true rfl)⟩ dX0_readCommand_6 (q := 9) rfl ?_
  refine g_astore_n C (L' := [(2, .ref (ek E (fW (rcK (σ 8) (σ 7 1) (σ 7 2))))), (1, .int (iI (rcK (σ 8) (σ 7 1) (σ 7 2)))), (0, .ref (ea E 7))]) dX0_readCommand_9 rfl (by decide) rfl (q := 10) rfl ?_
  refine g_aload_n C dX0_readCommand_10 0 rfl rfl (q := 11) rfl ?_
  refine g_cVs_i C (As := []) (by assumption) (c_isEmpty l E _ (by assumption)) ml_X0_51 mf_J0_isEmpty_aae02 rfl rfl ⟨(Nat.le_of_ble_eq_true rfl), (Nat.le_of_ble_eq_true rfl)⟩ rfl rfl rfl (Nat.le_of_ble_eq_true rfl) ⟨(Nat.le_of_ble_eq_true rfl), (Nat.le_of_ble_eq_true rfl)⟩ dX0_readCommand_11 (q := 14) rfl ?_
  refine g_top (b := 1) (by rw [if_pos h0]) ?_
  refine g_if_eq C dX0_readCommand_14 (by omega) (q2 := 19) rfl (q := 17) rfl (fun hb1 => ?_) (fun hb1 => ?_)
  · skip
    exfalso; omega
  · skip
    refine g_iconst C dX0_readCommand_17 (q := 18) rfl ?_
    exact hret _ _ _ dX0_readCommand_18 (by omega) rfl
set_option maxRecDepth 100000 in
set_option maxHeartbeats 4000000 in
theorem c_X0_readCommand_y (l : Launch) (E : EV) (σ : SS) (hT : TW (σ 8) (σ 7 1)) (ha : 0 ≤ (σ 7 2) ∧ (σ 7 2) ≤ 900) (hm : 0 ≤ (σ 7 5) ∧ (σ 7 5) < 8) (hk : rcK (σ 8) (σ 7 1) (σ 7 2) ≠ -1) : Ki l yX0_readCommand (cw yX0_readCommand cX0_readCommand 4 (some .boolean)) rm_X0_readCommand E [.ref (ea E 7)] σ ((rcF (σ 8) (σ 7 1) (σ 7 2) (σ 7 5) (σ 10)).1) (st (st (st σ 7 (pt (pt (pt (σ 7) 2 ((rcF (σ 8) (σ 7 1) (σ 7 2) (σ 7 5) (σ 10)).2.1)) 5 (if (rcF (σ 8) (σ 7 1) (σ 7 2) (σ 7 5) (σ 10)).1 = 1 then (σ 7 5) + 1 else (σ 7 5))) 6 ((rcF (σ 8) (σ 7 1) (σ 7 2) (σ 7 5) (σ 10)).2.2.1))) 9 (if (rcF (σ 8) (σ 7 1) (σ 7 2) (σ 7 5) (σ 10)).1 = 1 then pt (σ 9) (σ 7 5) (rcK (σ 8) (σ 7 1) (σ 7 2)) else (σ 9))) 10 ((rcF (σ 8) (σ 7 1) (σ 7 2) (σ 7 5) (σ 10)).2.2.2)) := by
  refine Kz_of (rm := rm_X0_readCommand) (mL := 4) (b := cX0_readCommand) RX0 rfl (by decide +kernel) rfl rfl [(0, .ref (ea E 7))] rfl (Nat.le_of_ble_eq_true rfl) (fun p_ e_ s_ m_ a_ b_ h_ c_ Q A C hret => ?_)
  have hkr := rcK_rg (σ 8) (σ 7 1) (σ 7 2)
  have hw : fW (rcK (σ 8) (σ 7 1) (σ 7 2)) < sN := fW_lt hkr
  have h0 := fW_sL (k := rcK (σ 8) (σ 7 1) (σ 7 2)) (by omega)
  have hwl := pl_len hw
  refine g_aload_n C dX0_readCommand_0 0 rfl rfl (q := 1) rfl ?_
  refine g_cV_i C (As := []) (c_X0_kindAhead l E _   (by assumption) (by omega)) ml_X0_43 mf_X0_kindAhead (o := 7) (ci := 0) rfl rfl rfl rfl ⟨(Nat.le_of_ble_eq_true rfl), (Nat.le_of_ble_eq_true rfl)⟩ rfl rfl rfl (Nat.le_of_ble_eq_true rfl) ⟨(Nat.le_of_ble_eq_true rfl), (Nat.le_of_ble_eq_true rfl)⟩ dX0_readCommand_1 (q := 4) rfl ?_
  refine g_istore_n C (L' := [(1, .int (iI (rcK (σ 8) (σ 7 1) (σ 7 2)))), (0, .ref (ea E 7))]) dX0_readCommand_4 rfl (by decide) rfl (q := 5) rfl ?_
  refine g_iload_n C dX0_readCommand_5 0 rfl rfl (q := 6) rfl ?_
  refine g_cS_r C (As := [.int (iI (rcK (σ 8) (σ 7 1) (σ 7 2)))]) (c_X0_formOf l E _ (rcK (σ 8) (σ 7 1) (σ 7 2))  (by omega)) ml_X0_47 mf_X0_formOf rfl rfl ⟨(Nat.le_of_ble_eq_true rfl), (Nat.le_of_ble_eq_true rfl)⟩ rfl rfl rfl (Nat.le_of_ble_eq_true rfl) ⟨(Nat.le_of_ble_eq_true rfl), (Nat.le_of_ble_eq_true rfl)⟩ dX0_readCommand_6 (q := 9) rfl ?_
  refine g_astore_n C (L' := [(2, .ref (ek E (fW (rcK (σ 8) (σ 7 1) (σ 7 2))))), (1, .int (iI (rcK (σ 8) (σ 7 1) (σ 7 2)))), (0, .ref (ea E 7))]) dX0_readCommand_9 rfl (by decide) rfl (q := 10) rfl ?_
  refine g_aload_n C dX0_readCommand_10 0 rfl rfl (q := 11) rfl ?_
  refine g_cVs_i C (As := []) (by assumption) (c_isEmpty l E _ (by assumption)) ml_X0_51 mf_J0_isEmpty_aae02 rfl rfl ⟨(Nat.le_of_ble_eq_true rfl), (Nat.le_of_ble_eq_true rfl)⟩ rfl rfl rfl (Nat.le_of_ble_eq_true rfl) ⟨(Nat.le_of_ble_eq_true rfl), (Nat.le_of_ble_eq_true rfl)⟩ dX0_readCommand_11 (q := 14) rfl ?_
  refine g_top (b := 0) (by rw [if_neg (by omega)]) ?_
  refine g_if_eq C dX0_readCommand_14 (by omega) (q2 := 19) rfl (q := 17) rfl (fun hb1 => ?_) (fun hb1 => ?_)
  · skip
    refine g_aload_n C dX0_readCommand_19 2 rfl rfl (q := 20) rfl ?_
    refine g_iconst C dX0_readCommand_20 (q := 21) rfl ?_
    refine gp_X0_32 C dX0_readCommand_21 (q := 24) rfl ?_
    refine g_iconst C dX0_readCommand_24 (q := 25) rfl ?_
    refine g_istore_n C (L' := [(3, .int (iI 0)), (2, .ref (ek E (fW (rcK (σ 8) (σ 7 1) (σ 7 2))))), (1, .int (iI (rcK (σ 8) (σ 7 1) (σ 7 2)))), (0, .ref (ea E 7))]) dX0_readCommand_25 rfl (by decide) rfl (q := 26) rfl ?_
    refine g_sub [3, 2, 1, 0] (L' := [(0, .ref (ea E 7)), (1, .int (iI (rcK (σ 8) (σ 7 1) (σ 7 2)))), (2, .ref (ek E (fW (rcK (σ 8) (σ 7 1) (σ 7 2))))), (3, .int (iI 0))]) rfl ?_
    have lp26 : ∀ (k9 : Nat) (i : Int) (a : Int) (j : Int) (P : Int → Int), (sLi (fW (rcK (σ 8) (σ 7 1) (σ 7 2))) - i).toNat < k9 → (0 ≤ i ∧ i ≤ sLi (fW (rcK (σ 8) (σ 7 1) (σ 7 2)))) → (rcF (σ 8) (σ 7 1) (σ 7 2) (σ 7 5) (σ 10) = foL (σ 8) (σ 7 1) (σ 7 5 * 4) ((pl (fW (rcK (σ 8) (σ 7 1) (σ 7 2)))).drop i.toNat) a j P) → (0 ≤ a ∧ a ≤ σ 7 2 + 2 * i) → (0 ≤ j ∧ j ≤ nvN (fW (rcK (σ 8) (σ 7 1) (σ 7 2))) i.toNat) → GG p_ l e_ rm_X0_readCommand s_ m_ a_ b_ h_ c_ Q E A 4 (st (st σ 7 (pt (pt (σ 7) 2 a) 6 j)) 10 P) 0 0 26 [(0, .ref (ea E 7)), (1, .int (iI (rcK (σ 8) (σ 7 1) (σ 7 2)))), (2, .ref (ek E (fW (rcK (σ 8) (σ 7 1) (σ 7 2))))), (3, .int (iI i))] [] := by
      intro k9
      induction k9 with
      | zero => intro i a j P hk9; omega
      | succ k9 ih26 =>
        intro i a j P hk9 hi hR haa hj
        refine g_iload_n C dX0_readCommand_26 3 rfl rfl (q := 27) rfl ?_
        refine g_aload_n C dX0_readCommand_27 2 rfl rfl (q := 28) rfl ?_
        refine g_cVs_i C (As := []) (by assumption) (c_length l E _ (by assumption)) ml_X0_56 mf_J0_length_8abf5 rfl rfl ⟨(Nat.le_of_ble_eq_true rfl), (Nat.le_of_ble_eq_true rfl)⟩ rfl rfl rfl (Nat.le_of_ble_eq_true rfl) ⟨(Nat.le_of_ble_eq_true rfl), (Nat.le_of_ble_eq_true rfl)⟩ dX0_readCommand_28 (q := 31) rfl ?_
        refine g_icmp_ge C dX0_readCommand_31 (by omega) (q2 := 54) rfl (q := 34) rfl (fun hb2 => ?_) (fun hb2 => ?_)
        · skip
          have hE : rcF (σ 8) (σ 7 1) (σ 7 2) (σ 7 5) (σ 10) = (1, a, j, P) := by rw [hR]; exact foL_nil (pl_end hw (by omega))
          refine g_aload_n C dX0_readCommand_54 0 rfl rfl (q := 55) rfl ?_
          refine g_iload_n C dX0_readCommand_55 1 rfl rfl (q := 56) rfl ?_
          refine g_cV_v C (As := [.int (iI (rcK (σ 8) (σ 7 1) (σ 7 2)))]) (c_X0_addCommand l E _ (rcK (σ 8) (σ 7 1) (σ 7 2))  (by show 0 ≤ (σ 7 5) ∧ (σ 7 5) < 8; omega)) ml_X0_66 mf_X0_addCommand (o := 7) (ci := 0) rfl rfl rfl rfl ⟨(Nat.le_of_ble_eq_true rfl), (Nat.le_of_ble_eq_true rfl)⟩ rfl rfl rfl (Nat.le_of_ble_eq_true rfl) ⟨(Nat.le_of_ble_eq_true rfl), (Nat.le_of_ble_eq_true rfl)⟩ dX0_readCommand_56 (q := 59) rfl ?_
          refine g_st (σ2 := (st (st (st σ 7 (pt (pt (pt (σ 7) 2 a) 5 ((σ 7 5) + 1)) 6 j)) 9 (pt (σ 9) (σ 7 5) (rcK (σ 8) (σ 7 1) (σ 7 2)))) 10 P)) ((congrArg (fun g9 => st g9 9 (pt (σ 9) (σ 7 5) (rcK (σ 8) (σ 7 1) (σ 7 2)))) ((congrArg (st (st (st σ 7 (pt (pt (σ 7) 2 a) 6 j)) 10 P) 7) (pt_cm (pt (σ 7) 2 a) (k := 6) (j := 5) j ((σ 7 5) + 1) (by decide))).trans ((st_cm (st σ 7 (pt (pt (σ 7) 2 a) 6 j)) (o := 10) (q := 7) P (pt (pt (pt (σ 7) 2 a) 5 ((σ 7 5) + 1)) 6 j) (by decide)).trans (congrArg (fun g9 => st g9 10 P) (st_st _ _ _ _))))).trans (st_cm (st σ 7 (pt (pt (pt (σ 7) 2 a) 5 ((σ 7 5) + 1)) 6 j)) (o := 10) (q := 9) P (pt (σ 9) (σ 7 5) (rcK (σ 8) (σ 7 1) (σ 7 2))) (by decide))) ?_
          refine g_iconst C dX0_readCommand_59 (q := 60) rfl ?_
          refine g_st (σ2 := (st (st (st σ 7 (pt (pt (pt (σ 7) 2 ((rcF (σ 8) (σ 7 1) (σ 7 2) (σ 7 5) (σ 10)).2.1)) 5 (if (rcF (σ 8) (σ 7 1) (σ 7 2) (σ 7 5) (σ 10)).1 = 1 then (σ 7 5) + 1 else (σ 7 5))) 6 ((rcF (σ 8) (σ 7 1) (σ 7 2) (σ 7 5) (σ 10)).2.2.1))) 9 (if (rcF (σ 8) (σ 7 1) (σ 7 2) (σ 7 5) (σ 10)).1 = 1 then pt (σ 9) (σ 7 5) (rcK (σ 8) (σ 7 1) (σ 7 2)) else (σ 9))) 10 ((rcF (σ 8) (σ 7 1) (σ 7 2) (σ 7 5) (σ 10)).2.2.2))) (by rw [hE]; first | rfl | (rw [at_no hno, j_no hno, p_no hno]; exact rd_no σ a j P)) ?_
          exact hret _ _ _ dX0_readCommand_60 (by omega) (by rw [hE])
        · skip
          refine g_aload_n C dX0_readCommand_34 0 rfl rfl (q := 35) rfl ?_
          refine g_aload_n C dX0_readCommand_35 2 rfl rfl (q := 36) rfl ?_
          refine g_iload_n C dX0_readCommand_36 3 rfl rfl (q := 37) rfl ?_
          refine g_cVs_i C (As := [.int (iI i)]) (by assumption) (c_charAt l E _ (by assumption) (by omega)) ml_X0_59 mf_J0_charAt_5068e rfl rfl ⟨(Nat.le_of_ble_eq_true rfl), (Nat.le_of_ble_eq_true rfl)⟩ rfl rfl rfl (Nat.le_of_ble_eq_true rfl) ⟨(Nat.le_of_ble_eq_true rfl), (Nat.le_of_ble_eq_true rfl)⟩ dX0_readCommand_37 (q := 40) rfl ?_
          have hcr := sBi_rg hw i
          have hns := nv_step hw (i := i) (by omega)
          have hnv := fW_nv (k := rcK (σ 8) (σ 7 1) (σ 7 2)) (by omega) (i := i + 1) (by omega)
          have hv01 : isV (sBi (fW (rcK (σ 8) (σ 7 1) (σ 7 2))) i) = 0 ∨ isV (sBi (fW (rcK (σ 8) (σ 7 1) (σ 7 2))) i) = 1 := by unfold isV; split <;> simp
          have hok := okP_01 (σ 8) (σ 7 1) (sBi (fW (rcK (σ 8) (σ 7 1) (σ 7 2))) i) a
          have hat := atP_rg (σ 8) (σ 7 1) (sBi (fW (rcK (σ 8) (σ 7 1) (σ 7 2))) i) a
          have hjr := jP_rg (t := σ 8) (n := σ 7 1) (c := sBi (fW (rcK (σ 8) (σ 7 1) (σ 7 2))) i) (a := a) (j := j)
          refine g_cV_i C (As := [.int (iI (sBi (fW (rcK (σ 8) (σ 7 1) (σ 7 2))) i))]) (c_X0_readPiece l E _ (sBi (fW (rcK (σ 8) (σ 7 1) (σ 7 2))) i)  (by omega) (by show TW (σ 8) (σ 7 1); assumption) (by show 0 ≤ a ∧ a ≤ 1000; omega) (by show 0 ≤ (σ 7 5) ∧ (σ 7 5) < 8; omega) (by show 0 ≤ j ∧ (j < 4 ∨ isV (sBi (fW (rcK (σ 8) (σ 7 1) (σ 7 2))) i) = 0); rcases hv01 with hv | hv <;> omega)) ml_X0_63 mf_X0_readPiece (o := 7) (ci := 0) rfl rfl rfl rfl ⟨(Nat.le_of_ble_eq_true rfl), (Nat.le_of_ble_eq_true rfl)⟩ rfl rfl rfl (Nat.le_of_ble_eq_true rfl) ⟨(Nat.le_of_ble_eq_true rfl), (Nat.le_of_ble_eq_true rfl)⟩ dX0_readCommand_40 (q := 43) rfl ?_
          refine g_top (b := okP (σ 8) (σ 7 1) (sBi (fW (rcK (σ 8) (σ 7 1) (σ 7 2))) i) a) rfl ?_
          refine g_st (σ2 := (st (st σ 7 (pt (pt (σ 7) 2 (atP (σ 8) (σ 7 1) (sBi (fW (rcK (σ 8) (σ 7 1) (σ 7 2))) i) a)) 6 (jP (σ 8) (σ 7 1) (sBi (fW (rcK (σ 8) (σ 7 1) (σ 7 2))) i) a j))) 10 (pP (σ 8) (σ 7 1) ((σ 7 5) * 4) (sBi (fW (rcK (σ 8) (σ 7 1) (σ 7 2))) i) a j P))) ((congrArg (fun g9 => st g9 10 (pP (σ 8) (σ 7 1) ((σ 7 5) * 4) (sBi (fW (rcK (σ 8) (σ 7 1) (σ 7 2))) i) a j P)) ((congrArg (st (st (st σ 7 (pt (pt (σ 7) 2 a) 6 j)) 10 P) 7) ((congrArg (fun g9 => pt g9 6 (jP (σ 8) (σ 7 1) (sBi (fW (rcK (σ 8) (σ 7 1) (σ 7 2))) i) a j)) ((pt_cm (pt (σ 7) 2 a) (k := 6) (j := 2) j (atP (σ 8) (σ 7 1) (sBi (fW (rcK (σ 8) (σ 7 1) (σ 7 2))) i) a) (by decide)).trans (congrArg (fun g9 => pt g9 6 j) (pt_pt _ _ _ _)))).trans (pt_pt _ _ _ _))).trans ((st_cm (st σ 7 (pt (pt (σ 7) 2 a) 6 j)) (o := 10) (q := 7) P (pt (pt (σ 7) 2 (atP (σ 8) (σ 7 1) (sBi (fW (rcK (σ 8) (σ 7 1) (σ 7 2))) i) a)) 6 (jP (σ 8) (σ 7 1) (sBi (fW (rcK (σ 8) (σ 7 1) (σ 7 2))) i) a j)) (by decide)).trans (congrArg (fun g9 => st g9 10 P) (st_st _ _ _ _))))).trans (st_st _ _ _ _)) ?_
          refine g_if_ne C dX0_readCommand_43 (by omega) (q2 := 48) rfl (q := 46) rfl (fun hb3 => ?_) (fun hb3 => ?_)
          · skip
            refine g_iinc C (L' := [(3, .int (iI (i + 1))), (0, .ref (ea E 7)), (1, .int (iI (rcK (σ 8) (σ 7 1) (σ 7 2)))), (2, .ref (ek E (fW (rcK (σ 8) (σ 7 1) (σ 7 2)))))]) dX0_readCommand_48 3 rfl (by decide) rfl (q := 51) rfl ?_
            refine g_goto C dX0_readCommand_51 (q := 26) rfl ?_
            refine g_sub [1, 2, 3, 0] (L' := [(0, .ref (ea E 7)), (1, .int (iI (rcK (σ 8) (σ 7 1) (σ 7 2)))), (2, .ref (ek E (fW (rcK (σ 8) (σ 7 1) (σ 7 2))))), (3, .int (iI (i + 1)))]) rfl ?_
            exact ih26 (i + 1) (atP (σ 8) (σ 7 1) (sBi (fW (rcK (σ 8) (σ 7 1) (σ 7 2))) i) a) (jP (σ 8) (σ 7 1) (sBi (fW (rcK (σ 8) (σ 7 1) (σ 7 2))) i) a j) (pP (σ 8) (σ 7 1) ((σ 7 5) * 4) (sBi (fW (rcK (σ 8) (σ 7 1) (σ 7 2))) i) a j P) (by omega) (by omega) (by rw [hR, foL_yes (pl_get hw (by omega)) (by omega)]) (by omega) (by omega)
          · skip
            have hE : rcF (σ 8) (σ 7 1) (σ 7 2) (σ 7 5) (σ 10) = (0, a, j, P) := by rw [hR]; exact foL_no (pl_get hw (by omega)) (by omega)
            have hno : okP (σ 8) (σ 7 1) (sBi (fW (rcK (σ 8) (σ 7 1) (σ 7 2))) i) a = 0 := by omega
            refine g_iconst C dX0_readCommand_46 (q := 47) rfl ?_
            refine g_st (σ2 := (st (st (st σ 7 (pt (pt (pt (σ 7) 2 ((rcF (σ 8) (σ 7 1) (σ 7 2) (σ 7 5) (σ 10)).2.1)) 5 (if (rcF (σ 8) (σ 7 1) (σ 7 2) (σ 7 5) (σ 10)).1 = 1 then (σ 7 5) + 1 else (σ 7 5))) 6 ((rcF (σ 8) (σ 7 1) (σ 7 2) (σ 7 5) (σ 10)).2.2.1))) 9 (if (rcF (σ 8) (σ 7 1) (σ 7 2) (σ 7 5) (σ 10)).1 = 1 then pt (σ 9) (σ 7 5) (rcK (σ 8) (σ 7 1) (σ 7 2)) else (σ 9))) 10 ((rcF (σ 8) (σ 7 1) (σ 7 2) (σ 7 5) (σ 10)).2.2.2))) (by rw [hE]; first | rfl | (rw [at_no hno, j_no hno, p_no hno]; exact rd_no σ a j P)) ?_
            exact hret _ _ _ dX0_readCommand_47 (by omega) (by rw [hE])
    exact lp26 _ 0 (σ 7 2) 0 (σ 10) (Nat.lt_succ_self _) (by omega) (by rfl) (by omega) (by omega)
  · skip
    exfalso; omega
abbrev rm_X0_parse : Room := { frames := 5, cells := 0, slots := 0, locals := 134 }
set_option maxRecDepth 100000 in
set_option maxHeartbeats 4000000 in
theorem c_X0_parse (l : Launch) (E : EV) (σ : SS) (hT : TW (σ 8) (σ 7 1)) : Ki l yX0_parse (cw yX0_parse cX0_parse 2 (some .int)) rm_X0_parse E [.ref (ea E 7)] σ ((paN (σ 8) (σ 7 1) 8 0 0 (σ 9) (σ 10) (σ 7 6)).1) (st (st (st σ 7 (pt (pt (pt (σ 7) 2 ((paN (σ 8) (σ 7 1) 8 0 0 (σ 9) (σ 10) (σ 7 6)).2.1)) 5 ((paN (σ 8) (σ 7 1) 8 0 0 (σ 9) (σ 10) (σ 7 6)).2.2.1)) 6 ((paN (σ 8) (σ 7 1) 8 0 0 (σ 9) (σ 10) (σ 7 6)).2.2.2.1))) 9 ((paN (σ 8) (σ 7 1) 8 0 0 (σ 9) (σ 10) (σ 7 6)).2.2.2.2.1)) 10 ((paN (σ 8) (σ 7 1) 8 0 0 (σ 9) (σ 10) (σ 7 6)).2.2.2.2.2)) := by
  refine Ki_of (rm := rm_X0_parse) (mL := 2) (b := cX0_parse) RX0 rfl (by decide +kernel) rfl rfl [(0, .ref (ea E 7))] rfl (Nat.le_of_ble_eq_true rfl) (fun p_ e_ s_ m_ a_ b_ h_ c_ Q A C hret => ?_)
  have hn := hT.1
  refine g_aload_n C dX0_parse_0 0 rfl rfl (q := 1) rfl ?_
  refine g_iconst C dX0_parse_1 (q := 2) rfl ?_
  refine gp_X0_19 C dX0_parse_2 (q := 5) rfl ?_
  refine g_aload_n C dX0_parse_5 0 rfl rfl (q := 6) rfl ?_
  refine g_iconst C dX0_parse_6 (q := 7) rfl ?_
  refine gp_X0_29 C dX0_parse_7 (q := 10) rfl ?_
  refine g_st (σ2 := (st σ 7 (pt (pt (σ 7) 2 0) 5 0))) (st_st _ _ _ _) ?_
  refine g_iconst C dX0_parse_10 (q := 11) rfl ?_
  refine g_istore_n C (L' := [(1, .int (iI 0)), (0, .ref (ea E 7))]) dX0_parse_11 rfl (by decide) rfl (q := 12) rfl ?_
  refine g_sub [1, 0] (L' := [(0, .ref (ea E 7)), (1, .int (iI 0))]) rfl ?_
  have lp12 : ∀ (k9 : Nat) (x : Int) (a : Int) (m : Int) (j : Int) (K : Int → Int) (P : Int → Int), (8 - x).toNat < k9 → (0 ≤ x ∧ x ≤ 8 ∧ m = x) → (0 ≤ a ∧ a ≤ 23 * x) → (paN (σ 8) (σ 7 1) 8 0 0 (σ 9) (σ 10) (σ 7 6) = paN (σ 8) (σ 7 1) (8 - x).toNat a m K P j) → GG p_ l e_ rm_X0_parse s_ m_ a_ b_ h_ c_ Q E A 2 (st (st (st σ 7 (pt (pt (pt (σ 7) 2 a) 5 m) 6 j)) 9 K) 10 P) 0 0 12 [(0, .ref (ea E 7)), (1, .int (iI x))] [] := by
    intro k9
    induction k9 with
    | zero => intro x a m j K P hk9; omega
    | succ k9 ih12 =>
      intro x a m j K P hk9 hx ha hR
      refine g_iload_n C dX0_parse_12 1 rfl rfl (q := 13) rfl ?_
      refine g_bipush C dX0_parse_13 (by decide) (q := 15) rfl ?_
      refine g_icmp_ge C dX0_parse_15 (by omega) (q2 := 63) rfl (q := 18) rfl (fun hb1 => ?_) (fun hb1 => ?_)
      · skip
        have hE : paN (σ 8) (σ 7 1) 8 0 0 (σ 9) (σ 10) (σ 7 6) = (a, a, m, j, K, P) := by rw [hR, show (8 - x).toNat = 0 by omega]; rfl
        refine g_aload_n C dX0_parse_63 0 rfl rfl (q := 64) rfl ?_
        refine gf_X0_19 C dX0_parse_64 (q := 67) rfl ?_
        refine g_top (b := a) rfl ?_
        refine g_st (σ2 := (st (st (st σ 7 (pt (pt (pt (σ 7) 2 ((paN (σ 8) (σ 7 1) 8 0 0 (σ 9) (σ 10) (σ 7 6)).2.1)) 5 ((paN (σ 8) (σ 7 1) 8 0 0 (σ 9) (σ 10) (σ 7 6)).2.2.1)) 6 ((paN (σ 8) (σ 7 1) 8 0 0 (σ 9) (σ 10) (σ 7 6)).2.2.2.1))) 9 ((paN (σ 8) (σ 7 1) 8 0 0 (σ 9) (σ 10) (σ 7 6)).2.2.2.2.1)) 10 ((paN (σ 8) (σ 7 1) 8 0 0 (σ 9) (σ 10) (σ 7 6)).2.2.2.2.2))) (by first | (rw [hE]; done) | (rw [hR, hx9, paN_n (by assumption)]; done) | (rw [hR, hx9, paN_f (by assumption) (by omega), if_neg (by omega), if_neg (by omega)]; done) | (rw [hR, hx9, paN_e (by assumption) (by omega) (by omega)]; done) | (rw [hR, hx9, paN_x (by assumption) (by omega) (by omega) (by omega)]; done)) ?_
        exact hret _ _ _ dX0_parse_67 (by first | (rw [hE]; done) | (rw [hR, hx9, paN_n (by assumption)]; done) | (rw [hR, hx9, paN_f (by assumption) (by omega)]; done) | (rw [hR, hx9, paN_e (by assumption) (by omega) (by omega)]; done) | (rw [hR, hx9, paN_x (by assumption) (by omega) (by omega) (by omega)]; done))
      · skip
        rcases (show rcK (σ 8) (σ 7 1) a = -1 ∨ rcK (σ 8) (σ 7 1) a ≠ -1 by omega) with hb2 | hb2
        · skip
          have hx9 : (8 - x).toNat = (8 - (x + 1)).toNat + 1 := by omega
          have hra := rcF_at (σ 8) (σ 7 1) a m P
          have hr1 := rcF_01 (σ 8) (σ 7 1) a m P
          have hrs := bE_01 (sg (σ 8) (σ 7 1) (rcF (σ 8) (σ 7 1) a m P).2.1) 59
          have hrt := bE_iff (sg (σ 8) (σ 7 1) (rcF (σ 8) (σ 7 1) a m P).2.1) 59
          refine g_aload_n C dX0_parse_18 0 rfl rfl (q := 19) rfl ?_
          refine g_cV_i C (As := []) (c_X0_readCommand_n l E _   (by show TW (σ 8) (σ 7 1); assumption) (by show 0 ≤ a ∧ a ≤ 900; omega) (by show 0 ≤ m ∧ m < 8; omega) (by show rcK (σ 8) (σ 7 1) a = -1; assumption)) ml_X0_35 mf_X0_readCommand (o := 7) (ci := 0) rfl rfl rfl rfl ⟨(Nat.le_of_ble_eq_true rfl), (Nat.le_of_ble_eq_true rfl)⟩ rfl rfl rfl (Nat.le_of_ble_eq_true rfl) ⟨(Nat.le_of_ble_eq_true rfl), (Nat.le_of_ble_eq_true rfl)⟩ dX0_parse_19 (q := 22) rfl ?_
          refine g_if_ne C dX0_parse_22 (by omega) (q2 := 30) rfl (q := 25) rfl (fun hb3 => ?_) (fun hb3 => ?_)
          · skip
            exfalso; omega
          · skip
            refine g_aload_n C dX0_parse_25 0 rfl rfl (q := 26) rfl ?_
            refine gf_X0_19 C dX0_parse_26 (q := 29) rfl ?_
            refine g_top (b := a) rfl ?_
            refine g_st (σ2 := (st (st (st σ 7 (pt (pt (pt (σ 7) 2 ((paN (σ 8) (σ 7 1) 8 0 0 (σ 9) (σ 10) (σ 7 6)).2.1)) 5 ((paN (σ 8) (σ 7 1) 8 0 0 (σ 9) (σ 10) (σ 7 6)).2.2.1)) 6 ((paN (σ 8) (σ 7 1) 8 0 0 (σ 9) (σ 10) (σ 7 6)).2.2.2.1))) 9 ((paN (σ 8) (σ 7 1) 8 0 0 (σ 9) (σ 10) (σ 7 6)).2.2.2.2.1)) 10 ((paN (σ 8) (σ 7 1) 8 0 0 (σ 9) (σ 10) (σ 7 6)).2.2.2.2.2))) (by first | (rw [hE]; done) | (rw [hR, hx9, paN_n (by assumption)]; done) | (rw [hR, hx9, paN_f (by assumption) (by omega), if_neg (by omega), if_neg (by omega)]; done) | (rw [hR, hx9, paN_e (by assumption) (by omega) (by omega)]; done) | (rw [hR, hx9, paN_x (by assumption) (by omega) (by omega) (by omega)]; done)) ?_
            exact hret _ _ _ dX0_parse_29 (by first | (rw [hE]; done) | (rw [hR, hx9, paN_n (by assumption)]; done) | (rw [hR, hx9, paN_f (by assumption) (by omega)]; done) | (rw [hR, hx9, paN_e (by assumption) (by omega) (by omega)]; done) | (rw [hR, hx9, paN_x (by assumption) (by omega) (by omega) (by omega)]; done))
        · skip
          have hx9 : (8 - x).toNat = (8 - (x + 1)).toNat + 1 := by omega
          have hra := rcF_at (σ 8) (σ 7 1) a m P
          have hr1 := rcF_01 (σ 8) (σ 7 1) a m P
          have hrs := bE_01 (sg (σ 8) (σ 7 1) (rcF (σ 8) (σ 7 1) a m P).2.1) 59
          have hrt := bE_iff (sg (σ 8) (σ 7 1) (rcF (σ 8) (σ 7 1) a m P).2.1) 59
          refine g_aload_n C dX0_parse_18 0 rfl rfl (q := 19) rfl ?_
          refine g_cV_i C (As := []) (c_X0_readCommand_y l E _   (by show TW (σ 8) (σ 7 1); assumption) (by show 0 ≤ a ∧ a ≤ 900; omega) (by show 0 ≤ m ∧ m < 8; omega) (by show rcK (σ 8) (σ 7 1) a ≠ -1; assumption)) ml_X0_35 mf_X0_readCommand (o := 7) (ci := 0) rfl rfl rfl rfl ⟨(Nat.le_of_ble_eq_true rfl), (Nat.le_of_ble_eq_true rfl)⟩ rfl rfl rfl (Nat.le_of_ble_eq_true rfl) ⟨(Nat.le_of_ble_eq_true rfl), (Nat.le_of_ble_eq_true rfl)⟩ dX0_parse_19 (q := 22) rfl ?_
          refine g_top (b := (rcF (σ 8) (σ 7 1) a m P).1) rfl ?_
          refine g_st (σ2 := (st (st (st σ 7 (pt (pt (pt (σ 7) 2 ((rcF (σ 8) (σ 7 1) a m P).2.1)) 5 (if (rcF (σ 8) (σ 7 1) a m P).1 = 1 then m + 1 else m)) 6 ((rcF (σ 8) (σ 7 1) a m P).2.2.1))) 9 (if (rcF (σ 8) (σ 7 1) a m P).1 = 1 then pt K m (rcK (σ 8) (σ 7 1) a) else K)) 10 ((rcF (σ 8) (σ 7 1) a m P).2.2.2))) (((congrArg (fun g9 => st g9 10 ((rcF (σ 8) (σ 7 1) a m P).2.2.2)) (congrArg (fun g9 => st g9 9 (if (rcF (σ 8) (σ 7 1) a m P).1 = 1 then pt K m (rcK (σ 8) (σ 7 1) a) else K)) ((congrArg (st (st (st (st σ 7 (pt (pt (pt (σ 7) 2 a) 5 m) 6 j)) 9 K) 10 P) 7) (((congrArg (fun g9 => pt g9 6 ((rcF (σ 8) (σ 7 1) a m P).2.2.1)) (congrArg (fun g9 => pt g9 5 (if (rcF (σ 8) (σ 7 1) a m P).1 = 1 then m + 1 else m)) ((pt_cm (pt (pt (σ 7) 2 a) 5 m) (k := 6) (j := 2) j ((rcF (σ 8) (σ 7 1) a m P).2.1) (by decide)).trans (congrArg (fun g9 => pt g9 6 j) ((pt_cm (pt (σ 7) 2 a) (k := 5) (j := 2) m ((rcF (σ 8) (σ 7 1) a m P).2.1) (by decide)).trans (congrArg (fun g9 => pt g9 5 m) (pt_pt _ _ _ _))))))).trans (congrArg (fun g9 => pt g9 6 ((rcF (σ 8) (σ 7 1) a m P).2.2.1)) ((pt_cm (pt (pt (σ 7) 2 ((rcF (σ 8) (σ 7 1) a m P).2.1)) 5 m) (k := 6) (j := 5) j (if (rcF (σ 8) (σ 7 1) a m P).1 = 1 then m + 1 else m) (by decide)).trans (congrArg (fun g9 => pt g9 6 j) (pt_pt _ _ _ _))))).trans (pt_pt _ _ _ _))).trans ((st_cm (st (st σ 7 (pt (pt (pt (σ 7) 2 a) 5 m) 6 j)) 9 K) (o := 10) (q := 7) P (pt (pt (pt (σ 7) 2 ((rcF (σ 8) (σ 7 1) a m P).2.1)) 5 (if (rcF (σ 8) (σ 7 1) a m P).1 = 1 then m + 1 else m)) 6 ((rcF (σ 8) (σ 7 1) a m P).2.2.1)) (by decide)).trans (congrArg (fun g9 => st g9 10 P) ((st_cm (st σ 7 (pt (pt (pt (σ 7) 2 a) 5 m) 6 j)) (o := 9) (q := 7) K (pt (pt (pt (σ 7) 2 ((rcF (σ 8) (σ 7 1) a m P).2.1)) 5 (if (rcF (σ 8) (σ 7 1) a m P).1 = 1 then m + 1 else m)) 6 ((rcF (σ 8) (σ 7 1) a m P).2.2.1)) (by decide)).trans (congrArg (fun g9 => st g9 9 K) (st_st _ _ _ _)))))))).trans (congrArg (fun g9 => st g9 10 ((rcF (σ 8) (σ 7 1) a m P).2.2.2)) ((st_cm (st (st σ 7 (pt (pt (pt (σ 7) 2 ((rcF (σ 8) (σ 7 1) a m P).2.1)) 5 (if (rcF (σ 8) (σ 7 1) a m P).1 = 1 then m + 1 else m)) 6 ((rcF (σ 8) (σ 7 1) a m P).2.2.1))) 9 K) (o := 10) (q := 9) P (if (rcF (σ 8) (σ 7 1) a m P).1 = 1 then pt K m (rcK (σ 8) (σ 7 1) a) else K) (by decide)).trans (congrArg (fun g9 => st g9 10 P) (st_st _ _ _ _))))).trans (st_st _ _ _ _)) ?_
          refine g_if_ne C dX0_parse_22 (by omega) (q2 := 30) rfl (q := 25) rfl (fun hb4 => ?_) (fun hb4 => ?_)
          · skip
            refine g_st (σ2 := (st (st (st σ 7 (pt (pt (pt (σ 7) 2 ((rcF (σ 8) (σ 7 1) a m P).2.1)) 5 (m + 1)) 6 ((rcF (σ 8) (σ 7 1) a m P).2.2.1))) 9 (pt K m (rcK (σ 8) (σ 7 1) a))) 10 ((rcF (σ 8) (σ 7 1) a m P).2.2.2))) (by rw [if_pos (by omega), if_pos (by omega)]) ?_
            refine g_aload_n C dX0_parse_30 0 rfl rfl (q := 31) rfl ?_
            refine gf_X0_19 C dX0_parse_31 (q := 34) rfl ?_
            refine g_top (b := (rcF (σ 8) (σ 7 1) a m P).2.1) rfl ?_
            refine g_aload_n C dX0_parse_34 0 rfl rfl (q := 35) rfl ?_
            refine gf_X0_15 C dX0_parse_35 (q := 38) rfl ?_
            refine g_top (b := (σ 7 1)) rfl ?_
            refine g_icmp_ne C dX0_parse_38 (by omega) (q2 := 43) rfl (q := 41) rfl (fun hb5 => ?_) (fun hb5 => ?_)
            · skip
              refine g_aload_n C dX0_parse_43 0 rfl rfl (q := 44) rfl ?_
              refine g_bipush C dX0_parse_44 (by decide) (q := 46) rfl ?_
              refine g_cV_i C (As := [.int (iI 59)]) (c_X0_readSign l E _ 59  (by omega) (by show TW (σ 8) (σ 7 1); assumption) (by show 0 ≤ ((rcF (σ 8) (σ 7 1) a m P).2.1) ∧ ((rcF (σ 8) (σ 7 1) a m P).2.1) ≤ 1000; omega)) ml_X0_39 mf_X0_readSign (o := 7) (ci := 0) rfl rfl rfl rfl ⟨(Nat.le_of_ble_eq_true rfl), (Nat.le_of_ble_eq_true rfl)⟩ rfl rfl rfl (Nat.le_of_ble_eq_true rfl) ⟨(Nat.le_of_ble_eq_true rfl), (Nat.le_of_ble_eq_true rfl)⟩ dX0_parse_46 (q := 49) rfl ?_
              refine g_top (b := bE (sg (σ 8) (σ 7 1) ((rcF (σ 8) (σ 7 1) a m P).2.1)) 59) rfl ?_
              refine g_st (σ2 := (st (st (st σ 7 (pt (pt (pt (σ 7) 2 (if sg (σ 8) (σ 7 1) ((rcF (σ 8) (σ 7 1) a m P).2.1) = 59 then ((rcF (σ 8) (σ 7 1) a m P).2.1) + 1 else ((rcF (σ 8) (σ 7 1) a m P).2.1))) 5 (m + 1)) 6 ((rcF (σ 8) (σ 7 1) a m P).2.2.1))) 9 (pt K m (rcK (σ 8) (σ 7 1) a))) 10 ((rcF (σ 8) (σ 7 1) a m P).2.2.2))) ((congrArg (st (st (st (st σ 7 (pt (pt (pt (σ 7) 2 ((rcF (σ 8) (σ 7 1) a m P).2.1)) 5 (m + 1)) 6 ((rcF (σ 8) (σ 7 1) a m P).2.2.1))) 9 (pt K m (rcK (σ 8) (σ 7 1) a))) 10 ((rcF (σ 8) (σ 7 1) a m P).2.2.2)) 7) ((pt_cm (pt (pt (σ 7) 2 ((rcF (σ 8) (σ 7 1) a m P).2.1)) 5 (m + 1)) (k := 6) (j := 2) ((rcF (σ 8) (σ 7 1) a m P).2.2.1) (if sg (σ 8) (σ 7 1) ((rcF (σ 8) (σ 7 1) a m P).2.1) = 59 then ((rcF (σ 8) (σ 7 1) a m P).2.1) + 1 else ((rcF (σ 8) (σ 7 1) a m P).2.1)) (by decide)).trans (congrArg (fun g9 => pt g9 6 ((rcF (σ 8) (σ 7 1) a m P).2.2.1)) ((pt_cm (pt (σ 7) 2 ((rcF (σ 8) (σ 7 1) a m P).2.1)) (k := 5) (j := 2) (m + 1) (if sg (σ 8) (σ 7 1) ((rcF (σ 8) (σ 7 1) a m P).2.1) = 59 then ((rcF (σ 8) (σ 7 1) a m P).2.1) + 1 else ((rcF (σ 8) (σ 7 1) a m P).2.1)) (by decide)).trans (congrArg (fun g9 => pt g9 5 (m + 1)) (pt_pt _ _ _ _)))))).trans ((st_cm (st (st σ 7 (pt (pt (pt (σ 7) 2 ((rcF (σ 8) (σ 7 1) a m P).2.1)) 5 (m + 1)) 6 ((rcF (σ 8) (σ 7 1) a m P).2.2.1))) 9 (pt K m (rcK (σ 8) (σ 7 1) a))) (o := 10) (q := 7) ((rcF (σ 8) (σ 7 1) a m P).2.2.2) (pt (pt (pt (σ 7) 2 (if sg (σ 8) (σ 7 1) ((rcF (σ 8) (σ 7 1) a m P).2.1) = 59 then ((rcF (σ 8) (σ 7 1) a m P).2.1) + 1 else ((rcF (σ 8) (σ 7 1) a m P).2.1))) 5 (m + 1)) 6 ((rcF (σ 8) (σ 7 1) a m P).2.2.1)) (by decide)).trans (congrArg (fun g9 => st g9 10 ((rcF (σ 8) (σ 7 1) a m P).2.2.2)) ((st_cm (st σ 7 (pt (pt (pt (σ 7) 2 ((rcF (σ 8) (σ 7 1) a m P).2.1)) 5 (m + 1)) 6 ((rcF (σ 8) (σ 7 1) a m P).2.2.1))) (o := 9) (q := 7) (pt K m (rcK (σ 8) (σ 7 1) a)) (pt (pt (pt (σ 7) 2 (if sg (σ 8) (σ 7 1) ((rcF (σ 8) (σ 7 1) a m P).2.1) = 59 then ((rcF (σ 8) (σ 7 1) a m P).2.1) + 1 else ((rcF (σ 8) (σ 7 1) a m P).2.1))) 5 (m + 1)) 6 ((rcF (σ 8) (σ 7 1) a m P).2.2.1)) (by decide)).trans (congrArg (fun g9 => st g9 9 (pt K m (rcK (σ 8) (σ 7 1) a))) (st_st _ _ _ _)))))) ?_
              refine g_if_ne C dX0_parse_49 (by omega) (q2 := 57) rfl (q := 52) rfl (fun hb6 => ?_) (fun hb6 => ?_)
              · skip
                refine g_st (σ2 := (st (st (st σ 7 (pt (pt (pt (σ 7) 2 ((rcF (σ 8) (σ 7 1) a m P).2.1 + 1)) 5 (m + 1)) 6 ((rcF (σ 8) (σ 7 1) a m P).2.2.1))) 9 (pt K m (rcK (σ 8) (σ 7 1) a))) 10 ((rcF (σ 8) (σ 7 1) a m P).2.2.2))) (by rw [if_pos (by omega)]) ?_
                refine g_iinc C (L' := [(1, .int (iI (x + 1))), (0, .ref (ea E 7))]) dX0_parse_57 1 rfl (by decide) rfl (q := 60) rfl ?_
                refine g_goto C dX0_parse_60 (q := 12) rfl ?_
                refine g_sub [1, 0] (L' := [(0, .ref (ea E 7)), (1, .int (iI (x + 1)))]) rfl ?_
                exact ih12 (x + 1) ((rcF (σ 8) (σ 7 1) a m P).2.1 + 1) (m + 1) ((rcF (σ 8) (σ 7 1) a m P).2.2.1) (pt K m (rcK (σ 8) (σ 7 1) a)) ((rcF (σ 8) (σ 7 1) a m P).2.2.2) (by omega) (by omega) (by omega) (by rw [hR, hx9, paN_s (by omega) (by omega) (by omega) (by omega)])
              · skip
                refine g_st (σ2 := (st (st (st σ 7 (pt (pt (pt (σ 7) 2 ((rcF (σ 8) (σ 7 1) a m P).2.1)) 5 (m + 1)) 6 ((rcF (σ 8) (σ 7 1) a m P).2.2.1))) 9 (pt K m (rcK (σ 8) (σ 7 1) a))) 10 ((rcF (σ 8) (σ 7 1) a m P).2.2.2))) (by rw [if_neg (by omega)]) ?_
                refine g_aload_n C dX0_parse_52 0 rfl rfl (q := 53) rfl ?_
                refine gf_X0_19 C dX0_parse_53 (q := 56) rfl ?_
                refine g_top (b := (rcF (σ 8) (σ 7 1) a m P).2.1) rfl ?_
                refine g_st (σ2 := (st (st (st σ 7 (pt (pt (pt (σ 7) 2 ((paN (σ 8) (σ 7 1) 8 0 0 (σ 9) (σ 10) (σ 7 6)).2.1)) 5 ((paN (σ 8) (σ 7 1) 8 0 0 (σ 9) (σ 10) (σ 7 6)).2.2.1)) 6 ((paN (σ 8) (σ 7 1) 8 0 0 (σ 9) (σ 10) (σ 7 6)).2.2.2.1))) 9 ((paN (σ 8) (σ 7 1) 8 0 0 (σ 9) (σ 10) (σ 7 6)).2.2.2.2.1)) 10 ((paN (σ 8) (σ 7 1) 8 0 0 (σ 9) (σ 10) (σ 7 6)).2.2.2.2.2))) (by first | (rw [hE]; done) | (rw [hR, hx9, paN_n (by assumption)]; done) | (rw [hR, hx9, paN_f (by assumption) (by omega), if_neg (by omega), if_neg (by omega)]; done) | (rw [hR, hx9, paN_e (by assumption) (by omega) (by omega)]; done) | (rw [hR, hx9, paN_x (by assumption) (by omega) (by omega) (by omega)]; done)) ?_
                exact hret _ _ _ dX0_parse_56 (by first | (rw [hE]; done) | (rw [hR, hx9, paN_n (by assumption)]; done) | (rw [hR, hx9, paN_f (by assumption) (by omega)]; done) | (rw [hR, hx9, paN_e (by assumption) (by omega) (by omega)]; done) | (rw [hR, hx9, paN_x (by assumption) (by omega) (by omega) (by omega)]; done))
            · skip
              refine g_iconst C dX0_parse_41 (q := 42) rfl ?_
              refine g_st (σ2 := (st (st (st σ 7 (pt (pt (pt (σ 7) 2 ((paN (σ 8) (σ 7 1) 8 0 0 (σ 9) (σ 10) (σ 7 6)).2.1)) 5 ((paN (σ 8) (σ 7 1) 8 0 0 (σ 9) (σ 10) (σ 7 6)).2.2.1)) 6 ((paN (σ 8) (σ 7 1) 8 0 0 (σ 9) (σ 10) (σ 7 6)).2.2.2.1))) 9 ((paN (σ 8) (σ 7 1) 8 0 0 (σ 9) (σ 10) (σ 7 6)).2.2.2.2.1)) 10 ((paN (σ 8) (σ 7 1) 8 0 0 (σ 9) (σ 10) (σ 7 6)).2.2.2.2.2))) (by first | (rw [hE]; done) | (rw [hR, hx9, paN_n (by assumption)]; done) | (rw [hR, hx9, paN_f (by assumption) (by omega), if_neg (by omega), if_neg (by omega)]; done) | (rw [hR, hx9, paN_e (by assumption) (by omega) (by omega)]; done) | (rw [hR, hx9, paN_x (by assumption) (by omega) (by omega) (by omega)]; done)) ?_
              exact hret _ _ _ dX0_parse_42 (by first | (rw [hE]; done) | (rw [hR, hx9, paN_n (by assumption)]; done) | (rw [hR, hx9, paN_f (by assumption) (by omega)]; done) | (rw [hR, hx9, paN_e (by assumption) (by omega) (by omega)]; done) | (rw [hR, hx9, paN_x (by assumption) (by omega) (by omega) (by omega)]; done))
          · skip
            refine g_aload_n C dX0_parse_25 0 rfl rfl (q := 26) rfl ?_
            refine gf_X0_19 C dX0_parse_26 (q := 29) rfl ?_
            refine g_top (b := (rcF (σ 8) (σ 7 1) a m P).2.1) rfl ?_
            refine g_st (σ2 := (st (st (st σ 7 (pt (pt (pt (σ 7) 2 ((paN (σ 8) (σ 7 1) 8 0 0 (σ 9) (σ 10) (σ 7 6)).2.1)) 5 ((paN (σ 8) (σ 7 1) 8 0 0 (σ 9) (σ 10) (σ 7 6)).2.2.1)) 6 ((paN (σ 8) (σ 7 1) 8 0 0 (σ 9) (σ 10) (σ 7 6)).2.2.2.1))) 9 ((paN (σ 8) (σ 7 1) 8 0 0 (σ 9) (σ 10) (σ 7 6)).2.2.2.2.1)) 10 ((paN (σ 8) (σ 7 1) 8 0 0 (σ 9) (σ 10) (σ 7 6)).2.2.2.2.2))) (by first | (rw [hE]; done) | (rw [hR, hx9, paN_n (by assumption)]; done) | (rw [hR, hx9, paN_f (by assumption) (by omega), if_neg (by omega), if_neg (by omega)]; done) | (rw [hR, hx9, paN_e (by assumption) (by omega) (by omega)]; done) | (rw [hR, hx9, paN_x (by assumption) (by omega) (by omega) (by omega)]; done)) ?_
            exact hret _ _ _ dX0_parse_29 (by first | (rw [hE]; done) | (rw [hR, hx9, paN_n (by assumption)]; done) | (rw [hR, hx9, paN_f (by assumption) (by omega)]; done) | (rw [hR, hx9, paN_e (by assumption) (by omega) (by omega)]; done) | (rw [hR, hx9, paN_x (by assumption) (by omega) (by omega) (by omega)]; done))
  exact lp12 _ 0 0 0 (σ 7 6) (σ 9) (σ 10) (Nat.lt_succ_self _) (by omega) (by omega) (by rfl)
