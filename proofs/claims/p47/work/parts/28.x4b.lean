abbrev rm_X4_faultOf : Room := { frames := 5, cells := 0, slots := 0, locals := 112 }
set_option maxRecDepth 100000 in
set_option maxHeartbeats 4000000 in
theorem c_X4_faultOf (l : Launch) (E : EV) (σ : SS) (k r b c d : Int) (hk : 0 ≤ k ∧ k ≤ 8) (hr_r : -2147483648 ≤ r ∧ r ≤ 2147483647) (hr_b : -2147483648 ≤ b ∧ b ≤ 2147483647) (hr_c : -2147483648 ≤ c ∧ c ≤ 2147483647) (hr_d : -2147483648 ≤ d ∧ d ≤ 2147483647) (hN : ∀ r : Int, 0 ≤ r ∧ r < 4 → 0 ≤ (σ 2) (240 + r) ∧ (σ 2) (240 + r) ≤ 60) : Ki l yX4_faultOf (cw yX4_faultOf cX4_faultOf 6 (some .int)) rm_X4_faultOf E [.ref (ea E 0), .int (iI k), .int (iI r), .int (iI b), .int (iI c), .int (iI d)] σ (FK (σ 2) k r b c d) σ := by
  refine Ki_of (rm := rm_X4_faultOf) (mL := 6) (b := cX4_faultOf) RX4 rfl (by decide +kernel) rfl rfl [(0, .ref (ea E 0)), (1, .int (iI k)), (2, .int (iI r)), (3, .int (iI b)), (4, .int (iI c)), (5, .int (iI d))] rfl (Nat.le_of_ble_eq_true rfl) (fun p_ e_ s_ m_ a_ b_ h_ c_ Q A C hret => ?_)
  refine g_iload_n C dX4_faultOf_0 1 rfl rfl (q := 1) rfl ?_
  rcases (show k = 0 ∨ k = 1 ∨ k = 2 ∨ k = 3 ∨ k = 4 ∨ k = 5 ∨ k = 6 ∨ k = 7 ∨ k = 8 by omega) with rfl | rfl | rfl | rfl | rfl | rfl | rfl | rfl | rfl
  · skip
    refine g_tabI C dX4_faultOf_1 (by omega) (by decide) (by decide) (off := 51) rfl (q := 52) rfl ?_
    refine g_aload_n C dX4_faultOf_52 0 rfl rfl (q := 53) rfl ?_
    refine g_iload_n C dX4_faultOf_53 2 rfl rfl (q := 54) rfl ?_
    refine g_iload_n C dX4_faultOf_54 3 rfl rfl (q := 55) rfl ?_
    refine g_iload C dX4_faultOf_55 4 rfl (q := 57) rfl ?_
    refine g_cV_i C (As := [.int (iI r), .int (iI b), .int (iI c)]) (c_X4_addFault l E _ r b c  (by omega) (by omega) (by omega) (by assumption)) ml_X4_274 mf_X4_addFault (o := 0) (ci := 4) rfl rfl rfl rfl ⟨(Nat.le_of_ble_eq_true rfl), (Nat.le_of_ble_eq_true rfl)⟩ rfl rfl rfl (Nat.le_of_ble_eq_true rfl) ⟨(Nat.le_of_ble_eq_true rfl), (Nat.le_of_ble_eq_true rfl)⟩ dX4_faultOf_57 (q := 60) rfl ?_
    exact hret _ _ _ dX4_faultOf_60 (by rfl)
  · skip
    refine g_tabI C dX4_faultOf_1 (by omega) (by decide) (by decide) (off := 60) rfl (q := 61) rfl ?_
    refine g_aload_n C dX4_faultOf_61 0 rfl rfl (q := 62) rfl ?_
    refine g_iload_n C dX4_faultOf_62 2 rfl rfl (q := 63) rfl ?_
    refine g_iload_n C dX4_faultOf_63 3 rfl rfl (q := 64) rfl ?_
    refine g_iload C dX4_faultOf_64 4 rfl (q := 66) rfl ?_
    refine g_iload C dX4_faultOf_66 5 rfl (q := 68) rfl ?_
    refine g_cV_i C (As := [.int (iI r), .int (iI b), .int (iI c), .int (iI d)]) (c_X4_putFault l E _ r b c d  (by omega) (by omega) (by omega) (by omega) (by assumption)) ml_X4_277 mf_X4_putFault (o := 0) (ci := 4) rfl rfl rfl rfl ⟨(Nat.le_of_ble_eq_true rfl), (Nat.le_of_ble_eq_true rfl)⟩ rfl rfl rfl (Nat.le_of_ble_eq_true rfl) ⟨(Nat.le_of_ble_eq_true rfl), (Nat.le_of_ble_eq_true rfl)⟩ dX4_faultOf_68 (q := 71) rfl ?_
    exact hret _ _ _ dX4_faultOf_71 (by rfl)
  · skip
    refine g_tabI C dX4_faultOf_1 (by omega) (by decide) (by decide) (off := 71) rfl (q := 72) rfl ?_
    refine g_aload_n C dX4_faultOf_72 0 rfl rfl (q := 73) rfl ?_
    refine g_iload_n C dX4_faultOf_73 2 rfl rfl (q := 74) rfl ?_
    refine g_iload_n C dX4_faultOf_74 3 rfl rfl (q := 75) rfl ?_
    refine g_cV_i C (As := [.int (iI r), .int (iI b)]) (c_X4_positionFault l E _ r b  (by omega) (by omega) (by assumption)) ml_X4_70 mf_X4_positionFault (o := 0) (ci := 4) rfl rfl rfl rfl ⟨(Nat.le_of_ble_eq_true rfl), (Nat.le_of_ble_eq_true rfl)⟩ rfl rfl rfl (Nat.le_of_ble_eq_true rfl) ⟨(Nat.le_of_ble_eq_true rfl), (Nat.le_of_ble_eq_true rfl)⟩ dX4_faultOf_75 (q := 78) rfl ?_
    exact hret _ _ _ dX4_faultOf_78 (by rfl)
  · skip
    refine g_tabI C dX4_faultOf_1 (by omega) (by decide) (by decide) (off := 78) rfl (q := 79) rfl ?_
    refine g_aload_n C dX4_faultOf_79 0 rfl rfl (q := 80) rfl ?_
    refine g_iload_n C dX4_faultOf_80 2 rfl rfl (q := 81) rfl ?_
    refine g_iload_n C dX4_faultOf_81 3 rfl rfl (q := 82) rfl ?_
    refine g_iload C dX4_faultOf_82 4 rfl (q := 84) rfl ?_
    refine g_cV_i C (As := [.int (iI r), .int (iI b), .int (iI c)]) (c_X4_tieFault l E _ r b c  (by omega) (by omega) (by omega) (by assumption)) ml_X4_281 mf_X4_tieFault (o := 0) (ci := 4) rfl rfl rfl rfl ⟨(Nat.le_of_ble_eq_true rfl), (Nat.le_of_ble_eq_true rfl)⟩ rfl rfl rfl (Nat.le_of_ble_eq_true rfl) ⟨(Nat.le_of_ble_eq_true rfl), (Nat.le_of_ble_eq_true rfl)⟩ dX4_faultOf_84 (q := 87) rfl ?_
    exact hret _ _ _ dX4_faultOf_87 (by rfl)
  · skip
    refine g_tabI C dX4_faultOf_1 (by omega) (by decide) (by decide) (off := 87) rfl (q := 88) rfl ?_
    refine g_aload_n C dX4_faultOf_88 0 rfl rfl (q := 89) rfl ?_
    refine g_iload_n C dX4_faultOf_89 2 rfl rfl (q := 90) rfl ?_
    refine g_iload_n C dX4_faultOf_90 3 rfl rfl (q := 91) rfl ?_
    refine g_iload C dX4_faultOf_91 4 rfl (q := 93) rfl ?_
    refine g_cV_i C (As := [.int (iI r), .int (iI b), .int (iI c)]) (c_X4_cutFault l E _ r b c  (by omega) (by omega) (by omega) (by assumption)) ml_X4_284 mf_X4_cutFault (o := 0) (ci := 4) rfl rfl rfl rfl ⟨(Nat.le_of_ble_eq_true rfl), (Nat.le_of_ble_eq_true rfl)⟩ rfl rfl rfl (Nat.le_of_ble_eq_true rfl) ⟨(Nat.le_of_ble_eq_true rfl), (Nat.le_of_ble_eq_true rfl)⟩ dX4_faultOf_93 (q := 96) rfl ?_
    exact hret _ _ _ dX4_faultOf_96 (by rfl)
  · skip
    refine g_tabI C dX4_faultOf_1 (by omega) (by decide) (by decide) (off := 96) rfl (q := 97) rfl ?_
    refine g_aload_n C dX4_faultOf_97 0 rfl rfl (q := 98) rfl ?_
    refine g_iload_n C dX4_faultOf_98 2 rfl rfl (q := 99) rfl ?_
    refine g_iload_n C dX4_faultOf_99 3 rfl rfl (q := 100) rfl ?_
    refine g_cV_i C (As := [.int (iI r), .int (iI b)]) (c_X4_joinFault l E _ r b  (by omega) (by omega) (by assumption)) ml_X4_287 mf_X4_joinFault (o := 0) (ci := 4) rfl rfl rfl rfl ⟨(Nat.le_of_ble_eq_true rfl), (Nat.le_of_ble_eq_true rfl)⟩ rfl rfl rfl (Nat.le_of_ble_eq_true rfl) ⟨(Nat.le_of_ble_eq_true rfl), (Nat.le_of_ble_eq_true rfl)⟩ dX4_faultOf_100 (q := 103) rfl ?_
    exact hret _ _ _ dX4_faultOf_103 (by rfl)
  · skip
    refine g_tabI C dX4_faultOf_1 (by omega) (by decide) (by decide) (off := 103) rfl (q := 104) rfl ?_
    refine g_iload_n C dX4_faultOf_104 2 rfl rfl (q := 105) rfl ?_
    refine g_iload_n C dX4_faultOf_105 3 rfl rfl (q := 106) rfl ?_
    refine g_cS_i C (As := [.int (iI r), .int (iI b)]) (c_X4_pairFault l E _ r b  (by omega) (by omega)) ml_X4_137 mf_X4_pairFault rfl rfl ⟨(Nat.le_of_ble_eq_true rfl), (Nat.le_of_ble_eq_true rfl)⟩ rfl rfl rfl (Nat.le_of_ble_eq_true rfl) ⟨(Nat.le_of_ble_eq_true rfl), (Nat.le_of_ble_eq_true rfl)⟩ dX4_faultOf_106 (q := 109) rfl ?_
    exact hret _ _ _ dX4_faultOf_109 (by rfl)
  · skip
    refine g_tabI C dX4_faultOf_1 (by omega) (by decide) (by decide) (off := 109) rfl (q := 110) rfl ?_
    refine g_aload_n C dX4_faultOf_110 0 rfl rfl (q := 111) rfl ?_
    refine g_iload_n C dX4_faultOf_111 2 rfl rfl (q := 112) rfl ?_
    refine g_iload_n C dX4_faultOf_112 3 rfl rfl (q := 113) rfl ?_
    refine g_iload C dX4_faultOf_113 4 rfl (q := 115) rfl ?_
    refine g_cV_i C (As := [.int (iI r), .int (iI b), .int (iI c)]) (c_X4_rangeFault l E _ r b c  (by omega) (by omega) (by omega) (by assumption)) ml_X4_99 mf_X4_rangeFault (o := 0) (ci := 4) rfl rfl rfl rfl ⟨(Nat.le_of_ble_eq_true rfl), (Nat.le_of_ble_eq_true rfl)⟩ rfl rfl rfl (Nat.le_of_ble_eq_true rfl) ⟨(Nat.le_of_ble_eq_true rfl), (Nat.le_of_ble_eq_true rfl)⟩ dX4_faultOf_115 (q := 118) rfl ?_
    exact hret _ _ _ dX4_faultOf_118 (by rfl)
  · skip
    refine g_tabI C dX4_faultOf_1 (by omega) (by decide) (by decide) (off := 118) rfl (q := 119) rfl ?_
    refine g_aload_n C dX4_faultOf_119 0 rfl rfl (q := 120) rfl ?_
    refine g_iload_n C dX4_faultOf_120 2 rfl rfl (q := 121) rfl ?_
    refine g_iload_n C dX4_faultOf_121 3 rfl rfl (q := 122) rfl ?_
    refine g_iload C dX4_faultOf_122 4 rfl (q := 124) rfl ?_
    refine g_iload C dX4_faultOf_124 5 rfl (q := 126) rfl ?_
    refine g_cV_i C (As := [.int (iI r), .int (iI b), .int (iI c), .int (iI d)]) (c_X4_dyeFault l E _ r b c d  (by omega) (by omega) (by omega) (by omega) (by assumption)) ml_X4_290 mf_X4_dyeFault (o := 0) (ci := 4) rfl rfl rfl rfl ⟨(Nat.le_of_ble_eq_true rfl), (Nat.le_of_ble_eq_true rfl)⟩ rfl rfl rfl (Nat.le_of_ble_eq_true rfl) ⟨(Nat.le_of_ble_eq_true rfl), (Nat.le_of_ble_eq_true rfl)⟩ dX4_faultOf_126 (q := 129) rfl ?_
    exact hret _ _ _ dX4_faultOf_129 (by rfl)
abbrev rm_X4_carryOut : Room := { frames := 5, cells := 0, slots := 0, locals := 115 }
set_option maxRecDepth 100000 in
set_option maxHeartbeats 4000000 in
theorem c_X4_carryOut (l : Launch) (E : EV) (σ : SS) (k r b c d : Int) (hk : 0 ≤ k ∧ k ≤ 8) (hW : CW (σ 2)) (hF : FK (σ 2) k r b c d = 0) : Ki l yX4_carryOut (cw yX4_carryOut cX4_carryOut 6 (some .int)) rm_X4_carryOut E [.ref (ea E 0), .int (iI k), .int (iI r), .int (iI b), .int (iI c), .int (iI d)] σ (opR (σ 2) k r b c d) (st σ 2 (opF (σ 2) k r b c d)) := by
  refine Ki_of (rm := rm_X4_carryOut) (mL := 6) (b := cX4_carryOut) RX4 rfl (by decide +kernel) rfl rfl [(0, .ref (ea E 0)), (1, .int (iI k)), (2, .int (iI r)), (3, .int (iI b)), (4, .int (iI c)), (5, .int (iI d))] rfl (Nat.le_of_ble_eq_true rfl) (fun p_ e_ s_ m_ a_ b_ h_ c_ Q A C hret => ?_)
  refine g_iload_n C dX4_carryOut_0 1 rfl rfl (q := 1) rfl ?_
  rcases (show k = 0 ∨ k = 1 ∨ k = 2 ∨ k = 3 ∨ k = 4 ∨ k = 5 ∨ k = 6 ∨ k = 7 ∨ k = 8 by omega) with rfl | rfl | rfl | rfl | rfl | rfl | rfl | rfl | rfl
  · skip
    refine g_tabI C dX4_carryOut_1 (by omega) (by decide) (by decide) (off := 51) rfl (q := 52) rfl ?_
    have hG := fA_0 hF
    have hn := (hW r (by omega)).1
    refine g_aload_n C dX4_carryOut_52 0 rfl rfl (q := 53) rfl ?_
    refine gf_X4_12 C dX4_carryOut_53 (q := 56) rfl ?_
    refine g_iload_n C dX4_carryOut_56 2 rfl rfl (q := 57) rfl ?_
    refine g_aload_n C dX4_carryOut_57 0 rfl rfl (q := 58) rfl ?_
    refine gf_X4_12 C dX4_carryOut_58 (q := 61) rfl ?_
    refine g_iload_n C dX4_carryOut_61 2 rfl rfl (q := 62) rfl ?_
    refine g_cVN_i C (As := [.int (iI r)]) (c_X3_countOf l E _ r  (by omega)) mn_X4_67 mf_X3_countOf (o := 1) (ci := 3) rfl rfl rfl rfl ⟨(Nat.le_of_ble_eq_true rfl), (Nat.le_of_ble_eq_true rfl)⟩ rfl rfl rfl (Nat.le_of_ble_eq_true rfl) ⟨(Nat.le_of_ble_eq_true rfl), (Nat.le_of_ble_eq_true rfl)⟩ dX4_carryOut_62 (q := 65) rfl ?_
    refine g_iload_n C dX4_carryOut_65 3 rfl rfl (q := 66) rfl ?_
    refine g_iload C dX4_carryOut_66 4 rfl (q := 68) rfl ?_
    refine g_cVN_i C (As := [.int (iI r), .int (iI ((σ 2) (240 + r))), .int (iI b), .int (iI c)]) (c_X3_putIn l E _ r ((σ 2) (240 + r)) b c  (by omega) (by omega) (by omega)) mn_X4_293 mf_X3_putIn (o := 1) (ci := 3) rfl rfl rfl rfl ⟨(Nat.le_of_ble_eq_true rfl), (Nat.le_of_ble_eq_true rfl)⟩ rfl rfl rfl (Nat.le_of_ble_eq_true rfl) ⟨(Nat.le_of_ble_eq_true rfl), (Nat.le_of_ble_eq_true rfl)⟩ dX4_carryOut_68 (q := 71) rfl ?_
    refine g_st (σ2 := (st σ 2 (opF (σ 2) 0 r b c d))) (by first | rfl | (funext q9; simp only [st]; (repeat' split) <;> first | rfl | omega | (funext j9; simp only [pt]; (repeat' split) <;> first | rfl | omega))) ?_
    exact hret _ _ _ dX4_carryOut_71 (by rfl)
  · skip
    refine g_tabI C dX4_carryOut_1 (by omega) (by decide) (by decide) (off := 71) rfl (q := 72) rfl ?_
    have hG := fPu_0 hF
    have hn := (hW r (by omega)).1
    refine g_aload_n C dX4_carryOut_72 0 rfl rfl (q := 73) rfl ?_
    refine gf_X4_12 C dX4_carryOut_73 (q := 76) rfl ?_
    refine g_iload_n C dX4_carryOut_76 2 rfl rfl (q := 77) rfl ?_
    refine g_iload_n C dX4_carryOut_77 3 rfl rfl (q := 78) rfl ?_
    refine g_iload C dX4_carryOut_78 4 rfl (q := 80) rfl ?_
    refine g_iload C dX4_carryOut_80 5 rfl (q := 82) rfl ?_
    refine g_cVN_i C (As := [.int (iI r), .int (iI b), .int (iI c), .int (iI d)]) (c_X3_putIn l E _ r b c d  (by omega) (by omega) (by omega)) mn_X4_293 mf_X3_putIn (o := 1) (ci := 3) rfl rfl rfl rfl ⟨(Nat.le_of_ble_eq_true rfl), (Nat.le_of_ble_eq_true rfl)⟩ rfl rfl rfl (Nat.le_of_ble_eq_true rfl) ⟨(Nat.le_of_ble_eq_true rfl), (Nat.le_of_ble_eq_true rfl)⟩ dX4_carryOut_82 (q := 85) rfl ?_
    refine g_st (σ2 := (st σ 2 (opF (σ 2) 1 r b c d))) (by first | rfl | (funext q9; simp only [st]; (repeat' split) <;> first | rfl | omega | (funext j9; simp only [pt]; (repeat' split) <;> first | rfl | omega))) ?_
    exact hret _ _ _ dX4_carryOut_85 (by rfl)
  · skip
    refine g_tabI C dX4_carryOut_1 (by omega) (by decide) (by decide) (off := 85) rfl (q := 86) rfl ?_
    have hG := fP_0 hF
    have hn := (hW r (by omega)).1
    have hs := (hW r (by omega)).2 b (by omega)
    refine g_aload_n C dX4_carryOut_86 0 rfl rfl (q := 87) rfl ?_
    refine gf_X4_12 C dX4_carryOut_87 (q := 90) rfl ?_
    refine g_iload_n C dX4_carryOut_90 2 rfl rfl (q := 91) rfl ?_
    refine g_iload_n C dX4_carryOut_91 3 rfl rfl (q := 92) rfl ?_
    refine g_cVN_i C (As := [.int (iI r), .int (iI b)]) (c_X3_takeOut l E _ r b  (by omega) (by omega) (by omega) (by omega)) mn_X4_296 mf_X3_takeOut (o := 1) (ci := 3) rfl rfl rfl rfl ⟨(Nat.le_of_ble_eq_true rfl), (Nat.le_of_ble_eq_true rfl)⟩ rfl rfl rfl (Nat.le_of_ble_eq_true rfl) ⟨(Nat.le_of_ble_eq_true rfl), (Nat.le_of_ble_eq_true rfl)⟩ dX4_carryOut_92 (q := 95) rfl ?_
    refine g_st (σ2 := (st σ 2 (opF (σ 2) 2 r b c d))) (by first | rfl | (funext q9; simp only [st]; (repeat' split) <;> first | rfl | omega | (funext j9; simp only [pt]; (repeat' split) <;> first | rfl | omega))) ?_
    exact hret _ _ _ dX4_carryOut_95 (by rfl)
  · skip
    refine g_tabI C dX4_carryOut_1 (by omega) (by decide) (by decide) (off := 95) rfl (q := 96) rfl ?_
    have hG := fT_0 hF
    have hn := (hW r (by omega)).1
    have hs := (hW r (by omega)).2 b (by omega)
    refine g_aload_n C dX4_carryOut_96 0 rfl rfl (q := 97) rfl ?_
    refine gf_X4_12 C dX4_carryOut_97 (q := 100) rfl ?_
    refine g_iload_n C dX4_carryOut_100 2 rfl rfl (q := 101) rfl ?_
    refine g_iload_n C dX4_carryOut_101 3 rfl rfl (q := 102) rfl ?_
    refine g_iload C dX4_carryOut_102 4 rfl (q := 104) rfl ?_
    refine g_cVN_i C (As := [.int (iI r), .int (iI b), .int (iI c)]) (c_X3_setLength l E _ r b c  (by omega) (by omega) (by omega)) mn_X4_299 mf_X3_setLength (o := 1) (ci := 3) rfl rfl rfl rfl ⟨(Nat.le_of_ble_eq_true rfl), (Nat.le_of_ble_eq_true rfl)⟩ rfl rfl rfl (Nat.le_of_ble_eq_true rfl) ⟨(Nat.le_of_ble_eq_true rfl), (Nat.le_of_ble_eq_true rfl)⟩ dX4_carryOut_104 (q := 107) rfl ?_
    refine g_st (σ2 := (st σ 2 (opF (σ 2) 3 r b c d))) (by first | rfl | (funext q9; simp only [st]; (repeat' split) <;> first | rfl | omega | (funext j9; simp only [pt]; (repeat' split) <;> first | rfl | omega))) ?_
    exact hret _ _ _ dX4_carryOut_107 (by rfl)
  · skip
    refine g_tabI C dX4_carryOut_1 (by omega) (by decide) (by decide) (off := 107) rfl (q := 108) rfl ?_
    have hG := fCu_0 hF
    have hn := (hW r (by omega)).1
    refine g_aload_n C dX4_carryOut_108 0 rfl rfl (q := 109) rfl ?_
    refine gf_X4_12 C dX4_carryOut_109 (q := 112) rfl ?_
    refine g_iload_n C dX4_carryOut_112 2 rfl rfl (q := 113) rfl ?_
    refine g_iload_n C dX4_carryOut_113 3 rfl rfl (q := 114) rfl ?_
    refine g_iload C dX4_carryOut_114 4 rfl (q := 116) rfl ?_
    refine g_cVN_i C (As := [.int (iI r), .int (iI b), .int (iI c)]) (c_X3_cutOff l E _ r b c  (by omega) (by omega) (by omega) (by omega) (by omega) (by omega)) mn_X4_302 mf_X3_cutOff (o := 1) (ci := 3) rfl rfl rfl rfl ⟨(Nat.le_of_ble_eq_true rfl), (Nat.le_of_ble_eq_true rfl)⟩ rfl rfl rfl (Nat.le_of_ble_eq_true rfl) ⟨(Nat.le_of_ble_eq_true rfl), (Nat.le_of_ble_eq_true rfl)⟩ dX4_carryOut_116 (q := 119) rfl ?_
    refine g_st (σ2 := (st σ 2 (opF (σ 2) 4 r b c d))) (by first | rfl | (funext q9; simp only [st]; (repeat' split) <;> first | rfl | omega | (funext j9; simp only [pt]; (repeat' split) <;> first | rfl | omega))) ?_
    exact hret _ _ _ dX4_carryOut_119 (by rfl)
  · skip
    refine g_tabI C dX4_carryOut_1 (by omega) (by decide) (by decide) (off := 119) rfl (q := 120) rfl ?_
    have hG := fJ_0 hF
    have hn := (hW r (by omega)).1
    have hn2 := (hW b (by omega)).1
    refine g_aload_n C dX4_carryOut_120 0 rfl rfl (q := 121) rfl ?_
    refine gf_X4_12 C dX4_carryOut_121 (q := 124) rfl ?_
    refine g_iload_n C dX4_carryOut_124 2 rfl rfl (q := 125) rfl ?_
    refine g_iload_n C dX4_carryOut_125 3 rfl rfl (q := 126) rfl ?_
    refine g_cVN_i C (As := [.int (iI r), .int (iI b)]) (c_X3_join l E _ r b  (by omega) (by omega) (by omega) (by omega) (by omega)) mn_X4_305 mf_X3_join (o := 1) (ci := 3) rfl rfl rfl rfl ⟨(Nat.le_of_ble_eq_true rfl), (Nat.le_of_ble_eq_true rfl)⟩ rfl rfl rfl (Nat.le_of_ble_eq_true rfl) ⟨(Nat.le_of_ble_eq_true rfl), (Nat.le_of_ble_eq_true rfl)⟩ dX4_carryOut_126 (q := 129) rfl ?_
    refine g_st (σ2 := (st σ 2 (opF (σ 2) 5 r b c d))) (by first | rfl | (funext q9; simp only [st]; (repeat' split) <;> first | rfl | omega | (funext j9; simp only [pt]; (repeat' split) <;> first | rfl | omega))) ?_
    exact hret _ _ _ dX4_carryOut_129 (by rfl)
  · skip
    refine g_tabI C dX4_carryOut_1 (by omega) (by decide) (by decide) (off := 129) rfl (q := 130) rfl ?_
    have hG := fRR_0 hF
    refine g_aload_n C dX4_carryOut_130 0 rfl rfl (q := 131) rfl ?_
    refine gf_X4_12 C dX4_carryOut_131 (q := 134) rfl ?_
    refine g_iload_n C dX4_carryOut_134 2 rfl rfl (q := 135) rfl ?_
    refine g_iload_n C dX4_carryOut_135 3 rfl rfl (q := 136) rfl ?_
    refine g_cVN_i C (As := [.int (iI r), .int (iI b)]) (c_X3_swap l E _ r b  (by omega) (by omega)) mn_X4_308 mf_X3_swap (o := 1) (ci := 3) rfl rfl rfl rfl ⟨(Nat.le_of_ble_eq_true rfl), (Nat.le_of_ble_eq_true rfl)⟩ rfl rfl rfl (Nat.le_of_ble_eq_true rfl) ⟨(Nat.le_of_ble_eq_true rfl), (Nat.le_of_ble_eq_true rfl)⟩ dX4_carryOut_136 (q := 139) rfl ?_
    refine g_st (σ2 := (st σ 2 (opF (σ 2) 6 r b c d))) (by first | rfl | (funext q9; simp only [st]; (repeat' split) <;> first | rfl | omega | (funext j9; simp only [pt]; (repeat' split) <;> first | rfl | omega))) ?_
    exact hret _ _ _ dX4_carryOut_139 (by rfl)
  · skip
    refine g_tabI C dX4_carryOut_1 (by omega) (by decide) (by decide) (off := 139) rfl (q := 140) rfl ?_
    have hG := fX_0 hF
    refine g_aload_n C dX4_carryOut_140 0 rfl rfl (q := 141) rfl ?_
    refine gf_X4_12 C dX4_carryOut_141 (q := 144) rfl ?_
    refine g_iload_n C dX4_carryOut_144 2 rfl rfl (q := 145) rfl ?_
    refine g_iload_n C dX4_carryOut_145 3 rfl rfl (q := 146) rfl ?_
    refine g_iload C dX4_carryOut_146 4 rfl (q := 148) rfl ?_
    refine g_cVN_i C (As := [.int (iI r), .int (iI b), .int (iI c)]) (c_X3_reverse l E _ r b c  (by omega) (by omega) (by omega) (by assumption)) mn_X4_311 mf_X3_reverse (o := 1) (ci := 3) rfl rfl rfl rfl ⟨(Nat.le_of_ble_eq_true rfl), (Nat.le_of_ble_eq_true rfl)⟩ rfl rfl rfl (Nat.le_of_ble_eq_true rfl) ⟨(Nat.le_of_ble_eq_true rfl), (Nat.le_of_ble_eq_true rfl)⟩ dX4_carryOut_148 (q := 151) rfl ?_
    refine g_st (σ2 := (st σ 2 (opF (σ 2) 7 r b c d))) (by first | rfl | (funext q9; simp only [st]; (repeat' split) <;> first | rfl | omega | (funext j9; simp only [pt]; (repeat' split) <;> first | rfl | omega))) ?_
    exact hret _ _ _ dX4_carryOut_151 (by rfl)
  · skip
    refine g_tabI C dX4_carryOut_1 (by omega) (by decide) (by decide) (off := 151) rfl (q := 152) rfl ?_
    have hG := fD_0 hF
    refine g_aload_n C dX4_carryOut_152 0 rfl rfl (q := 153) rfl ?_
    refine gf_X4_12 C dX4_carryOut_153 (q := 156) rfl ?_
    refine g_iload_n C dX4_carryOut_156 2 rfl rfl (q := 157) rfl ?_
    refine g_iload_n C dX4_carryOut_157 3 rfl rfl (q := 158) rfl ?_
    refine g_iload C dX4_carryOut_158 4 rfl (q := 160) rfl ?_
    refine g_iload C dX4_carryOut_160 5 rfl (q := 162) rfl ?_
    refine g_cVN_i C (As := [.int (iI r), .int (iI b), .int (iI c), .int (iI d)]) (c_X3_paint l E _ r b c d  (by omega) (by omega) (by omega) (by omega) (by assumption)) mn_X4_314 mf_X3_paint (o := 1) (ci := 3) rfl rfl rfl rfl ⟨(Nat.le_of_ble_eq_true rfl), (Nat.le_of_ble_eq_true rfl)⟩ rfl rfl rfl (Nat.le_of_ble_eq_true rfl) ⟨(Nat.le_of_ble_eq_true rfl), (Nat.le_of_ble_eq_true rfl)⟩ dX4_carryOut_162 (q := 165) rfl ?_
    refine g_st (σ2 := (st σ 2 (opF (σ 2) 8 r b c d))) (by first | rfl | (funext q9; simp only [st]; (repeat' split) <;> first | rfl | omega | (funext j9; simp only [pt]; (repeat' split) <;> first | rfl | omega))) ?_
    exact hret _ _ _ dX4_carryOut_165 (by rfl)
