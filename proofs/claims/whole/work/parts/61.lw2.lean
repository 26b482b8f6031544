abbrev rm_L_isTangled : Room := { frames := 8, cells := 1, slots := 6, locals := 124 }
set_option maxRecDepth 100000 in
set_option maxHeartbeats 4000000 in
theorem c_L_isTangled (l : Launch) (hst : l.stackTraces = false) (E : EV) (σ : SS) (r p : Int) (hr_r : -2147483648 ≤ r ∧ r ≤ 2147483647) (hr_p : -2147483648 ≤ p ∧ p ≤ 2147483647) (hW : CW (σ 2)) (hF1 : fP (σ 2) r p = 0) : KL l yL_isTangled (cwh yL_isTangled cL_isTangled 5 (some .int) th_L_isTangled) rm_L_isTangled E [.ref (ea E 0), .int (iI r), .int (iI p), .ref (ea E 21)] σ 0 (st σ 21 (pt (σ 21) 0 (iT (σ 2) r p))) := by
  refine KL_of (rm := rm_L_isTangled) (mL := 5) (b := cL_isTangled) RL rfl (by decide +kernel) [(0, .ref (ea E 0)), (1, .int (iI r)), (2, .int (iI p)), (3, .ref (ea E 21))] rfl (Nat.le_of_ble_eq_true rfl) (fun p_ e_ s_ m_ a_ b_ h_ c_ Q A C htab hret => ?_)
  have hb9 : iT (σ 2) r p = 0 ∨ iT (σ 2) r p = 1 := by first | exact iT_01 _ _ _ | exact iT_01 _ _ | exact iT_01 _
  refine g_aload_n C dL_isTangled_0 3 rfl rfl (q := 1) rfl ?_
  refine g_iconst C dL_isTangled_1 (q := 2) rfl ?_
  refine g_aload_n C dL_isTangled_2 0 rfl rfl (q := 3) rfl ?_
  refine g_iload_n C dL_isTangled_3 1 rfl rfl (q := 4) rfl ?_
  refine g_iload_n C dL_isTangled_4 2 rfl rfl (q := 5) rfl ?_
  refine g_cV_i C (As := [.int (iI r), .int (iI p)]) (c_X4_isTangled l E _ r p  (by assumption) (by assumption) (by assumption) (by assumption)) ml_L_84 mf_X4_isTangled (o := 0) (ci := 4) rfl rfl rfl rfl ⟨(Nat.le_of_ble_eq_true rfl), (Nat.le_of_ble_eq_true rfl)⟩ rfl rfl rfl (Nat.le_of_ble_eq_true rfl) ⟨(Nat.le_of_ble_eq_true rfl), (Nat.le_of_ble_eq_true rfl)⟩ dL_isTangled_5 (q := 8) rfl ?_
  refine g_if_eq C dL_isTangled_8 (by omega) (q2 := 15) rfl (q := 11) rfl (fun hb1 => ?_) (fun hb1 => ?_)
  · skip
    refine g_lconst C (y := 0) dL_isTangled_15 (by decide) (q := 16) rfl ?_
    refine gs_21 C dL_isTangled_16 (q := 17) rfl ?_
    refine g_goto C dL_isTangled_17 (q := 24) rfl ?_
    refine g_iconst C dL_isTangled_24 (q := 25) rfl ?_
    refine g_st (σ2 := (st σ 21 (pt (σ 21) 0 (iT (σ 2) r p)))) (by first | rw [show iT (σ 2) r p = 0 by omega] | rw [show iT (σ 2) r p = 1 by omega]) ?_
    exact hret _ _ _ _ _ (Nat.le_of_ble_eq_true rfl) (Nat.le_of_ble_eq_true rfl) dL_isTangled_25 rfl
  · skip
    refine g_lconst C (y := 1) dL_isTangled_11 (by decide) (q := 12) rfl ?_
    refine g_goto C dL_isTangled_12 (q := 16) rfl ?_
    refine gs_21 C dL_isTangled_16 (q := 17) rfl ?_
    refine g_goto C dL_isTangled_17 (q := 24) rfl ?_
    refine g_iconst C dL_isTangled_24 (q := 25) rfl ?_
    refine g_st (σ2 := (st σ 21 (pt (σ 21) 0 (iT (σ 2) r p)))) (by first | rw [show iT (σ 2) r p = 0 by omega] | rw [show iT (σ 2) r p = 1 by omega]) ?_
    exact hret _ _ _ _ _ (Nat.le_of_ble_eq_true rfl) (Nat.le_of_ble_eq_true rfl) dL_isTangled_25 rfl
set_option maxRecDepth 100000 in
set_option maxHeartbeats 4000000 in
theorem c_L_isTangled_11 (l : Launch) (hst : l.stackTraces = false) (E : EV) (σ : SS) (r p : Int) (hr_r : -2147483648 ≤ r ∧ r ≤ 2147483647) (hr_p : -2147483648 ≤ p ∧ p ≤ 2147483647) (hW : CW (σ 2)) (hF1 : fP (σ 2) r p = 1) : KL l yL_isTangled (cwh yL_isTangled cL_isTangled 5 (some .int) th_L_isTangled) rm_L_isTangled E [.ref (ea E 0), .int (iI r), .int (iI p), .ref (ea E 21)] σ 1 σ := by
  refine KL_of (rm := rm_L_isTangled) (mL := 5) (b := cL_isTangled) RL rfl (by decide +kernel) [(0, .ref (ea E 0)), (1, .int (iI r)), (2, .int (iI p)), (3, .ref (ea E 21))] rfl (Nat.le_of_ble_eq_true rfl) (fun p_ e_ s_ m_ a_ b_ h_ c_ Q A C htab hret => ?_)
  refine g_aload_n C dL_isTangled_0 3 rfl rfl (q := 1) rfl ?_
  refine g_iconst C dL_isTangled_1 (q := 2) rfl ?_
  refine g_aload_n C dL_isTangled_2 0 rfl rfl (q := 3) rfl ?_
  refine g_iload_n C dL_isTangled_3 1 rfl rfl (q := 4) rfl ?_
  refine g_iload_n C dL_isTangled_4 2 rfl rfl (q := 5) rfl ?_
  refine g_xVc C (As := [.int (iI r), .int (iI p)]) (x_X4_isTangled_11 l hst E _ r p  (by assumption) (by assumption) (by assumption) (by assumption)) ml_L_84 mf_X4_isTangled (o := 0) (ci := 4) rfl rfl rfl rfl ⟨(Nat.le_of_ble_eq_true rfl), (Nat.le_of_ble_eq_true rfl)⟩ rfl rfl rfl (Nat.le_of_ble_eq_true rfl) ⟨(Nat.le_of_ble_eq_true rfl), (Nat.le_of_ble_eq_true rfl)⟩ dL_isTangled_5 [] ({ startPc := 0, endPc := 17, handlerPc := 20, catchType := 13 }) [] htab (fun _ h => absurd h List.not_mem_nil) (by decide) (by decide) xl_13 xc_IOOBE (q := 20) rfl (fun q9 => ?_)
  refine g_astore C (L' := [(4, .ref q9), (0, .ref (ea E 0)), (1, .int (iI r)), (2, .int (iI p)), (3, .ref (ea E 21))]) dL_isTangled_20 (by decide) rfl (q := 22) rfl ?_
  refine g_iconst C dL_isTangled_22 (q := 23) rfl ?_
  exact hret _ _ _ _ _ (Nat.le_of_ble_eq_true rfl) (Nat.le_of_ble_eq_true rfl) dL_isTangled_23 rfl
abbrev rm_L_longestRun : Room := { frames := 8, cells := 1, slots := 6, locals := 132 }
set_option maxRecDepth 100000 in
set_option maxHeartbeats 4000000 in
theorem c_L_longestRun (l : Launch) (hst : l.stackTraces = false) (E : EV) (σ : SS) (r : Int) (hr_r : -2147483648 ≤ r ∧ r ≤ 2147483647) (hW : CW (σ 2)) (hF1 : fR r = 0) : KL l yL_longestRun (cwh yL_longestRun cL_longestRun 4 (some .int) th_L_longestRun) rm_L_longestRun E [.ref (ea E 0), .int (iI r), .ref (ea E 21)] σ 0 (st σ 21 (pt (σ 21) 0 (wr (lrI (tg (σ 2) r) 0 0 0 ((σ 2) (240 + r)))))) := by
  refine KL_of (rm := rm_L_longestRun) (mL := 4) (b := cL_longestRun) RL rfl (by decide +kernel) [(0, .ref (ea E 0)), (1, .int (iI r)), (2, .ref (ea E 21))] rfl (Nat.le_of_ble_eq_true rfl) (fun p_ e_ s_ m_ a_ b_ h_ c_ Q A C htab hret => ?_)
  refine g_aload_n C dL_longestRun_0 2 rfl rfl (q := 1) rfl ?_
  refine g_iconst C dL_longestRun_1 (q := 2) rfl ?_
  refine g_aload_n C dL_longestRun_2 0 rfl rfl (q := 3) rfl ?_
  refine g_iload_n C dL_longestRun_3 1 rfl rfl (q := 4) rfl ?_
  refine g_cV_i C (As := [.int (iI r)]) (c_X4_longestRun l E _ r  (by assumption) (by assumption) (by assumption)) ml_L_88 mf_X4_longestRun (o := 0) (ci := 4) rfl rfl rfl rfl ⟨(Nat.le_of_ble_eq_true rfl), (Nat.le_of_ble_eq_true rfl)⟩ rfl rfl rfl (Nat.le_of_ble_eq_true rfl) ⟨(Nat.le_of_ble_eq_true rfl), (Nat.le_of_ble_eq_true rfl)⟩ dL_longestRun_4 (q := 7) rfl ?_
  refine g_i2lw C dL_longestRun_7 (q := 8) rfl ?_
  refine gs_21 C dL_longestRun_8 (q := 9) rfl ?_
  refine g_goto C dL_longestRun_9 (q := 15) rfl ?_
  refine g_iconst C dL_longestRun_15 (q := 16) rfl ?_
  exact hret _ _ _ _ _ (Nat.le_of_ble_eq_true rfl) (Nat.le_of_ble_eq_true rfl) dL_longestRun_16 rfl
set_option maxRecDepth 100000 in
set_option maxHeartbeats 4000000 in
theorem c_L_longestRun_11 (l : Launch) (hst : l.stackTraces = false) (E : EV) (σ : SS) (r : Int) (hr_r : -2147483648 ≤ r ∧ r ≤ 2147483647) (hW : CW (σ 2)) (hF1 : fR r = 1) : KL l yL_longestRun (cwh yL_longestRun cL_longestRun 4 (some .int) th_L_longestRun) rm_L_longestRun E [.ref (ea E 0), .int (iI r), .ref (ea E 21)] σ 1 σ := by
  refine KL_of (rm := rm_L_longestRun) (mL := 4) (b := cL_longestRun) RL rfl (by decide +kernel) [(0, .ref (ea E 0)), (1, .int (iI r)), (2, .ref (ea E 21))] rfl (Nat.le_of_ble_eq_true rfl) (fun p_ e_ s_ m_ a_ b_ h_ c_ Q A C htab hret => ?_)
  refine g_aload_n C dL_longestRun_0 2 rfl rfl (q := 1) rfl ?_
  refine g_iconst C dL_longestRun_1 (q := 2) rfl ?_
  refine g_aload_n C dL_longestRun_2 0 rfl rfl (q := 3) rfl ?_
  refine g_iload_n C dL_longestRun_3 1 rfl rfl (q := 4) rfl ?_
  refine g_xVc C (As := [.int (iI r)]) (x_X4_longestRun_11 l hst E _ r  (by assumption) (by assumption) (by assumption)) ml_L_88 mf_X4_longestRun (o := 0) (ci := 4) rfl rfl rfl rfl ⟨(Nat.le_of_ble_eq_true rfl), (Nat.le_of_ble_eq_true rfl)⟩ rfl rfl rfl (Nat.le_of_ble_eq_true rfl) ⟨(Nat.le_of_ble_eq_true rfl), (Nat.le_of_ble_eq_true rfl)⟩ dL_longestRun_4 [] ({ startPc := 0, endPc := 9, handlerPc := 12, catchType := 13 }) [] htab (fun _ h => absurd h List.not_mem_nil) (by decide) (by decide) xl_13 xc_IOOBE (q := 12) rfl (fun q9 => ?_)
  refine g_astore_n C (L' := [(3, .ref q9), (0, .ref (ea E 0)), (1, .int (iI r)), (2, .ref (ea E 21))]) dL_longestRun_12 rfl (by decide) rfl (q := 13) rfl ?_
  refine g_iconst C dL_longestRun_13 (q := 14) rfl ?_
  exact hret _ _ _ _ _ (Nat.le_of_ble_eq_true rfl) (Nat.le_of_ble_eq_true rfl) dL_longestRun_14 rfl
abbrev rm_L_nextOfColour : Room := { frames := 8, cells := 1, slots := 6, locals := 125 }
set_option maxRecDepth 100000 in
set_option maxHeartbeats 4000000 in
theorem c_L_nextOfColour (l : Launch) (hst : l.stackTraces = false) (E : EV) (σ : SS) (r p c : Int) (hr_r : -2147483648 ≤ r ∧ r ≤ 2147483647) (hr_p : -2147483648 ≤ p ∧ p ≤ 2147483647) (hr_c : -2147483648 ≤ c ∧ c ≤ 2147483647) (hW : CW (σ 2)) (hF1 : fP (σ 2) r p = 0) (hF2 : fC c = 0) (hne : fI (coP (σ 2) r c) p ((σ 2) (240 + r)) ≠ -1) : KL l yL_nextOfColour (cwh yL_nextOfColour cL_nextOfColour 6 (some .int) th_L_nextOfColour) rm_L_nextOfColour E [.ref (ea E 0), .int (iI r), .int (iI p), .int (iI c), .ref (ea E 21)] σ 0 (st σ 21 (pt (σ 21) 0 (wr (fI (coP (σ 2) r c) p ((σ 2) (240 + r)))))) := by
  refine KL_of (rm := rm_L_nextOfColour) (mL := 6) (b := cL_nextOfColour) RL rfl (by decide +kernel) [(0, .ref (ea E 0)), (1, .int (iI r)), (2, .int (iI p)), (3, .int (iI c)), (4, .ref (ea E 21))] rfl (Nat.le_of_ble_eq_true rfl) (fun p_ e_ s_ m_ a_ b_ h_ c_ Q A C htab hret => ?_)
  refine g_aload C dL_nextOfColour_0 4 rfl (q := 2) rfl ?_
  refine g_iconst C dL_nextOfColour_2 (q := 3) rfl ?_
  refine g_aload_n C dL_nextOfColour_3 0 rfl rfl (q := 4) rfl ?_
  refine g_iload_n C dL_nextOfColour_4 1 rfl rfl (q := 5) rfl ?_
  refine g_iload_n C dL_nextOfColour_5 2 rfl rfl (q := 6) rfl ?_
  refine g_iload_n C dL_nextOfColour_6 3 rfl rfl (q := 7) rfl ?_
  refine g_cV_i C (As := [.int (iI r), .int (iI p), .int (iI c)]) (c_X4_nextOfColour l E _ r p c  (by assumption) (by assumption) (by assumption) (by assumption) (by assumption) (by assumption) (by assumption)) ml_L_91 mf_X4_nextOfColour (o := 0) (ci := 4) rfl rfl rfl rfl ⟨(Nat.le_of_ble_eq_true rfl), (Nat.le_of_ble_eq_true rfl)⟩ rfl rfl rfl (Nat.le_of_ble_eq_true rfl) ⟨(Nat.le_of_ble_eq_true rfl), (Nat.le_of_ble_eq_true rfl)⟩ dL_nextOfColour_7 (q := 10) rfl ?_
  refine g_i2lw C dL_nextOfColour_10 (q := 11) rfl ?_
  refine gs_21 C dL_nextOfColour_11 (q := 12) rfl ?_
  refine g_goto C dL_nextOfColour_12 (q := 27) rfl ?_
  refine g_iconst C dL_nextOfColour_27 (q := 28) rfl ?_
  exact hret _ _ _ _ _ (Nat.le_of_ble_eq_true rfl) (Nat.le_of_ble_eq_true rfl) dL_nextOfColour_28 rfl
set_option maxRecDepth 100000 in
set_option maxHeartbeats 4000000 in
theorem c_L_nextOfColour_11 (l : Launch) (hst : l.stackTraces = false) (E : EV) (σ : SS) (r p c : Int) (hr_r : -2147483648 ≤ r ∧ r ≤ 2147483647) (hr_p : -2147483648 ≤ p ∧ p ≤ 2147483647) (hr_c : -2147483648 ≤ c ∧ c ≤ 2147483647) (hW : CW (σ 2)) (hF1 : fP (σ 2) r p = 1) : KL l yL_nextOfColour (cwh yL_nextOfColour cL_nextOfColour 6 (some .int) th_L_nextOfColour) rm_L_nextOfColour E [.ref (ea E 0), .int (iI r), .int (iI p), .int (iI c), .ref (ea E 21)] σ 1 σ := by
  refine KL_of (rm := rm_L_nextOfColour) (mL := 6) (b := cL_nextOfColour) RL rfl (by decide +kernel) [(0, .ref (ea E 0)), (1, .int (iI r)), (2, .int (iI p)), (3, .int (iI c)), (4, .ref (ea E 21))] rfl (Nat.le_of_ble_eq_true rfl) (fun p_ e_ s_ m_ a_ b_ h_ c_ Q A C htab hret => ?_)
  refine g_aload C dL_nextOfColour_0 4 rfl (q := 2) rfl ?_
  refine g_iconst C dL_nextOfColour_2 (q := 3) rfl ?_
  refine g_aload_n C dL_nextOfColour_3 0 rfl rfl (q := 4) rfl ?_
  refine g_iload_n C dL_nextOfColour_4 1 rfl rfl (q := 5) rfl ?_
  refine g_iload_n C dL_nextOfColour_5 2 rfl rfl (q := 6) rfl ?_
  refine g_iload_n C dL_nextOfColour_6 3 rfl rfl (q := 7) rfl ?_
  refine g_xVc C (As := [.int (iI r), .int (iI p), .int (iI c)]) (x_X4_nextOfColour_11 l hst E _ r p c  (by assumption) (by assumption) (by assumption) (by assumption) (by assumption)) ml_L_91 mf_X4_nextOfColour (o := 0) (ci := 4) rfl rfl rfl rfl ⟨(Nat.le_of_ble_eq_true rfl), (Nat.le_of_ble_eq_true rfl)⟩ rfl rfl rfl (Nat.le_of_ble_eq_true rfl) ⟨(Nat.le_of_ble_eq_true rfl), (Nat.le_of_ble_eq_true rfl)⟩ dL_nextOfColour_7 [] ({ startPc := 0, endPc := 12, handlerPc := 15, catchType := 13 }) [{ startPc := 0, endPc := 12, handlerPc := 19, catchType := 15 }, { startPc := 0, endPc := 12, handlerPc := 23, catchType := 67 }] htab (fun _ h => absurd h List.not_mem_nil) (by decide) (by decide) xl_13 xc_IOOBE (q := 15) rfl (fun q9 => ?_)
  refine g_astore C (L' := [(5, .ref q9), (0, .ref (ea E 0)), (1, .int (iI r)), (2, .int (iI p)), (3, .int (iI c)), (4, .ref (ea E 21))]) dL_nextOfColour_15 (by decide) rfl (q := 17) rfl ?_
  refine g_iconst C dL_nextOfColour_17 (q := 18) rfl ?_
  exact hret _ _ _ _ _ (Nat.le_of_ble_eq_true rfl) (Nat.le_of_ble_eq_true rfl) dL_nextOfColour_18 rfl
set_option maxRecDepth 100000 in
set_option maxHeartbeats 4000000 in
theorem c_L_nextOfColour_22 (l : Launch) (hst : l.stackTraces = false) (E : EV) (σ : SS) (r p c : Int) (hr_r : -2147483648 ≤ r ∧ r ≤ 2147483647) (hr_p : -2147483648 ≤ p ∧ p ≤ 2147483647) (hr_c : -2147483648 ≤ c ∧ c ≤ 2147483647) (hW : CW (σ 2)) (hF1 : fP (σ 2) r p = 0) (hF2 : fC c = 2) : KL l yL_nextOfColour (cwh yL_nextOfColour cL_nextOfColour 6 (some .int) th_L_nextOfColour) rm_L_nextOfColour E [.ref (ea E 0), .int (iI r), .int (iI p), .int (iI c), .ref (ea E 21)] σ 2 σ := by
  refine KL_of (rm := rm_L_nextOfColour) (mL := 6) (b := cL_nextOfColour) RL rfl (by decide +kernel) [(0, .ref (ea E 0)), (1, .int (iI r)), (2, .int (iI p)), (3, .int (iI c)), (4, .ref (ea E 21))] rfl (Nat.le_of_ble_eq_true rfl) (fun p_ e_ s_ m_ a_ b_ h_ c_ Q A C htab hret => ?_)
  refine g_aload C dL_nextOfColour_0 4 rfl (q := 2) rfl ?_
  refine g_iconst C dL_nextOfColour_2 (q := 3) rfl ?_
  refine g_aload_n C dL_nextOfColour_3 0 rfl rfl (q := 4) rfl ?_
  refine g_iload_n C dL_nextOfColour_4 1 rfl rfl (q := 5) rfl ?_
  refine g_iload_n C dL_nextOfColour_5 2 rfl rfl (q := 6) rfl ?_
  refine g_iload_n C dL_nextOfColour_6 3 rfl rfl (q := 7) rfl ?_
  refine g_xVc C (As := [.int (iI r), .int (iI p), .int (iI c)]) (x_X4_nextOfColour_22 l hst E _ r p c  (by assumption) (by assumption) (by assumption) (by assumption) (by assumption) (by assumption)) ml_L_91 mf_X4_nextOfColour (o := 0) (ci := 4) rfl rfl rfl rfl ⟨(Nat.le_of_ble_eq_true rfl), (Nat.le_of_ble_eq_true rfl)⟩ rfl rfl rfl (Nat.le_of_ble_eq_true rfl) ⟨(Nat.le_of_ble_eq_true rfl), (Nat.le_of_ble_eq_true rfl)⟩ dL_nextOfColour_7 [{ startPc := 0, endPc := 12, handlerPc := 15, catchType := 13 }] ({ startPc := 0, endPc := 12, handlerPc := 19, catchType := 15 }) [{ startPc := 0, endPc := 12, handlerPc := 23, catchType := 67 }] htab (List.forall_mem_cons.mpr ⟨Or.inr ⟨by decide, xIOOBE, xl_13, (by simp [ncs])⟩, fun _ h => absurd h List.not_mem_nil⟩) (by decide) (by decide) xl_15 xc_IAE (q := 19) rfl (fun q9 => ?_)
  refine g_astore C (L' := [(5, .ref q9), (0, .ref (ea E 0)), (1, .int (iI r)), (2, .int (iI p)), (3, .int (iI c)), (4, .ref (ea E 21))]) dL_nextOfColour_19 (by decide) rfl (q := 21) rfl ?_
  refine g_iconst C dL_nextOfColour_21 (q := 22) rfl ?_
  exact hret _ _ _ _ _ (Nat.le_of_ble_eq_true rfl) (Nat.le_of_ble_eq_true rfl) dL_nextOfColour_22 rfl
set_option maxRecDepth 100000 in
set_option maxHeartbeats 4000000 in
theorem c_L_nextOfColour_n (l : Launch) (hst : l.stackTraces = false) (E : EV) (σ : SS) (r p c : Int) (hr_r : -2147483648 ≤ r ∧ r ≤ 2147483647) (hr_p : -2147483648 ≤ p ∧ p ≤ 2147483647) (hr_c : -2147483648 ≤ c ∧ c ≤ 2147483647) (hW : CW (σ 2)) (hF1 : fP (σ 2) r p = 0) (hF2 : fC c = 0) (hne : fI (coP (σ 2) r c) p ((σ 2) (240 + r)) = -1) : KL l yL_nextOfColour (cwh yL_nextOfColour cL_nextOfColour 6 (some .int) th_L_nextOfColour) rm_L_nextOfColour E [.ref (ea E 0), .int (iI r), .int (iI p), .int (iI c), .ref (ea E 21)] σ 3 σ := by
  refine KL_of (rm := rm_L_nextOfColour) (mL := 6) (b := cL_nextOfColour) RL rfl (by decide +kernel) [(0, .ref (ea E 0)), (1, .int (iI r)), (2, .int (iI p)), (3, .int (iI c)), (4, .ref (ea E 21))] rfl (Nat.le_of_ble_eq_true rfl) (fun p_ e_ s_ m_ a_ b_ h_ c_ Q A C htab hret => ?_)
  refine g_aload C dL_nextOfColour_0 4 rfl (q := 2) rfl ?_
  refine g_iconst C dL_nextOfColour_2 (q := 3) rfl ?_
  refine g_aload_n C dL_nextOfColour_3 0 rfl rfl (q := 4) rfl ?_
  refine g_iload_n C dL_nextOfColour_4 1 rfl rfl (q := 5) rfl ?_
  refine g_iload_n C dL_nextOfColour_5 2 rfl rfl (q := 6) rfl ?_
  refine g_iload_n C dL_nextOfColour_6 3 rfl rfl (q := 7) rfl ?_
  refine g_xVc C (As := [.int (iI r), .int (iI p), .int (iI c)]) (x_X4_nextOfColour_n l hst E _ r p c  (by assumption) (by assumption) (by assumption) (by assumption) (by assumption) (by assumption) (by assumption)) ml_L_91 mf_X4_nextOfColour (o := 0) (ci := 4) rfl rfl rfl rfl ⟨(Nat.le_of_ble_eq_true rfl), (Nat.le_of_ble_eq_true rfl)⟩ rfl rfl rfl (Nat.le_of_ble_eq_true rfl) ⟨(Nat.le_of_ble_eq_true rfl), (Nat.le_of_ble_eq_true rfl)⟩ dL_nextOfColour_7 [{ startPc := 0, endPc := 12, handlerPc := 15, catchType := 13 }, { startPc := 0, endPc := 12, handlerPc := 19, catchType := 15 }] ({ startPc := 0, endPc := 12, handlerPc := 23, catchType := 67 }) [] htab (List.forall_mem_cons.mpr ⟨Or.inr ⟨by decide, xIOOBE, xl_13, (by simp [ncs])⟩, List.forall_mem_cons.mpr ⟨Or.inr ⟨by decide, xIAE, xl_15, (by simp [ncs])⟩, fun _ h => absurd h List.not_mem_nil⟩⟩) (by decide) (by decide) xl_67 xc_NSEE (q := 23) rfl (fun q9 => ?_)
  refine g_astore C (L' := [(5, .ref q9), (0, .ref (ea E 0)), (1, .int (iI r)), (2, .int (iI p)), (3, .int (iI c)), (4, .ref (ea E 21))]) dL_nextOfColour_23 (by decide) rfl (q := 25) rfl ?_
  refine g_iconst C dL_nextOfColour_25 (q := 26) rfl ?_
  exact hret _ _ _ _ _ (Nat.le_of_ble_eq_true rfl) (Nat.le_of_ble_eq_true rfl) dL_nextOfColour_26 rfl
abbrev rm_L_colourLength : Room := { frames := 8, cells := 1, slots := 6, locals := 124 }
set_option maxRecDepth 100000 in
set_option maxHeartbeats 4000000 in
theorem c_L_colourLength (l : Launch) (hst : l.stackTraces = false) (E : EV) (σ : SS) (r c : Int) (hr_r : -2147483648 ≤ r ∧ r ≤ 2147483647) (hr_c : -2147483648 ≤ c ∧ c ≤ 2147483647) (hW : CW (σ 2)) (hF1 : fR r = 0) (hF2 : fC c = 0) : KL l yL_colourLength (cwh yL_colourLength cL_colourLength 5 (some .int) th_L_colourLength) rm_L_colourLength E [.ref (ea E 0), .int (iI r), .int (iI c), .ref (ea E 21)] σ 0 (st σ 21 (pt (σ 21) 0 (wr (sc (σ 2) r c)))) := by
  refine KL_of (rm := rm_L_colourLength) (mL := 5) (b := cL_colourLength) RL rfl (by decide +kernel) [(0, .ref (ea E 0)), (1, .int (iI r)), (2, .int (iI c)), (3, .ref (ea E 21))] rfl (Nat.le_of_ble_eq_true rfl) (fun p_ e_ s_ m_ a_ b_ h_ c_ Q A C htab hret => ?_)
  refine g_aload_n C dL_colourLength_0 3 rfl rfl (q := 1) rfl ?_
  refine g_iconst C dL_colourLength_1 (q := 2) rfl ?_
  refine g_aload_n C dL_colourLength_2 0 rfl rfl (q := 3) rfl ?_
  refine g_iload_n C dL_colourLength_3 1 rfl rfl (q := 4) rfl ?_
  refine g_iload_n C dL_colourLength_4 2 rfl rfl (q := 5) rfl ?_
  refine g_cV_i C (As := [.int (iI r), .int (iI c)]) (c_X4_colourLength l E _ r c  (by assumption) (by assumption) (by assumption) (by assumption) (by assumption)) ml_L_94 mf_X4_colourLength (o := 0) (ci := 4) rfl rfl rfl rfl ⟨(Nat.le_of_ble_eq_true rfl), (Nat.le_of_ble_eq_true rfl)⟩ rfl rfl rfl (Nat.le_of_ble_eq_true rfl) ⟨(Nat.le_of_ble_eq_true rfl), (Nat.le_of_ble_eq_true rfl)⟩ dL_colourLength_5 (q := 8) rfl ?_
  refine g_i2lw C dL_colourLength_8 (q := 9) rfl ?_
  refine gs_21 C dL_colourLength_9 (q := 10) rfl ?_
  refine g_goto C dL_colourLength_10 (q := 21) rfl ?_
  refine g_iconst C dL_colourLength_21 (q := 22) rfl ?_
  exact hret _ _ _ _ _ (Nat.le_of_ble_eq_true rfl) (Nat.le_of_ble_eq_true rfl) dL_colourLength_22 rfl
set_option maxRecDepth 100000 in
set_option maxHeartbeats 4000000 in
theorem c_L_colourLength_11 (l : Launch) (hst : l.stackTraces = false) (E : EV) (σ : SS) (r c : Int) (hr_r : -2147483648 ≤ r ∧ r ≤ 2147483647) (hr_c : -2147483648 ≤ c ∧ c ≤ 2147483647) (hW : CW (σ 2)) (hF1 : fR r = 1) : KL l yL_colourLength (cwh yL_colourLength cL_colourLength 5 (some .int) th_L_colourLength) rm_L_colourLength E [.ref (ea E 0), .int (iI r), .int (iI c), .ref (ea E 21)] σ 1 σ := by
  refine KL_of (rm := rm_L_colourLength) (mL := 5) (b := cL_colourLength) RL rfl (by decide +kernel) [(0, .ref (ea E 0)), (1, .int (iI r)), (2, .int (iI c)), (3, .ref (ea E 21))] rfl (Nat.le_of_ble_eq_true rfl) (fun p_ e_ s_ m_ a_ b_ h_ c_ Q A C htab hret => ?_)
  refine g_aload_n C dL_colourLength_0 3 rfl rfl (q := 1) rfl ?_
  refine g_iconst C dL_colourLength_1 (q := 2) rfl ?_
  refine g_aload_n C dL_colourLength_2 0 rfl rfl (q := 3) rfl ?_
  refine g_iload_n C dL_colourLength_3 1 rfl rfl (q := 4) rfl ?_
  refine g_iload_n C dL_colourLength_4 2 rfl rfl (q := 5) rfl ?_
  refine g_xVc C (As := [.int (iI r), .int (iI c)]) (x_X4_colourLength_11 l hst E _ r c  (by assumption) (by assumption) (by assumption) (by assumption)) ml_L_94 mf_X4_colourLength (o := 0) (ci := 4) rfl rfl rfl rfl ⟨(Nat.le_of_ble_eq_true rfl), (Nat.le_of_ble_eq_true rfl)⟩ rfl rfl rfl (Nat.le_of_ble_eq_true rfl) ⟨(Nat.le_of_ble_eq_true rfl), (Nat.le_of_ble_eq_true rfl)⟩ dL_colourLength_5 [] ({ startPc := 0, endPc := 10, handlerPc := 13, catchType := 13 }) [{ startPc := 0, endPc := 10, handlerPc := 17, catchType := 15 }] htab (fun _ h => absurd h List.not_mem_nil) (by decide) (by decide) xl_13 xc_IOOBE (q := 13) rfl (fun q9 => ?_)
  refine g_astore C (L' := [(4, .ref q9), (0, .ref (ea E 0)), (1, .int (iI r)), (2, .int (iI c)), (3, .ref (ea E 21))]) dL_colourLength_13 (by decide) rfl (q := 15) rfl ?_
  refine g_iconst C dL_colourLength_15 (q := 16) rfl ?_
  exact hret _ _ _ _ _ (Nat.le_of_ble_eq_true rfl) (Nat.le_of_ble_eq_true rfl) dL_colourLength_16 rfl
set_option maxRecDepth 100000 in
set_option maxHeartbeats 4000000 in
theorem c_L_colourLength_22 (l : Launch) (hst : l.stackTraces = false) (E : EV) (σ : SS) (r c : Int) (hr_r : -2147483648 ≤ r ∧ r ≤ 2147483647) (hr_c : -2147483648 ≤ c ∧ c ≤ 2147483647) (hW : CW (σ 2)) (hF1 : fR r = 0) (hF2 : fC c = 2) : KL l yL_colourLength (cwh yL_colourLength cL_colourLength 5 (some .int) th_L_colourLength) rm_L_colourLength E [.ref (ea E 0), .int (iI r), .int (iI c), .ref (ea E 21)] σ 2 σ := by
  refine KL_of (rm := rm_L_colourLength) (mL := 5) (b := cL_colourLength) RL rfl (by decide +kernel) [(0, .ref (ea E 0)), (1, .int (iI r)), (2, .int (iI c)), (3, .ref (ea E 21))] rfl (Nat.le_of_ble_eq_true rfl) (fun p_ e_ s_ m_ a_ b_ h_ c_ Q A C htab hret => ?_)
  refine g_aload_n C dL_colourLength_0 3 rfl rfl (q := 1) rfl ?_
  refine g_iconst C dL_colourLength_1 (q := 2) rfl ?_
  refine g_aload_n C dL_colourLength_2 0 rfl rfl (q := 3) rfl ?_
  refine g_iload_n C dL_colourLength_3 1 rfl rfl (q := 4) rfl ?_
  refine g_iload_n C dL_colourLength_4 2 rfl rfl (q := 5) rfl ?_
  refine g_xVc C (As := [.int (iI r), .int (iI c)]) (x_X4_colourLength_22 l hst E _ r c  (by assumption) (by assumption) (by assumption) (by assumption) (by assumption)) ml_L_94 mf_X4_colourLength (o := 0) (ci := 4) rfl rfl rfl rfl ⟨(Nat.le_of_ble_eq_true rfl), (Nat.le_of_ble_eq_true rfl)⟩ rfl rfl rfl (Nat.le_of_ble_eq_true rfl) ⟨(Nat.le_of_ble_eq_true rfl), (Nat.le_of_ble_eq_true rfl)⟩ dL_colourLength_5 [{ startPc := 0, endPc := 10, handlerPc := 13, catchType := 13 }] ({ startPc := 0, endPc := 10, handlerPc := 17, catchType := 15 }) [] htab (List.forall_mem_cons.mpr ⟨Or.inr ⟨by decide, xIOOBE, xl_13, (by simp [ncs])⟩, fun _ h => absurd h List.not_mem_nil⟩) (by decide) (by decide) xl_15 xc_IAE (q := 17) rfl (fun q9 => ?_)
  refine g_astore C (L' := [(4, .ref q9), (0, .ref (ea E 0)), (1, .int (iI r)), (2, .int (iI c)), (3, .ref (ea E 21))]) dL_colourLength_17 (by decide) rfl (q := 19) rfl ?_
  refine g_iconst C dL_colourLength_19 (q := 20) rfl ?_
  exact hret _ _ _ _ _ (Nat.le_of_ble_eq_true rfl) (Nat.le_of_ble_eq_true rfl) dL_colourLength_20 rfl
abbrev rm_L_colourAtRank : Room := { frames := 8, cells := 1, slots := 6, locals := 161 }
set_option maxRecDepth 100000 in
set_option maxHeartbeats 4000000 in
theorem c_L_colourAtRank (l : Launch) (hst : l.stackTraces = false) (E : EV) (σ : SS) (r p : Int) (hr_r : -2147483648 ≤ r ∧ r ≤ 2147483647) (hr_p : -2147483648 ≤ p ∧ p ≤ 2147483647) (hW : CW (σ 2)) (hF1 : fR r = 0) (hne : fI (rcP (σ 2) r p) 0 8 ≠ -1) : KL l yL_colourAtRank (cwh yL_colourAtRank cL_colourAtRank 5 (some .int) th_L_colourAtRank) rm_L_colourAtRank E [.ref (ea E 0), .int (iI r), .int (iI p), .ref (ea E 21)] σ 0 (st σ 21 (pt (σ 21) 0 (wr (fI (rcP (σ 2) r p) 0 8)))) := by
  refine KL_of (rm := rm_L_colourAtRank) (mL := 5) (b := cL_colourAtRank) RL rfl (by decide +kernel) [(0, .ref (ea E 0)), (1, .int (iI r)), (2, .int (iI p)), (3, .ref (ea E 21))] rfl (Nat.le_of_ble_eq_true rfl) (fun p_ e_ s_ m_ a_ b_ h_ c_ Q A C htab hret => ?_)
  refine g_aload_n C dL_colourAtRank_0 3 rfl rfl (q := 1) rfl ?_
  refine g_iconst C dL_colourAtRank_1 (q := 2) rfl ?_
  refine g_aload_n C dL_colourAtRank_2 0 rfl rfl (q := 3) rfl ?_
  refine g_iload_n C dL_colourAtRank_3 1 rfl rfl (q := 4) rfl ?_
  refine g_iload_n C dL_colourAtRank_4 2 rfl rfl (q := 5) rfl ?_
  refine g_cV_i C (As := [.int (iI r), .int (iI p)]) (c_X4_colourAtRank l E _ r p  (by assumption) (by assumption) (by assumption) (by assumption) (by assumption)) ml_L_97 mf_X4_colourAtRank (o := 0) (ci := 4) rfl rfl rfl rfl ⟨(Nat.le_of_ble_eq_true rfl), (Nat.le_of_ble_eq_true rfl)⟩ rfl rfl rfl (Nat.le_of_ble_eq_true rfl) ⟨(Nat.le_of_ble_eq_true rfl), (Nat.le_of_ble_eq_true rfl)⟩ dL_colourAtRank_5 (q := 8) rfl ?_
  refine g_i2lw C dL_colourAtRank_8 (q := 9) rfl ?_
  refine gs_21 C dL_colourAtRank_9 (q := 10) rfl ?_
  refine g_goto C dL_colourAtRank_10 (q := 21) rfl ?_
  refine g_iconst C dL_colourAtRank_21 (q := 22) rfl ?_
  exact hret _ _ _ _ _ (Nat.le_of_ble_eq_true rfl) (Nat.le_of_ble_eq_true rfl) dL_colourAtRank_22 rfl
set_option maxRecDepth 100000 in
set_option maxHeartbeats 4000000 in
theorem c_L_colourAtRank_11 (l : Launch) (hst : l.stackTraces = false) (E : EV) (σ : SS) (r p : Int) (hr_r : -2147483648 ≤ r ∧ r ≤ 2147483647) (hr_p : -2147483648 ≤ p ∧ p ≤ 2147483647) (hW : CW (σ 2)) (hF1 : fR r = 1) : KL l yL_colourAtRank (cwh yL_colourAtRank cL_colourAtRank 5 (some .int) th_L_colourAtRank) rm_L_colourAtRank E [.ref (ea E 0), .int (iI r), .int (iI p), .ref (ea E 21)] σ 1 σ := by
  refine KL_of (rm := rm_L_colourAtRank) (mL := 5) (b := cL_colourAtRank) RL rfl (by decide +kernel) [(0, .ref (ea E 0)), (1, .int (iI r)), (2, .int (iI p)), (3, .ref (ea E 21))] rfl (Nat.le_of_ble_eq_true rfl) (fun p_ e_ s_ m_ a_ b_ h_ c_ Q A C htab hret => ?_)
  refine g_aload_n C dL_colourAtRank_0 3 rfl rfl (q := 1) rfl ?_
  refine g_iconst C dL_colourAtRank_1 (q := 2) rfl ?_
  refine g_aload_n C dL_colourAtRank_2 0 rfl rfl (q := 3) rfl ?_
  refine g_iload_n C dL_colourAtRank_3 1 rfl rfl (q := 4) rfl ?_
  refine g_iload_n C dL_colourAtRank_4 2 rfl rfl (q := 5) rfl ?_
  refine g_xVc C (As := [.int (iI r), .int (iI p)]) (x_X4_colourAtRank_11 l hst E _ r p  (by assumption) (by assumption) (by assumption) (by assumption)) ml_L_97 mf_X4_colourAtRank (o := 0) (ci := 4) rfl rfl rfl rfl ⟨(Nat.le_of_ble_eq_true rfl), (Nat.le_of_ble_eq_true rfl)⟩ rfl rfl rfl (Nat.le_of_ble_eq_true rfl) ⟨(Nat.le_of_ble_eq_true rfl), (Nat.le_of_ble_eq_true rfl)⟩ dL_colourAtRank_5 [] ({ startPc := 0, endPc := 10, handlerPc := 13, catchType := 13 }) [{ startPc := 0, endPc := 10, handlerPc := 17, catchType := 67 }] htab (fun _ h => absurd h List.not_mem_nil) (by decide) (by decide) xl_13 xc_IOOBE (q := 13) rfl (fun q9 => ?_)
  refine g_astore C (L' := [(4, .ref q9), (0, .ref (ea E 0)), (1, .int (iI r)), (2, .int (iI p)), (3, .ref (ea E 21))]) dL_colourAtRank_13 (by decide) rfl (q := 15) rfl ?_
  refine g_iconst C dL_colourAtRank_15 (q := 16) rfl ?_
  exact hret _ _ _ _ _ (Nat.le_of_ble_eq_true rfl) (Nat.le_of_ble_eq_true rfl) dL_colourAtRank_16 rfl
set_option maxRecDepth 100000 in
set_option maxHeartbeats 4000000 in
theorem c_L_colourAtRank_n (l : Launch) (hst : l.stackTraces = false) (E : EV) (σ : SS) (r p : Int) (hr_r : -2147483648 ≤ r ∧ r ≤ 2147483647) (hr_p : -2147483648 ≤ p ∧ p ≤ 2147483647) (hW : CW (σ 2)) (hF1 : fR r = 0) (hne : fI (rcP (σ 2) r p) 0 8 = -1) : KL l yL_colourAtRank (cwh yL_colourAtRank cL_colourAtRank 5 (some .int) th_L_colourAtRank) rm_L_colourAtRank E [.ref (ea E 0), .int (iI r), .int (iI p), .ref (ea E 21)] σ 2 σ := by
  refine KL_of (rm := rm_L_colourAtRank) (mL := 5) (b := cL_colourAtRank) RL rfl (by decide +kernel) [(0, .ref (ea E 0)), (1, .int (iI r)), (2, .int (iI p)), (3, .ref (ea E 21))] rfl (Nat.le_of_ble_eq_true rfl) (fun p_ e_ s_ m_ a_ b_ h_ c_ Q A C htab hret => ?_)
  refine g_aload_n C dL_colourAtRank_0 3 rfl rfl (q := 1) rfl ?_
  refine g_iconst C dL_colourAtRank_1 (q := 2) rfl ?_
  refine g_aload_n C dL_colourAtRank_2 0 rfl rfl (q := 3) rfl ?_
  refine g_iload_n C dL_colourAtRank_3 1 rfl rfl (q := 4) rfl ?_
  refine g_iload_n C dL_colourAtRank_4 2 rfl rfl (q := 5) rfl ?_
  refine g_xVc C (As := [.int (iI r), .int (iI p)]) (x_X4_colourAtRank_n l hst E _ r p  (by assumption) (by assumption) (by assumption) (by assumption) (by assumption)) ml_L_97 mf_X4_colourAtRank (o := 0) (ci := 4) rfl rfl rfl rfl ⟨(Nat.le_of_ble_eq_true rfl), (Nat.le_of_ble_eq_true rfl)⟩ rfl rfl rfl (Nat.le_of_ble_eq_true rfl) ⟨(Nat.le_of_ble_eq_true rfl), (Nat.le_of_ble_eq_true rfl)⟩ dL_colourAtRank_5 [{ startPc := 0, endPc := 10, handlerPc := 13, catchType := 13 }] ({ startPc := 0, endPc := 10, handlerPc := 17, catchType := 67 }) [] htab (List.forall_mem_cons.mpr ⟨Or.inr ⟨by decide, xIOOBE, xl_13, (by simp [ncs])⟩, fun _ h => absurd h List.not_mem_nil⟩) (by decide) (by decide) xl_67 xc_NSEE (q := 17) rfl (fun q9 => ?_)
  refine g_astore C (L' := [(4, .ref q9), (0, .ref (ea E 0)), (1, .int (iI r)), (2, .int (iI p)), (3, .ref (ea E 21))]) dL_colourAtRank_17 (by decide) rfl (q := 19) rfl ?_
  refine g_iconst C dL_colourAtRank_19 (q := 20) rfl ?_
  exact hret _ _ _ _ _ (Nat.le_of_ble_eq_true rfl) (Nat.le_of_ble_eq_true rfl) dL_colourAtRank_20 rfl
abbrev rm_L_isSymmetric : Room := { frames := 8, cells := 1, slots := 6, locals := 123 }
set_option maxRecDepth 100000 in
set_option maxHeartbeats 4000000 in
theorem c_L_isSymmetric (l : Launch) (hst : l.stackTraces = false) (E : EV) (σ : SS) (r : Int) (hr_r : -2147483648 ≤ r ∧ r ≤ 2147483647) (hW : CW (σ 2)) (hF1 : fR r = 0) : KL l yL_isSymmetric (cwh yL_isSymmetric cL_isSymmetric 4 (some .int) th_L_isSymmetric) rm_L_isSymmetric E [.ref (ea E 0), .int (iI r), .ref (ea E 21)] σ 0 (st σ 21 (pt (σ 21) 0 (bk (σ 2) r))) := by
  refine KL_of (rm := rm_L_isSymmetric) (mL := 4) (b := cL_isSymmetric) RL rfl (by decide +kernel) [(0, .ref (ea E 0)), (1, .int (iI r)), (2, .ref (ea E 21))] rfl (Nat.le_of_ble_eq_true rfl) (fun p_ e_ s_ m_ a_ b_ h_ c_ Q A C htab hret => ?_)
  have hb9 : bk (σ 2) r = 0 ∨ bk (σ 2) r = 1 := by first | exact bk_01 _ _ _ | exact bk_01 _ _ | exact bk_01 _
  refine g_aload_n C dL_isSymmetric_0 2 rfl rfl (q := 1) rfl ?_
  refine g_iconst C dL_isSymmetric_1 (q := 2) rfl ?_
  refine g_aload_n C dL_isSymmetric_2 0 rfl rfl (q := 3) rfl ?_
  refine g_iload_n C dL_isSymmetric_3 1 rfl rfl (q := 4) rfl ?_
  refine g_cV_i C (As := [.int (iI r)]) (c_X4_isSymmetric l E _ r  (by assumption) (by assumption) (by assumption)) ml_L_100 mf_X4_isSymmetric (o := 0) (ci := 4) rfl rfl rfl rfl ⟨(Nat.le_of_ble_eq_true rfl), (Nat.le_of_ble_eq_true rfl)⟩ rfl rfl rfl (Nat.le_of_ble_eq_true rfl) ⟨(Nat.le_of_ble_eq_true rfl), (Nat.le_of_ble_eq_true rfl)⟩ dL_isSymmetric_4 (q := 7) rfl ?_
  refine g_if_eq C dL_isSymmetric_7 (by omega) (q2 := 14) rfl (q := 10) rfl (fun hb1 => ?_) (fun hb1 => ?_)
  · skip
    refine g_lconst C (y := 0) dL_isSymmetric_14 (by decide) (q := 15) rfl ?_
    refine gs_21 C dL_isSymmetric_15 (q := 16) rfl ?_
    refine g_goto C dL_isSymmetric_16 (q := 22) rfl ?_
    refine g_iconst C dL_isSymmetric_22 (q := 23) rfl ?_
    refine g_st (σ2 := (st σ 21 (pt (σ 21) 0 (bk (σ 2) r)))) (by first | rw [show bk (σ 2) r = 0 by omega] | rw [show bk (σ 2) r = 1 by omega]) ?_
    exact hret _ _ _ _ _ (Nat.le_of_ble_eq_true rfl) (Nat.le_of_ble_eq_true rfl) dL_isSymmetric_23 rfl
  · skip
    refine g_lconst C (y := 1) dL_isSymmetric_10 (by decide) (q := 11) rfl ?_
    refine g_goto C dL_isSymmetric_11 (q := 15) rfl ?_
    refine gs_21 C dL_isSymmetric_15 (q := 16) rfl ?_
    refine g_goto C dL_isSymmetric_16 (q := 22) rfl ?_
    refine g_iconst C dL_isSymmetric_22 (q := 23) rfl ?_
    refine g_st (σ2 := (st σ 21 (pt (σ 21) 0 (bk (σ 2) r)))) (by first | rw [show bk (σ 2) r = 0 by omega] | rw [show bk (σ 2) r = 1 by omega]) ?_
    exact hret _ _ _ _ _ (Nat.le_of_ble_eq_true rfl) (Nat.le_of_ble_eq_true rfl) dL_isSymmetric_23 rfl
set_option maxRecDepth 100000 in
set_option maxHeartbeats 4000000 in
theorem c_L_isSymmetric_11 (l : Launch) (hst : l.stackTraces = false) (E : EV) (σ : SS) (r : Int) (hr_r : -2147483648 ≤ r ∧ r ≤ 2147483647) (hW : CW (σ 2)) (hF1 : fR r = 1) : KL l yL_isSymmetric (cwh yL_isSymmetric cL_isSymmetric 4 (some .int) th_L_isSymmetric) rm_L_isSymmetric E [.ref (ea E 0), .int (iI r), .ref (ea E 21)] σ 1 σ := by
  refine KL_of (rm := rm_L_isSymmetric) (mL := 4) (b := cL_isSymmetric) RL rfl (by decide +kernel) [(0, .ref (ea E 0)), (1, .int (iI r)), (2, .ref (ea E 21))] rfl (Nat.le_of_ble_eq_true rfl) (fun p_ e_ s_ m_ a_ b_ h_ c_ Q A C htab hret => ?_)
  refine g_aload_n C dL_isSymmetric_0 2 rfl rfl (q := 1) rfl ?_
  refine g_iconst C dL_isSymmetric_1 (q := 2) rfl ?_
  refine g_aload_n C dL_isSymmetric_2 0 rfl rfl (q := 3) rfl ?_
  refine g_iload_n C dL_isSymmetric_3 1 rfl rfl (q := 4) rfl ?_
  refine g_xVc C (As := [.int (iI r)]) (x_X4_isSymmetric_11 l hst E _ r  (by assumption) (by assumption) (by assumption)) ml_L_100 mf_X4_isSymmetric (o := 0) (ci := 4) rfl rfl rfl rfl ⟨(Nat.le_of_ble_eq_true rfl), (Nat.le_of_ble_eq_true rfl)⟩ rfl rfl rfl (Nat.le_of_ble_eq_true rfl) ⟨(Nat.le_of_ble_eq_true rfl), (Nat.le_of_ble_eq_true rfl)⟩ dL_isSymmetric_4 [] ({ startPc := 0, endPc := 16, handlerPc := 19, catchType := 13 }) [] htab (fun _ h => absurd h List.not_mem_nil) (by decide) (by decide) xl_13 xc_IOOBE (q := 19) rfl (fun q9 => ?_)
  refine g_astore_n C (L' := [(3, .ref q9), (0, .ref (ea E 0)), (1, .int (iI r)), (2, .ref (ea E 21))]) dL_isSymmetric_19 rfl (by decide) rfl (q := 20) rfl ?_
  refine g_iconst C dL_isSymmetric_20 (q := 21) rfl ?_
  exact hret _ _ _ _ _ (Nat.le_of_ble_eq_true rfl) (Nat.le_of_ble_eq_true rfl) dL_isSymmetric_21 rfl
abbrev rm_L_commonBeginning : Room := { frames := 8, cells := 1, slots := 6, locals := 124 }
set_option maxRecDepth 100000 in
set_option maxHeartbeats 4000000 in
theorem c_L_commonBeginning (l : Launch) (hst : l.stackTraces = false) (E : EV) (σ : SS) (r o : Int) (hr_r : -2147483648 ≤ r ∧ r ≤ 2147483647) (hr_o : -2147483648 ≤ o ∧ o ≤ 2147483647) (hW : CW (σ 2)) (hF1 : fRR r o = 0) : KL l yL_commonBeginning (cwh yL_commonBeginning cL_commonBeginning 5 (some .int) th_L_commonBeginning) rm_L_commonBeginning E [.ref (ea E 0), .int (iI r), .int (iI o), .ref (ea E 21)] σ 0 (st σ 21 (pt (σ 21) 0 (wr (sh (σ 2) r o)))) := by
  refine KL_of (rm := rm_L_commonBeginning) (mL := 5) (b := cL_commonBeginning) RL rfl (by decide +kernel) [(0, .ref (ea E 0)), (1, .int (iI r)), (2, .int (iI o)), (3, .ref (ea E 21))] rfl (Nat.le_of_ble_eq_true rfl) (fun p_ e_ s_ m_ a_ b_ h_ c_ Q A C htab hret => ?_)
  refine g_aload_n C dL_commonBeginning_0 3 rfl rfl (q := 1) rfl ?_
  refine g_iconst C dL_commonBeginning_1 (q := 2) rfl ?_
  refine g_aload_n C dL_commonBeginning_2 0 rfl rfl (q := 3) rfl ?_
  refine g_iload_n C dL_commonBeginning_3 1 rfl rfl (q := 4) rfl ?_
  refine g_iload_n C dL_commonBeginning_4 2 rfl rfl (q := 5) rfl ?_
  refine g_cV_i C (As := [.int (iI r), .int (iI o)]) (c_X4_commonBeginning l E _ r o  (by assumption) (by assumption) (by assumption) (by assumption)) ml_L_104 mf_X4_commonBeginning (o := 0) (ci := 4) rfl rfl rfl rfl ⟨(Nat.le_of_ble_eq_true rfl), (Nat.le_of_ble_eq_true rfl)⟩ rfl rfl rfl (Nat.le_of_ble_eq_true rfl) ⟨(Nat.le_of_ble_eq_true rfl), (Nat.le_of_ble_eq_true rfl)⟩ dL_commonBeginning_5 (q := 8) rfl ?_
  refine g_i2lw C dL_commonBeginning_8 (q := 9) rfl ?_
  refine gs_21 C dL_commonBeginning_9 (q := 10) rfl ?_
  refine g_goto C dL_commonBeginning_10 (q := 17) rfl ?_
  refine g_iconst C dL_commonBeginning_17 (q := 18) rfl ?_
  exact hret _ _ _ _ _ (Nat.le_of_ble_eq_true rfl) (Nat.le_of_ble_eq_true rfl) dL_commonBeginning_18 rfl
set_option maxRecDepth 100000 in
set_option maxHeartbeats 4000000 in
theorem c_L_commonBeginning_11 (l : Launch) (hst : l.stackTraces = false) (E : EV) (σ : SS) (r o : Int) (hr_r : -2147483648 ≤ r ∧ r ≤ 2147483647) (hr_o : -2147483648 ≤ o ∧ o ≤ 2147483647) (hW : CW (σ 2)) (hF1 : fRR r o = 1) : KL l yL_commonBeginning (cwh yL_commonBeginning cL_commonBeginning 5 (some .int) th_L_commonBeginning) rm_L_commonBeginning E [.ref (ea E 0), .int (iI r), .int (iI o), .ref (ea E 21)] σ 1 σ := by
  refine KL_of (rm := rm_L_commonBeginning) (mL := 5) (b := cL_commonBeginning) RL rfl (by decide +kernel) [(0, .ref (ea E 0)), (1, .int (iI r)), (2, .int (iI o)), (3, .ref (ea E 21))] rfl (Nat.le_of_ble_eq_true rfl) (fun p_ e_ s_ m_ a_ b_ h_ c_ Q A C htab hret => ?_)
  refine g_aload_n C dL_commonBeginning_0 3 rfl rfl (q := 1) rfl ?_
  refine g_iconst C dL_commonBeginning_1 (q := 2) rfl ?_
  refine g_aload_n C dL_commonBeginning_2 0 rfl rfl (q := 3) rfl ?_
  refine g_iload_n C dL_commonBeginning_3 1 rfl rfl (q := 4) rfl ?_
  refine g_iload_n C dL_commonBeginning_4 2 rfl rfl (q := 5) rfl ?_
  refine g_xVc C (As := [.int (iI r), .int (iI o)]) (x_X4_commonBeginning_11 l hst E _ r o  (by assumption) (by assumption) (by assumption) (by assumption)) ml_L_104 mf_X4_commonBeginning (o := 0) (ci := 4) rfl rfl rfl rfl ⟨(Nat.le_of_ble_eq_true rfl), (Nat.le_of_ble_eq_true rfl)⟩ rfl rfl rfl (Nat.le_of_ble_eq_true rfl) ⟨(Nat.le_of_ble_eq_true rfl), (Nat.le_of_ble_eq_true rfl)⟩ dL_commonBeginning_5 [] ({ startPc := 0, endPc := 10, handlerPc := 13, catchType := 13 }) [] htab (fun _ h => absurd h List.not_mem_nil) (by decide) (by decide) xl_13 xc_IOOBE (q := 13) rfl (fun q9 => ?_)
  refine g_astore C (L' := [(4, .ref q9), (0, .ref (ea E 0)), (1, .int (iI r)), (2, .int (iI o)), (3, .ref (ea E 21))]) dL_commonBeginning_13 (by decide) rfl (q := 15) rfl ?_
  refine g_iconst C dL_commonBeginning_15 (q := 16) rfl ?_
  exact hret _ _ _ _ _ (Nat.le_of_ble_eq_true rfl) (Nat.le_of_ble_eq_true rfl) dL_commonBeginning_16 rfl
abbrev rm_L_areEqual : Room := { frames := 8, cells := 1, slots := 6, locals := 125 }
set_option maxRecDepth 100000 in
set_option maxHeartbeats 4000000 in
theorem c_L_areEqual (l : Launch) (hst : l.stackTraces = false) (E : EV) (σ : SS) (r o : Int) (hr_r : -2147483648 ≤ r ∧ r ≤ 2147483647) (hr_o : -2147483648 ≤ o ∧ o ≤ 2147483647) (hW : CW (σ 2)) (hF1 : fRR r o = 0) : KL l yL_areEqual (cwh yL_areEqual cL_areEqual 5 (some .int) th_L_areEqual) rm_L_areEqual E [.ref (ea E 0), .int (iI r), .int (iI o), .ref (ea E 21)] σ 0 (st σ 21 (pt (σ 21) 0 (eqR (σ 2) r o))) := by
  refine KL_of (rm := rm_L_areEqual) (mL := 5) (b := cL_areEqual) RL rfl (by decide +kernel) [(0, .ref (ea E 0)), (1, .int (iI r)), (2, .int (iI o)), (3, .ref (ea E 21))] rfl (Nat.le_of_ble_eq_true rfl) (fun p_ e_ s_ m_ a_ b_ h_ c_ Q A C htab hret => ?_)
  have hb9 : eqR (σ 2) r o = 0 ∨ eqR (σ 2) r o = 1 := by first | exact eqR_01 _ _ _ | exact eqR_01 _ _ | exact eqR_01 _
  refine g_aload_n C dL_areEqual_0 3 rfl rfl (q := 1) rfl ?_
  refine g_iconst C dL_areEqual_1 (q := 2) rfl ?_
  refine g_aload_n C dL_areEqual_2 0 rfl rfl (q := 3) rfl ?_
  refine g_iload_n C dL_areEqual_3 1 rfl rfl (q := 4) rfl ?_
  refine g_iload_n C dL_areEqual_4 2 rfl rfl (q := 5) rfl ?_
  refine g_cV_i C (As := [.int (iI r), .int (iI o)]) (c_X4_areEqual l E _ r o  (by assumption) (by assumption) (by assumption) (by assumption)) ml_L_107 mf_X4_areEqual (o := 0) (ci := 4) rfl rfl rfl rfl ⟨(Nat.le_of_ble_eq_true rfl), (Nat.le_of_ble_eq_true rfl)⟩ rfl rfl rfl (Nat.le_of_ble_eq_true rfl) ⟨(Nat.le_of_ble_eq_true rfl), (Nat.le_of_ble_eq_true rfl)⟩ dL_areEqual_5 (q := 8) rfl ?_
  refine g_if_eq C dL_areEqual_8 (by omega) (q2 := 15) rfl (q := 11) rfl (fun hb1 => ?_) (fun hb1 => ?_)
  · skip
    refine g_lconst C (y := 0) dL_areEqual_15 (by decide) (q := 16) rfl ?_
    refine gs_21 C dL_areEqual_16 (q := 17) rfl ?_
    refine g_goto C dL_areEqual_17 (q := 24) rfl ?_
    refine g_iconst C dL_areEqual_24 (q := 25) rfl ?_
    refine g_st (σ2 := (st σ 21 (pt (σ 21) 0 (eqR (σ 2) r o)))) (by first | rw [show eqR (σ 2) r o = 0 by omega] | rw [show eqR (σ 2) r o = 1 by omega]) ?_
    exact hret _ _ _ _ _ (Nat.le_of_ble_eq_true rfl) (Nat.le_of_ble_eq_true rfl) dL_areEqual_25 rfl
  · skip
    refine g_lconst C (y := 1) dL_areEqual_11 (by decide) (q := 12) rfl ?_
    refine g_goto C dL_areEqual_12 (q := 16) rfl ?_
    refine gs_21 C dL_areEqual_16 (q := 17) rfl ?_
    refine g_goto C dL_areEqual_17 (q := 24) rfl ?_
    refine g_iconst C dL_areEqual_24 (q := 25) rfl ?_
    refine g_st (σ2 := (st σ 21 (pt (σ 21) 0 (eqR (σ 2) r o)))) (by first | rw [show eqR (σ 2) r o = 0 by omega] | rw [show eqR (σ 2) r o = 1 by omega]) ?_
    exact hret _ _ _ _ _ (Nat.le_of_ble_eq_true rfl) (Nat.le_of_ble_eq_true rfl) dL_areEqual_25 rfl
set_option maxRecDepth 100000 in
set_option maxHeartbeats 4000000 in
theorem c_L_areEqual_11 (l : Launch) (hst : l.stackTraces = false) (E : EV) (σ : SS) (r o : Int) (hr_r : -2147483648 ≤ r ∧ r ≤ 2147483647) (hr_o : -2147483648 ≤ o ∧ o ≤ 2147483647) (hW : CW (σ 2)) (hF1 : fRR r o = 1) : KL l yL_areEqual (cwh yL_areEqual cL_areEqual 5 (some .int) th_L_areEqual) rm_L_areEqual E [.ref (ea E 0), .int (iI r), .int (iI o), .ref (ea E 21)] σ 1 σ := by
  refine KL_of (rm := rm_L_areEqual) (mL := 5) (b := cL_areEqual) RL rfl (by decide +kernel) [(0, .ref (ea E 0)), (1, .int (iI r)), (2, .int (iI o)), (3, .ref (ea E 21))] rfl (Nat.le_of_ble_eq_true rfl) (fun p_ e_ s_ m_ a_ b_ h_ c_ Q A C htab hret => ?_)
  refine g_aload_n C dL_areEqual_0 3 rfl rfl (q := 1) rfl ?_
  refine g_iconst C dL_areEqual_1 (q := 2) rfl ?_
  refine g_aload_n C dL_areEqual_2 0 rfl rfl (q := 3) rfl ?_
  refine g_iload_n C dL_areEqual_3 1 rfl rfl (q := 4) rfl ?_
  refine g_iload_n C dL_areEqual_4 2 rfl rfl (q := 5) rfl ?_
  refine g_xVc C (As := [.int (iI r), .int (iI o)]) (x_X4_areEqual_11 l hst E _ r o  (by assumption) (by assumption) (by assumption) (by assumption)) ml_L_107 mf_X4_areEqual (o := 0) (ci := 4) rfl rfl rfl rfl ⟨(Nat.le_of_ble_eq_true rfl), (Nat.le_of_ble_eq_true rfl)⟩ rfl rfl rfl (Nat.le_of_ble_eq_true rfl) ⟨(Nat.le_of_ble_eq_true rfl), (Nat.le_of_ble_eq_true rfl)⟩ dL_areEqual_5 [] ({ startPc := 0, endPc := 17, handlerPc := 20, catchType := 13 }) [] htab (fun _ h => absurd h List.not_mem_nil) (by decide) (by decide) xl_13 xc_IOOBE (q := 20) rfl (fun q9 => ?_)
  refine g_astore C (L' := [(4, .ref q9), (0, .ref (ea E 0)), (1, .int (iI r)), (2, .int (iI o)), (3, .ref (ea E 21))]) dL_areEqual_20 (by decide) rfl (q := 22) rfl ?_
  refine g_iconst C dL_areEqual_22 (q := 23) rfl ?_
  exact hret _ _ _ _ _ (Nat.le_of_ble_eq_true rfl) (Nat.le_of_ble_eq_true rfl) dL_areEqual_23 rfl
abbrev rm_L_type : Room := { frames := 7, cells := 1, slots := 6, locals := 103 }
set_option maxRecDepth 100000 in
set_option maxHeartbeats 4000000 in
theorem c_L_type (l : Launch) (hst : l.stackTraces = false) (E : EV) (σ : SS) (c : Int) (hc : 32 ≤ c ∧ c ≤ 126) (hn : 0 ≤ (σ 7 1) ∧ (σ 7 1) < 60) : KL l yL_type (cwh yL_type cL_type 4 (some .int) th_L_type) rm_L_type E [.ref (ea E 0), .int (iI c), .ref (ea E 21)] σ 0 (st (st (st σ 7 (pt (σ 7) 1 ((σ 7 1) + 1))) 8 (pt (σ 8) (σ 7 1) c)) 21 (pt (σ 21) 0 (wr ((σ 7 1) + 1)))) := by
  refine KL_of (rm := rm_L_type) (mL := 4) (b := cL_type) RL rfl (by decide +kernel) [(0, .ref (ea E 0)), (1, .int (iI c)), (2, .ref (ea E 21))] rfl (Nat.le_of_ble_eq_true rfl) (fun p_ e_ s_ m_ a_ b_ h_ c_ Q A C htab hret => ?_)
  refine g_aload_n C dL_type_0 2 rfl rfl (q := 1) rfl ?_
  refine g_iconst C dL_type_1 (q := 2) rfl ?_
  refine g_aload_n C dL_type_2 0 rfl rfl (q := 3) rfl ?_
  refine g_iload_n C dL_type_3 1 rfl rfl (q := 4) rfl ?_
  refine g_cV_i C (As := [.int (iI c)]) (c_X4_type l E _ c  (by assumption) (by assumption)) ml_L_110 mf_X4_type (o := 0) (ci := 4) rfl rfl rfl rfl ⟨(Nat.le_of_ble_eq_true rfl), (Nat.le_of_ble_eq_true rfl)⟩ rfl rfl rfl (Nat.le_of_ble_eq_true rfl) ⟨(Nat.le_of_ble_eq_true rfl), (Nat.le_of_ble_eq_true rfl)⟩ dL_type_4 (q := 7) rfl ?_
  refine g_i2lw C dL_type_7 (q := 8) rfl ?_
  refine gs_21 C dL_type_8 (q := 9) rfl ?_
  refine g_st (σ2 := (st (st (st σ 7 (pt (σ 7) 1 ((σ 7 1) + 1))) 8 (pt (σ 8) (σ 7 1) c)) 21 (pt (σ 21) 0 (wr ((σ 7 1) + 1))))) rfl ?_
  refine g_goto C dL_type_9 (q := 18) rfl ?_
  refine g_iconst C dL_type_18 (q := 19) rfl ?_
  exact hret _ _ _ _ _ (Nat.le_of_ble_eq_true rfl) (Nat.le_of_ble_eq_true rfl) dL_type_19 rfl
set_option maxRecDepth 100000 in
set_option maxHeartbeats 4000000 in
theorem c_L_type_1 (l : Launch) (hst : l.stackTraces = false) (E : EV) (σ : SS) (c : Int) (hc : 0 ≤ c ∧ c < 65536) (hb : ¬ (32 ≤ c ∧ c ≤ 126)) : KL l yL_type (cwh yL_type cL_type 4 (some .int) th_L_type) rm_L_type E [.ref (ea E 0), .int (iI c), .ref (ea E 21)] σ 1 σ := by
  refine KL_of (rm := rm_L_type) (mL := 4) (b := cL_type) RL rfl (by decide +kernel) [(0, .ref (ea E 0)), (1, .int (iI c)), (2, .ref (ea E 21))] rfl (Nat.le_of_ble_eq_true rfl) (fun p_ e_ s_ m_ a_ b_ h_ c_ Q A C htab hret => ?_)
  refine g_aload_n C dL_type_0 2 rfl rfl (q := 1) rfl ?_
  refine g_iconst C dL_type_1 (q := 2) rfl ?_
  refine g_aload_n C dL_type_2 0 rfl rfl (q := 3) rfl ?_
  refine g_iload_n C dL_type_3 1 rfl rfl (q := 4) rfl ?_
  refine g_xVc C (As := [.int (iI c)]) (x_X4_type_1 l hst E _ c  (by assumption) (by assumption)) ml_L_110 mf_X4_type (o := 0) (ci := 4) rfl rfl rfl rfl ⟨(Nat.le_of_ble_eq_true rfl), (Nat.le_of_ble_eq_true rfl)⟩ rfl rfl rfl (Nat.le_of_ble_eq_true rfl) ⟨(Nat.le_of_ble_eq_true rfl), (Nat.le_of_ble_eq_true rfl)⟩ dL_type_4 [] ({ startPc := 0, endPc := 9, handlerPc := 12, catchType := 15 }) [{ startPc := 0, endPc := 9, handlerPc := 15, catchType := 17 }] htab (fun _ h => absurd h List.not_mem_nil) (by decide) (by decide) xl_15 xc_IAE (q := 12) rfl (fun q9 => ?_)
  refine g_astore_n C (L' := [(3, .ref q9), (0, .ref (ea E 0)), (1, .int (iI c)), (2, .ref (ea E 21))]) dL_type_12 rfl (by decide) rfl (q := 13) rfl ?_
  refine g_iconst C dL_type_13 (q := 14) rfl ?_
  exact hret _ _ _ _ _ (Nat.le_of_ble_eq_true rfl) (Nat.le_of_ble_eq_true rfl) dL_type_14 rfl
set_option maxRecDepth 100000 in
set_option maxHeartbeats 4000000 in
theorem c_L_type_2 (l : Launch) (hst : l.stackTraces = false) (E : EV) (σ : SS) (c : Int) (hc : 32 ≤ c ∧ c ≤ 126) (hn : (σ 7 1) = 60) : KL l yL_type (cwh yL_type cL_type 4 (some .int) th_L_type) rm_L_type E [.ref (ea E 0), .int (iI c), .ref (ea E 21)] σ 2 σ := by
  refine KL_of (rm := rm_L_type) (mL := 4) (b := cL_type) RL rfl (by decide +kernel) [(0, .ref (ea E 0)), (1, .int (iI c)), (2, .ref (ea E 21))] rfl (Nat.le_of_ble_eq_true rfl) (fun p_ e_ s_ m_ a_ b_ h_ c_ Q A C htab hret => ?_)
  refine g_aload_n C dL_type_0 2 rfl rfl (q := 1) rfl ?_
  refine g_iconst C dL_type_1 (q := 2) rfl ?_
  refine g_aload_n C dL_type_2 0 rfl rfl (q := 3) rfl ?_
  refine g_iload_n C dL_type_3 1 rfl rfl (q := 4) rfl ?_
  refine g_xVc C (As := [.int (iI c)]) (x_X4_type_2 l hst E _ c  (by assumption) (by assumption)) ml_L_110 mf_X4_type (o := 0) (ci := 4) rfl rfl rfl rfl ⟨(Nat.le_of_ble_eq_true rfl), (Nat.le_of_ble_eq_true rfl)⟩ rfl rfl rfl (Nat.le_of_ble_eq_true rfl) ⟨(Nat.le_of_ble_eq_true rfl), (Nat.le_of_ble_eq_true rfl)⟩ dL_type_4 [{ startPc := 0, endPc := 9, handlerPc := 12, catchType := 15 }] ({ startPc := 0, endPc := 9, handlerPc := 15, catchType := 17 }) [] htab (List.forall_mem_cons.mpr ⟨Or.inr ⟨by decide, xIAE, xl_15, (by simp [ncs])⟩, fun _ h => absurd h List.not_mem_nil⟩) (by decide) (by decide) xl_17 xc_ISE (q := 15) rfl (fun q9 => ?_)
  refine g_astore_n C (L' := [(3, .ref q9), (0, .ref (ea E 0)), (1, .int (iI c)), (2, .ref (ea E 21))]) dL_type_15 rfl (by decide) rfl (q := 16) rfl ?_
  refine g_iconst C dL_type_16 (q := 17) rfl ?_
  exact hret _ _ _ _ _ (Nat.le_of_ble_eq_true rfl) (Nat.le_of_ble_eq_true rfl) dL_type_17 rfl
abbrev rm_L_run : Room := { frames := 8, cells := 1, slots := 6, locals := 188 }
set_option maxRecDepth 100000 in
set_option maxHeartbeats 4000000 in
theorem c_L_run (l : Launch) (hst : l.stackTraces = false) (E : EV) (σ : SS) (hT : TW (σ 8) (σ 7 1)) (hKP : KPW (σ 9) (σ 10)) (hW : CW (σ 2)) (hh : 0 ≤ (σ 5 1) ∧ (σ 5 1) < 8 ∧ 0 ≤ (σ 5 2) ∧ (σ 5 2) ≤ 8) (he : (paN (σ 8) (σ 7 1) 8 0 0 (σ 9) (σ 10) (σ 7 6)).1 = -1) (hf : (coN (paN (σ 8) (σ 7 1) 8 0 0 (σ 9) (σ 10) (σ 7 6)).2.2.2.2.1 (paN (σ 8) (σ 7 1) 8 0 0 (σ 9) (σ 10) (σ 7 6)).2.2.2.2.2 (paN (σ 8) (σ 7 1) 8 0 0 (σ 9) (σ 10) (σ 7 6)).2.2.1 9 0 (σ 2)).1 = -1) : KL l yL_run (cwh yL_run cL_run 3 (some .int) th_L_run) rm_L_run E [.ref (ea E 0), .ref (ea E 21)] σ 0 (st (st (st (st (st (st (st (st σ 2 (refF (coN (paN (σ 8) (σ 7 1) 8 0 0 (σ 9) (σ 10) (σ 7 6)).2.2.2.2.1 (paN (σ 8) (σ 7 1) 8 0 0 (σ 9) (σ 10) (σ 7 6)).2.2.2.2.2 (paN (σ 8) (σ 7 1) 8 0 0 (σ 9) (σ 10) (σ 7 6)).2.2.1 9 0 (σ 2)).2)) 3 (cpf (σ 2) (σ 3) 0 0 310)) 5 (pt (pt (σ 5) 1 (nx8 (σ 5 1))) 2 (min ((σ 5 2) + 1) 8))) 6 (cpf (cpf (σ 2) (σ 3) 0 0 310) (σ 6) 0 ((σ 5 1) * 310) 310)) 7 (pt (pt (pt (pt (σ 7) 1 0) 2 ((paN (σ 8) (σ 7 1) 8 0 0 (σ 9) (σ 10) (σ 7 6)).2.1)) 5 ((paN (σ 8) (σ 7 1) 8 0 0 (σ 9) (σ 10) (σ 7 6)).2.2.1)) 6 ((paN (σ 8) (σ 7 1) 8 0 0 (σ 9) (σ 10) (σ 7 6)).2.2.2.1))) 9 ((paN (σ 8) (σ 7 1) 8 0 0 (σ 9) (σ 10) (σ 7 6)).2.2.2.2.1)) 10 ((paN (σ 8) (σ 7 1) 8 0 0 (σ 9) (σ 10) (σ 7 6)).2.2.2.2.2)) 21 (pt (σ 21) 0 (wr ((paN (σ 8) (σ 7 1) 8 0 0 (σ 9) (σ 10) (σ 7 6)).2.2.1)))) := by
  refine KL_of (rm := rm_L_run) (mL := 3) (b := cL_run) RL rfl (by decide +kernel) [(0, .ref (ea E 0)), (1, .ref (ea E 21))] rfl (Nat.le_of_ble_eq_true rfl) (fun p_ e_ s_ m_ a_ b_ h_ c_ Q A C htab hret => ?_)
  refine g_aload_n C dL_run_0 1 rfl rfl (q := 1) rfl ?_
  refine g_iconst C dL_run_1 (q := 2) rfl ?_
  refine g_aload_n C dL_run_2 0 rfl rfl (q := 3) rfl ?_
  refine g_cV_i C (As := []) (c_X4_run l E _   (by assumption) (by assumption) (by assumption) (by assumption) (by assumption) (by assumption)) ml_L_114 mf_X4_run (o := 0) (ci := 4) rfl rfl rfl rfl ⟨(Nat.le_of_ble_eq_true rfl), (Nat.le_of_ble_eq_true rfl)⟩ rfl rfl rfl (Nat.le_of_ble_eq_true rfl) ⟨(Nat.le_of_ble_eq_true rfl), (Nat.le_of_ble_eq_true rfl)⟩ dL_run_3 (q := 6) rfl ?_
  refine g_i2lw C dL_run_6 (q := 7) rfl ?_
  refine gs_21 C dL_run_7 (q := 8) rfl ?_
  refine g_st (σ2 := (st (st (st (st (st (st (st (st σ 2 (refF (coN (paN (σ 8) (σ 7 1) 8 0 0 (σ 9) (σ 10) (σ 7 6)).2.2.2.2.1 (paN (σ 8) (σ 7 1) 8 0 0 (σ 9) (σ 10) (σ 7 6)).2.2.2.2.2 (paN (σ 8) (σ 7 1) 8 0 0 (σ 9) (σ 10) (σ 7 6)).2.2.1 9 0 (σ 2)).2)) 3 (cpf (σ 2) (σ 3) 0 0 310)) 5 (pt (pt (σ 5) 1 (nx8 (σ 5 1))) 2 (min ((σ 5 2) + 1) 8))) 6 (cpf (cpf (σ 2) (σ 3) 0 0 310) (σ 6) 0 ((σ 5 1) * 310) 310)) 7 (pt (pt (pt (pt (σ 7) 1 0) 2 ((paN (σ 8) (σ 7 1) 8 0 0 (σ 9) (σ 10) (σ 7 6)).2.1)) 5 ((paN (σ 8) (σ 7 1) 8 0 0 (σ 9) (σ 10) (σ 7 6)).2.2.1)) 6 ((paN (σ 8) (σ 7 1) 8 0 0 (σ 9) (σ 10) (σ 7 6)).2.2.2.1))) 9 ((paN (σ 8) (σ 7 1) 8 0 0 (σ 9) (σ 10) (σ 7 6)).2.2.2.2.1)) 10 ((paN (σ 8) (σ 7 1) 8 0 0 (σ 9) (σ 10) (σ 7 6)).2.2.2.2.2)) 21 (pt (σ 21) 0 (wr ((paN (σ 8) (σ 7 1) 8 0 0 (σ 9) (σ 10) (σ 7 6)).2.2.1))))) rfl ?_
  refine g_goto C dL_run_8 (q := 17) rfl ?_
  refine g_iconst C dL_run_17 (q := 18) rfl ?_
  exact hret _ _ _ _ _ (Nat.le_of_ble_eq_true rfl) (Nat.le_of_ble_eq_true rfl) dL_run_18 rfl
set_option maxRecDepth 100000 in
set_option maxHeartbeats 4000000 in
theorem c_L_run_1 (l : Launch) (hst : l.stackTraces = false) (E : EV) (σ : SS) (hT : TW (σ 8) (σ 7 1)) (hKP : KPW (σ 9) (σ 10)) (he : (paN (σ 8) (σ 7 1) 8 0 0 (σ 9) (σ 10) (σ 7 6)).1 ≠ -1) : KL l yL_run (cwh yL_run cL_run 3 (some .int) th_L_run) rm_L_run E [.ref (ea E 0), .ref (ea E 21)] σ 1 (st (st (st (st σ 0 (pt (σ 0) 7 ((paN (σ 8) (σ 7 1) 8 0 0 (σ 9) (σ 10) (σ 7 6)).1))) 7 (pt (pt (pt (pt (σ 7) 1 0) 2 ((paN (σ 8) (σ 7 1) 8 0 0 (σ 9) (σ 10) (σ 7 6)).2.1)) 5 ((paN (σ 8) (σ 7 1) 8 0 0 (σ 9) (σ 10) (σ 7 6)).2.2.1)) 6 ((paN (σ 8) (σ 7 1) 8 0 0 (σ 9) (σ 10) (σ 7 6)).2.2.2.1))) 9 ((paN (σ 8) (σ 7 1) 8 0 0 (σ 9) (σ 10) (σ 7 6)).2.2.2.2.1)) 10 ((paN (σ 8) (σ 7 1) 8 0 0 (σ 9) (σ 10) (σ 7 6)).2.2.2.2.2)) := by
  refine KL_of (rm := rm_L_run) (mL := 3) (b := cL_run) RL rfl (by decide +kernel) [(0, .ref (ea E 0)), (1, .ref (ea E 21))] rfl (Nat.le_of_ble_eq_true rfl) (fun p_ e_ s_ m_ a_ b_ h_ c_ Q A C htab hret => ?_)
  refine g_aload_n C dL_run_0 1 rfl rfl (q := 1) rfl ?_
  refine g_iconst C dL_run_1 (q := 2) rfl ?_
  refine g_aload_n C dL_run_2 0 rfl rfl (q := 3) rfl ?_
  refine g_xVc C (As := []) (x_X4_run_1 l hst E _   (by assumption) (by assumption) (by assumption)) ml_L_114 mf_X4_run (o := 0) (ci := 4) rfl rfl rfl rfl ⟨(Nat.le_of_ble_eq_true rfl), (Nat.le_of_ble_eq_true rfl)⟩ rfl rfl rfl (Nat.le_of_ble_eq_true rfl) ⟨(Nat.le_of_ble_eq_true rfl), (Nat.le_of_ble_eq_true rfl)⟩ dL_run_3 [] ({ startPc := 0, endPc := 8, handlerPc := 11, catchType := 15 }) [{ startPc := 0, endPc := 8, handlerPc := 14, catchType := 17 }] htab (fun _ h => absurd h List.not_mem_nil) (by decide) (by decide) xl_15 xc_IAE (q := 11) rfl (fun q9 => ?_)
  refine g_astore_n C (L' := [(2, .ref q9), (0, .ref (ea E 0)), (1, .ref (ea E 21))]) dL_run_11 rfl (by decide) rfl (q := 12) rfl ?_
  refine g_iconst C dL_run_12 (q := 13) rfl ?_
  exact hret _ _ _ _ _ (Nat.le_of_ble_eq_true rfl) (Nat.le_of_ble_eq_true rfl) dL_run_13 rfl
set_option maxRecDepth 100000 in
set_option maxHeartbeats 4000000 in
theorem c_L_run_2 (l : Launch) (hst : l.stackTraces = false) (E : EV) (σ : SS) (hT : TW (σ 8) (σ 7 1)) (hKP : KPW (σ 9) (σ 10)) (hW : CW (σ 2)) (he : (paN (σ 8) (σ 7 1) 8 0 0 (σ 9) (σ 10) (σ 7 6)).1 = -1) (hf : (coN (paN (σ 8) (σ 7 1) 8 0 0 (σ 9) (σ 10) (σ 7 6)).2.2.2.2.1 (paN (σ 8) (σ 7 1) 8 0 0 (σ 9) (σ 10) (σ 7 6)).2.2.2.2.2 (paN (σ 8) (σ 7 1) 8 0 0 (σ 9) (σ 10) (σ 7 6)).2.2.1 9 0 (σ 2)).1 ≠ -1) : KL l yL_run (cwh yL_run cL_run 3 (some .int) th_L_run) rm_L_run E [.ref (ea E 0), .ref (ea E 21)] σ 2 (st (st (st (st (st (st σ 0 (pt (σ 0) 8 ((coN (paN (σ 8) (σ 7 1) 8 0 0 (σ 9) (σ 10) (σ 7 6)).2.2.2.2.1 (paN (σ 8) (σ 7 1) 8 0 0 (σ 9) (σ 10) (σ 7 6)).2.2.2.2.2 (paN (σ 8) (σ 7 1) 8 0 0 (σ 9) (σ 10) (σ 7 6)).2.2.1 9 0 (σ 2)).1))) 2 (cpf (cpf (σ 2) (σ 3) 0 0 310) (coN (paN (σ 8) (σ 7 1) 8 0 0 (σ 9) (σ 10) (σ 7 6)).2.2.2.2.1 (paN (σ 8) (σ 7 1) 8 0 0 (σ 9) (σ 10) (σ 7 6)).2.2.2.2.2 (paN (σ 8) (σ 7 1) 8 0 0 (σ 9) (σ 10) (σ 7 6)).2.2.1 9 0 (σ 2)).2 0 0 310)) 3 (cpf (σ 2) (σ 3) 0 0 310)) 7 (pt (pt (pt (pt (σ 7) 1 0) 2 ((paN (σ 8) (σ 7 1) 8 0 0 (σ 9) (σ 10) (σ 7 6)).2.1)) 5 ((paN (σ 8) (σ 7 1) 8 0 0 (σ 9) (σ 10) (σ 7 6)).2.2.1)) 6 ((paN (σ 8) (σ 7 1) 8 0 0 (σ 9) (σ 10) (σ 7 6)).2.2.2.1))) 9 ((paN (σ 8) (σ 7 1) 8 0 0 (σ 9) (σ 10) (σ 7 6)).2.2.2.2.1)) 10 ((paN (σ 8) (σ 7 1) 8 0 0 (σ 9) (σ 10) (σ 7 6)).2.2.2.2.2)) := by
  refine KL_of (rm := rm_L_run) (mL := 3) (b := cL_run) RL rfl (by decide +kernel) [(0, .ref (ea E 0)), (1, .ref (ea E 21))] rfl (Nat.le_of_ble_eq_true rfl) (fun p_ e_ s_ m_ a_ b_ h_ c_ Q A C htab hret => ?_)
  refine g_aload_n C dL_run_0 1 rfl rfl (q := 1) rfl ?_
  refine g_iconst C dL_run_1 (q := 2) rfl ?_
  refine g_aload_n C dL_run_2 0 rfl rfl (q := 3) rfl ?_
  refine g_xVc C (As := []) (x_X4_run_2 l hst E _   (by assumption) (by assumption) (by assumption) (by assumption) (by assumption)) ml_L_114 mf_X4_run (o := 0) (ci := 4) rfl rfl rfl rfl ⟨(Nat.le_of_ble_eq_true rfl), (Nat.le_of_ble_eq_true rfl)⟩ rfl rfl rfl (Nat.le_of_ble_eq_true rfl) ⟨(Nat.le_of_ble_eq_true rfl), (Nat.le_of_ble_eq_true rfl)⟩ dL_run_3 [{ startPc := 0, endPc := 8, handlerPc := 11, catchType := 15 }] ({ startPc := 0, endPc := 8, handlerPc := 14, catchType := 17 }) [] htab (List.forall_mem_cons.mpr ⟨Or.inr ⟨by decide, xIAE, xl_15, (by simp [ncs])⟩, fun _ h => absurd h List.not_mem_nil⟩) (by decide) (by decide) xl_17 xc_ISE (q := 14) rfl (fun q9 => ?_)
  refine g_astore_n C (L' := [(2, .ref q9), (0, .ref (ea E 0)), (1, .ref (ea E 21))]) dL_run_14 rfl (by decide) rfl (q := 15) rfl ?_
  refine g_iconst C dL_run_15 (q := 16) rfl ?_
  exact hret _ _ _ _ _ (Nat.le_of_ble_eq_true rfl) (Nat.le_of_ble_eq_true rfl) dL_run_16 rfl
abbrev rm_L_errorPosition : Room := { frames := 8, cells := 1, slots := 6, locals := 122 }
set_option maxRecDepth 100000 in
set_option maxHeartbeats 4000000 in
theorem c_L_errorPosition (l : Launch) (hst : l.stackTraces = false) (E : EV) (σ : SS) (hi : -2147483648 ≤ (σ 0 7) ∧ (σ 0 7) ≤ 2147483647) (hne : (σ 0 7) ≠ -1) : KL l yL_errorPosition (cwh yL_errorPosition cL_errorPosition 3 (some .int) th_L_errorPosition) rm_L_errorPosition E [.ref (ea E 0), .ref (ea E 21)] σ 0 (st σ 21 (pt (σ 21) 0 (wr ((σ 0 7))))) := by
  refine KL_of (rm := rm_L_errorPosition) (mL := 3) (b := cL_errorPosition) RL rfl (by decide +kernel) [(0, .ref (ea E 0)), (1, .ref (ea E 21))] rfl (Nat.le_of_ble_eq_true rfl) (fun p_ e_ s_ m_ a_ b_ h_ c_ Q A C htab hret => ?_)
  refine g_aload_n C dL_errorPosition_0 1 rfl rfl (q := 1) rfl ?_
  refine g_iconst C dL_errorPosition_1 (q := 2) rfl ?_
  refine g_aload_n C dL_errorPosition_2 0 rfl rfl (q := 3) rfl ?_
  refine g_cV_i C (As := []) (c_X4_errorPosition l E _   (by assumption) (by assumption)) ml_L_118 mf_X4_errorPosition (o := 0) (ci := 4) rfl rfl rfl rfl ⟨(Nat.le_of_ble_eq_true rfl), (Nat.le_of_ble_eq_true rfl)⟩ rfl rfl rfl (Nat.le_of_ble_eq_true rfl) ⟨(Nat.le_of_ble_eq_true rfl), (Nat.le_of_ble_eq_true rfl)⟩ dL_errorPosition_3 (q := 6) rfl ?_
  refine g_i2lw C dL_errorPosition_6 (q := 7) rfl ?_
  refine gs_21 C dL_errorPosition_7 (q := 8) rfl ?_
  refine g_goto C dL_errorPosition_8 (q := 14) rfl ?_
  refine g_iconst C dL_errorPosition_14 (q := 15) rfl ?_
  refine g_st (σ2 := (st σ 21 (pt (σ 21) 0 (wr ((σ 0 7)))))) (by first | rfl | (funext q9; simp only [st]; (repeat' split) <;> first | rfl | omega | (funext j9; simp only [pt]; (repeat' split) <;> first | rfl | omega))) ?_
  exact hret _ _ _ _ _ (Nat.le_of_ble_eq_true rfl) (Nat.le_of_ble_eq_true rfl) dL_errorPosition_15 rfl
set_option maxRecDepth 100000 in
set_option maxHeartbeats 4000000 in
theorem c_L_errorPosition_n (l : Launch) (hst : l.stackTraces = false) (E : EV) (σ : SS) (hne : (σ 0 7) = -1) : KL l yL_errorPosition (cwh yL_errorPosition cL_errorPosition 3 (some .int) th_L_errorPosition) rm_L_errorPosition E [.ref (ea E 0), .ref (ea E 21)] σ 1 σ := by
  refine KL_of (rm := rm_L_errorPosition) (mL := 3) (b := cL_errorPosition) RL rfl (by decide +kernel) [(0, .ref (ea E 0)), (1, .ref (ea E 21))] rfl (Nat.le_of_ble_eq_true rfl) (fun p_ e_ s_ m_ a_ b_ h_ c_ Q A C htab hret => ?_)
  refine g_aload_n C dL_errorPosition_0 1 rfl rfl (q := 1) rfl ?_
  refine g_iconst C dL_errorPosition_1 (q := 2) rfl ?_
  refine g_aload_n C dL_errorPosition_2 0 rfl rfl (q := 3) rfl ?_
  refine g_xVc C (As := []) (x_X4_errorPosition_n l hst E _   (by assumption)) ml_L_118 mf_X4_errorPosition (o := 0) (ci := 4) rfl rfl rfl rfl ⟨(Nat.le_of_ble_eq_true rfl), (Nat.le_of_ble_eq_true rfl)⟩ rfl rfl rfl (Nat.le_of_ble_eq_true rfl) ⟨(Nat.le_of_ble_eq_true rfl), (Nat.le_of_ble_eq_true rfl)⟩ dL_errorPosition_3 [] ({ startPc := 0, endPc := 8, handlerPc := 11, catchType := 67 }) [] htab (fun _ h => absurd h List.not_mem_nil) (by decide) (by decide) xl_67 xc_NSEE (q := 11) rfl (fun q9 => ?_)
  refine g_astore_n C (L' := [(2, .ref q9), (0, .ref (ea E 0)), (1, .ref (ea E 21))]) dL_errorPosition_11 rfl (by decide) rfl (q := 12) rfl ?_
  refine g_iconst C dL_errorPosition_12 (q := 13) rfl ?_
  exact hret _ _ _ _ _ (Nat.le_of_ble_eq_true rfl) (Nat.le_of_ble_eq_true rfl) dL_errorPosition_13 rfl
abbrev rm_L_failedCommand : Room := { frames := 8, cells := 1, slots := 6, locals := 122 }
set_option maxRecDepth 100000 in
set_option maxHeartbeats 4000000 in
theorem c_L_failedCommand (l : Launch) (hst : l.stackTraces = false) (E : EV) (σ : SS) (hi : -2147483648 ≤ (σ 0 8) ∧ (σ 0 8) ≤ 2147483647) (hne : (σ 0 8) ≠ -1) : KL l yL_failedCommand (cwh yL_failedCommand cL_failedCommand 3 (some .int) th_L_failedCommand) rm_L_failedCommand E [.ref (ea E 0), .ref (ea E 21)] σ 0 (st σ 21 (pt (σ 21) 0 (wr ((σ 0 8))))) := by
  refine KL_of (rm := rm_L_failedCommand) (mL := 3) (b := cL_failedCommand) RL rfl (by decide +kernel) [(0, .ref (ea E 0)), (1, .ref (ea E 21))] rfl (Nat.le_of_ble_eq_true rfl) (fun p_ e_ s_ m_ a_ b_ h_ c_ Q A C htab hret => ?_)
  refine g_aload_n C dL_failedCommand_0 1 rfl rfl (q := 1) rfl ?_
  refine g_iconst C dL_failedCommand_1 (q := 2) rfl ?_
  refine g_aload_n C dL_failedCommand_2 0 rfl rfl (q := 3) rfl ?_
  refine g_cV_i C (As := []) (c_X4_failedCommand l E _   (by assumption) (by assumption)) ml_L_121 mf_X4_failedCommand (o := 0) (ci := 4) rfl rfl rfl rfl ⟨(Nat.le_of_ble_eq_true rfl), (Nat.le_of_ble_eq_true rfl)⟩ rfl rfl rfl (Nat.le_of_ble_eq_true rfl) ⟨(Nat.le_of_ble_eq_true rfl), (Nat.le_of_ble_eq_true rfl)⟩ dL_failedCommand_3 (q := 6) rfl ?_
  refine g_i2lw C dL_failedCommand_6 (q := 7) rfl ?_
  refine gs_21 C dL_failedCommand_7 (q := 8) rfl ?_
  refine g_goto C dL_failedCommand_8 (q := 14) rfl ?_
  refine g_iconst C dL_failedCommand_14 (q := 15) rfl ?_
  refine g_st (σ2 := (st σ 21 (pt (σ 21) 0 (wr ((σ 0 8)))))) (by first | rfl | (funext q9; simp only [st]; (repeat' split) <;> first | rfl | omega | (funext j9; simp only [pt]; (repeat' split) <;> first | rfl | omega))) ?_
  exact hret _ _ _ _ _ (Nat.le_of_ble_eq_true rfl) (Nat.le_of_ble_eq_true rfl) dL_failedCommand_15 rfl
set_option maxRecDepth 100000 in
set_option maxHeartbeats 4000000 in
theorem c_L_failedCommand_n (l : Launch) (hst : l.stackTraces = false) (E : EV) (σ : SS) (hne : (σ 0 8) = -1) : KL l yL_failedCommand (cwh yL_failedCommand cL_failedCommand 3 (some .int) th_L_failedCommand) rm_L_failedCommand E [.ref (ea E 0), .ref (ea E 21)] σ 1 σ := by
  refine KL_of (rm := rm_L_failedCommand) (mL := 3) (b := cL_failedCommand) RL rfl (by decide +kernel) [(0, .ref (ea E 0)), (1, .ref (ea E 21))] rfl (Nat.le_of_ble_eq_true rfl) (fun p_ e_ s_ m_ a_ b_ h_ c_ Q A C htab hret => ?_)
  refine g_aload_n C dL_failedCommand_0 1 rfl rfl (q := 1) rfl ?_
  refine g_iconst C dL_failedCommand_1 (q := 2) rfl ?_
  refine g_aload_n C dL_failedCommand_2 0 rfl rfl (q := 3) rfl ?_
  refine g_xVc C (As := []) (x_X4_failedCommand_n l hst E _   (by assumption)) ml_L_121 mf_X4_failedCommand (o := 0) (ci := 4) rfl rfl rfl rfl ⟨(Nat.le_of_ble_eq_true rfl), (Nat.le_of_ble_eq_true rfl)⟩ rfl rfl rfl (Nat.le_of_ble_eq_true rfl) ⟨(Nat.le_of_ble_eq_true rfl), (Nat.le_of_ble_eq_true rfl)⟩ dL_failedCommand_3 [] ({ startPc := 0, endPc := 8, handlerPc := 11, catchType := 67 }) [] htab (fun _ h => absurd h List.not_mem_nil) (by decide) (by decide) xl_67 xc_NSEE (q := 11) rfl (fun q9 => ?_)
  refine g_astore_n C (L' := [(2, .ref q9), (0, .ref (ea E 0)), (1, .ref (ea E 21))]) dL_failedCommand_11 rfl (by decide) rfl (q := 12) rfl ?_
  refine g_iconst C dL_failedCommand_12 (q := 13) rfl ?_
  exact hret _ _ _ _ _ (Nat.le_of_ble_eq_true rfl) (Nat.le_of_ble_eq_true rfl) dL_failedCommand_13 rfl
abbrev rm_L_describeReel : Room := { frames := 8, cells := 1, slots := 6, locals := 124 }
set_option maxRecDepth 100000 in
set_option maxHeartbeats 4000000 in
theorem c_L_describeReel (l : Launch) (hst : l.stackTraces = false) (E : EV) (σ : SS) (r : Int) (hr_r : -2147483648 ≤ r ∧ r ≤ 2147483647) (hW : CW (σ 2)) (hF1 : fR r = 0) : KL l yL_describeReel (cwh yL_describeReel cL_describeReel 4 (some .int) th_L_describeReel) rm_L_describeReel E [.ref (ea E 0), .int (iI r), .ref (ea E 21)] σ 0 (st (st (st σ 11 (pt (σ 11) 1 ((dsI (σ 2) r 0 (σ 12) 0 ((σ 2) (240 + r))).2))) 12 ((dsI (σ 2) r 0 (σ 12) 0 ((σ 2) (240 + r))).1)) 21 (pt (σ 21) 0 (wr ((dsI (σ 2) r 0 (σ 12) 0 ((σ 2) (240 + r))).2)))) := by
  refine KL_of (rm := rm_L_describeReel) (mL := 4) (b := cL_describeReel) RL rfl (by decide +kernel) [(0, .ref (ea E 0)), (1, .int (iI r)), (2, .ref (ea E 21))] rfl (Nat.le_of_ble_eq_true rfl) (fun p_ e_ s_ m_ a_ b_ h_ c_ Q A C htab hret => ?_)
  refine g_aload_n C dL_describeReel_0 2 rfl rfl (q := 1) rfl ?_
  refine g_iconst C dL_describeReel_1 (q := 2) rfl ?_
  refine g_aload_n C dL_describeReel_2 0 rfl rfl (q := 3) rfl ?_
  refine g_iload_n C dL_describeReel_3 1 rfl rfl (q := 4) rfl ?_
  refine g_cV_i C (As := [.int (iI r)]) (c_X4_describeReel l E _ r  (by assumption) (by assumption) (by assumption)) ml_L_124 mf_X4_describeReel (o := 0) (ci := 4) rfl rfl rfl rfl ⟨(Nat.le_of_ble_eq_true rfl), (Nat.le_of_ble_eq_true rfl)⟩ rfl rfl rfl (Nat.le_of_ble_eq_true rfl) ⟨(Nat.le_of_ble_eq_true rfl), (Nat.le_of_ble_eq_true rfl)⟩ dL_describeReel_4 (q := 7) rfl ?_
  refine g_i2lw C dL_describeReel_7 (q := 8) rfl ?_
  refine gs_21 C dL_describeReel_8 (q := 9) rfl ?_
  refine g_st (σ2 := (st (st (st σ 11 (pt (σ 11) 1 ((dsI (σ 2) r 0 (σ 12) 0 ((σ 2) (240 + r))).2))) 12 ((dsI (σ 2) r 0 (σ 12) 0 ((σ 2) (240 + r))).1)) 21 (pt (σ 21) 0 (wr ((dsI (σ 2) r 0 (σ 12) 0 ((σ 2) (240 + r))).2))))) rfl ?_
  refine g_goto C dL_describeReel_9 (q := 15) rfl ?_
  refine g_iconst C dL_describeReel_15 (q := 16) rfl ?_
  exact hret _ _ _ _ _ (Nat.le_of_ble_eq_true rfl) (Nat.le_of_ble_eq_true rfl) dL_describeReel_16 rfl
set_option maxRecDepth 100000 in
set_option maxHeartbeats 4000000 in
theorem c_L_describeReel_1 (l : Launch) (hst : l.stackTraces = false) (E : EV) (σ : SS) (r : Int) (hr_r : -2147483648 ≤ r ∧ r ≤ 2147483647) (hF1 : fR r = 1) : KL l yL_describeReel (cwh yL_describeReel cL_describeReel 4 (some .int) th_L_describeReel) rm_L_describeReel E [.ref (ea E 0), .int (iI r), .ref (ea E 21)] σ 1 σ := by
  refine KL_of (rm := rm_L_describeReel) (mL := 4) (b := cL_describeReel) RL rfl (by decide +kernel) [(0, .ref (ea E 0)), (1, .int (iI r)), (2, .ref (ea E 21))] rfl (Nat.le_of_ble_eq_true rfl) (fun p_ e_ s_ m_ a_ b_ h_ c_ Q A C htab hret => ?_)
  refine g_aload_n C dL_describeReel_0 2 rfl rfl (q := 1) rfl ?_
  refine g_iconst C dL_describeReel_1 (q := 2) rfl ?_
  refine g_aload_n C dL_describeReel_2 0 rfl rfl (q := 3) rfl ?_
  refine g_iload_n C dL_describeReel_3 1 rfl rfl (q := 4) rfl ?_
  refine g_xVc C (As := [.int (iI r)]) (x_X4_describeReel_1 l hst E _ r  (by assumption) (by assumption)) ml_L_124 mf_X4_describeReel (o := 0) (ci := 4) rfl rfl rfl rfl ⟨(Nat.le_of_ble_eq_true rfl), (Nat.le_of_ble_eq_true rfl)⟩ rfl rfl rfl (Nat.le_of_ble_eq_true rfl) ⟨(Nat.le_of_ble_eq_true rfl), (Nat.le_of_ble_eq_true rfl)⟩ dL_describeReel_4 [] ({ startPc := 0, endPc := 9, handlerPc := 12, catchType := 13 }) [] htab (fun _ h => absurd h List.not_mem_nil) (by decide) (by decide) xl_13 xc_IOOBE (q := 12) rfl (fun q9 => ?_)
  refine g_astore_n C (L' := [(3, .ref q9), (0, .ref (ea E 0)), (1, .int (iI r)), (2, .ref (ea E 21))]) dL_describeReel_12 rfl (by decide) rfl (q := 13) rfl ?_
  refine g_iconst C dL_describeReel_13 (q := 14) rfl ?_
  exact hret _ _ _ _ _ (Nat.le_of_ble_eq_true rfl) (Nat.le_of_ble_eq_true rfl) dL_describeReel_14 rfl
abbrev rm_L_lineAt : Room := { frames := 7, cells := 1, slots := 6, locals := 103 }
set_option maxRecDepth 100000 in
set_option maxHeartbeats 4000000 in
theorem c_L_lineAt (l : Launch) (hst : l.stackTraces = false) (E : EV) (σ : SS) (i : Int) (hr_i : -2147483648 ≤ i ∧ i ≤ 2147483647) (hl : 0 ≤ (σ 11 1) ∧ (σ 11 1) ≤ 240) (hi : 0 ≤ i ∧ i < (σ 11 1)) (hv : 0 ≤ (σ 12) i ∧ (σ 12) i < 65536) : KL l yL_lineAt (cwh yL_lineAt cL_lineAt 4 (some .int) th_L_lineAt) rm_L_lineAt E [.ref (ea E 0), .int (iI i), .ref (ea E 21)] σ 0 (st σ 21 (pt (σ 21) 0 (wr ((σ 12) i)))) := by
  refine KL_of (rm := rm_L_lineAt) (mL := 4) (b := cL_lineAt) RL rfl (by decide +kernel) [(0, .ref (ea E 0)), (1, .int (iI i)), (2, .ref (ea E 21))] rfl (Nat.le_of_ble_eq_true rfl) (fun p_ e_ s_ m_ a_ b_ h_ c_ Q A C htab hret => ?_)
  refine g_aload_n C dL_lineAt_0 2 rfl rfl (q := 1) rfl ?_
  refine g_iconst C dL_lineAt_1 (q := 2) rfl ?_
  refine g_aload_n C dL_lineAt_2 0 rfl rfl (q := 3) rfl ?_
  refine g_iload_n C dL_lineAt_3 1 rfl rfl (q := 4) rfl ?_
  refine g_cV_i C (As := [.int (iI i)]) (c_X4_lineAt l E _ i  (by assumption) (by assumption) (by assumption) (by assumption)) ml_L_127 mf_X4_lineAt (o := 0) (ci := 4) rfl rfl rfl rfl ⟨(Nat.le_of_ble_eq_true rfl), (Nat.le_of_ble_eq_true rfl)⟩ rfl rfl rfl (Nat.le_of_ble_eq_true rfl) ⟨(Nat.le_of_ble_eq_true rfl), (Nat.le_of_ble_eq_true rfl)⟩ dL_lineAt_4 (q := 7) rfl ?_
  refine g_i2lw C dL_lineAt_7 (q := 8) rfl ?_
  refine gs_21 C dL_lineAt_8 (q := 9) rfl ?_
  refine g_goto C dL_lineAt_9 (q := 15) rfl ?_
  refine g_iconst C dL_lineAt_15 (q := 16) rfl ?_
  exact hret _ _ _ _ _ (Nat.le_of_ble_eq_true rfl) (Nat.le_of_ble_eq_true rfl) dL_lineAt_16 rfl
set_option maxRecDepth 100000 in
set_option maxHeartbeats 4000000 in
theorem c_L_lineAt_1 (l : Launch) (hst : l.stackTraces = false) (E : EV) (σ : SS) (i : Int) (hr_i : -2147483648 ≤ i ∧ i ≤ 2147483647) (hl : 0 ≤ (σ 11 1) ∧ (σ 11 1) ≤ 240) (hi : ¬ (0 ≤ i ∧ i < (σ 11 1))) : KL l yL_lineAt (cwh yL_lineAt cL_lineAt 4 (some .int) th_L_lineAt) rm_L_lineAt E [.ref (ea E 0), .int (iI i), .ref (ea E 21)] σ 1 σ := by
  refine KL_of (rm := rm_L_lineAt) (mL := 4) (b := cL_lineAt) RL rfl (by decide +kernel) [(0, .ref (ea E 0)), (1, .int (iI i)), (2, .ref (ea E 21))] rfl (Nat.le_of_ble_eq_true rfl) (fun p_ e_ s_ m_ a_ b_ h_ c_ Q A C htab hret => ?_)
  refine g_aload_n C dL_lineAt_0 2 rfl rfl (q := 1) rfl ?_
  refine g_iconst C dL_lineAt_1 (q := 2) rfl ?_
  refine g_aload_n C dL_lineAt_2 0 rfl rfl (q := 3) rfl ?_
  refine g_iload_n C dL_lineAt_3 1 rfl rfl (q := 4) rfl ?_
  refine g_xVc C (As := [.int (iI i)]) (x_X4_lineAt_1 l hst E _ i  (by assumption) (by assumption) (by assumption)) ml_L_127 mf_X4_lineAt (o := 0) (ci := 4) rfl rfl rfl rfl ⟨(Nat.le_of_ble_eq_true rfl), (Nat.le_of_ble_eq_true rfl)⟩ rfl rfl rfl (Nat.le_of_ble_eq_true rfl) ⟨(Nat.le_of_ble_eq_true rfl), (Nat.le_of_ble_eq_true rfl)⟩ dL_lineAt_4 [] ({ startPc := 0, endPc := 9, handlerPc := 12, catchType := 13 }) [] htab (fun _ h => absurd h List.not_mem_nil) (by decide) (by decide) xl_13 xc_IOOBE (q := 12) rfl (fun q9 => ?_)
  refine g_astore_n C (L' := [(3, .ref q9), (0, .ref (ea E 0)), (1, .int (iI i)), (2, .ref (ea E 21))]) dL_lineAt_12 rfl (by decide) rfl (q := 13) rfl ?_
  refine g_iconst C dL_lineAt_13 (q := 14) rfl ?_
  exact hret _ _ _ _ _ (Nat.le_of_ble_eq_true rfl) (Nat.le_of_ble_eq_true rfl) dL_lineAt_14 rfl
abbrev rm_L_meanLength : Room := { frames := 8, cells := 1, slots := 6, locals := 158 }
set_option maxRecDepth 100000 in
set_option maxHeartbeats 4000000 in
theorem c_L_meanLength (l : Launch) (hst : l.stackTraces = false) (E : EV) (σ : SS) (r : Int) (hr_r : -2147483648 ≤ r ∧ r ≤ 2147483647) (hW : CW (σ 2)) (hP : PW (σ 2)) (hF1 : fR r = 0) (hz : (σ 2) (240 + r) ≠ 0) : KL l yL_meanLength (cwh yL_meanLength cL_meanLength 4 (some .int) th_L_meanLength) rm_L_meanLength E [.ref (ea E 0), .int (iI r), .ref (ea E 22)] σ 0 (st σ 22 (pt (σ 22) 0 ((FP.ddiv (FP.i2d (iI (sb (σ 2) r ((σ 2) (240 + r))))) (FP.i2d (iI ((σ 2) (240 + r))))).toNat : Int))) := by
  refine KL_of (rm := rm_L_meanLength) (mL := 4) (b := cL_meanLength) RL rfl (by decide +kernel) [(0, .ref (ea E 0)), (1, .int (iI r)), (2, .ref (ea E 22))] rfl (Nat.le_of_ble_eq_true rfl) (fun p_ e_ s_ m_ a_ b_ h_ c_ Q A C htab hret => ?_)
  refine g_aload_n C dL_meanLength_0 2 rfl rfl (q := 1) rfl ?_
  refine g_iconst C dL_meanLength_1 (q := 2) rfl ?_
  refine g_aload_n C dL_meanLength_2 0 rfl rfl (q := 3) rfl ?_
  refine g_iload_n C dL_meanLength_3 1 rfl rfl (q := 4) rfl ?_
  refine g_cV_d C (As := [.int (iI r)]) (c_X4_meanLength l E _ r  (by assumption) (by assumption) (by assumption) (by assumption) (by assumption)) ml_L_131 mf_X4_meanLength (o := 0) (ci := 4) rfl rfl rfl rfl ⟨(Nat.le_of_ble_eq_true rfl), (Nat.le_of_ble_eq_true rfl)⟩ rfl rfl rfl (Nat.le_of_ble_eq_true rfl) ⟨(Nat.le_of_ble_eq_true rfl), (Nat.le_of_ble_eq_true rfl)⟩ dL_meanLength_4 (q := 7) rfl ?_
  refine gs_22 C dL_meanLength_7 (q := 8) rfl ?_
  refine g_goto C dL_meanLength_8 (q := 17) rfl ?_
  refine g_iconst C dL_meanLength_17 (q := 18) rfl ?_
  exact hret _ _ _ _ _ (Nat.le_of_ble_eq_true rfl) (Nat.le_of_ble_eq_true rfl) dL_meanLength_18 rfl
set_option maxRecDepth 100000 in
set_option maxHeartbeats 4000000 in
theorem c_L_meanLength_2 (l : Launch) (hst : l.stackTraces = false) (E : EV) (σ : SS) (r : Int) (hr_r : -2147483648 ≤ r ∧ r ≤ 2147483647) (hW : CW (σ 2)) (hP : PW (σ 2)) (hF1 : fR r = 0) (hz : (σ 2) (240 + r) = 0) : KL l yL_meanLength (cwh yL_meanLength cL_meanLength 4 (some .int) th_L_meanLength) rm_L_meanLength E [.ref (ea E 0), .int (iI r), .ref (ea E 22)] σ 2 σ := by
  refine KL_of (rm := rm_L_meanLength) (mL := 4) (b := cL_meanLength) RL rfl (by decide +kernel) [(0, .ref (ea E 0)), (1, .int (iI r)), (2, .ref (ea E 22))] rfl (Nat.le_of_ble_eq_true rfl) (fun p_ e_ s_ m_ a_ b_ h_ c_ Q A C htab hret => ?_)
  refine g_aload_n C dL_meanLength_0 2 rfl rfl (q := 1) rfl ?_
  refine g_iconst C dL_meanLength_1 (q := 2) rfl ?_
  refine g_aload_n C dL_meanLength_2 0 rfl rfl (q := 3) rfl ?_
  refine g_iload_n C dL_meanLength_3 1 rfl rfl (q := 4) rfl ?_
  refine g_xVc C (As := [.int (iI r)]) (x_X4_meanLength_2 l hst E _ r  (by assumption) (by assumption) (by assumption) (by assumption) (by assumption)) ml_L_131 mf_X4_meanLength (o := 0) (ci := 4) rfl rfl rfl rfl ⟨(Nat.le_of_ble_eq_true rfl), (Nat.le_of_ble_eq_true rfl)⟩ rfl rfl rfl (Nat.le_of_ble_eq_true rfl) ⟨(Nat.le_of_ble_eq_true rfl), (Nat.le_of_ble_eq_true rfl)⟩ dL_meanLength_4 [{ startPc := 0, endPc := 8, handlerPc := 11, catchType := 13 }] ({ startPc := 0, endPc := 8, handlerPc := 14, catchType := 135 }) [] htab (List.forall_mem_cons.mpr ⟨Or.inr ⟨by decide, xIOOBE, xl_13, (by simp [ncs])⟩, fun _ h => absurd h List.not_mem_nil⟩) (by decide) (by decide) xl_135 xc_AE (q := 14) rfl (fun q9 => ?_)
  refine g_astore_n C (L' := [(3, .ref q9), (0, .ref (ea E 0)), (1, .int (iI r)), (2, .ref (ea E 22))]) dL_meanLength_14 rfl (by decide) rfl (q := 15) rfl ?_
  refine g_iconst C dL_meanLength_15 (q := 16) rfl ?_
  exact hret _ _ _ _ _ (Nat.le_of_ble_eq_true rfl) (Nat.le_of_ble_eq_true rfl) dL_meanLength_16 rfl
set_option maxRecDepth 100000 in
set_option maxHeartbeats 4000000 in
theorem c_L_meanLength_1 (l : Launch) (hst : l.stackTraces = false) (E : EV) (σ : SS) (r : Int) (hr_r : -2147483648 ≤ r ∧ r ≤ 2147483647) (hW : CW (σ 2)) (hF1 : fR r = 1) : KL l yL_meanLength (cwh yL_meanLength cL_meanLength 4 (some .int) th_L_meanLength) rm_L_meanLength E [.ref (ea E 0), .int (iI r), .ref (ea E 22)] σ 1 σ := by
  refine KL_of (rm := rm_L_meanLength) (mL := 4) (b := cL_meanLength) RL rfl (by decide +kernel) [(0, .ref (ea E 0)), (1, .int (iI r)), (2, .ref (ea E 22))] rfl (Nat.le_of_ble_eq_true rfl) (fun p_ e_ s_ m_ a_ b_ h_ c_ Q A C htab hret => ?_)
  refine g_aload_n C dL_meanLength_0 2 rfl rfl (q := 1) rfl ?_
  refine g_iconst C dL_meanLength_1 (q := 2) rfl ?_
  refine g_aload_n C dL_meanLength_2 0 rfl rfl (q := 3) rfl ?_
  refine g_iload_n C dL_meanLength_3 1 rfl rfl (q := 4) rfl ?_
  refine g_xVc C (As := [.int (iI r)]) (x_X4_meanLength_1 l hst E _ r  (by assumption) (by assumption) (by assumption)) ml_L_131 mf_X4_meanLength (o := 0) (ci := 4) rfl rfl rfl rfl ⟨(Nat.le_of_ble_eq_true rfl), (Nat.le_of_ble_eq_true rfl)⟩ rfl rfl rfl (Nat.le_of_ble_eq_true rfl) ⟨(Nat.le_of_ble_eq_true rfl), (Nat.le_of_ble_eq_true rfl)⟩ dL_meanLength_4 [] ({ startPc := 0, endPc := 8, handlerPc := 11, catchType := 13 }) [{ startPc := 0, endPc := 8, handlerPc := 14, catchType := 135 }] htab (fun _ h => absurd h List.not_mem_nil) (by decide) (by decide) xl_13 xc_IOOBE (q := 11) rfl (fun q9 => ?_)
  refine g_astore_n C (L' := [(3, .ref q9), (0, .ref (ea E 0)), (1, .int (iI r)), (2, .ref (ea E 22))]) dL_meanLength_11 rfl (by decide) rfl (q := 12) rfl ?_
  refine g_iconst C dL_meanLength_12 (q := 13) rfl ?_
  exact hret _ _ _ _ _ (Nat.le_of_ble_eq_true rfl) (Nat.le_of_ble_eq_true rfl) dL_meanLength_13 rfl
abbrev rm_L_colourShare : Room := { frames := 8, cells := 1, slots := 6, locals := 159 }
set_option maxRecDepth 100000 in
set_option maxHeartbeats 4000000 in
theorem c_L_colourShare (l : Launch) (hst : l.stackTraces = false) (E : EV) (σ : SS) (r c : Int) (hr_r : -2147483648 ≤ r ∧ r ≤ 2147483647) (hr_c : -2147483648 ≤ c ∧ c ≤ 2147483647) (hW : CW (σ 2)) (hP : PW (σ 2)) (hF1 : fR r = 0) (hF2 : fC c = 0) (hz : (σ 2) (240 + r) ≠ 0) : KL l yL_colourShare (cwh yL_colourShare cL_colourShare 5 (some .int) th_L_colourShare) rm_L_colourShare E [.ref (ea E 0), .int (iI r), .int (iI c), .ref (ea E 22)] σ 0 (st σ 22 (pt (σ 22) 0 ((FP.f2d (FP.fdiv (FP.i2f (iI (sc (σ 2) r c))) (FP.i2f (iI (sb (σ 2) r ((σ 2) (240 + r))))))).toNat : Int))) := by
  refine KL_of (rm := rm_L_colourShare) (mL := 5) (b := cL_colourShare) RL rfl (by decide +kernel) [(0, .ref (ea E 0)), (1, .int (iI r)), (2, .int (iI c)), (3, .ref (ea E 22))] rfl (Nat.le_of_ble_eq_true rfl) (fun p_ e_ s_ m_ a_ b_ h_ c_ Q A C htab hret => ?_)
  have hr := fR_0 hF1
  have hn := (hW r hr).1
  have hsb := sb_rg hW hP hr
  have hsz := sb_z hW hP hr
  have hsc := sc_rg hW hr c
  obtain ⟨v9, hv9, hw9⟩ := nnc (a := sc (σ 2) r c) (b := sb (σ 2) r (σ 2 (240 + r))) (by omega) (by omega)
  refine g_aload_n C dL_colourShare_0 3 rfl rfl (q := 1) rfl ?_
  refine g_iconst C dL_colourShare_1 (q := 2) rfl ?_
  refine g_aload_n C dL_colourShare_2 0 rfl rfl (q := 3) rfl ?_
  refine g_iload_n C dL_colourShare_3 1 rfl rfl (q := 4) rfl ?_
  refine g_iload_n C dL_colourShare_4 2 rfl rfl (q := 5) rfl ?_
  refine g_cV_f C (As := [.int (iI r), .int (iI c)]) (c_X4_colourShare l E _ r c  (by assumption) (by assumption) (by assumption) (by assumption) (by assumption) (by assumption) (by assumption)) ml_L_137 mf_X4_colourShare (o := 0) (ci := 4) rfl rfl rfl rfl ⟨(Nat.le_of_ble_eq_true rfl), (Nat.le_of_ble_eq_true rfl)⟩ rfl rfl rfl (Nat.le_of_ble_eq_true rfl) ⟨(Nat.le_of_ble_eq_true rfl), (Nat.le_of_ble_eq_true rfl)⟩ dL_colourShare_5 (q := 8) rfl ?_
  refine g_f2d C (by rw [hv9]; exact vf64_of hw9) dL_colourShare_8 (q := 9) rfl ?_
  refine gs_22 C dL_colourShare_9 (q := 10) rfl ?_
  refine g_goto C dL_colourShare_10 (q := 25) rfl ?_
  refine g_iconst C dL_colourShare_25 (q := 26) rfl ?_
  exact hret _ _ _ _ _ (Nat.le_of_ble_eq_true rfl) (Nat.le_of_ble_eq_true rfl) dL_colourShare_26 rfl
set_option maxRecDepth 100000 in
set_option maxHeartbeats 4000000 in
theorem c_L_colourShare_3 (l : Launch) (hst : l.stackTraces = false) (E : EV) (σ : SS) (r c : Int) (hr_r : -2147483648 ≤ r ∧ r ≤ 2147483647) (hr_c : -2147483648 ≤ c ∧ c ≤ 2147483647) (hW : CW (σ 2)) (hP : PW (σ 2)) (hF1 : fR r = 0) (hF2 : fC c = 0) (hz : (σ 2) (240 + r) = 0) : KL l yL_colourShare (cwh yL_colourShare cL_colourShare 5 (some .int) th_L_colourShare) rm_L_colourShare E [.ref (ea E 0), .int (iI r), .int (iI c), .ref (ea E 22)] σ 3 σ := by
  refine KL_of (rm := rm_L_colourShare) (mL := 5) (b := cL_colourShare) RL rfl (by decide +kernel) [(0, .ref (ea E 0)), (1, .int (iI r)), (2, .int (iI c)), (3, .ref (ea E 22))] rfl (Nat.le_of_ble_eq_true rfl) (fun p_ e_ s_ m_ a_ b_ h_ c_ Q A C htab hret => ?_)
  refine g_aload_n C dL_colourShare_0 3 rfl rfl (q := 1) rfl ?_
  refine g_iconst C dL_colourShare_1 (q := 2) rfl ?_
  refine g_aload_n C dL_colourShare_2 0 rfl rfl (q := 3) rfl ?_
  refine g_iload_n C dL_colourShare_3 1 rfl rfl (q := 4) rfl ?_
  refine g_iload_n C dL_colourShare_4 2 rfl rfl (q := 5) rfl ?_
  refine g_xVc C (As := [.int (iI r), .int (iI c)]) (x_X4_colourShare_3 l hst E _ r c  (by assumption) (by assumption) (by assumption) (by assumption) (by assumption) (by assumption) (by assumption)) ml_L_137 mf_X4_colourShare (o := 0) (ci := 4) rfl rfl rfl rfl ⟨(Nat.le_of_ble_eq_true rfl), (Nat.le_of_ble_eq_true rfl)⟩ rfl rfl rfl (Nat.le_of_ble_eq_true rfl) ⟨(Nat.le_of_ble_eq_true rfl), (Nat.le_of_ble_eq_true rfl)⟩ dL_colourShare_5 [{ startPc := 0, endPc := 10, handlerPc := 13, catchType := 13 }, { startPc := 0, endPc := 10, handlerPc := 17, catchType := 15 }] ({ startPc := 0, endPc := 10, handlerPc := 21, catchType := 135 }) [] htab (List.forall_mem_cons.mpr ⟨Or.inr ⟨by decide, xIOOBE, xl_13, (by simp [ncs])⟩, List.forall_mem_cons.mpr ⟨Or.inr ⟨by decide, xIAE, xl_15, (by simp [ncs])⟩, fun _ h => absurd h List.not_mem_nil⟩⟩) (by decide) (by decide) xl_135 xc_AE (q := 21) rfl (fun q9 => ?_)
  refine g_astore C (L' := [(4, .ref q9), (0, .ref (ea E 0)), (1, .int (iI r)), (2, .int (iI c)), (3, .ref (ea E 22))]) dL_colourShare_21 (by decide) rfl (q := 23) rfl ?_
  refine g_iconst C dL_colourShare_23 (q := 24) rfl ?_
  exact hret _ _ _ _ _ (Nat.le_of_ble_eq_true rfl) (Nat.le_of_ble_eq_true rfl) dL_colourShare_24 rfl
set_option maxRecDepth 100000 in
set_option maxHeartbeats 4000000 in
theorem c_L_colourShare_2 (l : Launch) (hst : l.stackTraces = false) (E : EV) (σ : SS) (r c : Int) (hr_r : -2147483648 ≤ r ∧ r ≤ 2147483647) (hr_c : -2147483648 ≤ c ∧ c ≤ 2147483647) (hW : CW (σ 2)) (hF1 : fR r = 0) (hF2 : fC c = 2) : KL l yL_colourShare (cwh yL_colourShare cL_colourShare 5 (some .int) th_L_colourShare) rm_L_colourShare E [.ref (ea E 0), .int (iI r), .int (iI c), .ref (ea E 22)] σ 2 σ := by
  refine KL_of (rm := rm_L_colourShare) (mL := 5) (b := cL_colourShare) RL rfl (by decide +kernel) [(0, .ref (ea E 0)), (1, .int (iI r)), (2, .int (iI c)), (3, .ref (ea E 22))] rfl (Nat.le_of_ble_eq_true rfl) (fun p_ e_ s_ m_ a_ b_ h_ c_ Q A C htab hret => ?_)
  refine g_aload_n C dL_colourShare_0 3 rfl rfl (q := 1) rfl ?_
  refine g_iconst C dL_colourShare_1 (q := 2) rfl ?_
  refine g_aload_n C dL_colourShare_2 0 rfl rfl (q := 3) rfl ?_
  refine g_iload_n C dL_colourShare_3 1 rfl rfl (q := 4) rfl ?_
  refine g_iload_n C dL_colourShare_4 2 rfl rfl (q := 5) rfl ?_
  refine g_xVc C (As := [.int (iI r), .int (iI c)]) (x_X4_colourShare_2 l hst E _ r c  (by assumption) (by assumption) (by assumption) (by assumption) (by assumption)) ml_L_137 mf_X4_colourShare (o := 0) (ci := 4) rfl rfl rfl rfl ⟨(Nat.le_of_ble_eq_true rfl), (Nat.le_of_ble_eq_true rfl)⟩ rfl rfl rfl (Nat.le_of_ble_eq_true rfl) ⟨(Nat.le_of_ble_eq_true rfl), (Nat.le_of_ble_eq_true rfl)⟩ dL_colourShare_5 [{ startPc := 0, endPc := 10, handlerPc := 13, catchType := 13 }] ({ startPc := 0, endPc := 10, handlerPc := 17, catchType := 15 }) [{ startPc := 0, endPc := 10, handlerPc := 21, catchType := 135 }] htab (List.forall_mem_cons.mpr ⟨Or.inr ⟨by decide, xIOOBE, xl_13, (by simp [ncs])⟩, fun _ h => absurd h List.not_mem_nil⟩) (by decide) (by decide) xl_15 xc_IAE (q := 17) rfl (fun q9 => ?_)
  refine g_astore C (L' := [(4, .ref q9), (0, .ref (ea E 0)), (1, .int (iI r)), (2, .int (iI c)), (3, .ref (ea E 22))]) dL_colourShare_17 (by decide) rfl (q := 19) rfl ?_
  refine g_iconst C dL_colourShare_19 (q := 20) rfl ?_
  exact hret _ _ _ _ _ (Nat.le_of_ble_eq_true rfl) (Nat.le_of_ble_eq_true rfl) dL_colourShare_20 rfl
set_option maxRecDepth 100000 in
set_option maxHeartbeats 4000000 in
theorem c_L_colourShare_1 (l : Launch) (hst : l.stackTraces = false) (E : EV) (σ : SS) (r c : Int) (hr_r : -2147483648 ≤ r ∧ r ≤ 2147483647) (hr_c : -2147483648 ≤ c ∧ c ≤ 2147483647) (hW : CW (σ 2)) (hF1 : fR r = 1) : KL l yL_colourShare (cwh yL_colourShare cL_colourShare 5 (some .int) th_L_colourShare) rm_L_colourShare E [.ref (ea E 0), .int (iI r), .int (iI c), .ref (ea E 22)] σ 1 σ := by
  refine KL_of (rm := rm_L_colourShare) (mL := 5) (b := cL_colourShare) RL rfl (by decide +kernel) [(0, .ref (ea E 0)), (1, .int (iI r)), (2, .int (iI c)), (3, .ref (ea E 22))] rfl (Nat.le_of_ble_eq_true rfl) (fun p_ e_ s_ m_ a_ b_ h_ c_ Q A C htab hret => ?_)
  refine g_aload_n C dL_colourShare_0 3 rfl rfl (q := 1) rfl ?_
  refine g_iconst C dL_colourShare_1 (q := 2) rfl ?_
  refine g_aload_n C dL_colourShare_2 0 rfl rfl (q := 3) rfl ?_
  refine g_iload_n C dL_colourShare_3 1 rfl rfl (q := 4) rfl ?_
  refine g_iload_n C dL_colourShare_4 2 rfl rfl (q := 5) rfl ?_
  refine g_xVc C (As := [.int (iI r), .int (iI c)]) (x_X4_colourShare_1 l hst E _ r c  (by assumption) (by assumption) (by assumption) (by assumption)) ml_L_137 mf_X4_colourShare (o := 0) (ci := 4) rfl rfl rfl rfl ⟨(Nat.le_of_ble_eq_true rfl), (Nat.le_of_ble_eq_true rfl)⟩ rfl rfl rfl (Nat.le_of_ble_eq_true rfl) ⟨(Nat.le_of_ble_eq_true rfl), (Nat.le_of_ble_eq_true rfl)⟩ dL_colourShare_5 [] ({ startPc := 0, endPc := 10, handlerPc := 13, catchType := 13 }) [{ startPc := 0, endPc := 10, handlerPc := 17, catchType := 15 }, { startPc := 0, endPc := 10, handlerPc := 21, catchType := 135 }] htab (fun _ h => absurd h List.not_mem_nil) (by decide) (by decide) xl_13 xc_IOOBE (q := 13) rfl (fun q9 => ?_)
  refine g_astore C (L' := [(4, .ref q9), (0, .ref (ea E 0)), (1, .int (iI r)), (2, .int (iI c)), (3, .ref (ea E 22))]) dL_colourShare_13 (by decide) rfl (q := 15) rfl ?_
  refine g_iconst C dL_colourShare_15 (q := 16) rfl ?_
  exact hret _ _ _ _ _ (Nat.le_of_ble_eq_true rfl) (Nat.le_of_ble_eq_true rfl) dL_colourShare_16 rfl
abbrev rm_L_undo : Room := { frames := 7, cells := 1, slots := 6, locals := 166 }
set_option maxRecDepth 100000 in
set_option maxHeartbeats 4000000 in
theorem c_L_undo (l : Launch) (hst : l.stackTraces = false) (E : EV) (σ : SS) (hh : 0 ≤ (σ 5 1) ∧ (σ 5 1) < 8 ∧ 0 ≤ (σ 5 2) ∧ (σ 5 2) ≤ 8) (hz : 0 < (σ 5 2)) : KL l yL_undo (cwh yL_undo cL_undo 3 (some .int) th_L_undo) rm_L_undo E [.ref (ea E 0), .ref (ea E 21)] σ 0 (st (st (st σ 2 (cpf (σ 6) (σ 2) (pv8 (σ 5 1) * 310) 0 310)) 5 (pt (pt (σ 5) 1 (pv8 (σ 5 1))) 2 ((σ 5 2) - 1))) 21 (pt (σ 21) 0 (wr ((σ 5 2) - 1)))) := by
  refine KL_of (rm := rm_L_undo) (mL := 3) (b := cL_undo) RL rfl (by decide +kernel) [(0, .ref (ea E 0)), (1, .ref (ea E 21))] rfl (Nat.le_of_ble_eq_true rfl) (fun p_ e_ s_ m_ a_ b_ h_ c_ Q A C htab hret => ?_)
  refine g_aload_n C dL_undo_0 1 rfl rfl (q := 1) rfl ?_
  refine g_iconst C dL_undo_1 (q := 2) rfl ?_
  refine g_aload_n C dL_undo_2 0 rfl rfl (q := 3) rfl ?_
  refine g_cV_i C (As := []) (c_X4_undo l E _   (by assumption) (by assumption)) ml_L_141 mf_X4_undo (o := 0) (ci := 4) rfl rfl rfl rfl ⟨(Nat.le_of_ble_eq_true rfl), (Nat.le_of_ble_eq_true rfl)⟩ rfl rfl rfl (Nat.le_of_ble_eq_true rfl) ⟨(Nat.le_of_ble_eq_true rfl), (Nat.le_of_ble_eq_true rfl)⟩ dL_undo_3 (q := 6) rfl ?_
  refine g_i2lw C dL_undo_6 (q := 7) rfl ?_
  refine gs_21 C dL_undo_7 (q := 8) rfl ?_
  refine g_st (σ2 := (st (st (st σ 2 (cpf (σ 6) (σ 2) (pv8 (σ 5 1) * 310) 0 310)) 5 (pt (pt (σ 5) 1 (pv8 (σ 5 1))) 2 ((σ 5 2) - 1))) 21 (pt (σ 21) 0 (wr ((σ 5 2) - 1))))) rfl ?_
  refine g_goto C dL_undo_8 (q := 14) rfl ?_
  refine g_iconst C dL_undo_14 (q := 15) rfl ?_
  exact hret _ _ _ _ _ (Nat.le_of_ble_eq_true rfl) (Nat.le_of_ble_eq_true rfl) dL_undo_15 rfl
set_option maxRecDepth 100000 in
set_option maxHeartbeats 4000000 in
theorem c_L_undo_1 (l : Launch) (hst : l.stackTraces = false) (E : EV) (σ : SS) (hh : 0 ≤ (σ 5 1) ∧ (σ 5 1) < 8 ∧ 0 ≤ (σ 5 2) ∧ (σ 5 2) ≤ 8) (hz : (σ 5 2) = 0) : KL l yL_undo (cwh yL_undo cL_undo 3 (some .int) th_L_undo) rm_L_undo E [.ref (ea E 0), .ref (ea E 21)] σ 1 σ := by
  refine KL_of (rm := rm_L_undo) (mL := 3) (b := cL_undo) RL rfl (by decide +kernel) [(0, .ref (ea E 0)), (1, .ref (ea E 21))] rfl (Nat.le_of_ble_eq_true rfl) (fun p_ e_ s_ m_ a_ b_ h_ c_ Q A C htab hret => ?_)
  refine g_aload_n C dL_undo_0 1 rfl rfl (q := 1) rfl ?_
  refine g_iconst C dL_undo_1 (q := 2) rfl ?_
  refine g_aload_n C dL_undo_2 0 rfl rfl (q := 3) rfl ?_
  refine g_xVc C (As := []) (x_X4_undo_1 l hst E _   (by assumption) (by assumption)) ml_L_141 mf_X4_undo (o := 0) (ci := 4) rfl rfl rfl rfl ⟨(Nat.le_of_ble_eq_true rfl), (Nat.le_of_ble_eq_true rfl)⟩ rfl rfl rfl (Nat.le_of_ble_eq_true rfl) ⟨(Nat.le_of_ble_eq_true rfl), (Nat.le_of_ble_eq_true rfl)⟩ dL_undo_3 [] ({ startPc := 0, endPc := 8, handlerPc := 11, catchType := 17 }) [] htab (fun _ h => absurd h List.not_mem_nil) (by decide) (by decide) xl_17 xc_ISE (q := 11) rfl (fun q9 => ?_)
  refine g_astore_n C (L' := [(2, .ref q9), (0, .ref (ea E 0)), (1, .ref (ea E 21))]) dL_undo_11 rfl (by decide) rfl (q := 12) rfl ?_
  refine g_iconst C dL_undo_12 (q := 13) rfl ?_
  exact hret _ _ _ _ _ (Nat.le_of_ble_eq_true rfl) (Nat.le_of_ble_eq_true rfl) dL_undo_13 rfl
abbrev rm_L_restore : Room := { frames := 7, cells := 1, slots := 6, locals := 145 }
set_option maxRecDepth 100000 in
set_option maxHeartbeats 4000000 in
theorem c_L_restore (l : Launch) (hst : l.stackTraces = false) (E : EV) (σ : SS) (hs : (σ 0 3) = 1) : KL l yL_restore (cwh yL_restore cL_restore 3 (some .int) th_L_restore) rm_L_restore E [.ref (ea E 0), .ref (ea E 21)] σ 0 (st (st (st σ 2 (cpf (σ 4) (σ 2) 0 0 310)) 5 (pt (σ 5) 2 0)) 21 (pt (σ 21) 0 (wr (0 + (cpf (σ 4) (σ 2) 0 0 310) (240 + 0) + (cpf (σ 4) (σ 2) 0 0 310) (240 + 1) + (cpf (σ 4) (σ 2) 0 0 310) (240 + 2) + (cpf (σ 4) (σ 2) 0 0 310) (240 + 3))))) := by
  refine KL_of (rm := rm_L_restore) (mL := 3) (b := cL_restore) RL rfl (by decide +kernel) [(0, .ref (ea E 0)), (1, .ref (ea E 21))] rfl (Nat.le_of_ble_eq_true rfl) (fun p_ e_ s_ m_ a_ b_ h_ c_ Q A C htab hret => ?_)
  refine g_aload_n C dL_restore_0 1 rfl rfl (q := 1) rfl ?_
  refine g_iconst C dL_restore_1 (q := 2) rfl ?_
  refine g_aload_n C dL_restore_2 0 rfl rfl (q := 3) rfl ?_
  refine g_cV_i C (As := []) (c_X4_restore l E _   (by assumption)) ml_L_144 mf_X4_restore (o := 0) (ci := 4) rfl rfl rfl rfl ⟨(Nat.le_of_ble_eq_true rfl), (Nat.le_of_ble_eq_true rfl)⟩ rfl rfl rfl (Nat.le_of_ble_eq_true rfl) ⟨(Nat.le_of_ble_eq_true rfl), (Nat.le_of_ble_eq_true rfl)⟩ dL_restore_3 (q := 6) rfl ?_
  refine g_i2lw C dL_restore_6 (q := 7) rfl ?_
  refine gs_21 C dL_restore_7 (q := 8) rfl ?_
  refine g_st (σ2 := (st (st (st σ 2 (cpf (σ 4) (σ 2) 0 0 310)) 5 (pt (σ 5) 2 0)) 21 (pt (σ 21) 0 (wr (0 + (cpf (σ 4) (σ 2) 0 0 310) (240 + 0) + (cpf (σ 4) (σ 2) 0 0 310) (240 + 1) + (cpf (σ 4) (σ 2) 0 0 310) (240 + 2) + (cpf (σ 4) (σ 2) 0 0 310) (240 + 3)))))) rfl ?_
  refine g_goto C dL_restore_8 (q := 14) rfl ?_
  refine g_iconst C dL_restore_14 (q := 15) rfl ?_
  exact hret _ _ _ _ _ (Nat.le_of_ble_eq_true rfl) (Nat.le_of_ble_eq_true rfl) dL_restore_15 rfl
set_option maxRecDepth 100000 in
set_option maxHeartbeats 4000000 in
theorem c_L_restore_1 (l : Launch) (hst : l.stackTraces = false) (E : EV) (σ : SS) (hs : (σ 0 3) = 0) : KL l yL_restore (cwh yL_restore cL_restore 3 (some .int) th_L_restore) rm_L_restore E [.ref (ea E 0), .ref (ea E 21)] σ 1 σ := by
  refine KL_of (rm := rm_L_restore) (mL := 3) (b := cL_restore) RL rfl (by decide +kernel) [(0, .ref (ea E 0)), (1, .ref (ea E 21))] rfl (Nat.le_of_ble_eq_true rfl) (fun p_ e_ s_ m_ a_ b_ h_ c_ Q A C htab hret => ?_)
  refine g_aload_n C dL_restore_0 1 rfl rfl (q := 1) rfl ?_
  refine g_iconst C dL_restore_1 (q := 2) rfl ?_
  refine g_aload_n C dL_restore_2 0 rfl rfl (q := 3) rfl ?_
  refine g_xVc C (As := []) (x_X4_restore_1 l hst E _   (by assumption)) ml_L_144 mf_X4_restore (o := 0) (ci := 4) rfl rfl rfl rfl ⟨(Nat.le_of_ble_eq_true rfl), (Nat.le_of_ble_eq_true rfl)⟩ rfl rfl rfl (Nat.le_of_ble_eq_true rfl) ⟨(Nat.le_of_ble_eq_true rfl), (Nat.le_of_ble_eq_true rfl)⟩ dL_restore_3 [] ({ startPc := 0, endPc := 8, handlerPc := 11, catchType := 17 }) [] htab (fun _ h => absurd h List.not_mem_nil) (by decide) (by decide) xl_17 xc_ISE (q := 11) rfl (fun q9 => ?_)
  refine g_astore_n C (L' := [(2, .ref q9), (0, .ref (ea E 0)), (1, .ref (ea E 21))]) dL_restore_11 rfl (by decide) rfl (q := 12) rfl ?_
  refine g_iconst C dL_restore_12 (q := 13) rfl ?_
  exact hret _ _ _ _ _ (Nat.le_of_ble_eq_true rfl) (Nat.le_of_ble_eq_true rfl) dL_restore_13 rfl
