abbrev rm_L_segmentCount_0_0 : Room := { frames := 3, cells := 0, slots := 0, locals := 63 }
set_option maxRecDepth 100000 in
set_option maxHeartbeats 4000000 in
theorem c_L_segmentCount (l : Launch) (hst : l.stackTraces = false) (E : EV) (σ : SS) (r : Int) (hr_r : -2147483648 ≤ r ∧ r ≤ 2147483647) (hW : CW (σ 2)) (hF1 : fR r = 0) : TI l yL_segmentCount (cwh yL_segmentCount cL_segmentCount 3 (some .int) th_L_segmentCount) rm_L_segmentCount_0_0 E [.ref (ea E 0), .int (iI r)] σ ((σ 2) (240 + r)) σ 0 0 := by
  refine TI_of (rm := rm_L_segmentCount_0_0) (mL := 3) (b := cL_segmentCount) RL rfl (by decide +kernel) [(0, .ref (ea E 0)), (1, .int (iI r))] rfl (Nat.le_of_ble_eq_true rfl) (fun p_ e_ s_ m_ a_ b_ h_ c_ Q A C htab hret => ?_)
  refine g_aload_n C dL_segmentCount_0 0 rfl rfl (q := 1) rfl ?_
  refine g_iload_n C dL_segmentCount_1 1 rfl rfl (q := 2) rfl ?_
  refine g_cV_i C (As := [.int (iI r)]) (c_X4_segmentCount l E _ r (by assumption) (by assumption) (by assumption)) ml_L_37 mf_X4_segmentCount (o := 0) (ci := 4) rfl rfl rfl rfl ⟨(Nat.le_of_ble_eq_true rfl), (Nat.le_of_ble_eq_true rfl)⟩ rfl rfl rfl (Nat.le_of_ble_eq_true rfl) ⟨(Nat.le_of_ble_eq_true rfl), (Nat.le_of_ble_eq_true rfl)⟩ dL_segmentCount_2 (q := 5) rfl ?_
  exact hret _ _ _ _ _ (by omega) (by omega) dL_segmentCount_5 rfl
abbrev rm_L_segmentCount_1_6 : Room := { frames := 8, cells := 1, slots := 6, locals := 123 }
set_option maxRecDepth 100000 in
set_option maxHeartbeats 4000000 in
theorem c_L_segmentCount_11 (l : Launch) (hst : l.stackTraces = false) (E : EV) (σ : SS) (r : Int) (hr_r : -2147483648 ≤ r ∧ r ≤ 2147483647) (hW : CW (σ 2)) (hF1 : fR r = 1) : TI l yL_segmentCount (cwh yL_segmentCount cL_segmentCount 3 (some .int) th_L_segmentCount) rm_L_segmentCount_1_6 E [.ref (ea E 0), .int (iI r)] σ (-77) σ 1 6 := by
  refine TI_of (rm := rm_L_segmentCount_1_6) (mL := 3) (b := cL_segmentCount) RL rfl (by decide +kernel) [(0, .ref (ea E 0)), (1, .int (iI r))] rfl (Nat.le_of_ble_eq_true rfl) (fun p_ e_ s_ m_ a_ b_ h_ c_ Q A C htab hret => ?_)
  refine g_aload_n C dL_segmentCount_0 0 rfl rfl (q := 1) rfl ?_
  refine g_iload_n C dL_segmentCount_1 1 rfl rfl (q := 2) rfl ?_
  refine g_xVc C (As := [.int (iI r)]) (x_X4_segmentCount_11 l hst E _ r (by assumption) (by assumption) (by assumption)) ml_L_37 mf_X4_segmentCount (o := 0) (ci := 4) rfl rfl rfl rfl ⟨(Nat.le_of_ble_eq_true rfl), (Nat.le_of_ble_eq_true rfl)⟩ rfl rfl rfl (Nat.le_of_ble_eq_true rfl) ⟨by show 0 + 1 ≤ 1; omega, by show 0 + 6 ≤ 6; omega⟩ dL_segmentCount_2 [] ({ startPc := 0, endPc := 5, handlerPc := 6, catchType := 20 }) [] htab (fun _ h => absurd h List.not_mem_nil) (by decide) (by decide) xl_20 xc_IOOBE (q := 6) rfl (fun q9 => ?_)
  refine g_astore_n C (L' := [(2, .ref q9), (0, .ref (ea E 0)), (1, .int (iI r))]) dL_segmentCount_6 rfl (by decide) rfl (q := 7) rfl ?_
  refine g_bipush C dL_segmentCount_7 (by decide) (q := 9) rfl ?_
  exact hret _ _ _ _ _ (by omega) (by omega) dL_segmentCount_9 rfl
abbrev rm_L_length_0_0 : Room := { frames := 5, cells := 0, slots := 0, locals := 108 }
set_option maxRecDepth 100000 in
set_option maxHeartbeats 4000000 in
theorem c_L_length (l : Launch) (hst : l.stackTraces = false) (E : EV) (σ : SS) (r p : Int) (hr_r : -2147483648 ≤ r ∧ r ≤ 2147483647) (hr_p : -2147483648 ≤ p ∧ p ≤ 2147483647) (hW : CW (σ 2)) (hF1 : fP (σ 2) r p = 0) : TI l yL_length (cwh yL_length cL_length 4 (some .int) th_L_length) rm_L_length_0_0 E [.ref (ea E 0), .int (iI r), .int (iI p)] σ ((σ 2) (r * 60 + p) / 8) σ 0 0 := by
  refine TI_of (rm := rm_L_length_0_0) (mL := 4) (b := cL_length) RL rfl (by decide +kernel) [(0, .ref (ea E 0)), (1, .int (iI r)), (2, .int (iI p))] rfl (Nat.le_of_ble_eq_true rfl) (fun p_ e_ s_ m_ a_ b_ h_ c_ Q A C htab hret => ?_)
  refine g_aload_n C dL_length_0 0 rfl rfl (q := 1) rfl ?_
  refine g_iload_n C dL_length_1 1 rfl rfl (q := 2) rfl ?_
  refine g_iload_n C dL_length_2 2 rfl rfl (q := 3) rfl ?_
  refine g_cV_i C (As := [.int (iI r), .int (iI p)]) (c_X4_length l E _ r p (by assumption) (by assumption) (by assumption) (by assumption)) ml_L_41 mf_X4_length (o := 0) (ci := 4) rfl rfl rfl rfl ⟨(Nat.le_of_ble_eq_true rfl), (Nat.le_of_ble_eq_true rfl)⟩ rfl rfl rfl (Nat.le_of_ble_eq_true rfl) ⟨(Nat.le_of_ble_eq_true rfl), (Nat.le_of_ble_eq_true rfl)⟩ dL_length_3 (q := 6) rfl ?_
  exact hret _ _ _ _ _ (by omega) (by omega) dL_length_6 rfl
abbrev rm_L_colour_0_0 : Room := { frames := 5, cells := 0, slots := 0, locals := 108 }
set_option maxRecDepth 100000 in
set_option maxHeartbeats 4000000 in
theorem c_L_colour (l : Launch) (hst : l.stackTraces = false) (E : EV) (σ : SS) (r p : Int) (hr_r : -2147483648 ≤ r ∧ r ≤ 2147483647) (hr_p : -2147483648 ≤ p ∧ p ≤ 2147483647) (hW : CW (σ 2)) (hF1 : fP (σ 2) r p = 0) : TI l yL_colour (cwh yL_colour cL_colour 4 (some .int) th_L_colour) rm_L_colour_0_0 E [.ref (ea E 0), .int (iI r), .int (iI p)] σ ((σ 2) (r * 60 + p) % 8) σ 0 0 := by
  refine TI_of (rm := rm_L_colour_0_0) (mL := 4) (b := cL_colour) RL rfl (by decide +kernel) [(0, .ref (ea E 0)), (1, .int (iI r)), (2, .int (iI p))] rfl (Nat.le_of_ble_eq_true rfl) (fun p_ e_ s_ m_ a_ b_ h_ c_ Q A C htab hret => ?_)
  refine g_aload_n C dL_colour_0 0 rfl rfl (q := 1) rfl ?_
  refine g_iload_n C dL_colour_1 1 rfl rfl (q := 2) rfl ?_
  refine g_iload_n C dL_colour_2 2 rfl rfl (q := 3) rfl ?_
  refine g_cV_i C (As := [.int (iI r), .int (iI p)]) (c_X4_colour l E _ r p (by assumption) (by assumption) (by assumption) (by assumption)) ml_L_44 mf_X4_colour (o := 0) (ci := 4) rfl rfl rfl rfl ⟨(Nat.le_of_ble_eq_true rfl), (Nat.le_of_ble_eq_true rfl)⟩ rfl rfl rfl (Nat.le_of_ble_eq_true rfl) ⟨(Nat.le_of_ble_eq_true rfl), (Nat.le_of_ble_eq_true rfl)⟩ dL_colour_3 (q := 6) rfl ?_
  exact hret _ _ _ _ _ (by omega) (by omega) dL_colour_6 rfl
abbrev rm_L_append_0_0 : Room := { frames := 8, cells := 0, slots := 0, locals := 189 }
set_option maxRecDepth 100000 in
set_option maxHeartbeats 4000000 in
theorem c_L_append (l : Launch) (hst : l.stackTraces = false) (E : EV) (σ : SS) (r b c : Int) (hr_r : -2147483648 ≤ r ∧ r ≤ 2147483647) (hr_b : -2147483648 ≤ b ∧ b ≤ 2147483647) (hr_c : -2147483648 ≤ c ∧ c ≤ 2147483647) (hW : CW (σ 2)) (hh : 0 ≤ (σ 5 1) ∧ (σ 5 1) < 8 ∧ 0 ≤ (σ 5 2) ∧ (σ 5 2) ≤ 8) (hF : FK (σ 2) 0 r b c 0 = 0) : TI l yL_append (cwh yL_append cL_append 5 (some .int) th_L_append) rm_L_append_0_0 E [.ref (ea E 0), .int (iI r), .int (iI b), .int (iI c)] σ (opR (σ 2) 0 r b c 0) (st (st (st (st σ 2 (refF (opF (σ 2) 0 r b c 0))) 3 (cpf (σ 2) (σ 3) 0 0 310)) 5 (pt (pt (σ 5) 1 (nx8 (σ 5 1))) 2 (min ((σ 5 2) + 1) 8))) 6 (cpf (cpf (σ 2) (σ 3) 0 0 310) (σ 6) 0 ((σ 5 1) * 310) 310)) 0 0 := by
  refine TI_of (rm := rm_L_append_0_0) (mL := 5) (b := cL_append) RL rfl (by decide +kernel) [(0, .ref (ea E 0)), (1, .int (iI r)), (2, .int (iI b)), (3, .int (iI c))] rfl (Nat.le_of_ble_eq_true rfl) (fun p_ e_ s_ m_ a_ b_ h_ c_ Q A C htab hret => ?_)
  refine g_aload_n C dL_append_0 0 rfl rfl (q := 1) rfl ?_
  refine g_iload_n C dL_append_1 1 rfl rfl (q := 2) rfl ?_
  refine g_iload_n C dL_append_2 2 rfl rfl (q := 3) rfl ?_
  refine g_iload_n C dL_append_3 3 rfl rfl (q := 4) rfl ?_
  refine g_cV_i C (As := [.int (iI r), .int (iI b), .int (iI c)]) (c_X4_append l E _ r b c (by assumption) (by assumption) (by assumption) (by assumption) (by assumption) (by assumption)) ml_L_14 mf_X4_append (o := 0) (ci := 4) rfl rfl rfl rfl ⟨(Nat.le_of_ble_eq_true rfl), (Nat.le_of_ble_eq_true rfl)⟩ rfl rfl rfl (Nat.le_of_ble_eq_true rfl) ⟨(Nat.le_of_ble_eq_true rfl), (Nat.le_of_ble_eq_true rfl)⟩ dL_append_4 (q := 7) rfl ?_
  exact hret _ _ _ _ _ (by omega) (by omega) dL_append_7 rfl
abbrev rm_L_append_1_6 : Room := { frames := 9, cells := 1, slots := 6, locals := 186 }
set_option maxRecDepth 100000 in
set_option maxHeartbeats 4000000 in
theorem c_L_append_1 (l : Launch) (hst : l.stackTraces = false) (E : EV) (σ : SS) (r b c : Int) (hr_r : -2147483648 ≤ r ∧ r ≤ 2147483647) (hr_b : -2147483648 ≤ b ∧ b ≤ 2147483647) (hr_c : -2147483648 ≤ c ∧ c ≤ 2147483647) (hW : CW (σ 2)) (hF : FK (σ 2) 0 r b c 0 = 1) : TI l yL_append (cwh yL_append cL_append 5 (some .int) th_L_append) rm_L_append_1_6 E [.ref (ea E 0), .int (iI r), .int (iI b), .int (iI c)] σ (-77) σ 1 6 := by
  refine TI_of (rm := rm_L_append_1_6) (mL := 5) (b := cL_append) RL rfl (by decide +kernel) [(0, .ref (ea E 0)), (1, .int (iI r)), (2, .int (iI b)), (3, .int (iI c))] rfl (Nat.le_of_ble_eq_true rfl) (fun p_ e_ s_ m_ a_ b_ h_ c_ Q A C htab hret => ?_)
  refine g_aload_n C dL_append_0 0 rfl rfl (q := 1) rfl ?_
  refine g_iload_n C dL_append_1 1 rfl rfl (q := 2) rfl ?_
  refine g_iload_n C dL_append_2 2 rfl rfl (q := 3) rfl ?_
  refine g_iload_n C dL_append_3 3 rfl rfl (q := 4) rfl ?_
  refine g_xVc C (As := [.int (iI r), .int (iI b), .int (iI c)]) (x_X4_append_1 l hst E _ r b c (by assumption) (by assumption) (by assumption) (by assumption) (by assumption)) ml_L_14 mf_X4_append (o := 0) (ci := 4) rfl rfl rfl rfl ⟨(Nat.le_of_ble_eq_true rfl), (Nat.le_of_ble_eq_true rfl)⟩ rfl rfl rfl (Nat.le_of_ble_eq_true rfl) ⟨by show 0 + 1 ≤ 1; omega, by show 0 + 6 ≤ 6; omega⟩ dL_append_4 [] ({ startPc := 0, endPc := 7, handlerPc := 8, catchType := 20 }) [{ startPc := 0, endPc := 7, handlerPc := 13, catchType := 22 }, { startPc := 0, endPc := 7, handlerPc := 18, catchType := 24 }] htab (fun _ h => absurd h List.not_mem_nil) (by decide) (by decide) xl_20 xc_IOOBE (q := 8) rfl (fun q9 => ?_)
  refine g_astore C (L' := [(4, .ref q9), (0, .ref (ea E 0)), (1, .int (iI r)), (2, .int (iI b)), (3, .int (iI c))]) dL_append_8 (by decide) rfl (q := 10) rfl ?_
  refine g_bipush C dL_append_10 (by decide) (q := 12) rfl ?_
  exact hret _ _ _ _ _ (by omega) (by omega) dL_append_12 rfl
set_option maxRecDepth 100000 in
set_option maxHeartbeats 4000000 in
theorem c_L_append_2 (l : Launch) (hst : l.stackTraces = false) (E : EV) (σ : SS) (r b c : Int) (hr_r : -2147483648 ≤ r ∧ r ≤ 2147483647) (hr_b : -2147483648 ≤ b ∧ b ≤ 2147483647) (hr_c : -2147483648 ≤ c ∧ c ≤ 2147483647) (hW : CW (σ 2)) (hF : FK (σ 2) 0 r b c 0 = 2) : TI l yL_append (cwh yL_append cL_append 5 (some .int) th_L_append) rm_L_append_1_6 E [.ref (ea E 0), .int (iI r), .int (iI b), .int (iI c)] σ (-78) σ 1 6 := by
  refine TI_of (rm := rm_L_append_1_6) (mL := 5) (b := cL_append) RL rfl (by decide +kernel) [(0, .ref (ea E 0)), (1, .int (iI r)), (2, .int (iI b)), (3, .int (iI c))] rfl (Nat.le_of_ble_eq_true rfl) (fun p_ e_ s_ m_ a_ b_ h_ c_ Q A C htab hret => ?_)
  refine g_aload_n C dL_append_0 0 rfl rfl (q := 1) rfl ?_
  refine g_iload_n C dL_append_1 1 rfl rfl (q := 2) rfl ?_
  refine g_iload_n C dL_append_2 2 rfl rfl (q := 3) rfl ?_
  refine g_iload_n C dL_append_3 3 rfl rfl (q := 4) rfl ?_
  refine g_xVc C (As := [.int (iI r), .int (iI b), .int (iI c)]) (x_X4_append_2 l hst E _ r b c (by assumption) (by assumption) (by assumption) (by assumption) (by assumption)) ml_L_14 mf_X4_append (o := 0) (ci := 4) rfl rfl rfl rfl ⟨(Nat.le_of_ble_eq_true rfl), (Nat.le_of_ble_eq_true rfl)⟩ rfl rfl rfl (Nat.le_of_ble_eq_true rfl) ⟨by show 0 + 1 ≤ 1; omega, by show 0 + 6 ≤ 6; omega⟩ dL_append_4 [{ startPc := 0, endPc := 7, handlerPc := 8, catchType := 20 }] ({ startPc := 0, endPc := 7, handlerPc := 13, catchType := 22 }) [{ startPc := 0, endPc := 7, handlerPc := 18, catchType := 24 }] htab (List.forall_mem_cons.mpr ⟨Or.inr ⟨by decide, xIOOBE, xl_20, (by simp [ncs])⟩, fun _ h => absurd h List.not_mem_nil⟩) (by decide) (by decide) xl_22 xc_IAE (q := 13) rfl (fun q9 => ?_)
  refine g_astore C (L' := [(4, .ref q9), (0, .ref (ea E 0)), (1, .int (iI r)), (2, .int (iI b)), (3, .int (iI c))]) dL_append_13 (by decide) rfl (q := 15) rfl ?_
  refine g_bipush C dL_append_15 (by decide) (q := 17) rfl ?_
  exact hret _ _ _ _ _ (by omega) (by omega) dL_append_17 rfl
set_option maxRecDepth 100000 in
set_option maxHeartbeats 4000000 in
theorem c_L_append_3 (l : Launch) (hst : l.stackTraces = false) (E : EV) (σ : SS) (r b c : Int) (hr_r : -2147483648 ≤ r ∧ r ≤ 2147483647) (hr_b : -2147483648 ≤ b ∧ b ≤ 2147483647) (hr_c : -2147483648 ≤ c ∧ c ≤ 2147483647) (hW : CW (σ 2)) (hF : FK (σ 2) 0 r b c 0 = 3) : TI l yL_append (cwh yL_append cL_append 5 (some .int) th_L_append) rm_L_append_1_6 E [.ref (ea E 0), .int (iI r), .int (iI b), .int (iI c)] σ (-79) σ 1 6 := by
  refine TI_of (rm := rm_L_append_1_6) (mL := 5) (b := cL_append) RL rfl (by decide +kernel) [(0, .ref (ea E 0)), (1, .int (iI r)), (2, .int (iI b)), (3, .int (iI c))] rfl (Nat.le_of_ble_eq_true rfl) (fun p_ e_ s_ m_ a_ b_ h_ c_ Q A C htab hret => ?_)
  refine g_aload_n C dL_append_0 0 rfl rfl (q := 1) rfl ?_
  refine g_iload_n C dL_append_1 1 rfl rfl (q := 2) rfl ?_
  refine g_iload_n C dL_append_2 2 rfl rfl (q := 3) rfl ?_
  refine g_iload_n C dL_append_3 3 rfl rfl (q := 4) rfl ?_
  refine g_xVc C (As := [.int (iI r), .int (iI b), .int (iI c)]) (x_X4_append_3 l hst E _ r b c (by assumption) (by assumption) (by assumption) (by assumption) (by assumption)) ml_L_14 mf_X4_append (o := 0) (ci := 4) rfl rfl rfl rfl ⟨(Nat.le_of_ble_eq_true rfl), (Nat.le_of_ble_eq_true rfl)⟩ rfl rfl rfl (Nat.le_of_ble_eq_true rfl) ⟨by show 0 + 1 ≤ 1; omega, by show 0 + 6 ≤ 6; omega⟩ dL_append_4 [{ startPc := 0, endPc := 7, handlerPc := 8, catchType := 20 }, { startPc := 0, endPc := 7, handlerPc := 13, catchType := 22 }] ({ startPc := 0, endPc := 7, handlerPc := 18, catchType := 24 }) [] htab (List.forall_mem_cons.mpr ⟨Or.inr ⟨by decide, xIOOBE, xl_20, (by simp [ncs])⟩, List.forall_mem_cons.mpr ⟨Or.inr ⟨by decide, xIAE, xl_22, (by simp [ncs])⟩, fun _ h => absurd h List.not_mem_nil⟩⟩) (by decide) (by decide) xl_24 xc_ISE (q := 18) rfl (fun q9 => ?_)
  refine g_astore C (L' := [(4, .ref q9), (0, .ref (ea E 0)), (1, .int (iI r)), (2, .int (iI b)), (3, .int (iI c))]) dL_append_18 (by decide) rfl (q := 20) rfl ?_
  refine g_bipush C dL_append_20 (by decide) (q := 22) rfl ?_
  exact hret _ _ _ _ _ (by omega) (by omega) dL_append_22 rfl
abbrev rm_L_insert_0_0 : Room := { frames := 8, cells := 0, slots := 0, locals := 190 }
set_option maxRecDepth 100000 in
set_option maxHeartbeats 4000000 in
theorem c_L_insert (l : Launch) (hst : l.stackTraces = false) (E : EV) (σ : SS) (r b c d : Int) (hr_r : -2147483648 ≤ r ∧ r ≤ 2147483647) (hr_b : -2147483648 ≤ b ∧ b ≤ 2147483647) (hr_c : -2147483648 ≤ c ∧ c ≤ 2147483647) (hr_d : -2147483648 ≤ d ∧ d ≤ 2147483647) (hW : CW (σ 2)) (hh : 0 ≤ (σ 5 1) ∧ (σ 5 1) < 8 ∧ 0 ≤ (σ 5 2) ∧ (σ 5 2) ≤ 8) (hF : FK (σ 2) 1 r b c d = 0) : TI l yL_insert (cwh yL_insert cL_insert 6 (some .int) th_L_insert) rm_L_insert_0_0 E [.ref (ea E 0), .int (iI r), .int (iI b), .int (iI c), .int (iI d)] σ (opR (σ 2) 1 r b c d) (st (st (st (st σ 2 (refF (opF (σ 2) 1 r b c d))) 3 (cpf (σ 2) (σ 3) 0 0 310)) 5 (pt (pt (σ 5) 1 (nx8 (σ 5 1))) 2 (min ((σ 5 2) + 1) 8))) 6 (cpf (cpf (σ 2) (σ 3) 0 0 310) (σ 6) 0 ((σ 5 1) * 310) 310)) 0 0 := by
  refine TI_of (rm := rm_L_insert_0_0) (mL := 6) (b := cL_insert) RL rfl (by decide +kernel) [(0, .ref (ea E 0)), (1, .int (iI r)), (2, .int (iI b)), (3, .int (iI c)), (4, .int (iI d))] rfl (Nat.le_of_ble_eq_true rfl) (fun p_ e_ s_ m_ a_ b_ h_ c_ Q A C htab hret => ?_)
  refine g_aload_n C dL_insert_0 0 rfl rfl (q := 1) rfl ?_
  refine g_iload_n C dL_insert_1 1 rfl rfl (q := 2) rfl ?_
  refine g_iload_n C dL_insert_2 2 rfl rfl (q := 3) rfl ?_
  refine g_iload_n C dL_insert_3 3 rfl rfl (q := 4) rfl ?_
  refine g_iload C dL_insert_4 4 rfl (q := 6) rfl ?_
  refine g_cV_i C (As := [.int (iI r), .int (iI b), .int (iI c), .int (iI d)]) (c_X4_insert l E _ r b c d (by assumption) (by assumption) (by assumption) (by assumption) (by assumption) (by assumption) (by assumption)) ml_L_26 mf_X4_insert (o := 0) (ci := 4) rfl rfl rfl rfl ⟨(Nat.le_of_ble_eq_true rfl), (Nat.le_of_ble_eq_true rfl)⟩ rfl rfl rfl (Nat.le_of_ble_eq_true rfl) ⟨(Nat.le_of_ble_eq_true rfl), (Nat.le_of_ble_eq_true rfl)⟩ dL_insert_6 (q := 9) rfl ?_
  exact hret _ _ _ _ _ (by omega) (by omega) dL_insert_9 rfl
abbrev rm_L_insert_1_6 : Room := { frames := 9, cells := 1, slots := 6, locals := 187 }
set_option maxRecDepth 100000 in
set_option maxHeartbeats 4000000 in
theorem c_L_insert_1 (l : Launch) (hst : l.stackTraces = false) (E : EV) (σ : SS) (r b c d : Int) (hr_r : -2147483648 ≤ r ∧ r ≤ 2147483647) (hr_b : -2147483648 ≤ b ∧ b ≤ 2147483647) (hr_c : -2147483648 ≤ c ∧ c ≤ 2147483647) (hr_d : -2147483648 ≤ d ∧ d ≤ 2147483647) (hW : CW (σ 2)) (hF : FK (σ 2) 1 r b c d = 1) : TI l yL_insert (cwh yL_insert cL_insert 6 (some .int) th_L_insert) rm_L_insert_1_6 E [.ref (ea E 0), .int (iI r), .int (iI b), .int (iI c), .int (iI d)] σ (-77) σ 1 6 := by
  refine TI_of (rm := rm_L_insert_1_6) (mL := 6) (b := cL_insert) RL rfl (by decide +kernel) [(0, .ref (ea E 0)), (1, .int (iI r)), (2, .int (iI b)), (3, .int (iI c)), (4, .int (iI d))] rfl (Nat.le_of_ble_eq_true rfl) (fun p_ e_ s_ m_ a_ b_ h_ c_ Q A C htab hret => ?_)
  refine g_aload_n C dL_insert_0 0 rfl rfl (q := 1) rfl ?_
  refine g_iload_n C dL_insert_1 1 rfl rfl (q := 2) rfl ?_
  refine g_iload_n C dL_insert_2 2 rfl rfl (q := 3) rfl ?_
  refine g_iload_n C dL_insert_3 3 rfl rfl (q := 4) rfl ?_
  refine g_iload C dL_insert_4 4 rfl (q := 6) rfl ?_
  refine g_xVc C (As := [.int (iI r), .int (iI b), .int (iI c), .int (iI d)]) (x_X4_insert_1 l hst E _ r b c d (by assumption) (by assumption) (by assumption) (by assumption) (by assumption) (by assumption)) ml_L_26 mf_X4_insert (o := 0) (ci := 4) rfl rfl rfl rfl ⟨(Nat.le_of_ble_eq_true rfl), (Nat.le_of_ble_eq_true rfl)⟩ rfl rfl rfl (Nat.le_of_ble_eq_true rfl) ⟨by show 0 + 1 ≤ 1; omega, by show 0 + 6 ≤ 6; omega⟩ dL_insert_6 [] ({ startPc := 0, endPc := 9, handlerPc := 10, catchType := 20 }) [{ startPc := 0, endPc := 9, handlerPc := 15, catchType := 22 }, { startPc := 0, endPc := 9, handlerPc := 20, catchType := 24 }] htab (fun _ h => absurd h List.not_mem_nil) (by decide) (by decide) xl_20 xc_IOOBE (q := 10) rfl (fun q9 => ?_)
  refine g_astore C (L' := [(5, .ref q9), (0, .ref (ea E 0)), (1, .int (iI r)), (2, .int (iI b)), (3, .int (iI c)), (4, .int (iI d))]) dL_insert_10 (by decide) rfl (q := 12) rfl ?_
  refine g_bipush C dL_insert_12 (by decide) (q := 14) rfl ?_
  exact hret _ _ _ _ _ (by omega) (by omega) dL_insert_14 rfl
set_option maxRecDepth 100000 in
set_option maxHeartbeats 4000000 in
theorem c_L_insert_2 (l : Launch) (hst : l.stackTraces = false) (E : EV) (σ : SS) (r b c d : Int) (hr_r : -2147483648 ≤ r ∧ r ≤ 2147483647) (hr_b : -2147483648 ≤ b ∧ b ≤ 2147483647) (hr_c : -2147483648 ≤ c ∧ c ≤ 2147483647) (hr_d : -2147483648 ≤ d ∧ d ≤ 2147483647) (hW : CW (σ 2)) (hF : FK (σ 2) 1 r b c d = 2) : TI l yL_insert (cwh yL_insert cL_insert 6 (some .int) th_L_insert) rm_L_insert_1_6 E [.ref (ea E 0), .int (iI r), .int (iI b), .int (iI c), .int (iI d)] σ (-78) σ 1 6 := by
  refine TI_of (rm := rm_L_insert_1_6) (mL := 6) (b := cL_insert) RL rfl (by decide +kernel) [(0, .ref (ea E 0)), (1, .int (iI r)), (2, .int (iI b)), (3, .int (iI c)), (4, .int (iI d))] rfl (Nat.le_of_ble_eq_true rfl) (fun p_ e_ s_ m_ a_ b_ h_ c_ Q A C htab hret => ?_)
  refine g_aload_n C dL_insert_0 0 rfl rfl (q := 1) rfl ?_
  refine g_iload_n C dL_insert_1 1 rfl rfl (q := 2) rfl ?_
  refine g_iload_n C dL_insert_2 2 rfl rfl (q := 3) rfl ?_
  refine g_iload_n C dL_insert_3 3 rfl rfl (q := 4) rfl ?_
  refine g_iload C dL_insert_4 4 rfl (q := 6) rfl ?_
  refine g_xVc C (As := [.int (iI r), .int (iI b), .int (iI c), .int (iI d)]) (x_X4_insert_2 l hst E _ r b c d (by assumption) (by assumption) (by assumption) (by assumption) (by assumption) (by assumption)) ml_L_26 mf_X4_insert (o := 0) (ci := 4) rfl rfl rfl rfl ⟨(Nat.le_of_ble_eq_true rfl), (Nat.le_of_ble_eq_true rfl)⟩ rfl rfl rfl (Nat.le_of_ble_eq_true rfl) ⟨by show 0 + 1 ≤ 1; omega, by show 0 + 6 ≤ 6; omega⟩ dL_insert_6 [{ startPc := 0, endPc := 9, handlerPc := 10, catchType := 20 }] ({ startPc := 0, endPc := 9, handlerPc := 15, catchType := 22 }) [{ startPc := 0, endPc := 9, handlerPc := 20, catchType := 24 }] htab (List.forall_mem_cons.mpr ⟨Or.inr ⟨by decide, xIOOBE, xl_20, (by simp [ncs])⟩, fun _ h => absurd h List.not_mem_nil⟩) (by decide) (by decide) xl_22 xc_IAE (q := 15) rfl (fun q9 => ?_)
  refine g_astore C (L' := [(5, .ref q9), (0, .ref (ea E 0)), (1, .int (iI r)), (2, .int (iI b)), (3, .int (iI c)), (4, .int (iI d))]) dL_insert_15 (by decide) rfl (q := 17) rfl ?_
  refine g_bipush C dL_insert_17 (by decide) (q := 19) rfl ?_
  exact hret _ _ _ _ _ (by omega) (by omega) dL_insert_19 rfl
set_option maxRecDepth 100000 in
set_option maxHeartbeats 4000000 in
theorem c_L_insert_3 (l : Launch) (hst : l.stackTraces = false) (E : EV) (σ : SS) (r b c d : Int) (hr_r : -2147483648 ≤ r ∧ r ≤ 2147483647) (hr_b : -2147483648 ≤ b ∧ b ≤ 2147483647) (hr_c : -2147483648 ≤ c ∧ c ≤ 2147483647) (hr_d : -2147483648 ≤ d ∧ d ≤ 2147483647) (hW : CW (σ 2)) (hF : FK (σ 2) 1 r b c d = 3) : TI l yL_insert (cwh yL_insert cL_insert 6 (some .int) th_L_insert) rm_L_insert_1_6 E [.ref (ea E 0), .int (iI r), .int (iI b), .int (iI c), .int (iI d)] σ (-79) σ 1 6 := by
  refine TI_of (rm := rm_L_insert_1_6) (mL := 6) (b := cL_insert) RL rfl (by decide +kernel) [(0, .ref (ea E 0)), (1, .int (iI r)), (2, .int (iI b)), (3, .int (iI c)), (4, .int (iI d))] rfl (Nat.le_of_ble_eq_true rfl) (fun p_ e_ s_ m_ a_ b_ h_ c_ Q A C htab hret => ?_)
  refine g_aload_n C dL_insert_0 0 rfl rfl (q := 1) rfl ?_
  refine g_iload_n C dL_insert_1 1 rfl rfl (q := 2) rfl ?_
  refine g_iload_n C dL_insert_2 2 rfl rfl (q := 3) rfl ?_
  refine g_iload_n C dL_insert_3 3 rfl rfl (q := 4) rfl ?_
  refine g_iload C dL_insert_4 4 rfl (q := 6) rfl ?_
  refine g_xVc C (As := [.int (iI r), .int (iI b), .int (iI c), .int (iI d)]) (x_X4_insert_3 l hst E _ r b c d (by assumption) (by assumption) (by assumption) (by assumption) (by assumption) (by assumption)) ml_L_26 mf_X4_insert (o := 0) (ci := 4) rfl rfl rfl rfl ⟨(Nat.le_of_ble_eq_true rfl), (Nat.le_of_ble_eq_true rfl)⟩ rfl rfl rfl (Nat.le_of_ble_eq_true rfl) ⟨by show 0 + 1 ≤ 1; omega, by show 0 + 6 ≤ 6; omega⟩ dL_insert_6 [{ startPc := 0, endPc := 9, handlerPc := 10, catchType := 20 }, { startPc := 0, endPc := 9, handlerPc := 15, catchType := 22 }] ({ startPc := 0, endPc := 9, handlerPc := 20, catchType := 24 }) [] htab (List.forall_mem_cons.mpr ⟨Or.inr ⟨by decide, xIOOBE, xl_20, (by simp [ncs])⟩, List.forall_mem_cons.mpr ⟨Or.inr ⟨by decide, xIAE, xl_22, (by simp [ncs])⟩, fun _ h => absurd h List.not_mem_nil⟩⟩) (by decide) (by decide) xl_24 xc_ISE (q := 20) rfl (fun q9 => ?_)
  refine g_astore C (L' := [(5, .ref q9), (0, .ref (ea E 0)), (1, .int (iI r)), (2, .int (iI b)), (3, .int (iI c)), (4, .int (iI d))]) dL_insert_20 (by decide) rfl (q := 22) rfl ?_
  refine g_bipush C dL_insert_22 (by decide) (q := 24) rfl ?_
  exact hret _ _ _ _ _ (by omega) (by omega) dL_insert_24 rfl
abbrev rm_L_remove_0_0 : Room := { frames := 8, cells := 0, slots := 0, locals := 188 }
set_option maxRecDepth 100000 in
set_option maxHeartbeats 4000000 in
theorem c_L_remove (l : Launch) (hst : l.stackTraces = false) (E : EV) (σ : SS) (r b : Int) (hr_r : -2147483648 ≤ r ∧ r ≤ 2147483647) (hr_b : -2147483648 ≤ b ∧ b ≤ 2147483647) (hW : CW (σ 2)) (hh : 0 ≤ (σ 5 1) ∧ (σ 5 1) < 8 ∧ 0 ≤ (σ 5 2) ∧ (σ 5 2) ≤ 8) (hF : FK (σ 2) 2 r b 0 0 = 0) : TI l yL_remove (cwh yL_remove cL_remove 4 (some .int) th_L_remove) rm_L_remove_0_0 E [.ref (ea E 0), .int (iI r), .int (iI b)] σ (opR (σ 2) 2 r b 0 0) (st (st (st (st σ 2 (refF (opF (σ 2) 2 r b 0 0))) 3 (cpf (σ 2) (σ 3) 0 0 310)) 5 (pt (pt (σ 5) 1 (nx8 (σ 5 1))) 2 (min ((σ 5 2) + 1) 8))) 6 (cpf (cpf (σ 2) (σ 3) 0 0 310) (σ 6) 0 ((σ 5 1) * 310) 310)) 0 0 := by
  refine TI_of (rm := rm_L_remove_0_0) (mL := 4) (b := cL_remove) RL rfl (by decide +kernel) [(0, .ref (ea E 0)), (1, .int (iI r)), (2, .int (iI b))] rfl (Nat.le_of_ble_eq_true rfl) (fun p_ e_ s_ m_ a_ b_ h_ c_ Q A C htab hret => ?_)
  refine g_aload_n C dL_remove_0 0 rfl rfl (q := 1) rfl ?_
  refine g_iload_n C dL_remove_1 1 rfl rfl (q := 2) rfl ?_
  refine g_iload_n C dL_remove_2 2 rfl rfl (q := 3) rfl ?_
  refine g_cV_i C (As := [.int (iI r), .int (iI b)]) (c_X4_remove l E _ r b (by assumption) (by assumption) (by assumption) (by assumption) (by assumption)) ml_L_30 mf_X4_remove (o := 0) (ci := 4) rfl rfl rfl rfl ⟨(Nat.le_of_ble_eq_true rfl), (Nat.le_of_ble_eq_true rfl)⟩ rfl rfl rfl (Nat.le_of_ble_eq_true rfl) ⟨(Nat.le_of_ble_eq_true rfl), (Nat.le_of_ble_eq_true rfl)⟩ dL_remove_3 (q := 6) rfl ?_
  exact hret _ _ _ _ _ (by omega) (by omega) dL_remove_6 rfl
abbrev rm_L_remove_1_6 : Room := { frames := 9, cells := 1, slots := 6, locals := 185 }
set_option maxRecDepth 100000 in
set_option maxHeartbeats 4000000 in
theorem c_L_remove_1 (l : Launch) (hst : l.stackTraces = false) (E : EV) (σ : SS) (r b : Int) (hr_r : -2147483648 ≤ r ∧ r ≤ 2147483647) (hr_b : -2147483648 ≤ b ∧ b ≤ 2147483647) (hW : CW (σ 2)) (hF : FK (σ 2) 2 r b 0 0 = 1) : TI l yL_remove (cwh yL_remove cL_remove 4 (some .int) th_L_remove) rm_L_remove_1_6 E [.ref (ea E 0), .int (iI r), .int (iI b)] σ (-77) σ 1 6 := by
  refine TI_of (rm := rm_L_remove_1_6) (mL := 4) (b := cL_remove) RL rfl (by decide +kernel) [(0, .ref (ea E 0)), (1, .int (iI r)), (2, .int (iI b))] rfl (Nat.le_of_ble_eq_true rfl) (fun p_ e_ s_ m_ a_ b_ h_ c_ Q A C htab hret => ?_)
  refine g_aload_n C dL_remove_0 0 rfl rfl (q := 1) rfl ?_
  refine g_iload_n C dL_remove_1 1 rfl rfl (q := 2) rfl ?_
  refine g_iload_n C dL_remove_2 2 rfl rfl (q := 3) rfl ?_
  refine g_xVc C (As := [.int (iI r), .int (iI b)]) (x_X4_remove_1 l hst E _ r b (by assumption) (by assumption) (by assumption) (by assumption)) ml_L_30 mf_X4_remove (o := 0) (ci := 4) rfl rfl rfl rfl ⟨(Nat.le_of_ble_eq_true rfl), (Nat.le_of_ble_eq_true rfl)⟩ rfl rfl rfl (Nat.le_of_ble_eq_true rfl) ⟨by show 0 + 1 ≤ 1; omega, by show 0 + 6 ≤ 6; omega⟩ dL_remove_3 [] ({ startPc := 0, endPc := 6, handlerPc := 7, catchType := 20 }) [] htab (fun _ h => absurd h List.not_mem_nil) (by decide) (by decide) xl_20 xc_IOOBE (q := 7) rfl (fun q9 => ?_)
  refine g_astore_n C (L' := [(3, .ref q9), (0, .ref (ea E 0)), (1, .int (iI r)), (2, .int (iI b))]) dL_remove_7 rfl (by decide) rfl (q := 8) rfl ?_
  refine g_bipush C dL_remove_8 (by decide) (q := 10) rfl ?_
  exact hret _ _ _ _ _ (by omega) (by omega) dL_remove_10 rfl
abbrev rm_L_retie_0_0 : Room := { frames := 8, cells := 0, slots := 0, locals := 189 }
set_option maxRecDepth 100000 in
set_option maxHeartbeats 4000000 in
theorem c_L_retie (l : Launch) (hst : l.stackTraces = false) (E : EV) (σ : SS) (r b c : Int) (hr_r : -2147483648 ≤ r ∧ r ≤ 2147483647) (hr_b : -2147483648 ≤ b ∧ b ≤ 2147483647) (hr_c : -2147483648 ≤ c ∧ c ≤ 2147483647) (hW : CW (σ 2)) (hh : 0 ≤ (σ 5 1) ∧ (σ 5 1) < 8 ∧ 0 ≤ (σ 5 2) ∧ (σ 5 2) ≤ 8) (hF : FK (σ 2) 3 r b c 0 = 0) : TI l yL_retie (cwh yL_retie cL_retie 5 (some .int) th_L_retie) rm_L_retie_0_0 E [.ref (ea E 0), .int (iI r), .int (iI b), .int (iI c)] σ (opR (σ 2) 3 r b c 0) (st (st (st (st σ 2 (refF (opF (σ 2) 3 r b c 0))) 3 (cpf (σ 2) (σ 3) 0 0 310)) 5 (pt (pt (σ 5) 1 (nx8 (σ 5 1))) 2 (min ((σ 5 2) + 1) 8))) 6 (cpf (cpf (σ 2) (σ 3) 0 0 310) (σ 6) 0 ((σ 5 1) * 310) 310)) 0 0 := by
  refine TI_of (rm := rm_L_retie_0_0) (mL := 5) (b := cL_retie) RL rfl (by decide +kernel) [(0, .ref (ea E 0)), (1, .int (iI r)), (2, .int (iI b)), (3, .int (iI c))] rfl (Nat.le_of_ble_eq_true rfl) (fun p_ e_ s_ m_ a_ b_ h_ c_ Q A C htab hret => ?_)
  refine g_aload_n C dL_retie_0 0 rfl rfl (q := 1) rfl ?_
  refine g_iload_n C dL_retie_1 1 rfl rfl (q := 2) rfl ?_
  refine g_iload_n C dL_retie_2 2 rfl rfl (q := 3) rfl ?_
  refine g_iload_n C dL_retie_3 3 rfl rfl (q := 4) rfl ?_
  refine g_cV_i C (As := [.int (iI r), .int (iI b), .int (iI c)]) (c_X4_retie l E _ r b c (by assumption) (by assumption) (by assumption) (by assumption) (by assumption) (by assumption)) ml_L_34 mf_X4_retie (o := 0) (ci := 4) rfl rfl rfl rfl ⟨(Nat.le_of_ble_eq_true rfl), (Nat.le_of_ble_eq_true rfl)⟩ rfl rfl rfl (Nat.le_of_ble_eq_true rfl) ⟨(Nat.le_of_ble_eq_true rfl), (Nat.le_of_ble_eq_true rfl)⟩ dL_retie_4 (q := 7) rfl ?_
  exact hret _ _ _ _ _ (by omega) (by omega) dL_retie_7 rfl
abbrev rm_L_retie_1_6 : Room := { frames := 9, cells := 1, slots := 6, locals := 186 }
set_option maxRecDepth 100000 in
set_option maxHeartbeats 4000000 in
theorem c_L_retie_1 (l : Launch) (hst : l.stackTraces = false) (E : EV) (σ : SS) (r b c : Int) (hr_r : -2147483648 ≤ r ∧ r ≤ 2147483647) (hr_b : -2147483648 ≤ b ∧ b ≤ 2147483647) (hr_c : -2147483648 ≤ c ∧ c ≤ 2147483647) (hW : CW (σ 2)) (hF : FK (σ 2) 3 r b c 0 = 1) : TI l yL_retie (cwh yL_retie cL_retie 5 (some .int) th_L_retie) rm_L_retie_1_6 E [.ref (ea E 0), .int (iI r), .int (iI b), .int (iI c)] σ (-77) σ 1 6 := by
  refine TI_of (rm := rm_L_retie_1_6) (mL := 5) (b := cL_retie) RL rfl (by decide +kernel) [(0, .ref (ea E 0)), (1, .int (iI r)), (2, .int (iI b)), (3, .int (iI c))] rfl (Nat.le_of_ble_eq_true rfl) (fun p_ e_ s_ m_ a_ b_ h_ c_ Q A C htab hret => ?_)
  refine g_aload_n C dL_retie_0 0 rfl rfl (q := 1) rfl ?_
  refine g_iload_n C dL_retie_1 1 rfl rfl (q := 2) rfl ?_
  refine g_iload_n C dL_retie_2 2 rfl rfl (q := 3) rfl ?_
  refine g_iload_n C dL_retie_3 3 rfl rfl (q := 4) rfl ?_
  refine g_xVc C (As := [.int (iI r), .int (iI b), .int (iI c)]) (x_X4_retie_1 l hst E _ r b c (by assumption) (by assumption) (by assumption) (by assumption) (by assumption)) ml_L_34 mf_X4_retie (o := 0) (ci := 4) rfl rfl rfl rfl ⟨(Nat.le_of_ble_eq_true rfl), (Nat.le_of_ble_eq_true rfl)⟩ rfl rfl rfl (Nat.le_of_ble_eq_true rfl) ⟨by show 0 + 1 ≤ 1; omega, by show 0 + 6 ≤ 6; omega⟩ dL_retie_4 [] ({ startPc := 0, endPc := 7, handlerPc := 8, catchType := 20 }) [{ startPc := 0, endPc := 7, handlerPc := 13, catchType := 22 }] htab (fun _ h => absurd h List.not_mem_nil) (by decide) (by decide) xl_20 xc_IOOBE (q := 8) rfl (fun q9 => ?_)
  refine g_astore C (L' := [(4, .ref q9), (0, .ref (ea E 0)), (1, .int (iI r)), (2, .int (iI b)), (3, .int (iI c))]) dL_retie_8 (by decide) rfl (q := 10) rfl ?_
  refine g_bipush C dL_retie_10 (by decide) (q := 12) rfl ?_
  exact hret _ _ _ _ _ (by omega) (by omega) dL_retie_12 rfl
set_option maxRecDepth 100000 in
set_option maxHeartbeats 4000000 in
theorem c_L_retie_2 (l : Launch) (hst : l.stackTraces = false) (E : EV) (σ : SS) (r b c : Int) (hr_r : -2147483648 ≤ r ∧ r ≤ 2147483647) (hr_b : -2147483648 ≤ b ∧ b ≤ 2147483647) (hr_c : -2147483648 ≤ c ∧ c ≤ 2147483647) (hW : CW (σ 2)) (hF : FK (σ 2) 3 r b c 0 = 2) : TI l yL_retie (cwh yL_retie cL_retie 5 (some .int) th_L_retie) rm_L_retie_1_6 E [.ref (ea E 0), .int (iI r), .int (iI b), .int (iI c)] σ (-78) σ 1 6 := by
  refine TI_of (rm := rm_L_retie_1_6) (mL := 5) (b := cL_retie) RL rfl (by decide +kernel) [(0, .ref (ea E 0)), (1, .int (iI r)), (2, .int (iI b)), (3, .int (iI c))] rfl (Nat.le_of_ble_eq_true rfl) (fun p_ e_ s_ m_ a_ b_ h_ c_ Q A C htab hret => ?_)
  refine g_aload_n C dL_retie_0 0 rfl rfl (q := 1) rfl ?_
  refine g_iload_n C dL_retie_1 1 rfl rfl (q := 2) rfl ?_
  refine g_iload_n C dL_retie_2 2 rfl rfl (q := 3) rfl ?_
  refine g_iload_n C dL_retie_3 3 rfl rfl (q := 4) rfl ?_
  refine g_xVc C (As := [.int (iI r), .int (iI b), .int (iI c)]) (x_X4_retie_2 l hst E _ r b c (by assumption) (by assumption) (by assumption) (by assumption) (by assumption)) ml_L_34 mf_X4_retie (o := 0) (ci := 4) rfl rfl rfl rfl ⟨(Nat.le_of_ble_eq_true rfl), (Nat.le_of_ble_eq_true rfl)⟩ rfl rfl rfl (Nat.le_of_ble_eq_true rfl) ⟨by show 0 + 1 ≤ 1; omega, by show 0 + 6 ≤ 6; omega⟩ dL_retie_4 [{ startPc := 0, endPc := 7, handlerPc := 8, catchType := 20 }] ({ startPc := 0, endPc := 7, handlerPc := 13, catchType := 22 }) [] htab (List.forall_mem_cons.mpr ⟨Or.inr ⟨by decide, xIOOBE, xl_20, (by simp [ncs])⟩, fun _ h => absurd h List.not_mem_nil⟩) (by decide) (by decide) xl_22 xc_IAE (q := 13) rfl (fun q9 => ?_)
  refine g_astore C (L' := [(4, .ref q9), (0, .ref (ea E 0)), (1, .int (iI r)), (2, .int (iI b)), (3, .int (iI c))]) dL_retie_13 (by decide) rfl (q := 15) rfl ?_
  refine g_bipush C dL_retie_15 (by decide) (q := 17) rfl ?_
  exact hret _ _ _ _ _ (by omega) (by omega) dL_retie_17 rfl
abbrev rm_L_cut_0_0 : Room := { frames := 8, cells := 0, slots := 0, locals := 189 }
set_option maxRecDepth 100000 in
set_option maxHeartbeats 4000000 in
theorem c_L_cut (l : Launch) (hst : l.stackTraces = false) (E : EV) (σ : SS) (r b c : Int) (hr_r : -2147483648 ≤ r ∧ r ≤ 2147483647) (hr_b : -2147483648 ≤ b ∧ b ≤ 2147483647) (hr_c : -2147483648 ≤ c ∧ c ≤ 2147483647) (hW : CW (σ 2)) (hh : 0 ≤ (σ 5 1) ∧ (σ 5 1) < 8 ∧ 0 ≤ (σ 5 2) ∧ (σ 5 2) ≤ 8) (hF : FK (σ 2) 4 r b c 0 = 0) : TI l yL_cut (cwh yL_cut cL_cut 5 (some .int) th_L_cut) rm_L_cut_0_0 E [.ref (ea E 0), .int (iI r), .int (iI b), .int (iI c)] σ (opR (σ 2) 4 r b c 0) (st (st (st (st σ 2 (refF (opF (σ 2) 4 r b c 0))) 3 (cpf (σ 2) (σ 3) 0 0 310)) 5 (pt (pt (σ 5) 1 (nx8 (σ 5 1))) 2 (min ((σ 5 2) + 1) 8))) 6 (cpf (cpf (σ 2) (σ 3) 0 0 310) (σ 6) 0 ((σ 5 1) * 310) 310)) 0 0 := by
  refine TI_of (rm := rm_L_cut_0_0) (mL := 5) (b := cL_cut) RL rfl (by decide +kernel) [(0, .ref (ea E 0)), (1, .int (iI r)), (2, .int (iI b)), (3, .int (iI c))] rfl (Nat.le_of_ble_eq_true rfl) (fun p_ e_ s_ m_ a_ b_ h_ c_ Q A C htab hret => ?_)
  refine g_aload_n C dL_cut_0 0 rfl rfl (q := 1) rfl ?_
  refine g_iload_n C dL_cut_1 1 rfl rfl (q := 2) rfl ?_
  refine g_iload_n C dL_cut_2 2 rfl rfl (q := 3) rfl ?_
  refine g_iload_n C dL_cut_3 3 rfl rfl (q := 4) rfl ?_
  refine g_cV_i C (As := [.int (iI r), .int (iI b), .int (iI c)]) (c_X4_cut l E _ r b c (by assumption) (by assumption) (by assumption) (by assumption) (by assumption) (by assumption)) ml_L_47 mf_X4_cut (o := 0) (ci := 4) rfl rfl rfl rfl ⟨(Nat.le_of_ble_eq_true rfl), (Nat.le_of_ble_eq_true rfl)⟩ rfl rfl rfl (Nat.le_of_ble_eq_true rfl) ⟨(Nat.le_of_ble_eq_true rfl), (Nat.le_of_ble_eq_true rfl)⟩ dL_cut_4 (q := 7) rfl ?_
  exact hret _ _ _ _ _ (by omega) (by omega) dL_cut_7 rfl
abbrev rm_L_cut_1_6 : Room := { frames := 9, cells := 1, slots := 6, locals := 186 }
set_option maxRecDepth 100000 in
set_option maxHeartbeats 4000000 in
theorem c_L_cut_1 (l : Launch) (hst : l.stackTraces = false) (E : EV) (σ : SS) (r b c : Int) (hr_r : -2147483648 ≤ r ∧ r ≤ 2147483647) (hr_b : -2147483648 ≤ b ∧ b ≤ 2147483647) (hr_c : -2147483648 ≤ c ∧ c ≤ 2147483647) (hW : CW (σ 2)) (hF : FK (σ 2) 4 r b c 0 = 1) : TI l yL_cut (cwh yL_cut cL_cut 5 (some .int) th_L_cut) rm_L_cut_1_6 E [.ref (ea E 0), .int (iI r), .int (iI b), .int (iI c)] σ (-77) σ 1 6 := by
  refine TI_of (rm := rm_L_cut_1_6) (mL := 5) (b := cL_cut) RL rfl (by decide +kernel) [(0, .ref (ea E 0)), (1, .int (iI r)), (2, .int (iI b)), (3, .int (iI c))] rfl (Nat.le_of_ble_eq_true rfl) (fun p_ e_ s_ m_ a_ b_ h_ c_ Q A C htab hret => ?_)
  refine g_aload_n C dL_cut_0 0 rfl rfl (q := 1) rfl ?_
  refine g_iload_n C dL_cut_1 1 rfl rfl (q := 2) rfl ?_
  refine g_iload_n C dL_cut_2 2 rfl rfl (q := 3) rfl ?_
  refine g_iload_n C dL_cut_3 3 rfl rfl (q := 4) rfl ?_
  refine g_xVc C (As := [.int (iI r), .int (iI b), .int (iI c)]) (x_X4_cut_1 l hst E _ r b c (by assumption) (by assumption) (by assumption) (by assumption) (by assumption)) ml_L_47 mf_X4_cut (o := 0) (ci := 4) rfl rfl rfl rfl ⟨(Nat.le_of_ble_eq_true rfl), (Nat.le_of_ble_eq_true rfl)⟩ rfl rfl rfl (Nat.le_of_ble_eq_true rfl) ⟨by show 0 + 1 ≤ 1; omega, by show 0 + 6 ≤ 6; omega⟩ dL_cut_4 [] ({ startPc := 0, endPc := 7, handlerPc := 8, catchType := 20 }) [{ startPc := 0, endPc := 7, handlerPc := 13, catchType := 22 }, { startPc := 0, endPc := 7, handlerPc := 18, catchType := 24 }] htab (fun _ h => absurd h List.not_mem_nil) (by decide) (by decide) xl_20 xc_IOOBE (q := 8) rfl (fun q9 => ?_)
  refine g_astore C (L' := [(4, .ref q9), (0, .ref (ea E 0)), (1, .int (iI r)), (2, .int (iI b)), (3, .int (iI c))]) dL_cut_8 (by decide) rfl (q := 10) rfl ?_
  refine g_bipush C dL_cut_10 (by decide) (q := 12) rfl ?_
  exact hret _ _ _ _ _ (by omega) (by omega) dL_cut_12 rfl
set_option maxRecDepth 100000 in
set_option maxHeartbeats 4000000 in
theorem c_L_cut_2 (l : Launch) (hst : l.stackTraces = false) (E : EV) (σ : SS) (r b c : Int) (hr_r : -2147483648 ≤ r ∧ r ≤ 2147483647) (hr_b : -2147483648 ≤ b ∧ b ≤ 2147483647) (hr_c : -2147483648 ≤ c ∧ c ≤ 2147483647) (hW : CW (σ 2)) (hF : FK (σ 2) 4 r b c 0 = 2) : TI l yL_cut (cwh yL_cut cL_cut 5 (some .int) th_L_cut) rm_L_cut_1_6 E [.ref (ea E 0), .int (iI r), .int (iI b), .int (iI c)] σ (-78) σ 1 6 := by
  refine TI_of (rm := rm_L_cut_1_6) (mL := 5) (b := cL_cut) RL rfl (by decide +kernel) [(0, .ref (ea E 0)), (1, .int (iI r)), (2, .int (iI b)), (3, .int (iI c))] rfl (Nat.le_of_ble_eq_true rfl) (fun p_ e_ s_ m_ a_ b_ h_ c_ Q A C htab hret => ?_)
  refine g_aload_n C dL_cut_0 0 rfl rfl (q := 1) rfl ?_
  refine g_iload_n C dL_cut_1 1 rfl rfl (q := 2) rfl ?_
  refine g_iload_n C dL_cut_2 2 rfl rfl (q := 3) rfl ?_
  refine g_iload_n C dL_cut_3 3 rfl rfl (q := 4) rfl ?_
  refine g_xVc C (As := [.int (iI r), .int (iI b), .int (iI c)]) (x_X4_cut_2 l hst E _ r b c (by assumption) (by assumption) (by assumption) (by assumption) (by assumption)) ml_L_47 mf_X4_cut (o := 0) (ci := 4) rfl rfl rfl rfl ⟨(Nat.le_of_ble_eq_true rfl), (Nat.le_of_ble_eq_true rfl)⟩ rfl rfl rfl (Nat.le_of_ble_eq_true rfl) ⟨by show 0 + 1 ≤ 1; omega, by show 0 + 6 ≤ 6; omega⟩ dL_cut_4 [{ startPc := 0, endPc := 7, handlerPc := 8, catchType := 20 }] ({ startPc := 0, endPc := 7, handlerPc := 13, catchType := 22 }) [{ startPc := 0, endPc := 7, handlerPc := 18, catchType := 24 }] htab (List.forall_mem_cons.mpr ⟨Or.inr ⟨by decide, xIOOBE, xl_20, (by simp [ncs])⟩, fun _ h => absurd h List.not_mem_nil⟩) (by decide) (by decide) xl_22 xc_IAE (q := 13) rfl (fun q9 => ?_)
  refine g_astore C (L' := [(4, .ref q9), (0, .ref (ea E 0)), (1, .int (iI r)), (2, .int (iI b)), (3, .int (iI c))]) dL_cut_13 (by decide) rfl (q := 15) rfl ?_
  refine g_bipush C dL_cut_15 (by decide) (q := 17) rfl ?_
  exact hret _ _ _ _ _ (by omega) (by omega) dL_cut_17 rfl
set_option maxRecDepth 100000 in
set_option maxHeartbeats 4000000 in
theorem c_L_cut_3 (l : Launch) (hst : l.stackTraces = false) (E : EV) (σ : SS) (r b c : Int) (hr_r : -2147483648 ≤ r ∧ r ≤ 2147483647) (hr_b : -2147483648 ≤ b ∧ b ≤ 2147483647) (hr_c : -2147483648 ≤ c ∧ c ≤ 2147483647) (hW : CW (σ 2)) (hF : FK (σ 2) 4 r b c 0 = 3) : TI l yL_cut (cwh yL_cut cL_cut 5 (some .int) th_L_cut) rm_L_cut_1_6 E [.ref (ea E 0), .int (iI r), .int (iI b), .int (iI c)] σ (-79) σ 1 6 := by
  refine TI_of (rm := rm_L_cut_1_6) (mL := 5) (b := cL_cut) RL rfl (by decide +kernel) [(0, .ref (ea E 0)), (1, .int (iI r)), (2, .int (iI b)), (3, .int (iI c))] rfl (Nat.le_of_ble_eq_true rfl) (fun p_ e_ s_ m_ a_ b_ h_ c_ Q A C htab hret => ?_)
  refine g_aload_n C dL_cut_0 0 rfl rfl (q := 1) rfl ?_
  refine g_iload_n C dL_cut_1 1 rfl rfl (q := 2) rfl ?_
  refine g_iload_n C dL_cut_2 2 rfl rfl (q := 3) rfl ?_
  refine g_iload_n C dL_cut_3 3 rfl rfl (q := 4) rfl ?_
  refine g_xVc C (As := [.int (iI r), .int (iI b), .int (iI c)]) (x_X4_cut_3 l hst E _ r b c (by assumption) (by assumption) (by assumption) (by assumption) (by assumption)) ml_L_47 mf_X4_cut (o := 0) (ci := 4) rfl rfl rfl rfl ⟨(Nat.le_of_ble_eq_true rfl), (Nat.le_of_ble_eq_true rfl)⟩ rfl rfl rfl (Nat.le_of_ble_eq_true rfl) ⟨by show 0 + 1 ≤ 1; omega, by show 0 + 6 ≤ 6; omega⟩ dL_cut_4 [{ startPc := 0, endPc := 7, handlerPc := 8, catchType := 20 }, { startPc := 0, endPc := 7, handlerPc := 13, catchType := 22 }] ({ startPc := 0, endPc := 7, handlerPc := 18, catchType := 24 }) [] htab (List.forall_mem_cons.mpr ⟨Or.inr ⟨by decide, xIOOBE, xl_20, (by simp [ncs])⟩, List.forall_mem_cons.mpr ⟨Or.inr ⟨by decide, xIAE, xl_22, (by simp [ncs])⟩, fun _ h => absurd h List.not_mem_nil⟩⟩) (by decide) (by decide) xl_24 xc_ISE (q := 18) rfl (fun q9 => ?_)
  refine g_astore C (L' := [(4, .ref q9), (0, .ref (ea E 0)), (1, .int (iI r)), (2, .int (iI b)), (3, .int (iI c))]) dL_cut_18 (by decide) rfl (q := 20) rfl ?_
  refine g_bipush C dL_cut_20 (by decide) (q := 22) rfl ?_
  exact hret _ _ _ _ _ (by omega) (by omega) dL_cut_22 rfl
abbrev rm_L_splice_0_0 : Room := { frames := 8, cells := 0, slots := 0, locals := 188 }
set_option maxRecDepth 100000 in
set_option maxHeartbeats 4000000 in
theorem c_L_splice (l : Launch) (hst : l.stackTraces = false) (E : EV) (σ : SS) (r b : Int) (hr_r : -2147483648 ≤ r ∧ r ≤ 2147483647) (hr_b : -2147483648 ≤ b ∧ b ≤ 2147483647) (hW : CW (σ 2)) (hh : 0 ≤ (σ 5 1) ∧ (σ 5 1) < 8 ∧ 0 ≤ (σ 5 2) ∧ (σ 5 2) ≤ 8) (hF : FK (σ 2) 5 r b 0 0 = 0) : TI l yL_splice (cwh yL_splice cL_splice 4 (some .int) th_L_splice) rm_L_splice_0_0 E [.ref (ea E 0), .int (iI r), .int (iI b)] σ (opR (σ 2) 5 r b 0 0) (st (st (st (st σ 2 (refF (opF (σ 2) 5 r b 0 0))) 3 (cpf (σ 2) (σ 3) 0 0 310)) 5 (pt (pt (σ 5) 1 (nx8 (σ 5 1))) 2 (min ((σ 5 2) + 1) 8))) 6 (cpf (cpf (σ 2) (σ 3) 0 0 310) (σ 6) 0 ((σ 5 1) * 310) 310)) 0 0 := by
  refine TI_of (rm := rm_L_splice_0_0) (mL := 4) (b := cL_splice) RL rfl (by decide +kernel) [(0, .ref (ea E 0)), (1, .int (iI r)), (2, .int (iI b))] rfl (Nat.le_of_ble_eq_true rfl) (fun p_ e_ s_ m_ a_ b_ h_ c_ Q A C htab hret => ?_)
  refine g_aload_n C dL_splice_0 0 rfl rfl (q := 1) rfl ?_
  refine g_iload_n C dL_splice_1 1 rfl rfl (q := 2) rfl ?_
  refine g_iload_n C dL_splice_2 2 rfl rfl (q := 3) rfl ?_
  refine g_cV_i C (As := [.int (iI r), .int (iI b)]) (c_X4_splice l E _ r b (by assumption) (by assumption) (by assumption) (by assumption) (by assumption)) ml_L_50 mf_X4_splice (o := 0) (ci := 4) rfl rfl rfl rfl ⟨(Nat.le_of_ble_eq_true rfl), (Nat.le_of_ble_eq_true rfl)⟩ rfl rfl rfl (Nat.le_of_ble_eq_true rfl) ⟨(Nat.le_of_ble_eq_true rfl), (Nat.le_of_ble_eq_true rfl)⟩ dL_splice_3 (q := 6) rfl ?_
  exact hret _ _ _ _ _ (by omega) (by omega) dL_splice_6 rfl
abbrev rm_L_splice_1_6 : Room := { frames := 9, cells := 1, slots := 6, locals := 185 }
set_option maxRecDepth 100000 in
set_option maxHeartbeats 4000000 in
theorem c_L_splice_1 (l : Launch) (hst : l.stackTraces = false) (E : EV) (σ : SS) (r b : Int) (hr_r : -2147483648 ≤ r ∧ r ≤ 2147483647) (hr_b : -2147483648 ≤ b ∧ b ≤ 2147483647) (hW : CW (σ 2)) (hF : FK (σ 2) 5 r b 0 0 = 1) : TI l yL_splice (cwh yL_splice cL_splice 4 (some .int) th_L_splice) rm_L_splice_1_6 E [.ref (ea E 0), .int (iI r), .int (iI b)] σ (-77) σ 1 6 := by
  refine TI_of (rm := rm_L_splice_1_6) (mL := 4) (b := cL_splice) RL rfl (by decide +kernel) [(0, .ref (ea E 0)), (1, .int (iI r)), (2, .int (iI b))] rfl (Nat.le_of_ble_eq_true rfl) (fun p_ e_ s_ m_ a_ b_ h_ c_ Q A C htab hret => ?_)
  refine g_aload_n C dL_splice_0 0 rfl rfl (q := 1) rfl ?_
  refine g_iload_n C dL_splice_1 1 rfl rfl (q := 2) rfl ?_
  refine g_iload_n C dL_splice_2 2 rfl rfl (q := 3) rfl ?_
  refine g_xVc C (As := [.int (iI r), .int (iI b)]) (x_X4_splice_1 l hst E _ r b (by assumption) (by assumption) (by assumption) (by assumption)) ml_L_50 mf_X4_splice (o := 0) (ci := 4) rfl rfl rfl rfl ⟨(Nat.le_of_ble_eq_true rfl), (Nat.le_of_ble_eq_true rfl)⟩ rfl rfl rfl (Nat.le_of_ble_eq_true rfl) ⟨by show 0 + 1 ≤ 1; omega, by show 0 + 6 ≤ 6; omega⟩ dL_splice_3 [] ({ startPc := 0, endPc := 6, handlerPc := 7, catchType := 20 }) [{ startPc := 0, endPc := 6, handlerPc := 11, catchType := 22 }, { startPc := 0, endPc := 6, handlerPc := 15, catchType := 24 }] htab (fun _ h => absurd h List.not_mem_nil) (by decide) (by decide) xl_20 xc_IOOBE (q := 7) rfl (fun q9 => ?_)
  refine g_astore_n C (L' := [(3, .ref q9), (0, .ref (ea E 0)), (1, .int (iI r)), (2, .int (iI b))]) dL_splice_7 rfl (by decide) rfl (q := 8) rfl ?_
  refine g_bipush C dL_splice_8 (by decide) (q := 10) rfl ?_
  exact hret _ _ _ _ _ (by omega) (by omega) dL_splice_10 rfl
set_option maxRecDepth 100000 in
set_option maxHeartbeats 4000000 in
theorem c_L_splice_2 (l : Launch) (hst : l.stackTraces = false) (E : EV) (σ : SS) (r b : Int) (hr_r : -2147483648 ≤ r ∧ r ≤ 2147483647) (hr_b : -2147483648 ≤ b ∧ b ≤ 2147483647) (hW : CW (σ 2)) (hF : FK (σ 2) 5 r b 0 0 = 2) : TI l yL_splice (cwh yL_splice cL_splice 4 (some .int) th_L_splice) rm_L_splice_1_6 E [.ref (ea E 0), .int (iI r), .int (iI b)] σ (-78) σ 1 6 := by
  refine TI_of (rm := rm_L_splice_1_6) (mL := 4) (b := cL_splice) RL rfl (by decide +kernel) [(0, .ref (ea E 0)), (1, .int (iI r)), (2, .int (iI b))] rfl (Nat.le_of_ble_eq_true rfl) (fun p_ e_ s_ m_ a_ b_ h_ c_ Q A C htab hret => ?_)
  refine g_aload_n C dL_splice_0 0 rfl rfl (q := 1) rfl ?_
  refine g_iload_n C dL_splice_1 1 rfl rfl (q := 2) rfl ?_
  refine g_iload_n C dL_splice_2 2 rfl rfl (q := 3) rfl ?_
  refine g_xVc C (As := [.int (iI r), .int (iI b)]) (x_X4_splice_2 l hst E _ r b (by assumption) (by assumption) (by assumption) (by assumption)) ml_L_50 mf_X4_splice (o := 0) (ci := 4) rfl rfl rfl rfl ⟨(Nat.le_of_ble_eq_true rfl), (Nat.le_of_ble_eq_true rfl)⟩ rfl rfl rfl (Nat.le_of_ble_eq_true rfl) ⟨by show 0 + 1 ≤ 1; omega, by show 0 + 6 ≤ 6; omega⟩ dL_splice_3 [{ startPc := 0, endPc := 6, handlerPc := 7, catchType := 20 }] ({ startPc := 0, endPc := 6, handlerPc := 11, catchType := 22 }) [{ startPc := 0, endPc := 6, handlerPc := 15, catchType := 24 }] htab (List.forall_mem_cons.mpr ⟨Or.inr ⟨by decide, xIOOBE, xl_20, (by simp [ncs])⟩, fun _ h => absurd h List.not_mem_nil⟩) (by decide) (by decide) xl_22 xc_IAE (q := 11) rfl (fun q9 => ?_)
  refine g_astore_n C (L' := [(3, .ref q9), (0, .ref (ea E 0)), (1, .int (iI r)), (2, .int (iI b))]) dL_splice_11 rfl (by decide) rfl (q := 12) rfl ?_
  refine g_bipush C dL_splice_12 (by decide) (q := 14) rfl ?_
  exact hret _ _ _ _ _ (by omega) (by omega) dL_splice_14 rfl
set_option maxRecDepth 100000 in
set_option maxHeartbeats 4000000 in
theorem c_L_splice_3 (l : Launch) (hst : l.stackTraces = false) (E : EV) (σ : SS) (r b : Int) (hr_r : -2147483648 ≤ r ∧ r ≤ 2147483647) (hr_b : -2147483648 ≤ b ∧ b ≤ 2147483647) (hW : CW (σ 2)) (hF : FK (σ 2) 5 r b 0 0 = 3) : TI l yL_splice (cwh yL_splice cL_splice 4 (some .int) th_L_splice) rm_L_splice_1_6 E [.ref (ea E 0), .int (iI r), .int (iI b)] σ (-79) σ 1 6 := by
  refine TI_of (rm := rm_L_splice_1_6) (mL := 4) (b := cL_splice) RL rfl (by decide +kernel) [(0, .ref (ea E 0)), (1, .int (iI r)), (2, .int (iI b))] rfl (Nat.le_of_ble_eq_true rfl) (fun p_ e_ s_ m_ a_ b_ h_ c_ Q A C htab hret => ?_)
  refine g_aload_n C dL_splice_0 0 rfl rfl (q := 1) rfl ?_
  refine g_iload_n C dL_splice_1 1 rfl rfl (q := 2) rfl ?_
  refine g_iload_n C dL_splice_2 2 rfl rfl (q := 3) rfl ?_
  refine g_xVc C (As := [.int (iI r), .int (iI b)]) (x_X4_splice_3 l hst E _ r b (by assumption) (by assumption) (by assumption) (by assumption)) ml_L_50 mf_X4_splice (o := 0) (ci := 4) rfl rfl rfl rfl ⟨(Nat.le_of_ble_eq_true rfl), (Nat.le_of_ble_eq_true rfl)⟩ rfl rfl rfl (Nat.le_of_ble_eq_true rfl) ⟨by show 0 + 1 ≤ 1; omega, by show 0 + 6 ≤ 6; omega⟩ dL_splice_3 [{ startPc := 0, endPc := 6, handlerPc := 7, catchType := 20 }, { startPc := 0, endPc := 6, handlerPc := 11, catchType := 22 }] ({ startPc := 0, endPc := 6, handlerPc := 15, catchType := 24 }) [] htab (List.forall_mem_cons.mpr ⟨Or.inr ⟨by decide, xIOOBE, xl_20, (by simp [ncs])⟩, List.forall_mem_cons.mpr ⟨Or.inr ⟨by decide, xIAE, xl_22, (by simp [ncs])⟩, fun _ h => absurd h List.not_mem_nil⟩⟩) (by decide) (by decide) xl_24 xc_ISE (q := 15) rfl (fun q9 => ?_)
  refine g_astore_n C (L' := [(3, .ref q9), (0, .ref (ea E 0)), (1, .int (iI r)), (2, .int (iI b))]) dL_splice_15 rfl (by decide) rfl (q := 16) rfl ?_
  refine g_bipush C dL_splice_16 (by decide) (q := 18) rfl ?_
  exact hret _ _ _ _ _ (by omega) (by omega) dL_splice_18 rfl
abbrev rm_L_exchange_0_0 : Room := { frames := 8, cells := 0, slots := 0, locals := 188 }
set_option maxRecDepth 100000 in
set_option maxHeartbeats 4000000 in
theorem c_L_exchange (l : Launch) (hst : l.stackTraces = false) (E : EV) (σ : SS) (r b : Int) (hr_r : -2147483648 ≤ r ∧ r ≤ 2147483647) (hr_b : -2147483648 ≤ b ∧ b ≤ 2147483647) (hW : CW (σ 2)) (hh : 0 ≤ (σ 5 1) ∧ (σ 5 1) < 8 ∧ 0 ≤ (σ 5 2) ∧ (σ 5 2) ≤ 8) (hF : FK (σ 2) 6 r b 0 0 = 0) : TI l yL_exchange (cwh yL_exchange cL_exchange 4 (some .int) th_L_exchange) rm_L_exchange_0_0 E [.ref (ea E 0), .int (iI r), .int (iI b)] σ (opR (σ 2) 6 r b 0 0) (st (st (st (st σ 2 (refF (opF (σ 2) 6 r b 0 0))) 3 (cpf (σ 2) (σ 3) 0 0 310)) 5 (pt (pt (σ 5) 1 (nx8 (σ 5 1))) 2 (min ((σ 5 2) + 1) 8))) 6 (cpf (cpf (σ 2) (σ 3) 0 0 310) (σ 6) 0 ((σ 5 1) * 310) 310)) 0 0 := by
  refine TI_of (rm := rm_L_exchange_0_0) (mL := 4) (b := cL_exchange) RL rfl (by decide +kernel) [(0, .ref (ea E 0)), (1, .int (iI r)), (2, .int (iI b))] rfl (Nat.le_of_ble_eq_true rfl) (fun p_ e_ s_ m_ a_ b_ h_ c_ Q A C htab hret => ?_)
  refine g_aload_n C dL_exchange_0 0 rfl rfl (q := 1) rfl ?_
  refine g_iload_n C dL_exchange_1 1 rfl rfl (q := 2) rfl ?_
  refine g_iload_n C dL_exchange_2 2 rfl rfl (q := 3) rfl ?_
  refine g_cV_i C (As := [.int (iI r), .int (iI b)]) (c_X4_exchange l E _ r b (by assumption) (by assumption) (by assumption) (by assumption) (by assumption)) ml_L_53 mf_X4_exchange (o := 0) (ci := 4) rfl rfl rfl rfl ⟨(Nat.le_of_ble_eq_true rfl), (Nat.le_of_ble_eq_true rfl)⟩ rfl rfl rfl (Nat.le_of_ble_eq_true rfl) ⟨(Nat.le_of_ble_eq_true rfl), (Nat.le_of_ble_eq_true rfl)⟩ dL_exchange_3 (q := 6) rfl ?_
  exact hret _ _ _ _ _ (by omega) (by omega) dL_exchange_6 rfl
abbrev rm_L_exchange_1_6 : Room := { frames := 9, cells := 1, slots := 6, locals := 185 }
set_option maxRecDepth 100000 in
set_option maxHeartbeats 4000000 in
theorem c_L_exchange_1 (l : Launch) (hst : l.stackTraces = false) (E : EV) (σ : SS) (r b : Int) (hr_r : -2147483648 ≤ r ∧ r ≤ 2147483647) (hr_b : -2147483648 ≤ b ∧ b ≤ 2147483647) (hW : CW (σ 2)) (hF : FK (σ 2) 6 r b 0 0 = 1) : TI l yL_exchange (cwh yL_exchange cL_exchange 4 (some .int) th_L_exchange) rm_L_exchange_1_6 E [.ref (ea E 0), .int (iI r), .int (iI b)] σ (-77) σ 1 6 := by
  refine TI_of (rm := rm_L_exchange_1_6) (mL := 4) (b := cL_exchange) RL rfl (by decide +kernel) [(0, .ref (ea E 0)), (1, .int (iI r)), (2, .int (iI b))] rfl (Nat.le_of_ble_eq_true rfl) (fun p_ e_ s_ m_ a_ b_ h_ c_ Q A C htab hret => ?_)
  refine g_aload_n C dL_exchange_0 0 rfl rfl (q := 1) rfl ?_
  refine g_iload_n C dL_exchange_1 1 rfl rfl (q := 2) rfl ?_
  refine g_iload_n C dL_exchange_2 2 rfl rfl (q := 3) rfl ?_
  refine g_xVc C (As := [.int (iI r), .int (iI b)]) (x_X4_exchange_1 l hst E _ r b (by assumption) (by assumption) (by assumption) (by assumption)) ml_L_53 mf_X4_exchange (o := 0) (ci := 4) rfl rfl rfl rfl ⟨(Nat.le_of_ble_eq_true rfl), (Nat.le_of_ble_eq_true rfl)⟩ rfl rfl rfl (Nat.le_of_ble_eq_true rfl) ⟨by show 0 + 1 ≤ 1; omega, by show 0 + 6 ≤ 6; omega⟩ dL_exchange_3 [] ({ startPc := 0, endPc := 6, handlerPc := 7, catchType := 20 }) [] htab (fun _ h => absurd h List.not_mem_nil) (by decide) (by decide) xl_20 xc_IOOBE (q := 7) rfl (fun q9 => ?_)
  refine g_astore_n C (L' := [(3, .ref q9), (0, .ref (ea E 0)), (1, .int (iI r)), (2, .int (iI b))]) dL_exchange_7 rfl (by decide) rfl (q := 8) rfl ?_
  refine g_bipush C dL_exchange_8 (by decide) (q := 10) rfl ?_
  exact hret _ _ _ _ _ (by omega) (by omega) dL_exchange_10 rfl
abbrev rm_L_flip_0_0 : Room := { frames := 8, cells := 0, slots := 0, locals := 189 }
set_option maxRecDepth 100000 in
set_option maxHeartbeats 4000000 in
theorem c_L_flip (l : Launch) (hst : l.stackTraces = false) (E : EV) (σ : SS) (r b c : Int) (hr_r : -2147483648 ≤ r ∧ r ≤ 2147483647) (hr_b : -2147483648 ≤ b ∧ b ≤ 2147483647) (hr_c : -2147483648 ≤ c ∧ c ≤ 2147483647) (hW : CW (σ 2)) (hh : 0 ≤ (σ 5 1) ∧ (σ 5 1) < 8 ∧ 0 ≤ (σ 5 2) ∧ (σ 5 2) ≤ 8) (hF : FK (σ 2) 7 r b c 0 = 0) : TI l yL_flip (cwh yL_flip cL_flip 5 (some .int) th_L_flip) rm_L_flip_0_0 E [.ref (ea E 0), .int (iI r), .int (iI b), .int (iI c)] σ (opR (σ 2) 7 r b c 0) (st (st (st (st σ 2 (refF (opF (σ 2) 7 r b c 0))) 3 (cpf (σ 2) (σ 3) 0 0 310)) 5 (pt (pt (σ 5) 1 (nx8 (σ 5 1))) 2 (min ((σ 5 2) + 1) 8))) 6 (cpf (cpf (σ 2) (σ 3) 0 0 310) (σ 6) 0 ((σ 5 1) * 310) 310)) 0 0 := by
  refine TI_of (rm := rm_L_flip_0_0) (mL := 5) (b := cL_flip) RL rfl (by decide +kernel) [(0, .ref (ea E 0)), (1, .int (iI r)), (2, .int (iI b)), (3, .int (iI c))] rfl (Nat.le_of_ble_eq_true rfl) (fun p_ e_ s_ m_ a_ b_ h_ c_ Q A C htab hret => ?_)
  refine g_aload_n C dL_flip_0 0 rfl rfl (q := 1) rfl ?_
  refine g_iload_n C dL_flip_1 1 rfl rfl (q := 2) rfl ?_
  refine g_iload_n C dL_flip_2 2 rfl rfl (q := 3) rfl ?_
  refine g_iload_n C dL_flip_3 3 rfl rfl (q := 4) rfl ?_
  refine g_cV_i C (As := [.int (iI r), .int (iI b), .int (iI c)]) (c_X4_flip l E _ r b c (by assumption) (by assumption) (by assumption) (by assumption) (by assumption) (by assumption)) ml_L_56 mf_X4_flip (o := 0) (ci := 4) rfl rfl rfl rfl ⟨(Nat.le_of_ble_eq_true rfl), (Nat.le_of_ble_eq_true rfl)⟩ rfl rfl rfl (Nat.le_of_ble_eq_true rfl) ⟨(Nat.le_of_ble_eq_true rfl), (Nat.le_of_ble_eq_true rfl)⟩ dL_flip_4 (q := 7) rfl ?_
  exact hret _ _ _ _ _ (by omega) (by omega) dL_flip_7 rfl
abbrev rm_L_flip_1_6 : Room := { frames := 9, cells := 1, slots := 6, locals := 186 }
set_option maxRecDepth 100000 in
set_option maxHeartbeats 4000000 in
theorem c_L_flip_1 (l : Launch) (hst : l.stackTraces = false) (E : EV) (σ : SS) (r b c : Int) (hr_r : -2147483648 ≤ r ∧ r ≤ 2147483647) (hr_b : -2147483648 ≤ b ∧ b ≤ 2147483647) (hr_c : -2147483648 ≤ c ∧ c ≤ 2147483647) (hW : CW (σ 2)) (hF : FK (σ 2) 7 r b c 0 = 1) : TI l yL_flip (cwh yL_flip cL_flip 5 (some .int) th_L_flip) rm_L_flip_1_6 E [.ref (ea E 0), .int (iI r), .int (iI b), .int (iI c)] σ (-77) σ 1 6 := by
  refine TI_of (rm := rm_L_flip_1_6) (mL := 5) (b := cL_flip) RL rfl (by decide +kernel) [(0, .ref (ea E 0)), (1, .int (iI r)), (2, .int (iI b)), (3, .int (iI c))] rfl (Nat.le_of_ble_eq_true rfl) (fun p_ e_ s_ m_ a_ b_ h_ c_ Q A C htab hret => ?_)
  refine g_aload_n C dL_flip_0 0 rfl rfl (q := 1) rfl ?_
  refine g_iload_n C dL_flip_1 1 rfl rfl (q := 2) rfl ?_
  refine g_iload_n C dL_flip_2 2 rfl rfl (q := 3) rfl ?_
  refine g_iload_n C dL_flip_3 3 rfl rfl (q := 4) rfl ?_
  refine g_xVc C (As := [.int (iI r), .int (iI b), .int (iI c)]) (x_X4_flip_1 l hst E _ r b c (by assumption) (by assumption) (by assumption) (by assumption) (by assumption)) ml_L_56 mf_X4_flip (o := 0) (ci := 4) rfl rfl rfl rfl ⟨(Nat.le_of_ble_eq_true rfl), (Nat.le_of_ble_eq_true rfl)⟩ rfl rfl rfl (Nat.le_of_ble_eq_true rfl) ⟨by show 0 + 1 ≤ 1; omega, by show 0 + 6 ≤ 6; omega⟩ dL_flip_4 [] ({ startPc := 0, endPc := 7, handlerPc := 8, catchType := 20 }) [{ startPc := 0, endPc := 7, handlerPc := 13, catchType := 22 }] htab (fun _ h => absurd h List.not_mem_nil) (by decide) (by decide) xl_20 xc_IOOBE (q := 8) rfl (fun q9 => ?_)
  refine g_astore C (L' := [(4, .ref q9), (0, .ref (ea E 0)), (1, .int (iI r)), (2, .int (iI b)), (3, .int (iI c))]) dL_flip_8 (by decide) rfl (q := 10) rfl ?_
  refine g_bipush C dL_flip_10 (by decide) (q := 12) rfl ?_
  exact hret _ _ _ _ _ (by omega) (by omega) dL_flip_12 rfl
set_option maxRecDepth 100000 in
set_option maxHeartbeats 4000000 in
theorem c_L_flip_2 (l : Launch) (hst : l.stackTraces = false) (E : EV) (σ : SS) (r b c : Int) (hr_r : -2147483648 ≤ r ∧ r ≤ 2147483647) (hr_b : -2147483648 ≤ b ∧ b ≤ 2147483647) (hr_c : -2147483648 ≤ c ∧ c ≤ 2147483647) (hW : CW (σ 2)) (hF : FK (σ 2) 7 r b c 0 = 2) : TI l yL_flip (cwh yL_flip cL_flip 5 (some .int) th_L_flip) rm_L_flip_1_6 E [.ref (ea E 0), .int (iI r), .int (iI b), .int (iI c)] σ (-78) σ 1 6 := by
  refine TI_of (rm := rm_L_flip_1_6) (mL := 5) (b := cL_flip) RL rfl (by decide +kernel) [(0, .ref (ea E 0)), (1, .int (iI r)), (2, .int (iI b)), (3, .int (iI c))] rfl (Nat.le_of_ble_eq_true rfl) (fun p_ e_ s_ m_ a_ b_ h_ c_ Q A C htab hret => ?_)
  refine g_aload_n C dL_flip_0 0 rfl rfl (q := 1) rfl ?_
  refine g_iload_n C dL_flip_1 1 rfl rfl (q := 2) rfl ?_
  refine g_iload_n C dL_flip_2 2 rfl rfl (q := 3) rfl ?_
  refine g_iload_n C dL_flip_3 3 rfl rfl (q := 4) rfl ?_
  refine g_xVc C (As := [.int (iI r), .int (iI b), .int (iI c)]) (x_X4_flip_2 l hst E _ r b c (by assumption) (by assumption) (by assumption) (by assumption) (by assumption)) ml_L_56 mf_X4_flip (o := 0) (ci := 4) rfl rfl rfl rfl ⟨(Nat.le_of_ble_eq_true rfl), (Nat.le_of_ble_eq_true rfl)⟩ rfl rfl rfl (Nat.le_of_ble_eq_true rfl) ⟨by show 0 + 1 ≤ 1; omega, by show 0 + 6 ≤ 6; omega⟩ dL_flip_4 [{ startPc := 0, endPc := 7, handlerPc := 8, catchType := 20 }] ({ startPc := 0, endPc := 7, handlerPc := 13, catchType := 22 }) [] htab (List.forall_mem_cons.mpr ⟨Or.inr ⟨by decide, xIOOBE, xl_20, (by simp [ncs])⟩, fun _ h => absurd h List.not_mem_nil⟩) (by decide) (by decide) xl_22 xc_IAE (q := 13) rfl (fun q9 => ?_)
  refine g_astore C (L' := [(4, .ref q9), (0, .ref (ea E 0)), (1, .int (iI r)), (2, .int (iI b)), (3, .int (iI c))]) dL_flip_13 (by decide) rfl (q := 15) rfl ?_
  refine g_bipush C dL_flip_15 (by decide) (q := 17) rfl ?_
  exact hret _ _ _ _ _ (by omega) (by omega) dL_flip_17 rfl
abbrev rm_L_dye_0_0 : Room := { frames := 8, cells := 0, slots := 0, locals := 190 }
set_option maxRecDepth 100000 in
set_option maxHeartbeats 4000000 in
theorem c_L_dye (l : Launch) (hst : l.stackTraces = false) (E : EV) (σ : SS) (r b c d : Int) (hr_r : -2147483648 ≤ r ∧ r ≤ 2147483647) (hr_b : -2147483648 ≤ b ∧ b ≤ 2147483647) (hr_c : -2147483648 ≤ c ∧ c ≤ 2147483647) (hr_d : -2147483648 ≤ d ∧ d ≤ 2147483647) (hW : CW (σ 2)) (hh : 0 ≤ (σ 5 1) ∧ (σ 5 1) < 8 ∧ 0 ≤ (σ 5 2) ∧ (σ 5 2) ≤ 8) (hF : FK (σ 2) 8 r b c d = 0) : TI l yL_dye (cwh yL_dye cL_dye 6 (some .int) th_L_dye) rm_L_dye_0_0 E [.ref (ea E 0), .int (iI r), .int (iI b), .int (iI c), .int (iI d)] σ (opR (σ 2) 8 r b c d) (st (st (st (st σ 2 (refF (opF (σ 2) 8 r b c d))) 3 (cpf (σ 2) (σ 3) 0 0 310)) 5 (pt (pt (σ 5) 1 (nx8 (σ 5 1))) 2 (min ((σ 5 2) + 1) 8))) 6 (cpf (cpf (σ 2) (σ 3) 0 0 310) (σ 6) 0 ((σ 5 1) * 310) 310)) 0 0 := by
  refine TI_of (rm := rm_L_dye_0_0) (mL := 6) (b := cL_dye) RL rfl (by decide +kernel) [(0, .ref (ea E 0)), (1, .int (iI r)), (2, .int (iI b)), (3, .int (iI c)), (4, .int (iI d))] rfl (Nat.le_of_ble_eq_true rfl) (fun p_ e_ s_ m_ a_ b_ h_ c_ Q A C htab hret => ?_)
  refine g_aload_n C dL_dye_0 0 rfl rfl (q := 1) rfl ?_
  refine g_iload_n C dL_dye_1 1 rfl rfl (q := 2) rfl ?_
  refine g_iload_n C dL_dye_2 2 rfl rfl (q := 3) rfl ?_
  refine g_iload_n C dL_dye_3 3 rfl rfl (q := 4) rfl ?_
  refine g_iload C dL_dye_4 4 rfl (q := 6) rfl ?_
  refine g_cV_i C (As := [.int (iI r), .int (iI b), .int (iI c), .int (iI d)]) (c_X4_dye l E _ r b c d (by assumption) (by assumption) (by assumption) (by assumption) (by assumption) (by assumption) (by assumption)) ml_L_59 mf_X4_dye (o := 0) (ci := 4) rfl rfl rfl rfl ⟨(Nat.le_of_ble_eq_true rfl), (Nat.le_of_ble_eq_true rfl)⟩ rfl rfl rfl (Nat.le_of_ble_eq_true rfl) ⟨(Nat.le_of_ble_eq_true rfl), (Nat.le_of_ble_eq_true rfl)⟩ dL_dye_6 (q := 9) rfl ?_
  exact hret _ _ _ _ _ (by omega) (by omega) dL_dye_9 rfl
abbrev rm_L_dye_1_6 : Room := { frames := 9, cells := 1, slots := 6, locals := 187 }
set_option maxRecDepth 100000 in
set_option maxHeartbeats 4000000 in
theorem c_L_dye_1 (l : Launch) (hst : l.stackTraces = false) (E : EV) (σ : SS) (r b c d : Int) (hr_r : -2147483648 ≤ r ∧ r ≤ 2147483647) (hr_b : -2147483648 ≤ b ∧ b ≤ 2147483647) (hr_c : -2147483648 ≤ c ∧ c ≤ 2147483647) (hr_d : -2147483648 ≤ d ∧ d ≤ 2147483647) (hW : CW (σ 2)) (hF : FK (σ 2) 8 r b c d = 1) : TI l yL_dye (cwh yL_dye cL_dye 6 (some .int) th_L_dye) rm_L_dye_1_6 E [.ref (ea E 0), .int (iI r), .int (iI b), .int (iI c), .int (iI d)] σ (-77) σ 1 6 := by
  refine TI_of (rm := rm_L_dye_1_6) (mL := 6) (b := cL_dye) RL rfl (by decide +kernel) [(0, .ref (ea E 0)), (1, .int (iI r)), (2, .int (iI b)), (3, .int (iI c)), (4, .int (iI d))] rfl (Nat.le_of_ble_eq_true rfl) (fun p_ e_ s_ m_ a_ b_ h_ c_ Q A C htab hret => ?_)
  refine g_aload_n C dL_dye_0 0 rfl rfl (q := 1) rfl ?_
  refine g_iload_n C dL_dye_1 1 rfl rfl (q := 2) rfl ?_
  refine g_iload_n C dL_dye_2 2 rfl rfl (q := 3) rfl ?_
  refine g_iload_n C dL_dye_3 3 rfl rfl (q := 4) rfl ?_
  refine g_iload C dL_dye_4 4 rfl (q := 6) rfl ?_
  refine g_xVc C (As := [.int (iI r), .int (iI b), .int (iI c), .int (iI d)]) (x_X4_dye_1 l hst E _ r b c d (by assumption) (by assumption) (by assumption) (by assumption) (by assumption) (by assumption)) ml_L_59 mf_X4_dye (o := 0) (ci := 4) rfl rfl rfl rfl ⟨(Nat.le_of_ble_eq_true rfl), (Nat.le_of_ble_eq_true rfl)⟩ rfl rfl rfl (Nat.le_of_ble_eq_true rfl) ⟨by show 0 + 1 ≤ 1; omega, by show 0 + 6 ≤ 6; omega⟩ dL_dye_6 [] ({ startPc := 0, endPc := 9, handlerPc := 10, catchType := 20 }) [{ startPc := 0, endPc := 9, handlerPc := 15, catchType := 22 }] htab (fun _ h => absurd h List.not_mem_nil) (by decide) (by decide) xl_20 xc_IOOBE (q := 10) rfl (fun q9 => ?_)
  refine g_astore C (L' := [(5, .ref q9), (0, .ref (ea E 0)), (1, .int (iI r)), (2, .int (iI b)), (3, .int (iI c)), (4, .int (iI d))]) dL_dye_10 (by decide) rfl (q := 12) rfl ?_
  refine g_bipush C dL_dye_12 (by decide) (q := 14) rfl ?_
  exact hret _ _ _ _ _ (by omega) (by omega) dL_dye_14 rfl
set_option maxRecDepth 100000 in
set_option maxHeartbeats 4000000 in
theorem c_L_dye_2 (l : Launch) (hst : l.stackTraces = false) (E : EV) (σ : SS) (r b c d : Int) (hr_r : -2147483648 ≤ r ∧ r ≤ 2147483647) (hr_b : -2147483648 ≤ b ∧ b ≤ 2147483647) (hr_c : -2147483648 ≤ c ∧ c ≤ 2147483647) (hr_d : -2147483648 ≤ d ∧ d ≤ 2147483647) (hW : CW (σ 2)) (hF : FK (σ 2) 8 r b c d = 2) : TI l yL_dye (cwh yL_dye cL_dye 6 (some .int) th_L_dye) rm_L_dye_1_6 E [.ref (ea E 0), .int (iI r), .int (iI b), .int (iI c), .int (iI d)] σ (-78) σ 1 6 := by
  refine TI_of (rm := rm_L_dye_1_6) (mL := 6) (b := cL_dye) RL rfl (by decide +kernel) [(0, .ref (ea E 0)), (1, .int (iI r)), (2, .int (iI b)), (3, .int (iI c)), (4, .int (iI d))] rfl (Nat.le_of_ble_eq_true rfl) (fun p_ e_ s_ m_ a_ b_ h_ c_ Q A C htab hret => ?_)
  refine g_aload_n C dL_dye_0 0 rfl rfl (q := 1) rfl ?_
  refine g_iload_n C dL_dye_1 1 rfl rfl (q := 2) rfl ?_
  refine g_iload_n C dL_dye_2 2 rfl rfl (q := 3) rfl ?_
  refine g_iload_n C dL_dye_3 3 rfl rfl (q := 4) rfl ?_
  refine g_iload C dL_dye_4 4 rfl (q := 6) rfl ?_
  refine g_xVc C (As := [.int (iI r), .int (iI b), .int (iI c), .int (iI d)]) (x_X4_dye_2 l hst E _ r b c d (by assumption) (by assumption) (by assumption) (by assumption) (by assumption) (by assumption)) ml_L_59 mf_X4_dye (o := 0) (ci := 4) rfl rfl rfl rfl ⟨(Nat.le_of_ble_eq_true rfl), (Nat.le_of_ble_eq_true rfl)⟩ rfl rfl rfl (Nat.le_of_ble_eq_true rfl) ⟨by show 0 + 1 ≤ 1; omega, by show 0 + 6 ≤ 6; omega⟩ dL_dye_6 [{ startPc := 0, endPc := 9, handlerPc := 10, catchType := 20 }] ({ startPc := 0, endPc := 9, handlerPc := 15, catchType := 22 }) [] htab (List.forall_mem_cons.mpr ⟨Or.inr ⟨by decide, xIOOBE, xl_20, (by simp [ncs])⟩, fun _ h => absurd h List.not_mem_nil⟩) (by decide) (by decide) xl_22 xc_IAE (q := 15) rfl (fun q9 => ?_)
  refine g_astore C (L' := [(5, .ref q9), (0, .ref (ea E 0)), (1, .int (iI r)), (2, .int (iI b)), (3, .int (iI c)), (4, .int (iI d))]) dL_dye_15 (by decide) rfl (q := 17) rfl ?_
  refine g_bipush C dL_dye_17 (by decide) (q := 19) rfl ?_
  exact hret _ _ _ _ _ (by omega) (by omega) dL_dye_19 rfl
abbrev rm_L_reelLength_0_0 : Room := { frames := 7, cells := 0, slots := 0, locals := 157 }
set_option maxRecDepth 100000 in
set_option maxHeartbeats 4000000 in
theorem c_L_reelLength (l : Launch) (hst : l.stackTraces = false) (E : EV) (σ : SS) (r : Int) (hr_r : -2147483648 ≤ r ∧ r ≤ 2147483647) (hW : CW (σ 2)) (hF1 : fR r = 0) : TI l yL_reelLength (cwh yL_reelLength cL_reelLength 3 (some .int) th_L_reelLength) rm_L_reelLength_0_0 E [.ref (ea E 0), .int (iI r)] σ (sb (σ 2) r ((σ 2) (240 + r))) σ 0 0 := by
  refine TI_of (rm := rm_L_reelLength_0_0) (mL := 3) (b := cL_reelLength) RL rfl (by decide +kernel) [(0, .ref (ea E 0)), (1, .int (iI r))] rfl (Nat.le_of_ble_eq_true rfl) (fun p_ e_ s_ m_ a_ b_ h_ c_ Q A C htab hret => ?_)
  refine g_aload_n C dL_reelLength_0 0 rfl rfl (q := 1) rfl ?_
  refine g_iload_n C dL_reelLength_1 1 rfl rfl (q := 2) rfl ?_
  refine g_cV_i C (As := [.int (iI r)]) (c_X4_reelLength l E _ r (by assumption) (by assumption) (by assumption)) ml_L_62 mf_X4_reelLength (o := 0) (ci := 4) rfl rfl rfl rfl ⟨(Nat.le_of_ble_eq_true rfl), (Nat.le_of_ble_eq_true rfl)⟩ rfl rfl rfl (Nat.le_of_ble_eq_true rfl) ⟨(Nat.le_of_ble_eq_true rfl), (Nat.le_of_ble_eq_true rfl)⟩ dL_reelLength_2 (q := 5) rfl ?_
  exact hret _ _ _ _ _ (by omega) (by omega) dL_reelLength_5 rfl
abbrev rm_L_reelLength_1_6 : Room := { frames := 8, cells := 1, slots := 6, locals := 123 }
set_option maxRecDepth 100000 in
set_option maxHeartbeats 4000000 in
theorem c_L_reelLength_11 (l : Launch) (hst : l.stackTraces = false) (E : EV) (σ : SS) (r : Int) (hr_r : -2147483648 ≤ r ∧ r ≤ 2147483647) (hW : CW (σ 2)) (hF1 : fR r = 1) : TI l yL_reelLength (cwh yL_reelLength cL_reelLength 3 (some .int) th_L_reelLength) rm_L_reelLength_1_6 E [.ref (ea E 0), .int (iI r)] σ (-77) σ 1 6 := by
  refine TI_of (rm := rm_L_reelLength_1_6) (mL := 3) (b := cL_reelLength) RL rfl (by decide +kernel) [(0, .ref (ea E 0)), (1, .int (iI r))] rfl (Nat.le_of_ble_eq_true rfl) (fun p_ e_ s_ m_ a_ b_ h_ c_ Q A C htab hret => ?_)
  refine g_aload_n C dL_reelLength_0 0 rfl rfl (q := 1) rfl ?_
  refine g_iload_n C dL_reelLength_1 1 rfl rfl (q := 2) rfl ?_
  refine g_xVc C (As := [.int (iI r)]) (x_X4_reelLength_11 l hst E _ r (by assumption) (by assumption) (by assumption)) ml_L_62 mf_X4_reelLength (o := 0) (ci := 4) rfl rfl rfl rfl ⟨(Nat.le_of_ble_eq_true rfl), (Nat.le_of_ble_eq_true rfl)⟩ rfl rfl rfl (Nat.le_of_ble_eq_true rfl) ⟨by show 0 + 1 ≤ 1; omega, by show 0 + 6 ≤ 6; omega⟩ dL_reelLength_2 [] ({ startPc := 0, endPc := 5, handlerPc := 6, catchType := 20 }) [] htab (fun _ h => absurd h List.not_mem_nil) (by decide) (by decide) xl_20 xc_IOOBE (q := 6) rfl (fun q9 => ?_)
  refine g_astore_n C (L' := [(2, .ref q9), (0, .ref (ea E 0)), (1, .int (iI r))]) dL_reelLength_6 rfl (by decide) rfl (q := 7) rfl ?_
  refine g_bipush C dL_reelLength_7 (by decide) (q := 9) rfl ?_
  exact hret _ _ _ _ _ (by omega) (by omega) dL_reelLength_9 rfl
abbrev rm_L_lengthBefore_0_0 : Room := { frames := 6, cells := 0, slots := 0, locals := 137 }
set_option maxRecDepth 100000 in
set_option maxHeartbeats 4000000 in
theorem c_L_lengthBefore (l : Launch) (hst : l.stackTraces = false) (E : EV) (σ : SS) (r p : Int) (hr_r : -2147483648 ≤ r ∧ r ≤ 2147483647) (hr_p : -2147483648 ≤ p ∧ p ≤ 2147483647) (hW : CW (σ 2)) (hF1 : fB (σ 2) r p = 0) : TI l yL_lengthBefore (cwh yL_lengthBefore cL_lengthBefore 4 (some .int) th_L_lengthBefore) rm_L_lengthBefore_0_0 E [.ref (ea E 0), .int (iI r), .int (iI p)] σ (sb (σ 2) r p) σ 0 0 := by
  refine TI_of (rm := rm_L_lengthBefore_0_0) (mL := 4) (b := cL_lengthBefore) RL rfl (by decide +kernel) [(0, .ref (ea E 0)), (1, .int (iI r)), (2, .int (iI p))] rfl (Nat.le_of_ble_eq_true rfl) (fun p_ e_ s_ m_ a_ b_ h_ c_ Q A C htab hret => ?_)
  refine g_aload_n C dL_lengthBefore_0 0 rfl rfl (q := 1) rfl ?_
  refine g_iload_n C dL_lengthBefore_1 1 rfl rfl (q := 2) rfl ?_
  refine g_iload_n C dL_lengthBefore_2 2 rfl rfl (q := 3) rfl ?_
  refine g_cV_i C (As := [.int (iI r), .int (iI p)]) (c_X4_lengthBefore l E _ r p (by assumption) (by assumption) (by assumption) (by assumption)) ml_L_65 mf_X4_lengthBefore (o := 0) (ci := 4) rfl rfl rfl rfl ⟨(Nat.le_of_ble_eq_true rfl), (Nat.le_of_ble_eq_true rfl)⟩ rfl rfl rfl (Nat.le_of_ble_eq_true rfl) ⟨(Nat.le_of_ble_eq_true rfl), (Nat.le_of_ble_eq_true rfl)⟩ dL_lengthBefore_3 (q := 6) rfl ?_
  exact hret _ _ _ _ _ (by omega) (by omega) dL_lengthBefore_6 rfl
abbrev rm_L_lengthBeforeByScan_0_0 : Room := { frames := 5, cells := 0, slots := 0, locals := 112 }
set_option maxRecDepth 100000 in
set_option maxHeartbeats 4000000 in
theorem c_L_lengthBeforeByScan (l : Launch) (hst : l.stackTraces = false) (E : EV) (σ : SS) (r p : Int) (hr_r : -2147483648 ≤ r ∧ r ≤ 2147483647) (hr_p : -2147483648 ≤ p ∧ p ≤ 2147483647) (hW : CW (σ 2)) (hF1 : fB (σ 2) r p = 0) : TI l yL_lengthBeforeByScan (cwh yL_lengthBeforeByScan cL_lengthBeforeByScan 4 (some .int) th_L_lengthBeforeByScan) rm_L_lengthBeforeByScan_0_0 E [.ref (ea E 0), .int (iI r), .int (iI p)] σ (sI (lgs (σ 2) r) 0 (p - 1 + 1)) σ 0 0 := by
  refine TI_of (rm := rm_L_lengthBeforeByScan_0_0) (mL := 4) (b := cL_lengthBeforeByScan) RL rfl (by decide +kernel) [(0, .ref (ea E 0)), (1, .int (iI r)), (2, .int (iI p))] rfl (Nat.le_of_ble_eq_true rfl) (fun p_ e_ s_ m_ a_ b_ h_ c_ Q A C htab hret => ?_)
  refine g_aload_n C dL_lengthBeforeByScan_0 0 rfl rfl (q := 1) rfl ?_
  refine g_iload_n C dL_lengthBeforeByScan_1 1 rfl rfl (q := 2) rfl ?_
  refine g_iload_n C dL_lengthBeforeByScan_2 2 rfl rfl (q := 3) rfl ?_
  refine g_cV_i C (As := [.int (iI r), .int (iI p)]) (c_X4_lengthBeforeByScan l E _ r p (by assumption) (by assumption) (by assumption) (by assumption)) ml_L_68 mf_X4_lengthBeforeByScan (o := 0) (ci := 4) rfl rfl rfl rfl ⟨(Nat.le_of_ble_eq_true rfl), (Nat.le_of_ble_eq_true rfl)⟩ rfl rfl rfl (Nat.le_of_ble_eq_true rfl) ⟨(Nat.le_of_ble_eq_true rfl), (Nat.le_of_ble_eq_true rfl)⟩ dL_lengthBeforeByScan_3 (q := 6) rfl ?_
  exact hret _ _ _ _ _ (by omega) (by omega) dL_lengthBeforeByScan_6 rfl
abbrev rm_L_positionAt_0_0 : Room := { frames := 5, cells := 0, slots := 0, locals := 111 }
set_option maxRecDepth 100000 in
set_option maxHeartbeats 4000000 in
theorem c_L_positionAt (l : Launch) (hst : l.stackTraces = false) (E : EV) (σ : SS) (r p : Int) (hr_r : -2147483648 ≤ r ∧ r ≤ 2147483647) (hr_p : -2147483648 ≤ p ∧ p ≤ 2147483647) (hW : CW (σ 2)) (hF1 : fR r = 0) (hne : po (σ 2) r p ≠ -1) : TI l yL_positionAt (cwh yL_positionAt cL_positionAt 4 (some .int) th_L_positionAt) rm_L_positionAt_0_0 E [.ref (ea E 0), .int (iI r), .int (iI p)] σ (po (σ 2) r p) σ 0 0 := by
  refine TI_of (rm := rm_L_positionAt_0_0) (mL := 4) (b := cL_positionAt) RL rfl (by decide +kernel) [(0, .ref (ea E 0)), (1, .int (iI r)), (2, .int (iI p))] rfl (Nat.le_of_ble_eq_true rfl) (fun p_ e_ s_ m_ a_ b_ h_ c_ Q A C htab hret => ?_)
  refine g_aload_n C dL_positionAt_0 0 rfl rfl (q := 1) rfl ?_
  refine g_iload_n C dL_positionAt_1 1 rfl rfl (q := 2) rfl ?_
  refine g_iload_n C dL_positionAt_2 2 rfl rfl (q := 3) rfl ?_
  refine g_cV_i C (As := [.int (iI r), .int (iI p)]) (c_X4_positionAt l E _ r p (by assumption) (by assumption) (by assumption) (by assumption) (by assumption)) ml_L_71 mf_X4_positionAt (o := 0) (ci := 4) rfl rfl rfl rfl ⟨(Nat.le_of_ble_eq_true rfl), (Nat.le_of_ble_eq_true rfl)⟩ rfl rfl rfl (Nat.le_of_ble_eq_true rfl) ⟨(Nat.le_of_ble_eq_true rfl), (Nat.le_of_ble_eq_true rfl)⟩ dL_positionAt_3 (q := 6) rfl ?_
  exact hret _ _ _ _ _ (by omega) (by omega) dL_positionAt_6 rfl
abbrev rm_L_positionAt_1_6 : Room := { frames := 8, cells := 1, slots := 6, locals := 124 }
set_option maxRecDepth 100000 in
set_option maxHeartbeats 4000000 in
theorem c_L_positionAt_n (l : Launch) (hst : l.stackTraces = false) (E : EV) (σ : SS) (r p : Int) (hr_r : -2147483648 ≤ r ∧ r ≤ 2147483647) (hr_p : -2147483648 ≤ p ∧ p ≤ 2147483647) (hW : CW (σ 2)) (hF1 : fR r = 0) (hne : po (σ 2) r p = -1) : TI l yL_positionAt (cwh yL_positionAt cL_positionAt 4 (some .int) th_L_positionAt) rm_L_positionAt_1_6 E [.ref (ea E 0), .int (iI r), .int (iI p)] σ (-75) σ 1 6 := by
  refine TI_of (rm := rm_L_positionAt_1_6) (mL := 4) (b := cL_positionAt) RL rfl (by decide +kernel) [(0, .ref (ea E 0)), (1, .int (iI r)), (2, .int (iI p))] rfl (Nat.le_of_ble_eq_true rfl) (fun p_ e_ s_ m_ a_ b_ h_ c_ Q A C htab hret => ?_)
  refine g_aload_n C dL_positionAt_0 0 rfl rfl (q := 1) rfl ?_
  refine g_iload_n C dL_positionAt_1 1 rfl rfl (q := 2) rfl ?_
  refine g_iload_n C dL_positionAt_2 2 rfl rfl (q := 3) rfl ?_
  refine g_xVc C (As := [.int (iI r), .int (iI p)]) (x_X4_positionAt_n l hst E _ r p (by assumption) (by assumption) (by assumption) (by assumption) (by assumption)) ml_L_71 mf_X4_positionAt (o := 0) (ci := 4) rfl rfl rfl rfl ⟨(Nat.le_of_ble_eq_true rfl), (Nat.le_of_ble_eq_true rfl)⟩ rfl rfl rfl (Nat.le_of_ble_eq_true rfl) ⟨by show 0 + 1 ≤ 1; omega, by show 0 + 6 ≤ 6; omega⟩ dL_positionAt_3 [{ startPc := 0, endPc := 6, handlerPc := 7, catchType := 20 }] ({ startPc := 0, endPc := 6, handlerPc := 11, catchType := 74 }) [] htab (List.forall_mem_cons.mpr ⟨Or.inr ⟨by decide, xIOOBE, xl_20, (by simp [ncs])⟩, fun _ h => absurd h List.not_mem_nil⟩) (by decide) (by decide) xl_74 xc_NSEE (q := 11) rfl (fun q9 => ?_)
  refine g_astore_n C (L' := [(3, .ref q9), (0, .ref (ea E 0)), (1, .int (iI r)), (2, .int (iI p))]) dL_positionAt_11 rfl (by decide) rfl (q := 12) rfl ?_
  refine g_bipush C dL_positionAt_12 (by decide) (q := 14) rfl ?_
  exact hret _ _ _ _ _ (by omega) (by omega) dL_positionAt_14 rfl
abbrev rm_L_rangeLength_0_0 : Room := { frames := 5, cells := 0, slots := 0, locals := 113 }
set_option maxRecDepth 100000 in
set_option maxHeartbeats 4000000 in
theorem c_L_rangeLength (l : Launch) (hst : l.stackTraces = false) (E : EV) (σ : SS) (r x y : Int) (hr_r : -2147483648 ≤ r ∧ r ≤ 2147483647) (hr_x : -2147483648 ≤ x ∧ x ≤ 2147483647) (hr_y : -2147483648 ≤ y ∧ y ≤ 2147483647) (hW : CW (σ 2)) (hF1 : fX (σ 2) r x y = 0) : TI l yL_rangeLength (cwh yL_rangeLength cL_rangeLength 5 (some .int) th_L_rangeLength) rm_L_rangeLength_0_0 E [.ref (ea E 0), .int (iI r), .int (iI x), .int (iI y)] σ (sI (lgs (σ 2) r) x (y + 1)) σ 0 0 := by
  refine TI_of (rm := rm_L_rangeLength_0_0) (mL := 5) (b := cL_rangeLength) RL rfl (by decide +kernel) [(0, .ref (ea E 0)), (1, .int (iI r)), (2, .int (iI x)), (3, .int (iI y))] rfl (Nat.le_of_ble_eq_true rfl) (fun p_ e_ s_ m_ a_ b_ h_ c_ Q A C htab hret => ?_)
  refine g_aload_n C dL_rangeLength_0 0 rfl rfl (q := 1) rfl ?_
  refine g_iload_n C dL_rangeLength_1 1 rfl rfl (q := 2) rfl ?_
  refine g_iload_n C dL_rangeLength_2 2 rfl rfl (q := 3) rfl ?_
  refine g_iload_n C dL_rangeLength_3 3 rfl rfl (q := 4) rfl ?_
  refine g_cV_i C (As := [.int (iI r), .int (iI x), .int (iI y)]) (c_X4_rangeLength l E _ r x y (by assumption) (by assumption) (by assumption) (by assumption) (by assumption)) ml_L_76 mf_X4_rangeLength (o := 0) (ci := 4) rfl rfl rfl rfl ⟨(Nat.le_of_ble_eq_true rfl), (Nat.le_of_ble_eq_true rfl)⟩ rfl rfl rfl (Nat.le_of_ble_eq_true rfl) ⟨(Nat.le_of_ble_eq_true rfl), (Nat.le_of_ble_eq_true rfl)⟩ dL_rangeLength_4 (q := 7) rfl ?_
  exact hret _ _ _ _ _ (by omega) (by omega) dL_rangeLength_7 rfl
abbrev rm_L_longestInRange_0_0 : Room := { frames := 5, cells := 0, slots := 0, locals := 113 }
set_option maxRecDepth 100000 in
set_option maxHeartbeats 4000000 in
theorem c_L_longestInRange (l : Launch) (hst : l.stackTraces = false) (E : EV) (σ : SS) (r x y : Int) (hr_r : -2147483648 ≤ r ∧ r ≤ 2147483647) (hr_x : -2147483648 ≤ x ∧ x ≤ 2147483647) (hr_y : -2147483648 ≤ y ∧ y ≤ 2147483647) (hW : CW (σ 2)) (hF1 : fX (σ 2) r x y = 0) : TI l yL_longestInRange (cwh yL_longestInRange cL_longestInRange 5 (some .int) th_L_longestInRange) rm_L_longestInRange_0_0 E [.ref (ea E 0), .int (iI r), .int (iI x), .int (iI y)] σ (mI (lgs (σ 2) r) x (x + 1) (y + 1)) σ 0 0 := by
  refine TI_of (rm := rm_L_longestInRange_0_0) (mL := 5) (b := cL_longestInRange) RL rfl (by decide +kernel) [(0, .ref (ea E 0)), (1, .int (iI r)), (2, .int (iI x)), (3, .int (iI y))] rfl (Nat.le_of_ble_eq_true rfl) (fun p_ e_ s_ m_ a_ b_ h_ c_ Q A C htab hret => ?_)
  refine g_aload_n C dL_longestInRange_0 0 rfl rfl (q := 1) rfl ?_
  refine g_iload_n C dL_longestInRange_1 1 rfl rfl (q := 2) rfl ?_
  refine g_iload_n C dL_longestInRange_2 2 rfl rfl (q := 3) rfl ?_
  refine g_iload_n C dL_longestInRange_3 3 rfl rfl (q := 4) rfl ?_
  refine g_cV_i C (As := [.int (iI r), .int (iI x), .int (iI y)]) (c_X4_longestInRange l E _ r x y (by assumption) (by assumption) (by assumption) (by assumption) (by assumption)) ml_L_79 mf_X4_longestInRange (o := 0) (ci := 4) rfl rfl rfl rfl ⟨(Nat.le_of_ble_eq_true rfl), (Nat.le_of_ble_eq_true rfl)⟩ rfl rfl rfl (Nat.le_of_ble_eq_true rfl) ⟨(Nat.le_of_ble_eq_true rfl), (Nat.le_of_ble_eq_true rfl)⟩ dL_longestInRange_4 (q := 7) rfl ?_
  exact hret _ _ _ _ _ (by omega) (by omega) dL_longestInRange_7 rfl
abbrev rm_L_segmentAtRank_0_0 : Room := { frames := 6, cells := 0, slots := 0, locals := 136 }
set_option maxRecDepth 100000 in
set_option maxHeartbeats 4000000 in
theorem c_L_segmentAtRank (l : Launch) (hst : l.stackTraces = false) (E : EV) (σ : SS) (r p : Int) (hr_r : -2147483648 ≤ r ∧ r ≤ 2147483647) (hr_p : -2147483648 ≤ p ∧ p ≤ 2147483647) (hW : CW (σ 2)) (hF1 : fR r = 0) (hne : fI (rkP (σ 2) r p) 0 ((σ 2) (240 + r)) ≠ -1) : TI l yL_segmentAtRank (cwh yL_segmentAtRank cL_segmentAtRank 4 (some .int) th_L_segmentAtRank) rm_L_segmentAtRank_0_0 E [.ref (ea E 0), .int (iI r), .int (iI p)] σ (fI (rkP (σ 2) r p) 0 ((σ 2) (240 + r))) σ 0 0 := by
  refine TI_of (rm := rm_L_segmentAtRank_0_0) (mL := 4) (b := cL_segmentAtRank) RL rfl (by decide +kernel) [(0, .ref (ea E 0)), (1, .int (iI r)), (2, .int (iI p))] rfl (Nat.le_of_ble_eq_true rfl) (fun p_ e_ s_ m_ a_ b_ h_ c_ Q A C htab hret => ?_)
  refine g_aload_n C dL_segmentAtRank_0 0 rfl rfl (q := 1) rfl ?_
  refine g_iload_n C dL_segmentAtRank_1 1 rfl rfl (q := 2) rfl ?_
  refine g_iload_n C dL_segmentAtRank_2 2 rfl rfl (q := 3) rfl ?_
  refine g_cV_i C (As := [.int (iI r), .int (iI p)]) (c_X4_segmentAtRank l E _ r p (by assumption) (by assumption) (by assumption) (by assumption) (by assumption)) ml_L_82 mf_X4_segmentAtRank (o := 0) (ci := 4) rfl rfl rfl rfl ⟨(Nat.le_of_ble_eq_true rfl), (Nat.le_of_ble_eq_true rfl)⟩ rfl rfl rfl (Nat.le_of_ble_eq_true rfl) ⟨(Nat.le_of_ble_eq_true rfl), (Nat.le_of_ble_eq_true rfl)⟩ dL_segmentAtRank_3 (q := 6) rfl ?_
  exact hret _ _ _ _ _ (by omega) (by omega) dL_segmentAtRank_6 rfl
abbrev rm_L_segmentAtRank_1_6 : Room := { frames := 8, cells := 1, slots := 6, locals := 136 }
set_option maxRecDepth 100000 in
set_option maxHeartbeats 4000000 in
theorem c_L_segmentAtRank_n (l : Launch) (hst : l.stackTraces = false) (E : EV) (σ : SS) (r p : Int) (hr_r : -2147483648 ≤ r ∧ r ≤ 2147483647) (hr_p : -2147483648 ≤ p ∧ p ≤ 2147483647) (hW : CW (σ 2)) (hF1 : fR r = 0) (hne : fI (rkP (σ 2) r p) 0 ((σ 2) (240 + r)) = -1) : TI l yL_segmentAtRank (cwh yL_segmentAtRank cL_segmentAtRank 4 (some .int) th_L_segmentAtRank) rm_L_segmentAtRank_1_6 E [.ref (ea E 0), .int (iI r), .int (iI p)] σ (-75) σ 1 6 := by
  refine TI_of (rm := rm_L_segmentAtRank_1_6) (mL := 4) (b := cL_segmentAtRank) RL rfl (by decide +kernel) [(0, .ref (ea E 0)), (1, .int (iI r)), (2, .int (iI p))] rfl (Nat.le_of_ble_eq_true rfl) (fun p_ e_ s_ m_ a_ b_ h_ c_ Q A C htab hret => ?_)
  refine g_aload_n C dL_segmentAtRank_0 0 rfl rfl (q := 1) rfl ?_
  refine g_iload_n C dL_segmentAtRank_1 1 rfl rfl (q := 2) rfl ?_
  refine g_iload_n C dL_segmentAtRank_2 2 rfl rfl (q := 3) rfl ?_
  refine g_xVc C (As := [.int (iI r), .int (iI p)]) (x_X4_segmentAtRank_n l hst E _ r p (by assumption) (by assumption) (by assumption) (by assumption) (by assumption)) ml_L_82 mf_X4_segmentAtRank (o := 0) (ci := 4) rfl rfl rfl rfl ⟨(Nat.le_of_ble_eq_true rfl), (Nat.le_of_ble_eq_true rfl)⟩ rfl rfl rfl (Nat.le_of_ble_eq_true rfl) ⟨by show 0 + 1 ≤ 1; omega, by show 0 + 6 ≤ 6; omega⟩ dL_segmentAtRank_3 [{ startPc := 0, endPc := 6, handlerPc := 7, catchType := 20 }] ({ startPc := 0, endPc := 6, handlerPc := 11, catchType := 74 }) [] htab (List.forall_mem_cons.mpr ⟨Or.inr ⟨by decide, xIOOBE, xl_20, (by simp [ncs])⟩, fun _ h => absurd h List.not_mem_nil⟩) (by decide) (by decide) xl_74 xc_NSEE (q := 11) rfl (fun q9 => ?_)
  refine g_astore_n C (L' := [(3, .ref q9), (0, .ref (ea E 0)), (1, .int (iI r)), (2, .int (iI p))]) dL_segmentAtRank_11 rfl (by decide) rfl (q := 12) rfl ?_
  refine g_bipush C dL_segmentAtRank_12 (by decide) (q := 14) rfl ?_
  exact hret _ _ _ _ _ (by omega) (by omega) dL_segmentAtRank_14 rfl
abbrev rm_L_tangleCount_0_0 : Room := { frames := 6, cells := 0, slots := 0, locals := 131 }
set_option maxRecDepth 100000 in
set_option maxHeartbeats 4000000 in
theorem c_L_tangleCount (l : Launch) (hst : l.stackTraces = false) (E : EV) (σ : SS) (r : Int) (hr_r : -2147483648 ≤ r ∧ r ≤ 2147483647) (hW : CW (σ 2)) (hF1 : fR r = 0) : TI l yL_tangleCount (cwh yL_tangleCount cL_tangleCount 3 (some .int) th_L_tangleCount) rm_L_tangleCount_0_0 E [.ref (ea E 0), .int (iI r)] σ (tt (σ 2) r) σ 0 0 := by
  refine TI_of (rm := rm_L_tangleCount_0_0) (mL := 3) (b := cL_tangleCount) RL rfl (by decide +kernel) [(0, .ref (ea E 0)), (1, .int (iI r))] rfl (Nat.le_of_ble_eq_true rfl) (fun p_ e_ s_ m_ a_ b_ h_ c_ Q A C htab hret => ?_)
  refine g_aload_n C dL_tangleCount_0 0 rfl rfl (q := 1) rfl ?_
  refine g_iload_n C dL_tangleCount_1 1 rfl rfl (q := 2) rfl ?_
  refine g_cV_i C (As := [.int (iI r)]) (c_X4_tangleCount l E _ r (by assumption) (by assumption) (by assumption)) ml_L_85 mf_X4_tangleCount (o := 0) (ci := 4) rfl rfl rfl rfl ⟨(Nat.le_of_ble_eq_true rfl), (Nat.le_of_ble_eq_true rfl)⟩ rfl rfl rfl (Nat.le_of_ble_eq_true rfl) ⟨(Nat.le_of_ble_eq_true rfl), (Nat.le_of_ble_eq_true rfl)⟩ dL_tangleCount_2 (q := 5) rfl ?_
  exact hret _ _ _ _ _ (by omega) (by omega) dL_tangleCount_5 rfl
abbrev rm_L_tangleCountByScan_0_0 : Room := { frames := 6, cells := 0, slots := 0, locals := 131 }
set_option maxRecDepth 100000 in
set_option maxHeartbeats 4000000 in
theorem c_L_tangleCountByScan (l : Launch) (hst : l.stackTraces = false) (E : EV) (σ : SS) (r : Int) (hr_r : -2147483648 ≤ r ∧ r ≤ 2147483647) (hW : CW (σ 2)) (hF1 : fR r = 0) : TI l yL_tangleCountByScan (cwh yL_tangleCountByScan cL_tangleCountByScan 3 (some .int) th_L_tangleCountByScan) rm_L_tangleCountByScan_0_0 E [.ref (ea E 0), .int (iI r)] σ (tbs (σ 2) r) σ 0 0 := by
  refine TI_of (rm := rm_L_tangleCountByScan_0_0) (mL := 3) (b := cL_tangleCountByScan) RL rfl (by decide +kernel) [(0, .ref (ea E 0)), (1, .int (iI r))] rfl (Nat.le_of_ble_eq_true rfl) (fun p_ e_ s_ m_ a_ b_ h_ c_ Q A C htab hret => ?_)
  refine g_aload_n C dL_tangleCountByScan_0 0 rfl rfl (q := 1) rfl ?_
  refine g_iload_n C dL_tangleCountByScan_1 1 rfl rfl (q := 2) rfl ?_
  refine g_cV_i C (As := [.int (iI r)]) (c_X4_tangleCountByScan l E _ r (by assumption) (by assumption) (by assumption)) ml_L_88 mf_X4_tangleCountByScan (o := 0) (ci := 4) rfl rfl rfl rfl ⟨(Nat.le_of_ble_eq_true rfl), (Nat.le_of_ble_eq_true rfl)⟩ rfl rfl rfl (Nat.le_of_ble_eq_true rfl) ⟨(Nat.le_of_ble_eq_true rfl), (Nat.le_of_ble_eq_true rfl)⟩ dL_tangleCountByScan_2 (q := 5) rfl ?_
  exact hret _ _ _ _ _ (by omega) (by omega) dL_tangleCountByScan_5 rfl
abbrev rm_L_isTangled_0_0 : Room := { frames := 5, cells := 0, slots := 0, locals := 109 }
set_option maxRecDepth 100000 in
set_option maxHeartbeats 4000000 in
theorem c_L_isTangled (l : Launch) (hst : l.stackTraces = false) (E : EV) (σ : SS) (r p : Int) (hr_r : -2147483648 ≤ r ∧ r ≤ 2147483647) (hr_p : -2147483648 ≤ p ∧ p ≤ 2147483647) (hW : CW (σ 2)) (hF1 : fP (σ 2) r p = 0) : TI l yL_isTangled (cwh yL_isTangled cL_isTangled 4 (some .int) th_L_isTangled) rm_L_isTangled_0_0 E [.ref (ea E 0), .int (iI r), .int (iI p)] σ (iT (σ 2) r p) σ 0 0 := by
  refine TI_of (rm := rm_L_isTangled_0_0) (mL := 4) (b := cL_isTangled) RL rfl (by decide +kernel) [(0, .ref (ea E 0)), (1, .int (iI r)), (2, .int (iI p))] rfl (Nat.le_of_ble_eq_true rfl) (fun p_ e_ s_ m_ a_ b_ h_ c_ Q A C htab hret => ?_)
  have hb9 : iT (σ 2) r p = 0 ∨ iT (σ 2) r p = 1 := by first | exact iT_01 _ _ _ | exact iT_01 _ _ | exact iT_01 _
  refine g_aload_n C dL_isTangled_0 0 rfl rfl (q := 1) rfl ?_
  refine g_iload_n C dL_isTangled_1 1 rfl rfl (q := 2) rfl ?_
  refine g_iload_n C dL_isTangled_2 2 rfl rfl (q := 3) rfl ?_
  refine g_cV_i C (As := [.int (iI r), .int (iI p)]) (c_X4_isTangled l E _ r p (by assumption) (by assumption) (by assumption) (by assumption)) ml_L_91 mf_X4_isTangled (o := 0) (ci := 4) rfl rfl rfl rfl ⟨(Nat.le_of_ble_eq_true rfl), (Nat.le_of_ble_eq_true rfl)⟩ rfl rfl rfl (Nat.le_of_ble_eq_true rfl) ⟨(Nat.le_of_ble_eq_true rfl), (Nat.le_of_ble_eq_true rfl)⟩ dL_isTangled_3 (q := 6) rfl ?_
  refine g_if_eq C dL_isTangled_6 (by omega) (q2 := 13) rfl (q := 9) rfl (fun hb1 => ?_) (fun hb1 => ?_)
  · skip
    refine g_iconst C dL_isTangled_13 (q := 14) rfl ?_
    exact hret _ _ _ _ _ (by omega) (by omega) dL_isTangled_14 (by omega)
  · skip
    refine g_iconst C dL_isTangled_9 (q := 10) rfl ?_
    refine g_goto C dL_isTangled_10 (q := 14) rfl ?_
    exact hret _ _ _ _ _ (by omega) (by omega) dL_isTangled_14 (by omega)
abbrev rm_L_longestRun_0_0 : Room := { frames := 6, cells := 0, slots := 0, locals := 132 }
set_option maxRecDepth 100000 in
set_option maxHeartbeats 4000000 in
theorem c_L_longestRun (l : Launch) (hst : l.stackTraces = false) (E : EV) (σ : SS) (r : Int) (hr_r : -2147483648 ≤ r ∧ r ≤ 2147483647) (hW : CW (σ 2)) (hF1 : fR r = 0) : TI l yL_longestRun (cwh yL_longestRun cL_longestRun 3 (some .int) th_L_longestRun) rm_L_longestRun_0_0 E [.ref (ea E 0), .int (iI r)] σ (lrI (tg (σ 2) r) 0 0 0 ((σ 2) (240 + r))) σ 0 0 := by
  refine TI_of (rm := rm_L_longestRun_0_0) (mL := 3) (b := cL_longestRun) RL rfl (by decide +kernel) [(0, .ref (ea E 0)), (1, .int (iI r))] rfl (Nat.le_of_ble_eq_true rfl) (fun p_ e_ s_ m_ a_ b_ h_ c_ Q A C htab hret => ?_)
  refine g_aload_n C dL_longestRun_0 0 rfl rfl (q := 1) rfl ?_
  refine g_iload_n C dL_longestRun_1 1 rfl rfl (q := 2) rfl ?_
  refine g_cV_i C (As := [.int (iI r)]) (c_X4_longestRun l E _ r (by assumption) (by assumption) (by assumption)) ml_L_95 mf_X4_longestRun (o := 0) (ci := 4) rfl rfl rfl rfl ⟨(Nat.le_of_ble_eq_true rfl), (Nat.le_of_ble_eq_true rfl)⟩ rfl rfl rfl (Nat.le_of_ble_eq_true rfl) ⟨(Nat.le_of_ble_eq_true rfl), (Nat.le_of_ble_eq_true rfl)⟩ dL_longestRun_2 (q := 5) rfl ?_
  exact hret _ _ _ _ _ (by omega) (by omega) dL_longestRun_5 rfl
abbrev rm_L_nextOfColour_0_0 : Room := { frames := 5, cells := 0, slots := 0, locals := 112 }
set_option maxRecDepth 100000 in
set_option maxHeartbeats 4000000 in
theorem c_L_nextOfColour (l : Launch) (hst : l.stackTraces = false) (E : EV) (σ : SS) (r p c : Int) (hr_r : -2147483648 ≤ r ∧ r ≤ 2147483647) (hr_p : -2147483648 ≤ p ∧ p ≤ 2147483647) (hr_c : -2147483648 ≤ c ∧ c ≤ 2147483647) (hW : CW (σ 2)) (hF1 : fP (σ 2) r p = 0) (hF2 : fC c = 0) (hne : fI (coP (σ 2) r c) p ((σ 2) (240 + r)) ≠ -1) : TI l yL_nextOfColour (cwh yL_nextOfColour cL_nextOfColour 5 (some .int) th_L_nextOfColour) rm_L_nextOfColour_0_0 E [.ref (ea E 0), .int (iI r), .int (iI p), .int (iI c)] σ (fI (coP (σ 2) r c) p ((σ 2) (240 + r))) σ 0 0 := by
  refine TI_of (rm := rm_L_nextOfColour_0_0) (mL := 5) (b := cL_nextOfColour) RL rfl (by decide +kernel) [(0, .ref (ea E 0)), (1, .int (iI r)), (2, .int (iI p)), (3, .int (iI c))] rfl (Nat.le_of_ble_eq_true rfl) (fun p_ e_ s_ m_ a_ b_ h_ c_ Q A C htab hret => ?_)
  refine g_aload_n C dL_nextOfColour_0 0 rfl rfl (q := 1) rfl ?_
  refine g_iload_n C dL_nextOfColour_1 1 rfl rfl (q := 2) rfl ?_
  refine g_iload_n C dL_nextOfColour_2 2 rfl rfl (q := 3) rfl ?_
  refine g_iload_n C dL_nextOfColour_3 3 rfl rfl (q := 4) rfl ?_
  refine g_cV_i C (As := [.int (iI r), .int (iI p), .int (iI c)]) (c_X4_nextOfColour l E _ r p c (by assumption) (by assumption) (by assumption) (by assumption) (by assumption) (by assumption) (by assumption)) ml_L_98 mf_X4_nextOfColour (o := 0) (ci := 4) rfl rfl rfl rfl ⟨(Nat.le_of_ble_eq_true rfl), (Nat.le_of_ble_eq_true rfl)⟩ rfl rfl rfl (Nat.le_of_ble_eq_true rfl) ⟨(Nat.le_of_ble_eq_true rfl), (Nat.le_of_ble_eq_true rfl)⟩ dL_nextOfColour_4 (q := 7) rfl ?_
  exact hret _ _ _ _ _ (by omega) (by omega) dL_nextOfColour_7 rfl
abbrev rm_L_nextOfColour_1_6 : Room := { frames := 8, cells := 1, slots := 6, locals := 125 }
set_option maxRecDepth 100000 in
set_option maxHeartbeats 4000000 in
theorem c_L_nextOfColour_n (l : Launch) (hst : l.stackTraces = false) (E : EV) (σ : SS) (r p c : Int) (hr_r : -2147483648 ≤ r ∧ r ≤ 2147483647) (hr_p : -2147483648 ≤ p ∧ p ≤ 2147483647) (hr_c : -2147483648 ≤ c ∧ c ≤ 2147483647) (hW : CW (σ 2)) (hF1 : fP (σ 2) r p = 0) (hF2 : fC c = 0) (hne : fI (coP (σ 2) r c) p ((σ 2) (240 + r)) = -1) : TI l yL_nextOfColour (cwh yL_nextOfColour cL_nextOfColour 5 (some .int) th_L_nextOfColour) rm_L_nextOfColour_1_6 E [.ref (ea E 0), .int (iI r), .int (iI p), .int (iI c)] σ (-75) σ 1 6 := by
  refine TI_of (rm := rm_L_nextOfColour_1_6) (mL := 5) (b := cL_nextOfColour) RL rfl (by decide +kernel) [(0, .ref (ea E 0)), (1, .int (iI r)), (2, .int (iI p)), (3, .int (iI c))] rfl (Nat.le_of_ble_eq_true rfl) (fun p_ e_ s_ m_ a_ b_ h_ c_ Q A C htab hret => ?_)
  refine g_aload_n C dL_nextOfColour_0 0 rfl rfl (q := 1) rfl ?_
  refine g_iload_n C dL_nextOfColour_1 1 rfl rfl (q := 2) rfl ?_
  refine g_iload_n C dL_nextOfColour_2 2 rfl rfl (q := 3) rfl ?_
  refine g_iload_n C dL_nextOfColour_3 3 rfl rfl (q := 4) rfl ?_
  refine g_xVc C (As := [.int (iI r), .int (iI p), .int (iI c)]) (x_X4_nextOfColour_n l hst E _ r p c (by assumption) (by assumption) (by assumption) (by assumption) (by assumption) (by assumption) (by assumption)) ml_L_98 mf_X4_nextOfColour (o := 0) (ci := 4) rfl rfl rfl rfl ⟨(Nat.le_of_ble_eq_true rfl), (Nat.le_of_ble_eq_true rfl)⟩ rfl rfl rfl (Nat.le_of_ble_eq_true rfl) ⟨by show 0 + 1 ≤ 1; omega, by show 0 + 6 ≤ 6; omega⟩ dL_nextOfColour_4 [{ startPc := 0, endPc := 7, handlerPc := 8, catchType := 20 }, { startPc := 0, endPc := 7, handlerPc := 13, catchType := 22 }] ({ startPc := 0, endPc := 7, handlerPc := 18, catchType := 74 }) [] htab (List.forall_mem_cons.mpr ⟨Or.inr ⟨by decide, xIOOBE, xl_20, (by simp [ncs])⟩, List.forall_mem_cons.mpr ⟨Or.inr ⟨by decide, xIAE, xl_22, (by simp [ncs])⟩, fun _ h => absurd h List.not_mem_nil⟩⟩) (by decide) (by decide) xl_74 xc_NSEE (q := 18) rfl (fun q9 => ?_)
  refine g_astore C (L' := [(4, .ref q9), (0, .ref (ea E 0)), (1, .int (iI r)), (2, .int (iI p)), (3, .int (iI c))]) dL_nextOfColour_18 (by decide) rfl (q := 20) rfl ?_
  refine g_bipush C dL_nextOfColour_20 (by decide) (q := 22) rfl ?_
  exact hret _ _ _ _ _ (by omega) (by omega) dL_nextOfColour_22 rfl
abbrev rm_L_colourLength_0_0 : Room := { frames := 5, cells := 0, slots := 0, locals := 111 }
set_option maxRecDepth 100000 in
set_option maxHeartbeats 4000000 in
theorem c_L_colourLength (l : Launch) (hst : l.stackTraces = false) (E : EV) (σ : SS) (r c : Int) (hr_r : -2147483648 ≤ r ∧ r ≤ 2147483647) (hr_c : -2147483648 ≤ c ∧ c ≤ 2147483647) (hW : CW (σ 2)) (hF1 : fR r = 0) (hF2 : fC c = 0) : TI l yL_colourLength (cwh yL_colourLength cL_colourLength 4 (some .int) th_L_colourLength) rm_L_colourLength_0_0 E [.ref (ea E 0), .int (iI r), .int (iI c)] σ (sc (σ 2) r c) σ 0 0 := by
  refine TI_of (rm := rm_L_colourLength_0_0) (mL := 4) (b := cL_colourLength) RL rfl (by decide +kernel) [(0, .ref (ea E 0)), (1, .int (iI r)), (2, .int (iI c))] rfl (Nat.le_of_ble_eq_true rfl) (fun p_ e_ s_ m_ a_ b_ h_ c_ Q A C htab hret => ?_)
  refine g_aload_n C dL_colourLength_0 0 rfl rfl (q := 1) rfl ?_
  refine g_iload_n C dL_colourLength_1 1 rfl rfl (q := 2) rfl ?_
  refine g_iload_n C dL_colourLength_2 2 rfl rfl (q := 3) rfl ?_
  refine g_cV_i C (As := [.int (iI r), .int (iI c)]) (c_X4_colourLength l E _ r c (by assumption) (by assumption) (by assumption) (by assumption) (by assumption)) ml_L_101 mf_X4_colourLength (o := 0) (ci := 4) rfl rfl rfl rfl ⟨(Nat.le_of_ble_eq_true rfl), (Nat.le_of_ble_eq_true rfl)⟩ rfl rfl rfl (Nat.le_of_ble_eq_true rfl) ⟨(Nat.le_of_ble_eq_true rfl), (Nat.le_of_ble_eq_true rfl)⟩ dL_colourLength_3 (q := 6) rfl ?_
  exact hret _ _ _ _ _ (by omega) (by omega) dL_colourLength_6 rfl
abbrev rm_L_colourAtRank_0_0 : Room := { frames := 7, cells := 0, slots := 0, locals := 161 }
set_option maxRecDepth 100000 in
set_option maxHeartbeats 4000000 in
theorem c_L_colourAtRank (l : Launch) (hst : l.stackTraces = false) (E : EV) (σ : SS) (r p : Int) (hr_r : -2147483648 ≤ r ∧ r ≤ 2147483647) (hr_p : -2147483648 ≤ p ∧ p ≤ 2147483647) (hW : CW (σ 2)) (hF1 : fR r = 0) (hne : fI (rcP (σ 2) r p) 0 8 ≠ -1) : TI l yL_colourAtRank (cwh yL_colourAtRank cL_colourAtRank 4 (some .int) th_L_colourAtRank) rm_L_colourAtRank_0_0 E [.ref (ea E 0), .int (iI r), .int (iI p)] σ (fI (rcP (σ 2) r p) 0 8) σ 0 0 := by
  refine TI_of (rm := rm_L_colourAtRank_0_0) (mL := 4) (b := cL_colourAtRank) RL rfl (by decide +kernel) [(0, .ref (ea E 0)), (1, .int (iI r)), (2, .int (iI p))] rfl (Nat.le_of_ble_eq_true rfl) (fun p_ e_ s_ m_ a_ b_ h_ c_ Q A C htab hret => ?_)
  refine g_aload_n C dL_colourAtRank_0 0 rfl rfl (q := 1) rfl ?_
  refine g_iload_n C dL_colourAtRank_1 1 rfl rfl (q := 2) rfl ?_
  refine g_iload_n C dL_colourAtRank_2 2 rfl rfl (q := 3) rfl ?_
  refine g_cV_i C (As := [.int (iI r), .int (iI p)]) (c_X4_colourAtRank l E _ r p (by assumption) (by assumption) (by assumption) (by assumption) (by assumption)) ml_L_104 mf_X4_colourAtRank (o := 0) (ci := 4) rfl rfl rfl rfl ⟨(Nat.le_of_ble_eq_true rfl), (Nat.le_of_ble_eq_true rfl)⟩ rfl rfl rfl (Nat.le_of_ble_eq_true rfl) ⟨(Nat.le_of_ble_eq_true rfl), (Nat.le_of_ble_eq_true rfl)⟩ dL_colourAtRank_3 (q := 6) rfl ?_
  exact hret _ _ _ _ _ (by omega) (by omega) dL_colourAtRank_6 rfl
abbrev rm_L_colourAtRank_1_6 : Room := { frames := 8, cells := 1, slots := 6, locals := 161 }
set_option maxRecDepth 100000 in
set_option maxHeartbeats 4000000 in
theorem c_L_colourAtRank_n (l : Launch) (hst : l.stackTraces = false) (E : EV) (σ : SS) (r p : Int) (hr_r : -2147483648 ≤ r ∧ r ≤ 2147483647) (hr_p : -2147483648 ≤ p ∧ p ≤ 2147483647) (hW : CW (σ 2)) (hF1 : fR r = 0) (hne : fI (rcP (σ 2) r p) 0 8 = -1) : TI l yL_colourAtRank (cwh yL_colourAtRank cL_colourAtRank 4 (some .int) th_L_colourAtRank) rm_L_colourAtRank_1_6 E [.ref (ea E 0), .int (iI r), .int (iI p)] σ (-75) σ 1 6 := by
  refine TI_of (rm := rm_L_colourAtRank_1_6) (mL := 4) (b := cL_colourAtRank) RL rfl (by decide +kernel) [(0, .ref (ea E 0)), (1, .int (iI r)), (2, .int (iI p))] rfl (Nat.le_of_ble_eq_true rfl) (fun p_ e_ s_ m_ a_ b_ h_ c_ Q A C htab hret => ?_)
  refine g_aload_n C dL_colourAtRank_0 0 rfl rfl (q := 1) rfl ?_
  refine g_iload_n C dL_colourAtRank_1 1 rfl rfl (q := 2) rfl ?_
  refine g_iload_n C dL_colourAtRank_2 2 rfl rfl (q := 3) rfl ?_
  refine g_xVc C (As := [.int (iI r), .int (iI p)]) (x_X4_colourAtRank_n l hst E _ r p (by assumption) (by assumption) (by assumption) (by assumption) (by assumption)) ml_L_104 mf_X4_colourAtRank (o := 0) (ci := 4) rfl rfl rfl rfl ⟨(Nat.le_of_ble_eq_true rfl), (Nat.le_of_ble_eq_true rfl)⟩ rfl rfl rfl (Nat.le_of_ble_eq_true rfl) ⟨by show 0 + 1 ≤ 1; omega, by show 0 + 6 ≤ 6; omega⟩ dL_colourAtRank_3 [{ startPc := 0, endPc := 6, handlerPc := 7, catchType := 20 }] ({ startPc := 0, endPc := 6, handlerPc := 11, catchType := 74 }) [] htab (List.forall_mem_cons.mpr ⟨Or.inr ⟨by decide, xIOOBE, xl_20, (by simp [ncs])⟩, fun _ h => absurd h List.not_mem_nil⟩) (by decide) (by decide) xl_74 xc_NSEE (q := 11) rfl (fun q9 => ?_)
  refine g_astore_n C (L' := [(3, .ref q9), (0, .ref (ea E 0)), (1, .int (iI r)), (2, .int (iI p))]) dL_colourAtRank_11 rfl (by decide) rfl (q := 12) rfl ?_
  refine g_bipush C dL_colourAtRank_12 (by decide) (q := 14) rfl ?_
  exact hret _ _ _ _ _ (by omega) (by omega) dL_colourAtRank_14 rfl
abbrev rm_L_isSymmetric_0_0 : Room := { frames := 4, cells := 0, slots := 0, locals := 87 }
set_option maxRecDepth 100000 in
set_option maxHeartbeats 4000000 in
theorem c_L_isSymmetric (l : Launch) (hst : l.stackTraces = false) (E : EV) (σ : SS) (r : Int) (hr_r : -2147483648 ≤ r ∧ r ≤ 2147483647) (hW : CW (σ 2)) (hF1 : fR r = 0) : TI l yL_isSymmetric (cwh yL_isSymmetric cL_isSymmetric 3 (some .int) th_L_isSymmetric) rm_L_isSymmetric_0_0 E [.ref (ea E 0), .int (iI r)] σ (bk (σ 2) r) σ 0 0 := by
  refine TI_of (rm := rm_L_isSymmetric_0_0) (mL := 3) (b := cL_isSymmetric) RL rfl (by decide +kernel) [(0, .ref (ea E 0)), (1, .int (iI r))] rfl (Nat.le_of_ble_eq_true rfl) (fun p_ e_ s_ m_ a_ b_ h_ c_ Q A C htab hret => ?_)
  have hb9 : bk (σ 2) r = 0 ∨ bk (σ 2) r = 1 := by first | exact bk_01 _ _ _ | exact bk_01 _ _ | exact bk_01 _
  refine g_aload_n C dL_isSymmetric_0 0 rfl rfl (q := 1) rfl ?_
  refine g_iload_n C dL_isSymmetric_1 1 rfl rfl (q := 2) rfl ?_
  refine g_cV_i C (As := [.int (iI r)]) (c_X4_isSymmetric l E _ r (by assumption) (by assumption) (by assumption)) ml_L_107 mf_X4_isSymmetric (o := 0) (ci := 4) rfl rfl rfl rfl ⟨(Nat.le_of_ble_eq_true rfl), (Nat.le_of_ble_eq_true rfl)⟩ rfl rfl rfl (Nat.le_of_ble_eq_true rfl) ⟨(Nat.le_of_ble_eq_true rfl), (Nat.le_of_ble_eq_true rfl)⟩ dL_isSymmetric_2 (q := 5) rfl ?_
  refine g_if_eq C dL_isSymmetric_5 (by omega) (q2 := 12) rfl (q := 8) rfl (fun hb1 => ?_) (fun hb1 => ?_)
  · skip
    refine g_iconst C dL_isSymmetric_12 (q := 13) rfl ?_
    exact hret _ _ _ _ _ (by omega) (by omega) dL_isSymmetric_13 (by omega)
  · skip
    refine g_iconst C dL_isSymmetric_8 (q := 9) rfl ?_
    refine g_goto C dL_isSymmetric_9 (q := 13) rfl ?_
    exact hret _ _ _ _ _ (by omega) (by omega) dL_isSymmetric_13 (by omega)
abbrev rm_L_commonBeginning_0_0 : Room := { frames := 4, cells := 0, slots := 0, locals := 89 }
set_option maxRecDepth 100000 in
set_option maxHeartbeats 4000000 in
theorem c_L_commonBeginning (l : Launch) (hst : l.stackTraces = false) (E : EV) (σ : SS) (r o : Int) (hr_r : -2147483648 ≤ r ∧ r ≤ 2147483647) (hr_o : -2147483648 ≤ o ∧ o ≤ 2147483647) (hW : CW (σ 2)) (hF1 : fRR r o = 0) : TI l yL_commonBeginning (cwh yL_commonBeginning cL_commonBeginning 4 (some .int) th_L_commonBeginning) rm_L_commonBeginning_0_0 E [.ref (ea E 0), .int (iI r), .int (iI o)] σ (sh (σ 2) r o) σ 0 0 := by
  refine TI_of (rm := rm_L_commonBeginning_0_0) (mL := 4) (b := cL_commonBeginning) RL rfl (by decide +kernel) [(0, .ref (ea E 0)), (1, .int (iI r)), (2, .int (iI o))] rfl (Nat.le_of_ble_eq_true rfl) (fun p_ e_ s_ m_ a_ b_ h_ c_ Q A C htab hret => ?_)
  refine g_aload_n C dL_commonBeginning_0 0 rfl rfl (q := 1) rfl ?_
  refine g_iload_n C dL_commonBeginning_1 1 rfl rfl (q := 2) rfl ?_
  refine g_iload_n C dL_commonBeginning_2 2 rfl rfl (q := 3) rfl ?_
  refine g_cV_i C (As := [.int (iI r), .int (iI o)]) (c_X4_commonBeginning l E _ r o (by assumption) (by assumption) (by assumption) (by assumption)) ml_L_111 mf_X4_commonBeginning (o := 0) (ci := 4) rfl rfl rfl rfl ⟨(Nat.le_of_ble_eq_true rfl), (Nat.le_of_ble_eq_true rfl)⟩ rfl rfl rfl (Nat.le_of_ble_eq_true rfl) ⟨(Nat.le_of_ble_eq_true rfl), (Nat.le_of_ble_eq_true rfl)⟩ dL_commonBeginning_3 (q := 6) rfl ?_
  exact hret _ _ _ _ _ (by omega) (by omega) dL_commonBeginning_6 rfl
abbrev rm_L_areEqual_0_0 : Room := { frames := 4, cells := 0, slots := 0, locals := 90 }
set_option maxRecDepth 100000 in
set_option maxHeartbeats 4000000 in
theorem c_L_areEqual (l : Launch) (hst : l.stackTraces = false) (E : EV) (σ : SS) (r o : Int) (hr_r : -2147483648 ≤ r ∧ r ≤ 2147483647) (hr_o : -2147483648 ≤ o ∧ o ≤ 2147483647) (hW : CW (σ 2)) (hF1 : fRR r o = 0) : TI l yL_areEqual (cwh yL_areEqual cL_areEqual 4 (some .int) th_L_areEqual) rm_L_areEqual_0_0 E [.ref (ea E 0), .int (iI r), .int (iI o)] σ (eqR (σ 2) r o) σ 0 0 := by
  refine TI_of (rm := rm_L_areEqual_0_0) (mL := 4) (b := cL_areEqual) RL rfl (by decide +kernel) [(0, .ref (ea E 0)), (1, .int (iI r)), (2, .int (iI o))] rfl (Nat.le_of_ble_eq_true rfl) (fun p_ e_ s_ m_ a_ b_ h_ c_ Q A C htab hret => ?_)
  have hb9 : eqR (σ 2) r o = 0 ∨ eqR (σ 2) r o = 1 := by first | exact eqR_01 _ _ _ | exact eqR_01 _ _ | exact eqR_01 _
  refine g_aload_n C dL_areEqual_0 0 rfl rfl (q := 1) rfl ?_
  refine g_iload_n C dL_areEqual_1 1 rfl rfl (q := 2) rfl ?_
  refine g_iload_n C dL_areEqual_2 2 rfl rfl (q := 3) rfl ?_
  refine g_cV_i C (As := [.int (iI r), .int (iI o)]) (c_X4_areEqual l E _ r o (by assumption) (by assumption) (by assumption) (by assumption)) ml_L_114 mf_X4_areEqual (o := 0) (ci := 4) rfl rfl rfl rfl ⟨(Nat.le_of_ble_eq_true rfl), (Nat.le_of_ble_eq_true rfl)⟩ rfl rfl rfl (Nat.le_of_ble_eq_true rfl) ⟨(Nat.le_of_ble_eq_true rfl), (Nat.le_of_ble_eq_true rfl)⟩ dL_areEqual_3 (q := 6) rfl ?_
  refine g_if_eq C dL_areEqual_6 (by omega) (q2 := 13) rfl (q := 9) rfl (fun hb1 => ?_) (fun hb1 => ?_)
  · skip
    refine g_iconst C dL_areEqual_13 (q := 14) rfl ?_
    exact hret _ _ _ _ _ (by omega) (by omega) dL_areEqual_14 (by omega)
  · skip
    refine g_iconst C dL_areEqual_9 (q := 10) rfl ?_
    refine g_goto C dL_areEqual_10 (q := 14) rfl ?_
    exact hret _ _ _ _ _ (by omega) (by omega) dL_areEqual_14 (by omega)
abbrev rm_L_type_0_0 : Room := { frames := 2, cells := 0, slots := 0, locals := 42 }
set_option maxRecDepth 100000 in
set_option maxHeartbeats 4000000 in
theorem c_L_type (l : Launch) (hst : l.stackTraces = false) (E : EV) (σ : SS) (c : Int) (hc : 32 ≤ c ∧ c ≤ 126) (hn : 0 ≤ (σ 7 1) ∧ (σ 7 1) < 60) : TI l yL_type (cwh yL_type cL_type 3 (some .int) th_L_type) rm_L_type_0_0 E [.ref (ea E 0), .int (iI c)] σ ((σ 7 1) + 1) (st (st σ 7 (pt (σ 7) 1 ((σ 7 1) + 1))) 8 (pt (σ 8) (σ 7 1) c)) 0 0 := by
  refine TI_of (rm := rm_L_type_0_0) (mL := 3) (b := cL_type) RL rfl (by decide +kernel) [(0, .ref (ea E 0)), (1, .int (iI c))] rfl (Nat.le_of_ble_eq_true rfl) (fun p_ e_ s_ m_ a_ b_ h_ c_ Q A C htab hret => ?_)
  refine g_aload_n C dL_type_0 0 rfl rfl (q := 1) rfl ?_
  refine g_iload_n C dL_type_1 1 rfl rfl (q := 2) rfl ?_
  refine g_cV_i C (As := [.int (iI c)]) (c_X4_type l E _ c (by assumption) (by assumption)) ml_L_117 mf_X4_type (o := 0) (ci := 4) rfl rfl rfl rfl ⟨(Nat.le_of_ble_eq_true rfl), (Nat.le_of_ble_eq_true rfl)⟩ rfl rfl rfl (Nat.le_of_ble_eq_true rfl) ⟨(Nat.le_of_ble_eq_true rfl), (Nat.le_of_ble_eq_true rfl)⟩ dL_type_2 (q := 5) rfl ?_
  exact hret _ _ _ _ _ (by omega) (by omega) dL_type_5 rfl
abbrev rm_L_run_0_0 : Room := { frames := 8, cells := 0, slots := 0, locals := 188 }
set_option maxRecDepth 100000 in
set_option maxHeartbeats 4000000 in
theorem c_L_run (l : Launch) (hst : l.stackTraces = false) (E : EV) (σ : SS) (hT : TW (σ 8) (σ 7 1)) (hKP : KPW (σ 9) (σ 10)) (hW : CW (σ 2)) (hh : 0 ≤ (σ 5 1) ∧ (σ 5 1) < 8 ∧ 0 ≤ (σ 5 2) ∧ (σ 5 2) ≤ 8) (he : (paN (σ 8) (σ 7 1) 8 0 0 (σ 9) (σ 10) (σ 7 6)).1 = -1) (hf : (coN (paN (σ 8) (σ 7 1) 8 0 0 (σ 9) (σ 10) (σ 7 6)).2.2.2.2.1 (paN (σ 8) (σ 7 1) 8 0 0 (σ 9) (σ 10) (σ 7 6)).2.2.2.2.2 (paN (σ 8) (σ 7 1) 8 0 0 (σ 9) (σ 10) (σ 7 6)).2.2.1 9 0 (σ 2)).1 = -1) : TI l yL_run (cwh yL_run cL_run 2 (some .int) th_L_run) rm_L_run_0_0 E [.ref (ea E 0)] σ ((paN (σ 8) (σ 7 1) 8 0 0 (σ 9) (σ 10) (σ 7 6)).2.2.1) (st (st (st (st (st (st (st σ 2 (refF (coN (paN (σ 8) (σ 7 1) 8 0 0 (σ 9) (σ 10) (σ 7 6)).2.2.2.2.1 (paN (σ 8) (σ 7 1) 8 0 0 (σ 9) (σ 10) (σ 7 6)).2.2.2.2.2 (paN (σ 8) (σ 7 1) 8 0 0 (σ 9) (σ 10) (σ 7 6)).2.2.1 9 0 (σ 2)).2)) 3 (cpf (σ 2) (σ 3) 0 0 310)) 5 (pt (pt (σ 5) 1 (nx8 (σ 5 1))) 2 (min ((σ 5 2) + 1) 8))) 6 (cpf (cpf (σ 2) (σ 3) 0 0 310) (σ 6) 0 ((σ 5 1) * 310) 310)) 7 (pt (pt (pt (pt (σ 7) 1 0) 2 ((paN (σ 8) (σ 7 1) 8 0 0 (σ 9) (σ 10) (σ 7 6)).2.1)) 5 ((paN (σ 8) (σ 7 1) 8 0 0 (σ 9) (σ 10) (σ 7 6)).2.2.1)) 6 ((paN (σ 8) (σ 7 1) 8 0 0 (σ 9) (σ 10) (σ 7 6)).2.2.2.1))) 9 ((paN (σ 8) (σ 7 1) 8 0 0 (σ 9) (σ 10) (σ 7 6)).2.2.2.2.1)) 10 ((paN (σ 8) (σ 7 1) 8 0 0 (σ 9) (σ 10) (σ 7 6)).2.2.2.2.2)) 0 0 := by
  refine TI_of (rm := rm_L_run_0_0) (mL := 2) (b := cL_run) RL rfl (by decide +kernel) [(0, .ref (ea E 0))] rfl (Nat.le_of_ble_eq_true rfl) (fun p_ e_ s_ m_ a_ b_ h_ c_ Q A C htab hret => ?_)
  refine g_aload_n C dL_run_0 0 rfl rfl (q := 1) rfl ?_
  refine g_cV_i C (As := []) (c_X4_run l E _  (by assumption) (by assumption) (by assumption) (by assumption) (by assumption) (by assumption)) ml_L_121 mf_X4_run (o := 0) (ci := 4) rfl rfl rfl rfl ⟨(Nat.le_of_ble_eq_true rfl), (Nat.le_of_ble_eq_true rfl)⟩ rfl rfl rfl (Nat.le_of_ble_eq_true rfl) ⟨(Nat.le_of_ble_eq_true rfl), (Nat.le_of_ble_eq_true rfl)⟩ dL_run_1 (q := 4) rfl ?_
  exact hret _ _ _ _ _ (by omega) (by omega) dL_run_4 rfl
abbrev rm_L_run_1_6 : Room := { frames := 8, cells := 1, slots := 6, locals := 188 }
set_option maxRecDepth 100000 in
set_option maxHeartbeats 4000000 in
theorem c_L_run_1 (l : Launch) (hst : l.stackTraces = false) (E : EV) (σ : SS) (hT : TW (σ 8) (σ 7 1)) (hKP : KPW (σ 9) (σ 10)) (he : (paN (σ 8) (σ 7 1) 8 0 0 (σ 9) (σ 10) (σ 7 6)).1 ≠ -1) : TI l yL_run (cwh yL_run cL_run 2 (some .int) th_L_run) rm_L_run_1_6 E [.ref (ea E 0)] σ (-78) (st (st (st (st σ 0 (pt (σ 0) 7 ((paN (σ 8) (σ 7 1) 8 0 0 (σ 9) (σ 10) (σ 7 6)).1))) 7 (pt (pt (pt (pt (σ 7) 1 0) 2 ((paN (σ 8) (σ 7 1) 8 0 0 (σ 9) (σ 10) (σ 7 6)).2.1)) 5 ((paN (σ 8) (σ 7 1) 8 0 0 (σ 9) (σ 10) (σ 7 6)).2.2.1)) 6 ((paN (σ 8) (σ 7 1) 8 0 0 (σ 9) (σ 10) (σ 7 6)).2.2.2.1))) 9 ((paN (σ 8) (σ 7 1) 8 0 0 (σ 9) (σ 10) (σ 7 6)).2.2.2.2.1)) 10 ((paN (σ 8) (σ 7 1) 8 0 0 (σ 9) (σ 10) (σ 7 6)).2.2.2.2.2)) 1 6 := by
  refine TI_of (rm := rm_L_run_1_6) (mL := 2) (b := cL_run) RL rfl (by decide +kernel) [(0, .ref (ea E 0))] rfl (Nat.le_of_ble_eq_true rfl) (fun p_ e_ s_ m_ a_ b_ h_ c_ Q A C htab hret => ?_)
  refine g_aload_n C dL_run_0 0 rfl rfl (q := 1) rfl ?_
  refine g_xVc C (As := []) (x_X4_run_1 l hst E _  (by assumption) (by assumption) (by assumption)) ml_L_121 mf_X4_run (o := 0) (ci := 4) rfl rfl rfl rfl ⟨(Nat.le_of_ble_eq_true rfl), (Nat.le_of_ble_eq_true rfl)⟩ rfl rfl rfl (Nat.le_of_ble_eq_true rfl) ⟨by show 0 + 1 ≤ 1; omega, by show 0 + 6 ≤ 6; omega⟩ dL_run_1 [] ({ startPc := 0, endPc := 4, handlerPc := 5, catchType := 22 }) [{ startPc := 0, endPc := 4, handlerPc := 9, catchType := 24 }] htab (fun _ h => absurd h List.not_mem_nil) (by decide) (by decide) xl_22 xc_IAE (q := 5) rfl (fun q9 => ?_)
  refine g_astore_n C (L' := [(1, .ref q9), (0, .ref (ea E 0))]) dL_run_5 rfl (by decide) rfl (q := 6) rfl ?_
  refine g_bipush C dL_run_6 (by decide) (q := 8) rfl ?_
  exact hret _ _ _ _ _ (by omega) (by omega) dL_run_8 rfl
set_option maxRecDepth 100000 in
set_option maxHeartbeats 4000000 in
theorem c_L_run_2 (l : Launch) (hst : l.stackTraces = false) (E : EV) (σ : SS) (hT : TW (σ 8) (σ 7 1)) (hKP : KPW (σ 9) (σ 10)) (hW : CW (σ 2)) (he : (paN (σ 8) (σ 7 1) 8 0 0 (σ 9) (σ 10) (σ 7 6)).1 = -1) (hf : (coN (paN (σ 8) (σ 7 1) 8 0 0 (σ 9) (σ 10) (σ 7 6)).2.2.2.2.1 (paN (σ 8) (σ 7 1) 8 0 0 (σ 9) (σ 10) (σ 7 6)).2.2.2.2.2 (paN (σ 8) (σ 7 1) 8 0 0 (σ 9) (σ 10) (σ 7 6)).2.2.1 9 0 (σ 2)).1 ≠ -1) : TI l yL_run (cwh yL_run cL_run 2 (some .int) th_L_run) rm_L_run_1_6 E [.ref (ea E 0)] σ (-79) (st (st (st (st (st (st σ 0 (pt (σ 0) 8 ((coN (paN (σ 8) (σ 7 1) 8 0 0 (σ 9) (σ 10) (σ 7 6)).2.2.2.2.1 (paN (σ 8) (σ 7 1) 8 0 0 (σ 9) (σ 10) (σ 7 6)).2.2.2.2.2 (paN (σ 8) (σ 7 1) 8 0 0 (σ 9) (σ 10) (σ 7 6)).2.2.1 9 0 (σ 2)).1))) 2 (cpf (cpf (σ 2) (σ 3) 0 0 310) (coN (paN (σ 8) (σ 7 1) 8 0 0 (σ 9) (σ 10) (σ 7 6)).2.2.2.2.1 (paN (σ 8) (σ 7 1) 8 0 0 (σ 9) (σ 10) (σ 7 6)).2.2.2.2.2 (paN (σ 8) (σ 7 1) 8 0 0 (σ 9) (σ 10) (σ 7 6)).2.2.1 9 0 (σ 2)).2 0 0 310)) 3 (cpf (σ 2) (σ 3) 0 0 310)) 7 (pt (pt (pt (pt (σ 7) 1 0) 2 ((paN (σ 8) (σ 7 1) 8 0 0 (σ 9) (σ 10) (σ 7 6)).2.1)) 5 ((paN (σ 8) (σ 7 1) 8 0 0 (σ 9) (σ 10) (σ 7 6)).2.2.1)) 6 ((paN (σ 8) (σ 7 1) 8 0 0 (σ 9) (σ 10) (σ 7 6)).2.2.2.1))) 9 ((paN (σ 8) (σ 7 1) 8 0 0 (σ 9) (σ 10) (σ 7 6)).2.2.2.2.1)) 10 ((paN (σ 8) (σ 7 1) 8 0 0 (σ 9) (σ 10) (σ 7 6)).2.2.2.2.2)) 1 6 := by
  refine TI_of (rm := rm_L_run_1_6) (mL := 2) (b := cL_run) RL rfl (by decide +kernel) [(0, .ref (ea E 0))] rfl (Nat.le_of_ble_eq_true rfl) (fun p_ e_ s_ m_ a_ b_ h_ c_ Q A C htab hret => ?_)
  refine g_aload_n C dL_run_0 0 rfl rfl (q := 1) rfl ?_
  refine g_xVc C (As := []) (x_X4_run_2 l hst E _  (by assumption) (by assumption) (by assumption) (by assumption) (by assumption)) ml_L_121 mf_X4_run (o := 0) (ci := 4) rfl rfl rfl rfl ⟨(Nat.le_of_ble_eq_true rfl), (Nat.le_of_ble_eq_true rfl)⟩ rfl rfl rfl (Nat.le_of_ble_eq_true rfl) ⟨by show 0 + 1 ≤ 1; omega, by show 0 + 6 ≤ 6; omega⟩ dL_run_1 [{ startPc := 0, endPc := 4, handlerPc := 5, catchType := 22 }] ({ startPc := 0, endPc := 4, handlerPc := 9, catchType := 24 }) [] htab (List.forall_mem_cons.mpr ⟨Or.inr ⟨by decide, xIAE, xl_22, (by simp [ncs])⟩, fun _ h => absurd h List.not_mem_nil⟩) (by decide) (by decide) xl_24 xc_ISE (q := 9) rfl (fun q9 => ?_)
  refine g_astore_n C (L' := [(1, .ref q9), (0, .ref (ea E 0))]) dL_run_9 rfl (by decide) rfl (q := 10) rfl ?_
  refine g_bipush C dL_run_10 (by decide) (q := 12) rfl ?_
  exact hret _ _ _ _ _ (by omega) (by omega) dL_run_12 rfl
abbrev rm_L_describeReel_0_0 : Room := { frames := 5, cells := 0, slots := 0, locals := 109 }
set_option maxRecDepth 100000 in
set_option maxHeartbeats 4000000 in
theorem c_L_describeReel (l : Launch) (hst : l.stackTraces = false) (E : EV) (σ : SS) (r : Int) (hr_r : -2147483648 ≤ r ∧ r ≤ 2147483647) (hW : CW (σ 2)) (hF1 : fR r = 0) : TI l yL_describeReel (cwh yL_describeReel cL_describeReel 3 (some .int) th_L_describeReel) rm_L_describeReel_0_0 E [.ref (ea E 0), .int (iI r)] σ ((dsI (σ 2) r 0 (σ 12) 0 ((σ 2) (240 + r))).2) (st (st σ 11 (pt (σ 11) 1 ((dsI (σ 2) r 0 (σ 12) 0 ((σ 2) (240 + r))).2))) 12 ((dsI (σ 2) r 0 (σ 12) 0 ((σ 2) (240 + r))).1)) 0 0 := by
  refine TI_of (rm := rm_L_describeReel_0_0) (mL := 3) (b := cL_describeReel) RL rfl (by decide +kernel) [(0, .ref (ea E 0)), (1, .int (iI r))] rfl (Nat.le_of_ble_eq_true rfl) (fun p_ e_ s_ m_ a_ b_ h_ c_ Q A C htab hret => ?_)
  refine g_aload_n C dL_describeReel_0 0 rfl rfl (q := 1) rfl ?_
  refine g_iload_n C dL_describeReel_1 1 rfl rfl (q := 2) rfl ?_
  refine g_cV_i C (As := [.int (iI r)]) (c_X4_describeReel l E _ r (by assumption) (by assumption) (by assumption)) ml_L_131 mf_X4_describeReel (o := 0) (ci := 4) rfl rfl rfl rfl ⟨(Nat.le_of_ble_eq_true rfl), (Nat.le_of_ble_eq_true rfl)⟩ rfl rfl rfl (Nat.le_of_ble_eq_true rfl) ⟨(Nat.le_of_ble_eq_true rfl), (Nat.le_of_ble_eq_true rfl)⟩ dL_describeReel_2 (q := 5) rfl ?_
  exact hret _ _ _ _ _ (by omega) (by omega) dL_describeReel_5 rfl
abbrev rm_L_lineAt_0_0 : Room := { frames := 2, cells := 0, slots := 0, locals := 42 }
set_option maxRecDepth 100000 in
set_option maxHeartbeats 4000000 in
theorem c_L_lineAt (l : Launch) (hst : l.stackTraces = false) (E : EV) (σ : SS) (i : Int) (hr_i : -2147483648 ≤ i ∧ i ≤ 2147483647) (hl : 0 ≤ (σ 11 1) ∧ (σ 11 1) ≤ 240) (hi : 0 ≤ i ∧ i < (σ 11 1)) (hv : 0 ≤ (σ 12) i ∧ (σ 12) i < 65536) : TI l yL_lineAt (cwh yL_lineAt cL_lineAt 3 (some .int) th_L_lineAt) rm_L_lineAt_0_0 E [.ref (ea E 0), .int (iI i)] σ ((σ 12) i) σ 0 0 := by
  refine TI_of (rm := rm_L_lineAt_0_0) (mL := 3) (b := cL_lineAt) RL rfl (by decide +kernel) [(0, .ref (ea E 0)), (1, .int (iI i))] rfl (Nat.le_of_ble_eq_true rfl) (fun p_ e_ s_ m_ a_ b_ h_ c_ Q A C htab hret => ?_)
  refine g_aload_n C dL_lineAt_0 0 rfl rfl (q := 1) rfl ?_
  refine g_iload_n C dL_lineAt_1 1 rfl rfl (q := 2) rfl ?_
  refine g_cV_i C (As := [.int (iI i)]) (c_X4_lineAt l E _ i (by assumption) (by assumption) (by assumption) (by assumption)) ml_L_134 mf_X4_lineAt (o := 0) (ci := 4) rfl rfl rfl rfl ⟨(Nat.le_of_ble_eq_true rfl), (Nat.le_of_ble_eq_true rfl)⟩ rfl rfl rfl (Nat.le_of_ble_eq_true rfl) ⟨(Nat.le_of_ble_eq_true rfl), (Nat.le_of_ble_eq_true rfl)⟩ dL_lineAt_2 (q := 5) rfl ?_
  exact hret _ _ _ _ _ (by omega) (by omega) dL_lineAt_5 rfl
abbrev rm_L_meanLength_0_0 : Room := { frames := 7, cells := 0, slots := 0, locals := 158 }
set_option maxRecDepth 100000 in
set_option maxHeartbeats 4000000 in
theorem c_L_meanLength (l : Launch) (hst : l.stackTraces = false) (E : EV) (σ : SS) (r : Int) (hr_r : -2147483648 ≤ r ∧ r ≤ 2147483647) (hW : CW (σ 2)) (hP : PW (σ 2)) (hF1 : fR r = 0) (hz : (σ 2) (240 + r) ≠ 0) : TD l yL_meanLength (cwh yL_meanLength cL_meanLength 3 (some .double) th_L_meanLength) rm_L_meanLength_0_0 E [.ref (ea E 0), .int (iI r)] σ (FP.ddiv (FP.i2d (iI (sb (σ 2) r ((σ 2) (240 + r))))) (FP.i2d (iI ((σ 2) (240 + r))))) σ 0 0 := by
  refine TD_of (rm := rm_L_meanLength_0_0) (mL := 3) (b := cL_meanLength) RL rfl (by decide +kernel) [(0, .ref (ea E 0)), (1, .int (iI r))] rfl (Nat.le_of_ble_eq_true rfl) (fun p_ e_ s_ m_ a_ b_ h_ c_ Q A C htab hret => ?_)
  refine g_aload_n C dL_meanLength_0 0 rfl rfl (q := 1) rfl ?_
  refine g_iload_n C dL_meanLength_1 1 rfl rfl (q := 2) rfl ?_
  refine g_cV_d C (As := [.int (iI r)]) (c_X4_meanLength l E _ r (by assumption) (by assumption) (by assumption) (by assumption) (by assumption)) ml_L_138 mf_X4_meanLength (o := 0) (ci := 4) rfl rfl rfl rfl ⟨(Nat.le_of_ble_eq_true rfl), (Nat.le_of_ble_eq_true rfl)⟩ rfl rfl rfl (Nat.le_of_ble_eq_true rfl) ⟨(Nat.le_of_ble_eq_true rfl), (Nat.le_of_ble_eq_true rfl)⟩ dL_meanLength_2 (q := 5) rfl ?_
  exact hret _ _ _ _ _ (by omega) (by omega) dL_meanLength_5 rfl
abbrev rm_L_meanLength_1_6 : Room := { frames := 8, cells := 1, slots := 6, locals := 124 }
set_option maxRecDepth 100000 in
set_option maxHeartbeats 4000000 in
theorem c_L_meanLength_2 (l : Launch) (hst : l.stackTraces = false) (E : EV) (σ : SS) (r : Int) (hr_r : -2147483648 ≤ r ∧ r ≤ 2147483647) (hW : CW (σ 2)) (hP : PW (σ 2)) (hF1 : fR r = 0) (hz : (σ 2) (240 + r) = 0) : TD l yL_meanLength (cwh yL_meanLength cL_meanLength 3 (some .double) th_L_meanLength) rm_L_meanLength_1_6 E [.ref (ea E 0), .int (iI r)] σ (13858279740860792832 : UInt64) σ 1 6 := by
  refine TD_of (rm := rm_L_meanLength_1_6) (mL := 3) (b := cL_meanLength) RL rfl (by decide +kernel) [(0, .ref (ea E 0)), (1, .int (iI r))] rfl (Nat.le_of_ble_eq_true rfl) (fun p_ e_ s_ m_ a_ b_ h_ c_ Q A C htab hret => ?_)
  refine g_aload_n C dL_meanLength_0 0 rfl rfl (q := 1) rfl ?_
  refine g_iload_n C dL_meanLength_1 1 rfl rfl (q := 2) rfl ?_
  refine g_xVc C (As := [.int (iI r)]) (x_X4_meanLength_2 l hst E _ r (by assumption) (by assumption) (by assumption) (by assumption) (by assumption)) ml_L_138 mf_X4_meanLength (o := 0) (ci := 4) rfl rfl rfl rfl ⟨(Nat.le_of_ble_eq_true rfl), (Nat.le_of_ble_eq_true rfl)⟩ rfl rfl rfl (Nat.le_of_ble_eq_true rfl) ⟨by show 0 + 1 ≤ 1; omega, by show 0 + 6 ≤ 6; omega⟩ dL_meanLength_2 [{ startPc := 0, endPc := 5, handlerPc := 6, catchType := 20 }] ({ startPc := 0, endPc := 5, handlerPc := 11, catchType := 144 }) [] htab (List.forall_mem_cons.mpr ⟨Or.inr ⟨by decide, xIOOBE, xl_20, (by simp [ncs])⟩, fun _ h => absurd h List.not_mem_nil⟩) (by decide) (by decide) xl_144 xc_AE (q := 11) rfl (fun q9 => ?_)
  refine g_astore_n C (L' := [(2, .ref q9), (0, .ref (ea E 0)), (1, .int (iI r))]) dL_meanLength_11 rfl (by decide) rfl (q := 12) rfl ?_
  refine g_ldc2d C lc_ldc2d_146 dL_meanLength_12 (q := 15) rfl ?_
  exact hret _ _ _ _ _ (by omega) (by omega) dL_meanLength_15 rfl
abbrev rm_L_colourShare_0_0 : Room := { frames := 7, cells := 0, slots := 0, locals := 159 }
set_option maxRecDepth 100000 in
set_option maxHeartbeats 4000000 in
theorem c_L_colourShare (l : Launch) (hst : l.stackTraces = false) (E : EV) (σ : SS) (r c : Int) (hr_r : -2147483648 ≤ r ∧ r ≤ 2147483647) (hr_c : -2147483648 ≤ c ∧ c ≤ 2147483647) (hW : CW (σ 2)) (hP : PW (σ 2)) (hF1 : fR r = 0) (hF2 : fC c = 0) (hz : (σ 2) (240 + r) ≠ 0) : TR l yL_colourShare (cwh yL_colourShare cL_colourShare 4 (some .float) th_L_colourShare) rm_L_colourShare_0_0 E [.ref (ea E 0), .int (iI r), .int (iI c)] σ (FP.fdiv (FP.i2f (iI (sc (σ 2) r c))) (FP.i2f (iI (sb (σ 2) r ((σ 2) (240 + r)))))) σ 0 0 := by
  refine TR_of (rm := rm_L_colourShare_0_0) (mL := 4) (b := cL_colourShare) RL rfl (by decide +kernel) [(0, .ref (ea E 0)), (1, .int (iI r)), (2, .int (iI c))] rfl (Nat.le_of_ble_eq_true rfl) (fun p_ e_ s_ m_ a_ b_ h_ c_ Q A C htab hret => ?_)
  refine g_aload_n C dL_colourShare_0 0 rfl rfl (q := 1) rfl ?_
  refine g_iload_n C dL_colourShare_1 1 rfl rfl (q := 2) rfl ?_
  refine g_iload_n C dL_colourShare_2 2 rfl rfl (q := 3) rfl ?_
  refine g_cV_f C (As := [.int (iI r), .int (iI c)]) (c_X4_colourShare l E _ r c (by assumption) (by assumption) (by assumption) (by assumption) (by assumption) (by assumption) (by assumption)) ml_L_148 mf_X4_colourShare (o := 0) (ci := 4) rfl rfl rfl rfl ⟨(Nat.le_of_ble_eq_true rfl), (Nat.le_of_ble_eq_true rfl)⟩ rfl rfl rfl (Nat.le_of_ble_eq_true rfl) ⟨(Nat.le_of_ble_eq_true rfl), (Nat.le_of_ble_eq_true rfl)⟩ dL_colourShare_3 (q := 6) rfl ?_
  exact hret _ _ _ _ _ (by omega) (by omega) dL_colourShare_6 rfl
abbrev rm_L_colourShare_1_6 : Room := { frames := 8, cells := 1, slots := 6, locals := 159 }
set_option maxRecDepth 100000 in
set_option maxHeartbeats 4000000 in
theorem c_L_colourShare_3 (l : Launch) (hst : l.stackTraces = false) (E : EV) (σ : SS) (r c : Int) (hr_r : -2147483648 ≤ r ∧ r ≤ 2147483647) (hr_c : -2147483648 ≤ c ∧ c ≤ 2147483647) (hW : CW (σ 2)) (hP : PW (σ 2)) (hF1 : fR r = 0) (hF2 : fC c = 0) (hz : (σ 2) (240 + r) = 0) : TR l yL_colourShare (cwh yL_colourShare cL_colourShare 4 (some .float) th_L_colourShare) rm_L_colourShare_1_6 E [.ref (ea E 0), .int (iI r), .int (iI c)] σ (3264479232 : UInt32) σ 1 6 := by
  refine TR_of (rm := rm_L_colourShare_1_6) (mL := 4) (b := cL_colourShare) RL rfl (by decide +kernel) [(0, .ref (ea E 0)), (1, .int (iI r)), (2, .int (iI c))] rfl (Nat.le_of_ble_eq_true rfl) (fun p_ e_ s_ m_ a_ b_ h_ c_ Q A C htab hret => ?_)
  refine g_aload_n C dL_colourShare_0 0 rfl rfl (q := 1) rfl ?_
  refine g_iload_n C dL_colourShare_1 1 rfl rfl (q := 2) rfl ?_
  refine g_iload_n C dL_colourShare_2 2 rfl rfl (q := 3) rfl ?_
  refine g_xVc C (As := [.int (iI r), .int (iI c)]) (x_X4_colourShare_3 l hst E _ r c (by assumption) (by assumption) (by assumption) (by assumption) (by assumption) (by assumption) (by assumption)) ml_L_148 mf_X4_colourShare (o := 0) (ci := 4) rfl rfl rfl rfl ⟨(Nat.le_of_ble_eq_true rfl), (Nat.le_of_ble_eq_true rfl)⟩ rfl rfl rfl (Nat.le_of_ble_eq_true rfl) ⟨by show 0 + 1 ≤ 1; omega, by show 0 + 6 ≤ 6; omega⟩ dL_colourShare_3 [{ startPc := 0, endPc := 6, handlerPc := 7, catchType := 20 }, { startPc := 0, endPc := 6, handlerPc := 11, catchType := 22 }] ({ startPc := 0, endPc := 6, handlerPc := 15, catchType := 144 }) [] htab (List.forall_mem_cons.mpr ⟨Or.inr ⟨by decide, xIOOBE, xl_20, (by simp [ncs])⟩, List.forall_mem_cons.mpr ⟨Or.inr ⟨by decide, xIAE, xl_22, (by simp [ncs])⟩, fun _ h => absurd h List.not_mem_nil⟩⟩) (by decide) (by decide) xl_144 xc_AE (q := 15) rfl (fun q9 => ?_)
  refine g_astore_n C (L' := [(3, .ref q9), (0, .ref (ea E 0)), (1, .int (iI r)), (2, .int (iI c))]) dL_colourShare_15 rfl (by decide) rfl (q := 16) rfl ?_
  refine g_ldcf C lc_ldcf_154 dL_colourShare_16 (q := 18) rfl ?_
  exact hret _ _ _ _ _ (by omega) (by omega) dL_colourShare_18 rfl
abbrev rm_L_undo_0_0 : Room := { frames := 5, cells := 0, slots := 0, locals := 166 }
set_option maxRecDepth 100000 in
set_option maxHeartbeats 4000000 in
theorem c_L_undo (l : Launch) (hst : l.stackTraces = false) (E : EV) (σ : SS) (hh : 0 ≤ (σ 5 1) ∧ (σ 5 1) < 8 ∧ 0 ≤ (σ 5 2) ∧ (σ 5 2) ≤ 8) (hz : 0 < (σ 5 2)) : TI l yL_undo (cwh yL_undo cL_undo 2 (some .int) th_L_undo) rm_L_undo_0_0 E [.ref (ea E 0)] σ ((σ 5 2) - 1) (st (st σ 2 (cpf (σ 6) (σ 2) (pv8 (σ 5 1) * 310) 0 310)) 5 (pt (pt (σ 5) 1 (pv8 (σ 5 1))) 2 ((σ 5 2) - 1))) 0 0 := by
  refine TI_of (rm := rm_L_undo_0_0) (mL := 2) (b := cL_undo) RL rfl (by decide +kernel) [(0, .ref (ea E 0))] rfl (Nat.le_of_ble_eq_true rfl) (fun p_ e_ s_ m_ a_ b_ h_ c_ Q A C htab hret => ?_)
  refine g_aload_n C dL_undo_0 0 rfl rfl (q := 1) rfl ?_
  refine g_cV_i C (As := []) (c_X4_undo l E _  (by assumption) (by assumption)) ml_L_155 mf_X4_undo (o := 0) (ci := 4) rfl rfl rfl rfl ⟨(Nat.le_of_ble_eq_true rfl), (Nat.le_of_ble_eq_true rfl)⟩ rfl rfl rfl (Nat.le_of_ble_eq_true rfl) ⟨(Nat.le_of_ble_eq_true rfl), (Nat.le_of_ble_eq_true rfl)⟩ dL_undo_1 (q := 4) rfl ?_
  exact hret _ _ _ _ _ (by omega) (by omega) dL_undo_4 rfl
abbrev rm_L_undo_1_6 : Room := { frames := 7, cells := 1, slots := 6, locals := 102 }
set_option maxRecDepth 100000 in
set_option maxHeartbeats 4000000 in
theorem c_L_undo_1 (l : Launch) (hst : l.stackTraces = false) (E : EV) (σ : SS) (hh : 0 ≤ (σ 5 1) ∧ (σ 5 1) < 8 ∧ 0 ≤ (σ 5 2) ∧ (σ 5 2) ≤ 8) (hz : (σ 5 2) = 0) : TI l yL_undo (cwh yL_undo cL_undo 2 (some .int) th_L_undo) rm_L_undo_1_6 E [.ref (ea E 0)] σ (-79) σ 1 6 := by
  refine TI_of (rm := rm_L_undo_1_6) (mL := 2) (b := cL_undo) RL rfl (by decide +kernel) [(0, .ref (ea E 0))] rfl (Nat.le_of_ble_eq_true rfl) (fun p_ e_ s_ m_ a_ b_ h_ c_ Q A C htab hret => ?_)
  refine g_aload_n C dL_undo_0 0 rfl rfl (q := 1) rfl ?_
  refine g_xVc C (As := []) (x_X4_undo_1 l hst E _  (by assumption) (by assumption)) ml_L_155 mf_X4_undo (o := 0) (ci := 4) rfl rfl rfl rfl ⟨(Nat.le_of_ble_eq_true rfl), (Nat.le_of_ble_eq_true rfl)⟩ rfl rfl rfl (Nat.le_of_ble_eq_true rfl) ⟨by show 0 + 1 ≤ 1; omega, by show 0 + 6 ≤ 6; omega⟩ dL_undo_1 [] ({ startPc := 0, endPc := 4, handlerPc := 5, catchType := 24 }) [] htab (fun _ h => absurd h List.not_mem_nil) (by decide) (by decide) xl_24 xc_ISE (q := 5) rfl (fun q9 => ?_)
  refine g_astore_n C (L' := [(1, .ref q9), (0, .ref (ea E 0))]) dL_undo_5 rfl (by decide) rfl (q := 6) rfl ?_
  refine g_bipush C dL_undo_6 (by decide) (q := 8) rfl ?_
  exact hret _ _ _ _ _ (by omega) (by omega) dL_undo_8 rfl
abbrev rm_L_restore_0_0 : Room := { frames := 4, cells := 0, slots := 0, locals := 145 }
set_option maxRecDepth 100000 in
set_option maxHeartbeats 4000000 in
theorem c_L_restore (l : Launch) (hst : l.stackTraces = false) (E : EV) (σ : SS) (hs : (σ 0 3) = 1) : TI l yL_restore (cwh yL_restore cL_restore 2 (some .int) th_L_restore) rm_L_restore_0_0 E [.ref (ea E 0)] σ (0 + (cpf (σ 4) (σ 2) 0 0 310) (240 + 0) + (cpf (σ 4) (σ 2) 0 0 310) (240 + 1) + (cpf (σ 4) (σ 2) 0 0 310) (240 + 2) + (cpf (σ 4) (σ 2) 0 0 310) (240 + 3)) (st (st σ 2 (cpf (σ 4) (σ 2) 0 0 310)) 5 (pt (σ 5) 2 0)) 0 0 := by
  refine TI_of (rm := rm_L_restore_0_0) (mL := 2) (b := cL_restore) RL rfl (by decide +kernel) [(0, .ref (ea E 0))] rfl (Nat.le_of_ble_eq_true rfl) (fun p_ e_ s_ m_ a_ b_ h_ c_ Q A C htab hret => ?_)
  refine g_aload_n C dL_restore_0 0 rfl rfl (q := 1) rfl ?_
  refine g_cV_i C (As := []) (c_X4_restore l E _  (by assumption)) ml_L_158 mf_X4_restore (o := 0) (ci := 4) rfl rfl rfl rfl ⟨(Nat.le_of_ble_eq_true rfl), (Nat.le_of_ble_eq_true rfl)⟩ rfl rfl rfl (Nat.le_of_ble_eq_true rfl) ⟨(Nat.le_of_ble_eq_true rfl), (Nat.le_of_ble_eq_true rfl)⟩ dL_restore_1 (q := 4) rfl ?_
  exact hret _ _ _ _ _ (by omega) (by omega) dL_restore_4 rfl
