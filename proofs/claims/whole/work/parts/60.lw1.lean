abbrev rm_L_append : Room := { frames := 9, cells := 1, slots := 6, locals := 189 }
set_option maxRecDepth 100000 in
set_option maxHeartbeats 4000000 in
theorem c_L_append (l : Launch) (hst : l.stackTraces = false) (E : EV) (σ : SS) (r b c : Int) (hr_r : -2147483648 ≤ r ∧ r ≤ 2147483647) (hr_b : -2147483648 ≤ b ∧ b ≤ 2147483647) (hr_c : -2147483648 ≤ c ∧ c ≤ 2147483647) (hW : CW (σ 2)) (hh : 0 ≤ (σ 5 1) ∧ (σ 5 1) < 8 ∧ 0 ≤ (σ 5 2) ∧ (σ 5 2) ≤ 8) (hF : FK (σ 2) 0 r b c 0 = 0) : KL l yL_append (cwh yL_append cL_append 6 (some .int) th_L_append) rm_L_append E [.ref (ea E 0), .int (iI r), .int (iI b), .int (iI c), .ref (ea E 21)] σ 0 (st (st (st (st (st σ 2 (refF (opF (σ 2) 0 r b c 0))) 3 (cpf (σ 2) (σ 3) 0 0 310)) 5 (pt (pt (σ 5) 1 (nx8 (σ 5 1))) 2 (min ((σ 5 2) + 1) 8))) 6 (cpf (cpf (σ 2) (σ 3) 0 0 310) (σ 6) 0 ((σ 5 1) * 310) 310)) 21 (pt (σ 21) 0 (wr (opR (σ 2) 0 r b c 0)))) := by
  refine KL_of (rm := rm_L_append) (mL := 6) (b := cL_append) RL rfl (by decide +kernel) [(0, .ref (ea E 0)), (1, .int (iI r)), (2, .int (iI b)), (3, .int (iI c)), (4, .ref (ea E 21))] rfl (Nat.le_of_ble_eq_true rfl) (fun p_ e_ s_ m_ a_ b_ h_ c_ Q A C htab hret => ?_)
  refine g_aload C dL_append_0 4 rfl (q := 2) rfl ?_
  refine g_iconst C dL_append_2 (q := 3) rfl ?_
  refine g_aload_n C dL_append_3 0 rfl rfl (q := 4) rfl ?_
  refine g_iload_n C dL_append_4 1 rfl rfl (q := 5) rfl ?_
  refine g_iload_n C dL_append_5 2 rfl rfl (q := 6) rfl ?_
  refine g_iload_n C dL_append_6 3 rfl rfl (q := 7) rfl ?_
  refine g_cV_i C (As := [.int (iI r), .int (iI b), .int (iI c)]) (c_X4_append l E _ r b c  (by assumption) (by assumption) (by assumption) (by assumption) (by assumption) (by assumption)) ml_L_7 mf_X4_append (o := 0) (ci := 4) rfl rfl rfl rfl ⟨(Nat.le_of_ble_eq_true rfl), (Nat.le_of_ble_eq_true rfl)⟩ rfl rfl rfl (Nat.le_of_ble_eq_true rfl) ⟨(Nat.le_of_ble_eq_true rfl), (Nat.le_of_ble_eq_true rfl)⟩ dL_append_7 (q := 10) rfl ?_
  refine g_i2lw C dL_append_10 (q := 11) rfl ?_
  refine gs_21 C dL_append_11 (q := 12) rfl ?_
  refine g_st (σ2 := (st (st (st (st (st σ 2 (refF (opF (σ 2) 0 r b c 0))) 3 (cpf (σ 2) (σ 3) 0 0 310)) 5 (pt (pt (σ 5) 1 (nx8 (σ 5 1))) 2 (min ((σ 5 2) + 1) 8))) 6 (cpf (cpf (σ 2) (σ 3) 0 0 310) (σ 6) 0 ((σ 5 1) * 310) 310)) 21 (pt (σ 21) 0 (wr (opR (σ 2) 0 r b c 0))))) rfl ?_
  refine g_goto C dL_append_12 (q := 27) rfl ?_
  refine g_iconst C dL_append_27 (q := 28) rfl ?_
  exact hret _ _ _ _ _ (Nat.le_of_ble_eq_true rfl) (Nat.le_of_ble_eq_true rfl) dL_append_28 rfl
set_option maxRecDepth 100000 in
set_option maxHeartbeats 4000000 in
theorem c_L_append_1 (l : Launch) (hst : l.stackTraces = false) (E : EV) (σ : SS) (r b c : Int) (hr_r : -2147483648 ≤ r ∧ r ≤ 2147483647) (hr_b : -2147483648 ≤ b ∧ b ≤ 2147483647) (hr_c : -2147483648 ≤ c ∧ c ≤ 2147483647) (hW : CW (σ 2)) (hF : FK (σ 2) 0 r b c 0 = 1) : KL l yL_append (cwh yL_append cL_append 6 (some .int) th_L_append) rm_L_append E [.ref (ea E 0), .int (iI r), .int (iI b), .int (iI c), .ref (ea E 21)] σ 1 σ := by
  refine KL_of (rm := rm_L_append) (mL := 6) (b := cL_append) RL rfl (by decide +kernel) [(0, .ref (ea E 0)), (1, .int (iI r)), (2, .int (iI b)), (3, .int (iI c)), (4, .ref (ea E 21))] rfl (Nat.le_of_ble_eq_true rfl) (fun p_ e_ s_ m_ a_ b_ h_ c_ Q A C htab hret => ?_)
  refine g_aload C dL_append_0 4 rfl (q := 2) rfl ?_
  refine g_iconst C dL_append_2 (q := 3) rfl ?_
  refine g_aload_n C dL_append_3 0 rfl rfl (q := 4) rfl ?_
  refine g_iload_n C dL_append_4 1 rfl rfl (q := 5) rfl ?_
  refine g_iload_n C dL_append_5 2 rfl rfl (q := 6) rfl ?_
  refine g_iload_n C dL_append_6 3 rfl rfl (q := 7) rfl ?_
  refine g_xVc C (As := [.int (iI r), .int (iI b), .int (iI c)]) (x_X4_append_1 l hst E _ r b c  (by assumption) (by assumption) (by assumption) (by assumption) (by assumption)) ml_L_7 mf_X4_append (o := 0) (ci := 4) rfl rfl rfl rfl ⟨(Nat.le_of_ble_eq_true rfl), (Nat.le_of_ble_eq_true rfl)⟩ rfl rfl rfl (Nat.le_of_ble_eq_true rfl) ⟨(Nat.le_of_ble_eq_true rfl), (Nat.le_of_ble_eq_true rfl)⟩ dL_append_7 [] ({ startPc := 0, endPc := 12, handlerPc := 15, catchType := 13 }) [{ startPc := 0, endPc := 12, handlerPc := 19, catchType := 15 }, { startPc := 0, endPc := 12, handlerPc := 23, catchType := 17 }] htab (fun _ h => absurd h List.not_mem_nil) (by decide) (by decide) xl_13 xc_IOOBE (q := 15) rfl (fun q9 => ?_)
  refine g_astore C (L' := [(5, .ref q9), (0, .ref (ea E 0)), (1, .int (iI r)), (2, .int (iI b)), (3, .int (iI c)), (4, .ref (ea E 21))]) dL_append_15 (by decide) rfl (q := 17) rfl ?_
  refine g_iconst C dL_append_17 (q := 18) rfl ?_
  exact hret _ _ _ _ _ (Nat.le_of_ble_eq_true rfl) (Nat.le_of_ble_eq_true rfl) dL_append_18 rfl
set_option maxRecDepth 100000 in
set_option maxHeartbeats 4000000 in
theorem c_L_append_2 (l : Launch) (hst : l.stackTraces = false) (E : EV) (σ : SS) (r b c : Int) (hr_r : -2147483648 ≤ r ∧ r ≤ 2147483647) (hr_b : -2147483648 ≤ b ∧ b ≤ 2147483647) (hr_c : -2147483648 ≤ c ∧ c ≤ 2147483647) (hW : CW (σ 2)) (hF : FK (σ 2) 0 r b c 0 = 2) : KL l yL_append (cwh yL_append cL_append 6 (some .int) th_L_append) rm_L_append E [.ref (ea E 0), .int (iI r), .int (iI b), .int (iI c), .ref (ea E 21)] σ 2 σ := by
  refine KL_of (rm := rm_L_append) (mL := 6) (b := cL_append) RL rfl (by decide +kernel) [(0, .ref (ea E 0)), (1, .int (iI r)), (2, .int (iI b)), (3, .int (iI c)), (4, .ref (ea E 21))] rfl (Nat.le_of_ble_eq_true rfl) (fun p_ e_ s_ m_ a_ b_ h_ c_ Q A C htab hret => ?_)
  refine g_aload C dL_append_0 4 rfl (q := 2) rfl ?_
  refine g_iconst C dL_append_2 (q := 3) rfl ?_
  refine g_aload_n C dL_append_3 0 rfl rfl (q := 4) rfl ?_
  refine g_iload_n C dL_append_4 1 rfl rfl (q := 5) rfl ?_
  refine g_iload_n C dL_append_5 2 rfl rfl (q := 6) rfl ?_
  refine g_iload_n C dL_append_6 3 rfl rfl (q := 7) rfl ?_
  refine g_xVc C (As := [.int (iI r), .int (iI b), .int (iI c)]) (x_X4_append_2 l hst E _ r b c  (by assumption) (by assumption) (by assumption) (by assumption) (by assumption)) ml_L_7 mf_X4_append (o := 0) (ci := 4) rfl rfl rfl rfl ⟨(Nat.le_of_ble_eq_true rfl), (Nat.le_of_ble_eq_true rfl)⟩ rfl rfl rfl (Nat.le_of_ble_eq_true rfl) ⟨(Nat.le_of_ble_eq_true rfl), (Nat.le_of_ble_eq_true rfl)⟩ dL_append_7 [{ startPc := 0, endPc := 12, handlerPc := 15, catchType := 13 }] ({ startPc := 0, endPc := 12, handlerPc := 19, catchType := 15 }) [{ startPc := 0, endPc := 12, handlerPc := 23, catchType := 17 }] htab (List.forall_mem_cons.mpr ⟨Or.inr ⟨by decide, xIOOBE, xl_13, (by simp [ncs])⟩, fun _ h => absurd h List.not_mem_nil⟩) (by decide) (by decide) xl_15 xc_IAE (q := 19) rfl (fun q9 => ?_)
  refine g_astore C (L' := [(5, .ref q9), (0, .ref (ea E 0)), (1, .int (iI r)), (2, .int (iI b)), (3, .int (iI c)), (4, .ref (ea E 21))]) dL_append_19 (by decide) rfl (q := 21) rfl ?_
  refine g_iconst C dL_append_21 (q := 22) rfl ?_
  exact hret _ _ _ _ _ (Nat.le_of_ble_eq_true rfl) (Nat.le_of_ble_eq_true rfl) dL_append_22 rfl
set_option maxRecDepth 100000 in
set_option maxHeartbeats 4000000 in
theorem c_L_append_3 (l : Launch) (hst : l.stackTraces = false) (E : EV) (σ : SS) (r b c : Int) (hr_r : -2147483648 ≤ r ∧ r ≤ 2147483647) (hr_b : -2147483648 ≤ b ∧ b ≤ 2147483647) (hr_c : -2147483648 ≤ c ∧ c ≤ 2147483647) (hW : CW (σ 2)) (hF : FK (σ 2) 0 r b c 0 = 3) : KL l yL_append (cwh yL_append cL_append 6 (some .int) th_L_append) rm_L_append E [.ref (ea E 0), .int (iI r), .int (iI b), .int (iI c), .ref (ea E 21)] σ 3 σ := by
  refine KL_of (rm := rm_L_append) (mL := 6) (b := cL_append) RL rfl (by decide +kernel) [(0, .ref (ea E 0)), (1, .int (iI r)), (2, .int (iI b)), (3, .int (iI c)), (4, .ref (ea E 21))] rfl (Nat.le_of_ble_eq_true rfl) (fun p_ e_ s_ m_ a_ b_ h_ c_ Q A C htab hret => ?_)
  refine g_aload C dL_append_0 4 rfl (q := 2) rfl ?_
  refine g_iconst C dL_append_2 (q := 3) rfl ?_
  refine g_aload_n C dL_append_3 0 rfl rfl (q := 4) rfl ?_
  refine g_iload_n C dL_append_4 1 rfl rfl (q := 5) rfl ?_
  refine g_iload_n C dL_append_5 2 rfl rfl (q := 6) rfl ?_
  refine g_iload_n C dL_append_6 3 rfl rfl (q := 7) rfl ?_
  refine g_xVc C (As := [.int (iI r), .int (iI b), .int (iI c)]) (x_X4_append_3 l hst E _ r b c  (by assumption) (by assumption) (by assumption) (by assumption) (by assumption)) ml_L_7 mf_X4_append (o := 0) (ci := 4) rfl rfl rfl rfl ⟨(Nat.le_of_ble_eq_true rfl), (Nat.le_of_ble_eq_true rfl)⟩ rfl rfl rfl (Nat.le_of_ble_eq_true rfl) ⟨(Nat.le_of_ble_eq_true rfl), (Nat.le_of_ble_eq_true rfl)⟩ dL_append_7 [{ startPc := 0, endPc := 12, handlerPc := 15, catchType := 13 }, { startPc := 0, endPc := 12, handlerPc := 19, catchType := 15 }] ({ startPc := 0, endPc := 12, handlerPc := 23, catchType := 17 }) [] htab (List.forall_mem_cons.mpr ⟨Or.inr ⟨by decide, xIOOBE, xl_13, (by simp [ncs])⟩, List.forall_mem_cons.mpr ⟨Or.inr ⟨by decide, xIAE, xl_15, (by simp [ncs])⟩, fun _ h => absurd h List.not_mem_nil⟩⟩) (by decide) (by decide) xl_17 xc_ISE (q := 23) rfl (fun q9 => ?_)
  refine g_astore C (L' := [(5, .ref q9), (0, .ref (ea E 0)), (1, .int (iI r)), (2, .int (iI b)), (3, .int (iI c)), (4, .ref (ea E 21))]) dL_append_23 (by decide) rfl (q := 25) rfl ?_
  refine g_iconst C dL_append_25 (q := 26) rfl ?_
  exact hret _ _ _ _ _ (Nat.le_of_ble_eq_true rfl) (Nat.le_of_ble_eq_true rfl) dL_append_26 rfl
abbrev rm_L_insert : Room := { frames := 9, cells := 1, slots := 6, locals := 190 }
set_option maxRecDepth 100000 in
set_option maxHeartbeats 4000000 in
theorem c_L_insert (l : Launch) (hst : l.stackTraces = false) (E : EV) (σ : SS) (r b c d : Int) (hr_r : -2147483648 ≤ r ∧ r ≤ 2147483647) (hr_b : -2147483648 ≤ b ∧ b ≤ 2147483647) (hr_c : -2147483648 ≤ c ∧ c ≤ 2147483647) (hr_d : -2147483648 ≤ d ∧ d ≤ 2147483647) (hW : CW (σ 2)) (hh : 0 ≤ (σ 5 1) ∧ (σ 5 1) < 8 ∧ 0 ≤ (σ 5 2) ∧ (σ 5 2) ≤ 8) (hF : FK (σ 2) 1 r b c d = 0) : KL l yL_insert (cwh yL_insert cL_insert 7 (some .int) th_L_insert) rm_L_insert E [.ref (ea E 0), .int (iI r), .int (iI b), .int (iI c), .int (iI d), .ref (ea E 21)] σ 0 (st (st (st (st (st σ 2 (refF (opF (σ 2) 1 r b c d))) 3 (cpf (σ 2) (σ 3) 0 0 310)) 5 (pt (pt (σ 5) 1 (nx8 (σ 5 1))) 2 (min ((σ 5 2) + 1) 8))) 6 (cpf (cpf (σ 2) (σ 3) 0 0 310) (σ 6) 0 ((σ 5 1) * 310) 310)) 21 (pt (σ 21) 0 (wr (opR (σ 2) 1 r b c d)))) := by
  refine KL_of (rm := rm_L_insert) (mL := 7) (b := cL_insert) RL rfl (by decide +kernel) [(0, .ref (ea E 0)), (1, .int (iI r)), (2, .int (iI b)), (3, .int (iI c)), (4, .int (iI d)), (5, .ref (ea E 21))] rfl (Nat.le_of_ble_eq_true rfl) (fun p_ e_ s_ m_ a_ b_ h_ c_ Q A C htab hret => ?_)
  refine g_aload C dL_insert_0 5 rfl (q := 2) rfl ?_
  refine g_iconst C dL_insert_2 (q := 3) rfl ?_
  refine g_aload_n C dL_insert_3 0 rfl rfl (q := 4) rfl ?_
  refine g_iload_n C dL_insert_4 1 rfl rfl (q := 5) rfl ?_
  refine g_iload_n C dL_insert_5 2 rfl rfl (q := 6) rfl ?_
  refine g_iload_n C dL_insert_6 3 rfl rfl (q := 7) rfl ?_
  refine g_iload C dL_insert_7 4 rfl (q := 9) rfl ?_
  refine g_cV_i C (As := [.int (iI r), .int (iI b), .int (iI c), .int (iI d)]) (c_X4_insert l E _ r b c d  (by assumption) (by assumption) (by assumption) (by assumption) (by assumption) (by assumption) (by assumption)) ml_L_19 mf_X4_insert (o := 0) (ci := 4) rfl rfl rfl rfl ⟨(Nat.le_of_ble_eq_true rfl), (Nat.le_of_ble_eq_true rfl)⟩ rfl rfl rfl (Nat.le_of_ble_eq_true rfl) ⟨(Nat.le_of_ble_eq_true rfl), (Nat.le_of_ble_eq_true rfl)⟩ dL_insert_9 (q := 12) rfl ?_
  refine g_i2lw C dL_insert_12 (q := 13) rfl ?_
  refine gs_21 C dL_insert_13 (q := 14) rfl ?_
  refine g_st (σ2 := (st (st (st (st (st σ 2 (refF (opF (σ 2) 1 r b c d))) 3 (cpf (σ 2) (σ 3) 0 0 310)) 5 (pt (pt (σ 5) 1 (nx8 (σ 5 1))) 2 (min ((σ 5 2) + 1) 8))) 6 (cpf (cpf (σ 2) (σ 3) 0 0 310) (σ 6) 0 ((σ 5 1) * 310) 310)) 21 (pt (σ 21) 0 (wr (opR (σ 2) 1 r b c d))))) rfl ?_
  refine g_goto C dL_insert_14 (q := 29) rfl ?_
  refine g_iconst C dL_insert_29 (q := 30) rfl ?_
  exact hret _ _ _ _ _ (Nat.le_of_ble_eq_true rfl) (Nat.le_of_ble_eq_true rfl) dL_insert_30 rfl
set_option maxRecDepth 100000 in
set_option maxHeartbeats 4000000 in
theorem c_L_insert_1 (l : Launch) (hst : l.stackTraces = false) (E : EV) (σ : SS) (r b c d : Int) (hr_r : -2147483648 ≤ r ∧ r ≤ 2147483647) (hr_b : -2147483648 ≤ b ∧ b ≤ 2147483647) (hr_c : -2147483648 ≤ c ∧ c ≤ 2147483647) (hr_d : -2147483648 ≤ d ∧ d ≤ 2147483647) (hW : CW (σ 2)) (hF : FK (σ 2) 1 r b c d = 1) : KL l yL_insert (cwh yL_insert cL_insert 7 (some .int) th_L_insert) rm_L_insert E [.ref (ea E 0), .int (iI r), .int (iI b), .int (iI c), .int (iI d), .ref (ea E 21)] σ 1 σ := by
  refine KL_of (rm := rm_L_insert) (mL := 7) (b := cL_insert) RL rfl (by decide +kernel) [(0, .ref (ea E 0)), (1, .int (iI r)), (2, .int (iI b)), (3, .int (iI c)), (4, .int (iI d)), (5, .ref (ea E 21))] rfl (Nat.le_of_ble_eq_true rfl) (fun p_ e_ s_ m_ a_ b_ h_ c_ Q A C htab hret => ?_)
  refine g_aload C dL_insert_0 5 rfl (q := 2) rfl ?_
  refine g_iconst C dL_insert_2 (q := 3) rfl ?_
  refine g_aload_n C dL_insert_3 0 rfl rfl (q := 4) rfl ?_
  refine g_iload_n C dL_insert_4 1 rfl rfl (q := 5) rfl ?_
  refine g_iload_n C dL_insert_5 2 rfl rfl (q := 6) rfl ?_
  refine g_iload_n C dL_insert_6 3 rfl rfl (q := 7) rfl ?_
  refine g_iload C dL_insert_7 4 rfl (q := 9) rfl ?_
  refine g_xVc C (As := [.int (iI r), .int (iI b), .int (iI c), .int (iI d)]) (x_X4_insert_1 l hst E _ r b c d  (by assumption) (by assumption) (by assumption) (by assumption) (by assumption) (by assumption)) ml_L_19 mf_X4_insert (o := 0) (ci := 4) rfl rfl rfl rfl ⟨(Nat.le_of_ble_eq_true rfl), (Nat.le_of_ble_eq_true rfl)⟩ rfl rfl rfl (Nat.le_of_ble_eq_true rfl) ⟨(Nat.le_of_ble_eq_true rfl), (Nat.le_of_ble_eq_true rfl)⟩ dL_insert_9 [] ({ startPc := 0, endPc := 14, handlerPc := 17, catchType := 13 }) [{ startPc := 0, endPc := 14, handlerPc := 21, catchType := 15 }, { startPc := 0, endPc := 14, handlerPc := 25, catchType := 17 }] htab (fun _ h => absurd h List.not_mem_nil) (by decide) (by decide) xl_13 xc_IOOBE (q := 17) rfl (fun q9 => ?_)
  refine g_astore C (L' := [(6, .ref q9), (0, .ref (ea E 0)), (1, .int (iI r)), (2, .int (iI b)), (3, .int (iI c)), (4, .int (iI d)), (5, .ref (ea E 21))]) dL_insert_17 (by decide) rfl (q := 19) rfl ?_
  refine g_iconst C dL_insert_19 (q := 20) rfl ?_
  exact hret _ _ _ _ _ (Nat.le_of_ble_eq_true rfl) (Nat.le_of_ble_eq_true rfl) dL_insert_20 rfl
set_option maxRecDepth 100000 in
set_option maxHeartbeats 4000000 in
theorem c_L_insert_2 (l : Launch) (hst : l.stackTraces = false) (E : EV) (σ : SS) (r b c d : Int) (hr_r : -2147483648 ≤ r ∧ r ≤ 2147483647) (hr_b : -2147483648 ≤ b ∧ b ≤ 2147483647) (hr_c : -2147483648 ≤ c ∧ c ≤ 2147483647) (hr_d : -2147483648 ≤ d ∧ d ≤ 2147483647) (hW : CW (σ 2)) (hF : FK (σ 2) 1 r b c d = 2) : KL l yL_insert (cwh yL_insert cL_insert 7 (some .int) th_L_insert) rm_L_insert E [.ref (ea E 0), .int (iI r), .int (iI b), .int (iI c), .int (iI d), .ref (ea E 21)] σ 2 σ := by
  refine KL_of (rm := rm_L_insert) (mL := 7) (b := cL_insert) RL rfl (by decide +kernel) [(0, .ref (ea E 0)), (1, .int (iI r)), (2, .int (iI b)), (3, .int (iI c)), (4, .int (iI d)), (5, .ref (ea E 21))] rfl (Nat.le_of_ble_eq_true rfl) (fun p_ e_ s_ m_ a_ b_ h_ c_ Q A C htab hret => ?_)
  refine g_aload C dL_insert_0 5 rfl (q := 2) rfl ?_
  refine g_iconst C dL_insert_2 (q := 3) rfl ?_
  refine g_aload_n C dL_insert_3 0 rfl rfl (q := 4) rfl ?_
  refine g_iload_n C dL_insert_4 1 rfl rfl (q := 5) rfl ?_
  refine g_iload_n C dL_insert_5 2 rfl rfl (q := 6) rfl ?_
  refine g_iload_n C dL_insert_6 3 rfl rfl (q := 7) rfl ?_
  refine g_iload C dL_insert_7 4 rfl (q := 9) rfl ?_
  refine g_xVc C (As := [.int (iI r), .int (iI b), .int (iI c), .int (iI d)]) (x_X4_insert_2 l hst E _ r b c d  (by assumption) (by assumption) (by assumption) (by assumption) (by assumption) (by assumption)) ml_L_19 mf_X4_insert (o := 0) (ci := 4) rfl rfl rfl rfl ⟨(Nat.le_of_ble_eq_true rfl), (Nat.le_of_ble_eq_true rfl)⟩ rfl rfl rfl (Nat.le_of_ble_eq_true rfl) ⟨(Nat.le_of_ble_eq_true rfl), (Nat.le_of_ble_eq_true rfl)⟩ dL_insert_9 [{ startPc := 0, endPc := 14, handlerPc := 17, catchType := 13 }] ({ startPc := 0, endPc := 14, handlerPc := 21, catchType := 15 }) [{ startPc := 0, endPc := 14, handlerPc := 25, catchType := 17 }] htab (List.forall_mem_cons.mpr ⟨Or.inr ⟨by decide, xIOOBE, xl_13, (by simp [ncs])⟩, fun _ h => absurd h List.not_mem_nil⟩) (by decide) (by decide) xl_15 xc_IAE (q := 21) rfl (fun q9 => ?_)
  refine g_astore C (L' := [(6, .ref q9), (0, .ref (ea E 0)), (1, .int (iI r)), (2, .int (iI b)), (3, .int (iI c)), (4, .int (iI d)), (5, .ref (ea E 21))]) dL_insert_21 (by decide) rfl (q := 23) rfl ?_
  refine g_iconst C dL_insert_23 (q := 24) rfl ?_
  exact hret _ _ _ _ _ (Nat.le_of_ble_eq_true rfl) (Nat.le_of_ble_eq_true rfl) dL_insert_24 rfl
set_option maxRecDepth 100000 in
set_option maxHeartbeats 4000000 in
theorem c_L_insert_3 (l : Launch) (hst : l.stackTraces = false) (E : EV) (σ : SS) (r b c d : Int) (hr_r : -2147483648 ≤ r ∧ r ≤ 2147483647) (hr_b : -2147483648 ≤ b ∧ b ≤ 2147483647) (hr_c : -2147483648 ≤ c ∧ c ≤ 2147483647) (hr_d : -2147483648 ≤ d ∧ d ≤ 2147483647) (hW : CW (σ 2)) (hF : FK (σ 2) 1 r b c d = 3) : KL l yL_insert (cwh yL_insert cL_insert 7 (some .int) th_L_insert) rm_L_insert E [.ref (ea E 0), .int (iI r), .int (iI b), .int (iI c), .int (iI d), .ref (ea E 21)] σ 3 σ := by
  refine KL_of (rm := rm_L_insert) (mL := 7) (b := cL_insert) RL rfl (by decide +kernel) [(0, .ref (ea E 0)), (1, .int (iI r)), (2, .int (iI b)), (3, .int (iI c)), (4, .int (iI d)), (5, .ref (ea E 21))] rfl (Nat.le_of_ble_eq_true rfl) (fun p_ e_ s_ m_ a_ b_ h_ c_ Q A C htab hret => ?_)
  refine g_aload C dL_insert_0 5 rfl (q := 2) rfl ?_
  refine g_iconst C dL_insert_2 (q := 3) rfl ?_
  refine g_aload_n C dL_insert_3 0 rfl rfl (q := 4) rfl ?_
  refine g_iload_n C dL_insert_4 1 rfl rfl (q := 5) rfl ?_
  refine g_iload_n C dL_insert_5 2 rfl rfl (q := 6) rfl ?_
  refine g_iload_n C dL_insert_6 3 rfl rfl (q := 7) rfl ?_
  refine g_iload C dL_insert_7 4 rfl (q := 9) rfl ?_
  refine g_xVc C (As := [.int (iI r), .int (iI b), .int (iI c), .int (iI d)]) (x_X4_insert_3 l hst E _ r b c d  (by assumption) (by assumption) (by assumption) (by assumption) (by assumption) (by assumption)) ml_L_19 mf_X4_insert (o := 0) (ci := 4) rfl rfl rfl rfl ⟨(Nat.le_of_ble_eq_true rfl), (Nat.le_of_ble_eq_true rfl)⟩ rfl rfl rfl (Nat.le_of_ble_eq_true rfl) ⟨(Nat.le_of_ble_eq_true rfl), (Nat.le_of_ble_eq_true rfl)⟩ dL_insert_9 [{ startPc := 0, endPc := 14, handlerPc := 17, catchType := 13 }, { startPc := 0, endPc := 14, handlerPc := 21, catchType := 15 }] ({ startPc := 0, endPc := 14, handlerPc := 25, catchType := 17 }) [] htab (List.forall_mem_cons.mpr ⟨Or.inr ⟨by decide, xIOOBE, xl_13, (by simp [ncs])⟩, List.forall_mem_cons.mpr ⟨Or.inr ⟨by decide, xIAE, xl_15, (by simp [ncs])⟩, fun _ h => absurd h List.not_mem_nil⟩⟩) (by decide) (by decide) xl_17 xc_ISE (q := 25) rfl (fun q9 => ?_)
  refine g_astore C (L' := [(6, .ref q9), (0, .ref (ea E 0)), (1, .int (iI r)), (2, .int (iI b)), (3, .int (iI c)), (4, .int (iI d)), (5, .ref (ea E 21))]) dL_insert_25 (by decide) rfl (q := 27) rfl ?_
  refine g_iconst C dL_insert_27 (q := 28) rfl ?_
  exact hret _ _ _ _ _ (Nat.le_of_ble_eq_true rfl) (Nat.le_of_ble_eq_true rfl) dL_insert_28 rfl
abbrev rm_L_remove : Room := { frames := 9, cells := 1, slots := 6, locals := 188 }
set_option maxRecDepth 100000 in
set_option maxHeartbeats 4000000 in
theorem c_L_remove (l : Launch) (hst : l.stackTraces = false) (E : EV) (σ : SS) (r b : Int) (hr_r : -2147483648 ≤ r ∧ r ≤ 2147483647) (hr_b : -2147483648 ≤ b ∧ b ≤ 2147483647) (hW : CW (σ 2)) (hh : 0 ≤ (σ 5 1) ∧ (σ 5 1) < 8 ∧ 0 ≤ (σ 5 2) ∧ (σ 5 2) ≤ 8) (hF : FK (σ 2) 2 r b 0 0 = 0) : KL l yL_remove (cwh yL_remove cL_remove 5 (some .int) th_L_remove) rm_L_remove E [.ref (ea E 0), .int (iI r), .int (iI b), .ref (ea E 21)] σ 0 (st (st (st (st (st σ 2 (refF (opF (σ 2) 2 r b 0 0))) 3 (cpf (σ 2) (σ 3) 0 0 310)) 5 (pt (pt (σ 5) 1 (nx8 (σ 5 1))) 2 (min ((σ 5 2) + 1) 8))) 6 (cpf (cpf (σ 2) (σ 3) 0 0 310) (σ 6) 0 ((σ 5 1) * 310) 310)) 21 (pt (σ 21) 0 (wr (opR (σ 2) 2 r b 0 0)))) := by
  refine KL_of (rm := rm_L_remove) (mL := 5) (b := cL_remove) RL rfl (by decide +kernel) [(0, .ref (ea E 0)), (1, .int (iI r)), (2, .int (iI b)), (3, .ref (ea E 21))] rfl (Nat.le_of_ble_eq_true rfl) (fun p_ e_ s_ m_ a_ b_ h_ c_ Q A C htab hret => ?_)
  refine g_aload_n C dL_remove_0 3 rfl rfl (q := 1) rfl ?_
  refine g_iconst C dL_remove_1 (q := 2) rfl ?_
  refine g_aload_n C dL_remove_2 0 rfl rfl (q := 3) rfl ?_
  refine g_iload_n C dL_remove_3 1 rfl rfl (q := 4) rfl ?_
  refine g_iload_n C dL_remove_4 2 rfl rfl (q := 5) rfl ?_
  refine g_cV_i C (As := [.int (iI r), .int (iI b)]) (c_X4_remove l E _ r b  (by assumption) (by assumption) (by assumption) (by assumption) (by assumption)) ml_L_23 mf_X4_remove (o := 0) (ci := 4) rfl rfl rfl rfl ⟨(Nat.le_of_ble_eq_true rfl), (Nat.le_of_ble_eq_true rfl)⟩ rfl rfl rfl (Nat.le_of_ble_eq_true rfl) ⟨(Nat.le_of_ble_eq_true rfl), (Nat.le_of_ble_eq_true rfl)⟩ dL_remove_5 (q := 8) rfl ?_
  refine g_i2lw C dL_remove_8 (q := 9) rfl ?_
  refine gs_21 C dL_remove_9 (q := 10) rfl ?_
  refine g_st (σ2 := (st (st (st (st (st σ 2 (refF (opF (σ 2) 2 r b 0 0))) 3 (cpf (σ 2) (σ 3) 0 0 310)) 5 (pt (pt (σ 5) 1 (nx8 (σ 5 1))) 2 (min ((σ 5 2) + 1) 8))) 6 (cpf (cpf (σ 2) (σ 3) 0 0 310) (σ 6) 0 ((σ 5 1) * 310) 310)) 21 (pt (σ 21) 0 (wr (opR (σ 2) 2 r b 0 0))))) rfl ?_
  refine g_goto C dL_remove_10 (q := 17) rfl ?_
  refine g_iconst C dL_remove_17 (q := 18) rfl ?_
  exact hret _ _ _ _ _ (Nat.le_of_ble_eq_true rfl) (Nat.le_of_ble_eq_true rfl) dL_remove_18 rfl
set_option maxRecDepth 100000 in
set_option maxHeartbeats 4000000 in
theorem c_L_remove_1 (l : Launch) (hst : l.stackTraces = false) (E : EV) (σ : SS) (r b : Int) (hr_r : -2147483648 ≤ r ∧ r ≤ 2147483647) (hr_b : -2147483648 ≤ b ∧ b ≤ 2147483647) (hW : CW (σ 2)) (hF : FK (σ 2) 2 r b 0 0 = 1) : KL l yL_remove (cwh yL_remove cL_remove 5 (some .int) th_L_remove) rm_L_remove E [.ref (ea E 0), .int (iI r), .int (iI b), .ref (ea E 21)] σ 1 σ := by
  refine KL_of (rm := rm_L_remove) (mL := 5) (b := cL_remove) RL rfl (by decide +kernel) [(0, .ref (ea E 0)), (1, .int (iI r)), (2, .int (iI b)), (3, .ref (ea E 21))] rfl (Nat.le_of_ble_eq_true rfl) (fun p_ e_ s_ m_ a_ b_ h_ c_ Q A C htab hret => ?_)
  refine g_aload_n C dL_remove_0 3 rfl rfl (q := 1) rfl ?_
  refine g_iconst C dL_remove_1 (q := 2) rfl ?_
  refine g_aload_n C dL_remove_2 0 rfl rfl (q := 3) rfl ?_
  refine g_iload_n C dL_remove_3 1 rfl rfl (q := 4) rfl ?_
  refine g_iload_n C dL_remove_4 2 rfl rfl (q := 5) rfl ?_
  refine g_xVc C (As := [.int (iI r), .int (iI b)]) (x_X4_remove_1 l hst E _ r b  (by assumption) (by assumption) (by assumption) (by assumption)) ml_L_23 mf_X4_remove (o := 0) (ci := 4) rfl rfl rfl rfl ⟨(Nat.le_of_ble_eq_true rfl), (Nat.le_of_ble_eq_true rfl)⟩ rfl rfl rfl (Nat.le_of_ble_eq_true rfl) ⟨(Nat.le_of_ble_eq_true rfl), (Nat.le_of_ble_eq_true rfl)⟩ dL_remove_5 [] ({ startPc := 0, endPc := 10, handlerPc := 13, catchType := 13 }) [] htab (fun _ h => absurd h List.not_mem_nil) (by decide) (by decide) xl_13 xc_IOOBE (q := 13) rfl (fun q9 => ?_)
  refine g_astore C (L' := [(4, .ref q9), (0, .ref (ea E 0)), (1, .int (iI r)), (2, .int (iI b)), (3, .ref (ea E 21))]) dL_remove_13 (by decide) rfl (q := 15) rfl ?_
  refine g_iconst C dL_remove_15 (q := 16) rfl ?_
  exact hret _ _ _ _ _ (Nat.le_of_ble_eq_true rfl) (Nat.le_of_ble_eq_true rfl) dL_remove_16 rfl
abbrev rm_L_retie : Room := { frames := 9, cells := 1, slots := 6, locals := 189 }
set_option maxRecDepth 100000 in
set_option maxHeartbeats 4000000 in
theorem c_L_retie (l : Launch) (hst : l.stackTraces = false) (E : EV) (σ : SS) (r b c : Int) (hr_r : -2147483648 ≤ r ∧ r ≤ 2147483647) (hr_b : -2147483648 ≤ b ∧ b ≤ 2147483647) (hr_c : -2147483648 ≤ c ∧ c ≤ 2147483647) (hW : CW (σ 2)) (hh : 0 ≤ (σ 5 1) ∧ (σ 5 1) < 8 ∧ 0 ≤ (σ 5 2) ∧ (σ 5 2) ≤ 8) (hF : FK (σ 2) 3 r b c 0 = 0) : KL l yL_retie (cwh yL_retie cL_retie 6 (some .int) th_L_retie) rm_L_retie E [.ref (ea E 0), .int (iI r), .int (iI b), .int (iI c), .ref (ea E 21)] σ 0 (st (st (st (st (st σ 2 (refF (opF (σ 2) 3 r b c 0))) 3 (cpf (σ 2) (σ 3) 0 0 310)) 5 (pt (pt (σ 5) 1 (nx8 (σ 5 1))) 2 (min ((σ 5 2) + 1) 8))) 6 (cpf (cpf (σ 2) (σ 3) 0 0 310) (σ 6) 0 ((σ 5 1) * 310) 310)) 21 (pt (σ 21) 0 (wr (opR (σ 2) 3 r b c 0)))) := by
  refine KL_of (rm := rm_L_retie) (mL := 6) (b := cL_retie) RL rfl (by decide +kernel) [(0, .ref (ea E 0)), (1, .int (iI r)), (2, .int (iI b)), (3, .int (iI c)), (4, .ref (ea E 21))] rfl (Nat.le_of_ble_eq_true rfl) (fun p_ e_ s_ m_ a_ b_ h_ c_ Q A C htab hret => ?_)
  refine g_aload C dL_retie_0 4 rfl (q := 2) rfl ?_
  refine g_iconst C dL_retie_2 (q := 3) rfl ?_
  refine g_aload_n C dL_retie_3 0 rfl rfl (q := 4) rfl ?_
  refine g_iload_n C dL_retie_4 1 rfl rfl (q := 5) rfl ?_
  refine g_iload_n C dL_retie_5 2 rfl rfl (q := 6) rfl ?_
  refine g_iload_n C dL_retie_6 3 rfl rfl (q := 7) rfl ?_
  refine g_cV_i C (As := [.int (iI r), .int (iI b), .int (iI c)]) (c_X4_retie l E _ r b c  (by assumption) (by assumption) (by assumption) (by assumption) (by assumption) (by assumption)) ml_L_27 mf_X4_retie (o := 0) (ci := 4) rfl rfl rfl rfl ⟨(Nat.le_of_ble_eq_true rfl), (Nat.le_of_ble_eq_true rfl)⟩ rfl rfl rfl (Nat.le_of_ble_eq_true rfl) ⟨(Nat.le_of_ble_eq_true rfl), (Nat.le_of_ble_eq_true rfl)⟩ dL_retie_7 (q := 10) rfl ?_
  refine g_i2lw C dL_retie_10 (q := 11) rfl ?_
  refine gs_21 C dL_retie_11 (q := 12) rfl ?_
  refine g_st (σ2 := (st (st (st (st (st σ 2 (refF (opF (σ 2) 3 r b c 0))) 3 (cpf (σ 2) (σ 3) 0 0 310)) 5 (pt (pt (σ 5) 1 (nx8 (σ 5 1))) 2 (min ((σ 5 2) + 1) 8))) 6 (cpf (cpf (σ 2) (σ 3) 0 0 310) (σ 6) 0 ((σ 5 1) * 310) 310)) 21 (pt (σ 21) 0 (wr (opR (σ 2) 3 r b c 0))))) rfl ?_
  refine g_goto C dL_retie_12 (q := 23) rfl ?_
  refine g_iconst C dL_retie_23 (q := 24) rfl ?_
  exact hret _ _ _ _ _ (Nat.le_of_ble_eq_true rfl) (Nat.le_of_ble_eq_true rfl) dL_retie_24 rfl
set_option maxRecDepth 100000 in
set_option maxHeartbeats 4000000 in
theorem c_L_retie_1 (l : Launch) (hst : l.stackTraces = false) (E : EV) (σ : SS) (r b c : Int) (hr_r : -2147483648 ≤ r ∧ r ≤ 2147483647) (hr_b : -2147483648 ≤ b ∧ b ≤ 2147483647) (hr_c : -2147483648 ≤ c ∧ c ≤ 2147483647) (hW : CW (σ 2)) (hF : FK (σ 2) 3 r b c 0 = 1) : KL l yL_retie (cwh yL_retie cL_retie 6 (some .int) th_L_retie) rm_L_retie E [.ref (ea E 0), .int (iI r), .int (iI b), .int (iI c), .ref (ea E 21)] σ 1 σ := by
  refine KL_of (rm := rm_L_retie) (mL := 6) (b := cL_retie) RL rfl (by decide +kernel) [(0, .ref (ea E 0)), (1, .int (iI r)), (2, .int (iI b)), (3, .int (iI c)), (4, .ref (ea E 21))] rfl (Nat.le_of_ble_eq_true rfl) (fun p_ e_ s_ m_ a_ b_ h_ c_ Q A C htab hret => ?_)
  refine g_aload C dL_retie_0 4 rfl (q := 2) rfl ?_
  refine g_iconst C dL_retie_2 (q := 3) rfl ?_
  refine g_aload_n C dL_retie_3 0 rfl rfl (q := 4) rfl ?_
  refine g_iload_n C dL_retie_4 1 rfl rfl (q := 5) rfl ?_
  refine g_iload_n C dL_retie_5 2 rfl rfl (q := 6) rfl ?_
  refine g_iload_n C dL_retie_6 3 rfl rfl (q := 7) rfl ?_
  refine g_xVc C (As := [.int (iI r), .int (iI b), .int (iI c)]) (x_X4_retie_1 l hst E _ r b c  (by assumption) (by assumption) (by assumption) (by assumption) (by assumption)) ml_L_27 mf_X4_retie (o := 0) (ci := 4) rfl rfl rfl rfl ⟨(Nat.le_of_ble_eq_true rfl), (Nat.le_of_ble_eq_true rfl)⟩ rfl rfl rfl (Nat.le_of_ble_eq_true rfl) ⟨(Nat.le_of_ble_eq_true rfl), (Nat.le_of_ble_eq_true rfl)⟩ dL_retie_7 [] ({ startPc := 0, endPc := 12, handlerPc := 15, catchType := 13 }) [{ startPc := 0, endPc := 12, handlerPc := 19, catchType := 15 }] htab (fun _ h => absurd h List.not_mem_nil) (by decide) (by decide) xl_13 xc_IOOBE (q := 15) rfl (fun q9 => ?_)
  refine g_astore C (L' := [(5, .ref q9), (0, .ref (ea E 0)), (1, .int (iI r)), (2, .int (iI b)), (3, .int (iI c)), (4, .ref (ea E 21))]) dL_retie_15 (by decide) rfl (q := 17) rfl ?_
  refine g_iconst C dL_retie_17 (q := 18) rfl ?_
  exact hret _ _ _ _ _ (Nat.le_of_ble_eq_true rfl) (Nat.le_of_ble_eq_true rfl) dL_retie_18 rfl
set_option maxRecDepth 100000 in
set_option maxHeartbeats 4000000 in
theorem c_L_retie_2 (l : Launch) (hst : l.stackTraces = false) (E : EV) (σ : SS) (r b c : Int) (hr_r : -2147483648 ≤ r ∧ r ≤ 2147483647) (hr_b : -2147483648 ≤ b ∧ b ≤ 2147483647) (hr_c : -2147483648 ≤ c ∧ c ≤ 2147483647) (hW : CW (σ 2)) (hF : FK (σ 2) 3 r b c 0 = 2) : KL l yL_retie (cwh yL_retie cL_retie 6 (some .int) th_L_retie) rm_L_retie E [.ref (ea E 0), .int (iI r), .int (iI b), .int (iI c), .ref (ea E 21)] σ 2 σ := by
  refine KL_of (rm := rm_L_retie) (mL := 6) (b := cL_retie) RL rfl (by decide +kernel) [(0, .ref (ea E 0)), (1, .int (iI r)), (2, .int (iI b)), (3, .int (iI c)), (4, .ref (ea E 21))] rfl (Nat.le_of_ble_eq_true rfl) (fun p_ e_ s_ m_ a_ b_ h_ c_ Q A C htab hret => ?_)
  refine g_aload C dL_retie_0 4 rfl (q := 2) rfl ?_
  refine g_iconst C dL_retie_2 (q := 3) rfl ?_
  refine g_aload_n C dL_retie_3 0 rfl rfl (q := 4) rfl ?_
  refine g_iload_n C dL_retie_4 1 rfl rfl (q := 5) rfl ?_
  refine g_iload_n C dL_retie_5 2 rfl rfl (q := 6) rfl ?_
  refine g_iload_n C dL_retie_6 3 rfl rfl (q := 7) rfl ?_
  refine g_xVc C (As := [.int (iI r), .int (iI b), .int (iI c)]) (x_X4_retie_2 l hst E _ r b c  (by assumption) (by assumption) (by assumption) (by assumption) (by assumption)) ml_L_27 mf_X4_retie (o := 0) (ci := 4) rfl rfl rfl rfl ⟨(Nat.le_of_ble_eq_true rfl), (Nat.le_of_ble_eq_true rfl)⟩ rfl rfl rfl (Nat.le_of_ble_eq_true rfl) ⟨(Nat.le_of_ble_eq_true rfl), (Nat.le_of_ble_eq_true rfl)⟩ dL_retie_7 [{ startPc := 0, endPc := 12, handlerPc := 15, catchType := 13 }] ({ startPc := 0, endPc := 12, handlerPc := 19, catchType := 15 }) [] htab (List.forall_mem_cons.mpr ⟨Or.inr ⟨by decide, xIOOBE, xl_13, (by simp [ncs])⟩, fun _ h => absurd h List.not_mem_nil⟩) (by decide) (by decide) xl_15 xc_IAE (q := 19) rfl (fun q9 => ?_)
  refine g_astore C (L' := [(5, .ref q9), (0, .ref (ea E 0)), (1, .int (iI r)), (2, .int (iI b)), (3, .int (iI c)), (4, .ref (ea E 21))]) dL_retie_19 (by decide) rfl (q := 21) rfl ?_
  refine g_iconst C dL_retie_21 (q := 22) rfl ?_
  exact hret _ _ _ _ _ (Nat.le_of_ble_eq_true rfl) (Nat.le_of_ble_eq_true rfl) dL_retie_22 rfl
abbrev rm_L_segmentCount : Room := { frames := 8, cells := 1, slots := 6, locals := 123 }
set_option maxRecDepth 100000 in
set_option maxHeartbeats 4000000 in
theorem c_L_segmentCount (l : Launch) (hst : l.stackTraces = false) (E : EV) (σ : SS) (r : Int) (hr_r : -2147483648 ≤ r ∧ r ≤ 2147483647) (hW : CW (σ 2)) (hF1 : fR r = 0) : KL l yL_segmentCount (cwh yL_segmentCount cL_segmentCount 4 (some .int) th_L_segmentCount) rm_L_segmentCount E [.ref (ea E 0), .int (iI r), .ref (ea E 21)] σ 0 (st σ 21 (pt (σ 21) 0 (wr ((σ 2) (240 + r))))) := by
  refine KL_of (rm := rm_L_segmentCount) (mL := 4) (b := cL_segmentCount) RL rfl (by decide +kernel) [(0, .ref (ea E 0)), (1, .int (iI r)), (2, .ref (ea E 21))] rfl (Nat.le_of_ble_eq_true rfl) (fun p_ e_ s_ m_ a_ b_ h_ c_ Q A C htab hret => ?_)
  refine g_aload_n C dL_segmentCount_0 2 rfl rfl (q := 1) rfl ?_
  refine g_iconst C dL_segmentCount_1 (q := 2) rfl ?_
  refine g_aload_n C dL_segmentCount_2 0 rfl rfl (q := 3) rfl ?_
  refine g_iload_n C dL_segmentCount_3 1 rfl rfl (q := 4) rfl ?_
  refine g_cV_i C (As := [.int (iI r)]) (c_X4_segmentCount l E _ r  (by assumption) (by assumption) (by assumption)) ml_L_30 mf_X4_segmentCount (o := 0) (ci := 4) rfl rfl rfl rfl ⟨(Nat.le_of_ble_eq_true rfl), (Nat.le_of_ble_eq_true rfl)⟩ rfl rfl rfl (Nat.le_of_ble_eq_true rfl) ⟨(Nat.le_of_ble_eq_true rfl), (Nat.le_of_ble_eq_true rfl)⟩ dL_segmentCount_4 (q := 7) rfl ?_
  refine g_i2lw C dL_segmentCount_7 (q := 8) rfl ?_
  refine gs_21 C dL_segmentCount_8 (q := 9) rfl ?_
  refine g_goto C dL_segmentCount_9 (q := 15) rfl ?_
  refine g_iconst C dL_segmentCount_15 (q := 16) rfl ?_
  exact hret _ _ _ _ _ (Nat.le_of_ble_eq_true rfl) (Nat.le_of_ble_eq_true rfl) dL_segmentCount_16 rfl
set_option maxRecDepth 100000 in
set_option maxHeartbeats 4000000 in
theorem c_L_segmentCount_11 (l : Launch) (hst : l.stackTraces = false) (E : EV) (σ : SS) (r : Int) (hr_r : -2147483648 ≤ r ∧ r ≤ 2147483647) (hW : CW (σ 2)) (hF1 : fR r = 1) : KL l yL_segmentCount (cwh yL_segmentCount cL_segmentCount 4 (some .int) th_L_segmentCount) rm_L_segmentCount E [.ref (ea E 0), .int (iI r), .ref (ea E 21)] σ 1 σ := by
  refine KL_of (rm := rm_L_segmentCount) (mL := 4) (b := cL_segmentCount) RL rfl (by decide +kernel) [(0, .ref (ea E 0)), (1, .int (iI r)), (2, .ref (ea E 21))] rfl (Nat.le_of_ble_eq_true rfl) (fun p_ e_ s_ m_ a_ b_ h_ c_ Q A C htab hret => ?_)
  refine g_aload_n C dL_segmentCount_0 2 rfl rfl (q := 1) rfl ?_
  refine g_iconst C dL_segmentCount_1 (q := 2) rfl ?_
  refine g_aload_n C dL_segmentCount_2 0 rfl rfl (q := 3) rfl ?_
  refine g_iload_n C dL_segmentCount_3 1 rfl rfl (q := 4) rfl ?_
  refine g_xVc C (As := [.int (iI r)]) (x_X4_segmentCount_11 l hst E _ r  (by assumption) (by assumption) (by assumption)) ml_L_30 mf_X4_segmentCount (o := 0) (ci := 4) rfl rfl rfl rfl ⟨(Nat.le_of_ble_eq_true rfl), (Nat.le_of_ble_eq_true rfl)⟩ rfl rfl rfl (Nat.le_of_ble_eq_true rfl) ⟨(Nat.le_of_ble_eq_true rfl), (Nat.le_of_ble_eq_true rfl)⟩ dL_segmentCount_4 [] ({ startPc := 0, endPc := 9, handlerPc := 12, catchType := 13 }) [] htab (fun _ h => absurd h List.not_mem_nil) (by decide) (by decide) xl_13 xc_IOOBE (q := 12) rfl (fun q9 => ?_)
  refine g_astore_n C (L' := [(3, .ref q9), (0, .ref (ea E 0)), (1, .int (iI r)), (2, .ref (ea E 21))]) dL_segmentCount_12 rfl (by decide) rfl (q := 13) rfl ?_
  refine g_iconst C dL_segmentCount_13 (q := 14) rfl ?_
  exact hret _ _ _ _ _ (Nat.le_of_ble_eq_true rfl) (Nat.le_of_ble_eq_true rfl) dL_segmentCount_14 rfl
abbrev rm_L_length : Room := { frames := 8, cells := 1, slots := 6, locals := 124 }
set_option maxRecDepth 100000 in
set_option maxHeartbeats 4000000 in
theorem c_L_length (l : Launch) (hst : l.stackTraces = false) (E : EV) (σ : SS) (r p : Int) (hr_r : -2147483648 ≤ r ∧ r ≤ 2147483647) (hr_p : -2147483648 ≤ p ∧ p ≤ 2147483647) (hW : CW (σ 2)) (hF1 : fP (σ 2) r p = 0) : KL l yL_length (cwh yL_length cL_length 5 (some .int) th_L_length) rm_L_length E [.ref (ea E 0), .int (iI r), .int (iI p), .ref (ea E 21)] σ 0 (st σ 21 (pt (σ 21) 0 (wr ((σ 2) (r * 60 + p) / 8)))) := by
  refine KL_of (rm := rm_L_length) (mL := 5) (b := cL_length) RL rfl (by decide +kernel) [(0, .ref (ea E 0)), (1, .int (iI r)), (2, .int (iI p)), (3, .ref (ea E 21))] rfl (Nat.le_of_ble_eq_true rfl) (fun p_ e_ s_ m_ a_ b_ h_ c_ Q A C htab hret => ?_)
  refine g_aload_n C dL_length_0 3 rfl rfl (q := 1) rfl ?_
  refine g_iconst C dL_length_1 (q := 2) rfl ?_
  refine g_aload_n C dL_length_2 0 rfl rfl (q := 3) rfl ?_
  refine g_iload_n C dL_length_3 1 rfl rfl (q := 4) rfl ?_
  refine g_iload_n C dL_length_4 2 rfl rfl (q := 5) rfl ?_
  refine g_cV_i C (As := [.int (iI r), .int (iI p)]) (c_X4_length l E _ r p  (by assumption) (by assumption) (by assumption) (by assumption)) ml_L_34 mf_X4_length (o := 0) (ci := 4) rfl rfl rfl rfl ⟨(Nat.le_of_ble_eq_true rfl), (Nat.le_of_ble_eq_true rfl)⟩ rfl rfl rfl (Nat.le_of_ble_eq_true rfl) ⟨(Nat.le_of_ble_eq_true rfl), (Nat.le_of_ble_eq_true rfl)⟩ dL_length_5 (q := 8) rfl ?_
  refine g_i2lw C dL_length_8 (q := 9) rfl ?_
  refine gs_21 C dL_length_9 (q := 10) rfl ?_
  refine g_goto C dL_length_10 (q := 17) rfl ?_
  refine g_iconst C dL_length_17 (q := 18) rfl ?_
  exact hret _ _ _ _ _ (Nat.le_of_ble_eq_true rfl) (Nat.le_of_ble_eq_true rfl) dL_length_18 rfl
set_option maxRecDepth 100000 in
set_option maxHeartbeats 4000000 in
theorem c_L_length_11 (l : Launch) (hst : l.stackTraces = false) (E : EV) (σ : SS) (r p : Int) (hr_r : -2147483648 ≤ r ∧ r ≤ 2147483647) (hr_p : -2147483648 ≤ p ∧ p ≤ 2147483647) (hW : CW (σ 2)) (hF1 : fP (σ 2) r p = 1) : KL l yL_length (cwh yL_length cL_length 5 (some .int) th_L_length) rm_L_length E [.ref (ea E 0), .int (iI r), .int (iI p), .ref (ea E 21)] σ 1 σ := by
  refine KL_of (rm := rm_L_length) (mL := 5) (b := cL_length) RL rfl (by decide +kernel) [(0, .ref (ea E 0)), (1, .int (iI r)), (2, .int (iI p)), (3, .ref (ea E 21))] rfl (Nat.le_of_ble_eq_true rfl) (fun p_ e_ s_ m_ a_ b_ h_ c_ Q A C htab hret => ?_)
  refine g_aload_n C dL_length_0 3 rfl rfl (q := 1) rfl ?_
  refine g_iconst C dL_length_1 (q := 2) rfl ?_
  refine g_aload_n C dL_length_2 0 rfl rfl (q := 3) rfl ?_
  refine g_iload_n C dL_length_3 1 rfl rfl (q := 4) rfl ?_
  refine g_iload_n C dL_length_4 2 rfl rfl (q := 5) rfl ?_
  refine g_xVc C (As := [.int (iI r), .int (iI p)]) (x_X4_length_11 l hst E _ r p  (by assumption) (by assumption) (by assumption) (by assumption)) ml_L_34 mf_X4_length (o := 0) (ci := 4) rfl rfl rfl rfl ⟨(Nat.le_of_ble_eq_true rfl), (Nat.le_of_ble_eq_true rfl)⟩ rfl rfl rfl (Nat.le_of_ble_eq_true rfl) ⟨(Nat.le_of_ble_eq_true rfl), (Nat.le_of_ble_eq_true rfl)⟩ dL_length_5 [] ({ startPc := 0, endPc := 10, handlerPc := 13, catchType := 13 }) [] htab (fun _ h => absurd h List.not_mem_nil) (by decide) (by decide) xl_13 xc_IOOBE (q := 13) rfl (fun q9 => ?_)
  refine g_astore C (L' := [(4, .ref q9), (0, .ref (ea E 0)), (1, .int (iI r)), (2, .int (iI p)), (3, .ref (ea E 21))]) dL_length_13 (by decide) rfl (q := 15) rfl ?_
  refine g_iconst C dL_length_15 (q := 16) rfl ?_
  exact hret _ _ _ _ _ (Nat.le_of_ble_eq_true rfl) (Nat.le_of_ble_eq_true rfl) dL_length_16 rfl
abbrev rm_L_colour : Room := { frames := 8, cells := 1, slots := 6, locals := 124 }
set_option maxRecDepth 100000 in
set_option maxHeartbeats 4000000 in
theorem c_L_colour (l : Launch) (hst : l.stackTraces = false) (E : EV) (σ : SS) (r p : Int) (hr_r : -2147483648 ≤ r ∧ r ≤ 2147483647) (hr_p : -2147483648 ≤ p ∧ p ≤ 2147483647) (hW : CW (σ 2)) (hF1 : fP (σ 2) r p = 0) : KL l yL_colour (cwh yL_colour cL_colour 5 (some .int) th_L_colour) rm_L_colour E [.ref (ea E 0), .int (iI r), .int (iI p), .ref (ea E 21)] σ 0 (st σ 21 (pt (σ 21) 0 (wr ((σ 2) (r * 60 + p) % 8)))) := by
  refine KL_of (rm := rm_L_colour) (mL := 5) (b := cL_colour) RL rfl (by decide +kernel) [(0, .ref (ea E 0)), (1, .int (iI r)), (2, .int (iI p)), (3, .ref (ea E 21))] rfl (Nat.le_of_ble_eq_true rfl) (fun p_ e_ s_ m_ a_ b_ h_ c_ Q A C htab hret => ?_)
  refine g_aload_n C dL_colour_0 3 rfl rfl (q := 1) rfl ?_
  refine g_iconst C dL_colour_1 (q := 2) rfl ?_
  refine g_aload_n C dL_colour_2 0 rfl rfl (q := 3) rfl ?_
  refine g_iload_n C dL_colour_3 1 rfl rfl (q := 4) rfl ?_
  refine g_iload_n C dL_colour_4 2 rfl rfl (q := 5) rfl ?_
  refine g_cV_i C (As := [.int (iI r), .int (iI p)]) (c_X4_colour l E _ r p  (by assumption) (by assumption) (by assumption) (by assumption)) ml_L_37 mf_X4_colour (o := 0) (ci := 4) rfl rfl rfl rfl ⟨(Nat.le_of_ble_eq_true rfl), (Nat.le_of_ble_eq_true rfl)⟩ rfl rfl rfl (Nat.le_of_ble_eq_true rfl) ⟨(Nat.le_of_ble_eq_true rfl), (Nat.le_of_ble_eq_true rfl)⟩ dL_colour_5 (q := 8) rfl ?_
  refine g_i2lw C dL_colour_8 (q := 9) rfl ?_
  refine gs_21 C dL_colour_9 (q := 10) rfl ?_
  refine g_goto C dL_colour_10 (q := 17) rfl ?_
  refine g_iconst C dL_colour_17 (q := 18) rfl ?_
  exact hret _ _ _ _ _ (Nat.le_of_ble_eq_true rfl) (Nat.le_of_ble_eq_true rfl) dL_colour_18 rfl
set_option maxRecDepth 100000 in
set_option maxHeartbeats 4000000 in
theorem c_L_colour_11 (l : Launch) (hst : l.stackTraces = false) (E : EV) (σ : SS) (r p : Int) (hr_r : -2147483648 ≤ r ∧ r ≤ 2147483647) (hr_p : -2147483648 ≤ p ∧ p ≤ 2147483647) (hW : CW (σ 2)) (hF1 : fP (σ 2) r p = 1) : KL l yL_colour (cwh yL_colour cL_colour 5 (some .int) th_L_colour) rm_L_colour E [.ref (ea E 0), .int (iI r), .int (iI p), .ref (ea E 21)] σ 1 σ := by
  refine KL_of (rm := rm_L_colour) (mL := 5) (b := cL_colour) RL rfl (by decide +kernel) [(0, .ref (ea E 0)), (1, .int (iI r)), (2, .int (iI p)), (3, .ref (ea E 21))] rfl (Nat.le_of_ble_eq_true rfl) (fun p_ e_ s_ m_ a_ b_ h_ c_ Q A C htab hret => ?_)
  refine g_aload_n C dL_colour_0 3 rfl rfl (q := 1) rfl ?_
  refine g_iconst C dL_colour_1 (q := 2) rfl ?_
  refine g_aload_n C dL_colour_2 0 rfl rfl (q := 3) rfl ?_
  refine g_iload_n C dL_colour_3 1 rfl rfl (q := 4) rfl ?_
  refine g_iload_n C dL_colour_4 2 rfl rfl (q := 5) rfl ?_
  refine g_xVc C (As := [.int (iI r), .int (iI p)]) (x_X4_colour_11 l hst E _ r p  (by assumption) (by assumption) (by assumption) (by assumption)) ml_L_37 mf_X4_colour (o := 0) (ci := 4) rfl rfl rfl rfl ⟨(Nat.le_of_ble_eq_true rfl), (Nat.le_of_ble_eq_true rfl)⟩ rfl rfl rfl (Nat.le_of_ble_eq_true rfl) ⟨(Nat.le_of_ble_eq_true rfl), (Nat.le_of_ble_eq_true rfl)⟩ dL_colour_5 [] ({ startPc := 0, endPc := 10, handlerPc := 13, catchType := 13 }) [] htab (fun _ h => absurd h List.not_mem_nil) (by decide) (by decide) xl_13 xc_IOOBE (q := 13) rfl (fun q9 => ?_)
  refine g_astore C (L' := [(4, .ref q9), (0, .ref (ea E 0)), (1, .int (iI r)), (2, .int (iI p)), (3, .ref (ea E 21))]) dL_colour_13 (by decide) rfl (q := 15) rfl ?_
  refine g_iconst C dL_colour_15 (q := 16) rfl ?_
  exact hret _ _ _ _ _ (Nat.le_of_ble_eq_true rfl) (Nat.le_of_ble_eq_true rfl) dL_colour_16 rfl
abbrev rm_L_cut : Room := { frames := 9, cells := 1, slots := 6, locals := 189 }
set_option maxRecDepth 100000 in
set_option maxHeartbeats 4000000 in
theorem c_L_cut (l : Launch) (hst : l.stackTraces = false) (E : EV) (σ : SS) (r b c : Int) (hr_r : -2147483648 ≤ r ∧ r ≤ 2147483647) (hr_b : -2147483648 ≤ b ∧ b ≤ 2147483647) (hr_c : -2147483648 ≤ c ∧ c ≤ 2147483647) (hW : CW (σ 2)) (hh : 0 ≤ (σ 5 1) ∧ (σ 5 1) < 8 ∧ 0 ≤ (σ 5 2) ∧ (σ 5 2) ≤ 8) (hF : FK (σ 2) 4 r b c 0 = 0) : KL l yL_cut (cwh yL_cut cL_cut 6 (some .int) th_L_cut) rm_L_cut E [.ref (ea E 0), .int (iI r), .int (iI b), .int (iI c), .ref (ea E 21)] σ 0 (st (st (st (st (st σ 2 (refF (opF (σ 2) 4 r b c 0))) 3 (cpf (σ 2) (σ 3) 0 0 310)) 5 (pt (pt (σ 5) 1 (nx8 (σ 5 1))) 2 (min ((σ 5 2) + 1) 8))) 6 (cpf (cpf (σ 2) (σ 3) 0 0 310) (σ 6) 0 ((σ 5 1) * 310) 310)) 21 (pt (σ 21) 0 (wr (opR (σ 2) 4 r b c 0)))) := by
  refine KL_of (rm := rm_L_cut) (mL := 6) (b := cL_cut) RL rfl (by decide +kernel) [(0, .ref (ea E 0)), (1, .int (iI r)), (2, .int (iI b)), (3, .int (iI c)), (4, .ref (ea E 21))] rfl (Nat.le_of_ble_eq_true rfl) (fun p_ e_ s_ m_ a_ b_ h_ c_ Q A C htab hret => ?_)
  refine g_aload C dL_cut_0 4 rfl (q := 2) rfl ?_
  refine g_iconst C dL_cut_2 (q := 3) rfl ?_
  refine g_aload_n C dL_cut_3 0 rfl rfl (q := 4) rfl ?_
  refine g_iload_n C dL_cut_4 1 rfl rfl (q := 5) rfl ?_
  refine g_iload_n C dL_cut_5 2 rfl rfl (q := 6) rfl ?_
  refine g_iload_n C dL_cut_6 3 rfl rfl (q := 7) rfl ?_
  refine g_cV_i C (As := [.int (iI r), .int (iI b), .int (iI c)]) (c_X4_cut l E _ r b c  (by assumption) (by assumption) (by assumption) (by assumption) (by assumption) (by assumption)) ml_L_40 mf_X4_cut (o := 0) (ci := 4) rfl rfl rfl rfl ⟨(Nat.le_of_ble_eq_true rfl), (Nat.le_of_ble_eq_true rfl)⟩ rfl rfl rfl (Nat.le_of_ble_eq_true rfl) ⟨(Nat.le_of_ble_eq_true rfl), (Nat.le_of_ble_eq_true rfl)⟩ dL_cut_7 (q := 10) rfl ?_
  refine g_i2lw C dL_cut_10 (q := 11) rfl ?_
  refine gs_21 C dL_cut_11 (q := 12) rfl ?_
  refine g_st (σ2 := (st (st (st (st (st σ 2 (refF (opF (σ 2) 4 r b c 0))) 3 (cpf (σ 2) (σ 3) 0 0 310)) 5 (pt (pt (σ 5) 1 (nx8 (σ 5 1))) 2 (min ((σ 5 2) + 1) 8))) 6 (cpf (cpf (σ 2) (σ 3) 0 0 310) (σ 6) 0 ((σ 5 1) * 310) 310)) 21 (pt (σ 21) 0 (wr (opR (σ 2) 4 r b c 0))))) rfl ?_
  refine g_goto C dL_cut_12 (q := 27) rfl ?_
  refine g_iconst C dL_cut_27 (q := 28) rfl ?_
  exact hret _ _ _ _ _ (Nat.le_of_ble_eq_true rfl) (Nat.le_of_ble_eq_true rfl) dL_cut_28 rfl
set_option maxRecDepth 100000 in
set_option maxHeartbeats 4000000 in
theorem c_L_cut_1 (l : Launch) (hst : l.stackTraces = false) (E : EV) (σ : SS) (r b c : Int) (hr_r : -2147483648 ≤ r ∧ r ≤ 2147483647) (hr_b : -2147483648 ≤ b ∧ b ≤ 2147483647) (hr_c : -2147483648 ≤ c ∧ c ≤ 2147483647) (hW : CW (σ 2)) (hF : FK (σ 2) 4 r b c 0 = 1) : KL l yL_cut (cwh yL_cut cL_cut 6 (some .int) th_L_cut) rm_L_cut E [.ref (ea E 0), .int (iI r), .int (iI b), .int (iI c), .ref (ea E 21)] σ 1 σ := by
  refine KL_of (rm := rm_L_cut) (mL := 6) (b := cL_cut) RL rfl (by decide +kernel) [(0, .ref (ea E 0)), (1, .int (iI r)), (2, .int (iI b)), (3, .int (iI c)), (4, .ref (ea E 21))] rfl (Nat.le_of_ble_eq_true rfl) (fun p_ e_ s_ m_ a_ b_ h_ c_ Q A C htab hret => ?_)
  refine g_aload C dL_cut_0 4 rfl (q := 2) rfl ?_
  refine g_iconst C dL_cut_2 (q := 3) rfl ?_
  refine g_aload_n C dL_cut_3 0 rfl rfl (q := 4) rfl ?_
  refine g_iload_n C dL_cut_4 1 rfl rfl (q := 5) rfl ?_
  refine g_iload_n C dL_cut_5 2 rfl rfl (q := 6) rfl ?_
  refine g_iload_n C dL_cut_6 3 rfl rfl (q := 7) rfl ?_
  refine g_xVc C (As := [.int (iI r), .int (iI b), .int (iI c)]) (x_X4_cut_1 l hst E _ r b c  (by assumption) (by assumption) (by assumption) (by assumption) (by assumption)) ml_L_40 mf_X4_cut (o := 0) (ci := 4) rfl rfl rfl rfl ⟨(Nat.le_of_ble_eq_true rfl), (Nat.le_of_ble_eq_true rfl)⟩ rfl rfl rfl (Nat.le_of_ble_eq_true rfl) ⟨(Nat.le_of_ble_eq_true rfl), (Nat.le_of_ble_eq_true rfl)⟩ dL_cut_7 [] ({ startPc := 0, endPc := 12, handlerPc := 15, catchType := 13 }) [{ startPc := 0, endPc := 12, handlerPc := 19, catchType := 15 }, { startPc := 0, endPc := 12, handlerPc := 23, catchType := 17 }] htab (fun _ h => absurd h List.not_mem_nil) (by decide) (by decide) xl_13 xc_IOOBE (q := 15) rfl (fun q9 => ?_)
  refine g_astore C (L' := [(5, .ref q9), (0, .ref (ea E 0)), (1, .int (iI r)), (2, .int (iI b)), (3, .int (iI c)), (4, .ref (ea E 21))]) dL_cut_15 (by decide) rfl (q := 17) rfl ?_
  refine g_iconst C dL_cut_17 (q := 18) rfl ?_
  exact hret _ _ _ _ _ (Nat.le_of_ble_eq_true rfl) (Nat.le_of_ble_eq_true rfl) dL_cut_18 rfl
set_option maxRecDepth 100000 in
set_option maxHeartbeats 4000000 in
theorem c_L_cut_2 (l : Launch) (hst : l.stackTraces = false) (E : EV) (σ : SS) (r b c : Int) (hr_r : -2147483648 ≤ r ∧ r ≤ 2147483647) (hr_b : -2147483648 ≤ b ∧ b ≤ 2147483647) (hr_c : -2147483648 ≤ c ∧ c ≤ 2147483647) (hW : CW (σ 2)) (hF : FK (σ 2) 4 r b c 0 = 2) : KL l yL_cut (cwh yL_cut cL_cut 6 (some .int) th_L_cut) rm_L_cut E [.ref (ea E 0), .int (iI r), .int (iI b), .int (iI c), .ref (ea E 21)] σ 2 σ := by
  refine KL_of (rm := rm_L_cut) (mL := 6) (b := cL_cut) RL rfl (by decide +kernel) [(0, .ref (ea E 0)), (1, .int (iI r)), (2, .int (iI b)), (3, .int (iI c)), (4, .ref (ea E 21))] rfl (Nat.le_of_ble_eq_true rfl) (fun p_ e_ s_ m_ a_ b_ h_ c_ Q A C htab hret => ?_)
  refine g_aload C dL_cut_0 4 rfl (q := 2) rfl ?_
  refine g_iconst C dL_cut_2 (q := 3) rfl ?_
  refine g_aload_n C dL_cut_3 0 rfl rfl (q := 4) rfl ?_
  refine g_iload_n C dL_cut_4 1 rfl rfl (q := 5) rfl ?_
  refine g_iload_n C dL_cut_5 2 rfl rfl (q := 6) rfl ?_
  refine g_iload_n C dL_cut_6 3 rfl rfl (q := 7) rfl ?_
  refine g_xVc C (As := [.int (iI r), .int (iI b), .int (iI c)]) (x_X4_cut_2 l hst E _ r b c  (by assumption) (by assumption) (by assumption) (by assumption) (by assumption)) ml_L_40 mf_X4_cut (o := 0) (ci := 4) rfl rfl rfl rfl ⟨(Nat.le_of_ble_eq_true rfl), (Nat.le_of_ble_eq_true rfl)⟩ rfl rfl rfl (Nat.le_of_ble_eq_true rfl) ⟨(Nat.le_of_ble_eq_true rfl), (Nat.le_of_ble_eq_true rfl)⟩ dL_cut_7 [{ startPc := 0, endPc := 12, handlerPc := 15, catchType := 13 }] ({ startPc := 0, endPc := 12, handlerPc := 19, catchType := 15 }) [{ startPc := 0, endPc := 12, handlerPc := 23, catchType := 17 }] htab (List.forall_mem_cons.mpr ⟨Or.inr ⟨by decide, xIOOBE, xl_13, (by simp [ncs])⟩, fun _ h => absurd h List.not_mem_nil⟩) (by decide) (by decide) xl_15 xc_IAE (q := 19) rfl (fun q9 => ?_)
  refine g_astore C (L' := [(5, .ref q9), (0, .ref (ea E 0)), (1, .int (iI r)), (2, .int (iI b)), (3, .int (iI c)), (4, .ref (ea E 21))]) dL_cut_19 (by decide) rfl (q := 21) rfl ?_
  refine g_iconst C dL_cut_21 (q := 22) rfl ?_
  exact hret _ _ _ _ _ (Nat.le_of_ble_eq_true rfl) (Nat.le_of_ble_eq_true rfl) dL_cut_22 rfl
set_option maxRecDepth 100000 in
set_option maxHeartbeats 4000000 in
theorem c_L_cut_3 (l : Launch) (hst : l.stackTraces = false) (E : EV) (σ : SS) (r b c : Int) (hr_r : -2147483648 ≤ r ∧ r ≤ 2147483647) (hr_b : -2147483648 ≤ b ∧ b ≤ 2147483647) (hr_c : -2147483648 ≤ c ∧ c ≤ 2147483647) (hW : CW (σ 2)) (hF : FK (σ 2) 4 r b c 0 = 3) : KL l yL_cut (cwh yL_cut cL_cut 6 (some .int) th_L_cut) rm_L_cut E [.ref (ea E 0), .int (iI r), .int (iI b), .int (iI c), .ref (ea E 21)] σ 3 σ := by
  refine KL_of (rm := rm_L_cut) (mL := 6) (b := cL_cut) RL rfl (by decide +kernel) [(0, .ref (ea E 0)), (1, .int (iI r)), (2, .int (iI b)), (3, .int (iI c)), (4, .ref (ea E 21))] rfl (Nat.le_of_ble_eq_true rfl) (fun p_ e_ s_ m_ a_ b_ h_ c_ Q A C htab hret => ?_)
  refine g_aload C dL_cut_0 4 rfl (q := 2) rfl ?_
  refine g_iconst C dL_cut_2 (q := 3) rfl ?_
  refine g_aload_n C dL_cut_3 0 rfl rfl (q := 4) rfl ?_
  refine g_iload_n C dL_cut_4 1 rfl rfl (q := 5) rfl ?_
  refine g_iload_n C dL_cut_5 2 rfl rfl (q := 6) rfl ?_
  refine g_iload_n C dL_cut_6 3 rfl rfl (q := 7) rfl ?_
  refine g_xVc C (As := [.int (iI r), .int (iI b), .int (iI c)]) (x_X4_cut_3 l hst E _ r b c  (by assumption) (by assumption) (by assumption) (by assumption) (by assumption)) ml_L_40 mf_X4_cut (o := 0) (ci := 4) rfl rfl rfl rfl ⟨(Nat.le_of_ble_eq_true rfl), (Nat.le_of_ble_eq_true rfl)⟩ rfl rfl rfl (Nat.le_of_ble_eq_true rfl) ⟨(Nat.le_of_ble_eq_true rfl), (Nat.le_of_ble_eq_true rfl)⟩ dL_cut_7 [{ startPc := 0, endPc := 12, handlerPc := 15, catchType := 13 }, { startPc := 0, endPc := 12, handlerPc := 19, catchType := 15 }] ({ startPc := 0, endPc := 12, handlerPc := 23, catchType := 17 }) [] htab (List.forall_mem_cons.mpr ⟨Or.inr ⟨by decide, xIOOBE, xl_13, (by simp [ncs])⟩, List.forall_mem_cons.mpr ⟨Or.inr ⟨by decide, xIAE, xl_15, (by simp [ncs])⟩, fun _ h => absurd h List.not_mem_nil⟩⟩) (by decide) (by decide) xl_17 xc_ISE (q := 23) rfl (fun q9 => ?_)
  refine g_astore C (L' := [(5, .ref q9), (0, .ref (ea E 0)), (1, .int (iI r)), (2, .int (iI b)), (3, .int (iI c)), (4, .ref (ea E 21))]) dL_cut_23 (by decide) rfl (q := 25) rfl ?_
  refine g_iconst C dL_cut_25 (q := 26) rfl ?_
  exact hret _ _ _ _ _ (Nat.le_of_ble_eq_true rfl) (Nat.le_of_ble_eq_true rfl) dL_cut_26 rfl
abbrev rm_L_splice : Room := { frames := 9, cells := 1, slots := 6, locals := 188 }
set_option maxRecDepth 100000 in
set_option maxHeartbeats 4000000 in
theorem c_L_splice (l : Launch) (hst : l.stackTraces = false) (E : EV) (σ : SS) (r b : Int) (hr_r : -2147483648 ≤ r ∧ r ≤ 2147483647) (hr_b : -2147483648 ≤ b ∧ b ≤ 2147483647) (hW : CW (σ 2)) (hh : 0 ≤ (σ 5 1) ∧ (σ 5 1) < 8 ∧ 0 ≤ (σ 5 2) ∧ (σ 5 2) ≤ 8) (hF : FK (σ 2) 5 r b 0 0 = 0) : KL l yL_splice (cwh yL_splice cL_splice 5 (some .int) th_L_splice) rm_L_splice E [.ref (ea E 0), .int (iI r), .int (iI b), .ref (ea E 21)] σ 0 (st (st (st (st (st σ 2 (refF (opF (σ 2) 5 r b 0 0))) 3 (cpf (σ 2) (σ 3) 0 0 310)) 5 (pt (pt (σ 5) 1 (nx8 (σ 5 1))) 2 (min ((σ 5 2) + 1) 8))) 6 (cpf (cpf (σ 2) (σ 3) 0 0 310) (σ 6) 0 ((σ 5 1) * 310) 310)) 21 (pt (σ 21) 0 (wr (opR (σ 2) 5 r b 0 0)))) := by
  refine KL_of (rm := rm_L_splice) (mL := 5) (b := cL_splice) RL rfl (by decide +kernel) [(0, .ref (ea E 0)), (1, .int (iI r)), (2, .int (iI b)), (3, .ref (ea E 21))] rfl (Nat.le_of_ble_eq_true rfl) (fun p_ e_ s_ m_ a_ b_ h_ c_ Q A C htab hret => ?_)
  refine g_aload_n C dL_splice_0 3 rfl rfl (q := 1) rfl ?_
  refine g_iconst C dL_splice_1 (q := 2) rfl ?_
  refine g_aload_n C dL_splice_2 0 rfl rfl (q := 3) rfl ?_
  refine g_iload_n C dL_splice_3 1 rfl rfl (q := 4) rfl ?_
  refine g_iload_n C dL_splice_4 2 rfl rfl (q := 5) rfl ?_
  refine g_cV_i C (As := [.int (iI r), .int (iI b)]) (c_X4_splice l E _ r b  (by assumption) (by assumption) (by assumption) (by assumption) (by assumption)) ml_L_43 mf_X4_splice (o := 0) (ci := 4) rfl rfl rfl rfl ⟨(Nat.le_of_ble_eq_true rfl), (Nat.le_of_ble_eq_true rfl)⟩ rfl rfl rfl (Nat.le_of_ble_eq_true rfl) ⟨(Nat.le_of_ble_eq_true rfl), (Nat.le_of_ble_eq_true rfl)⟩ dL_splice_5 (q := 8) rfl ?_
  refine g_i2lw C dL_splice_8 (q := 9) rfl ?_
  refine gs_21 C dL_splice_9 (q := 10) rfl ?_
  refine g_st (σ2 := (st (st (st (st (st σ 2 (refF (opF (σ 2) 5 r b 0 0))) 3 (cpf (σ 2) (σ 3) 0 0 310)) 5 (pt (pt (σ 5) 1 (nx8 (σ 5 1))) 2 (min ((σ 5 2) + 1) 8))) 6 (cpf (cpf (σ 2) (σ 3) 0 0 310) (σ 6) 0 ((σ 5 1) * 310) 310)) 21 (pt (σ 21) 0 (wr (opR (σ 2) 5 r b 0 0))))) rfl ?_
  refine g_goto C dL_splice_10 (q := 25) rfl ?_
  refine g_iconst C dL_splice_25 (q := 26) rfl ?_
  exact hret _ _ _ _ _ (Nat.le_of_ble_eq_true rfl) (Nat.le_of_ble_eq_true rfl) dL_splice_26 rfl
set_option maxRecDepth 100000 in
set_option maxHeartbeats 4000000 in
theorem c_L_splice_1 (l : Launch) (hst : l.stackTraces = false) (E : EV) (σ : SS) (r b : Int) (hr_r : -2147483648 ≤ r ∧ r ≤ 2147483647) (hr_b : -2147483648 ≤ b ∧ b ≤ 2147483647) (hW : CW (σ 2)) (hF : FK (σ 2) 5 r b 0 0 = 1) : KL l yL_splice (cwh yL_splice cL_splice 5 (some .int) th_L_splice) rm_L_splice E [.ref (ea E 0), .int (iI r), .int (iI b), .ref (ea E 21)] σ 1 σ := by
  refine KL_of (rm := rm_L_splice) (mL := 5) (b := cL_splice) RL rfl (by decide +kernel) [(0, .ref (ea E 0)), (1, .int (iI r)), (2, .int (iI b)), (3, .ref (ea E 21))] rfl (Nat.le_of_ble_eq_true rfl) (fun p_ e_ s_ m_ a_ b_ h_ c_ Q A C htab hret => ?_)
  refine g_aload_n C dL_splice_0 3 rfl rfl (q := 1) rfl ?_
  refine g_iconst C dL_splice_1 (q := 2) rfl ?_
  refine g_aload_n C dL_splice_2 0 rfl rfl (q := 3) rfl ?_
  refine g_iload_n C dL_splice_3 1 rfl rfl (q := 4) rfl ?_
  refine g_iload_n C dL_splice_4 2 rfl rfl (q := 5) rfl ?_
  refine g_xVc C (As := [.int (iI r), .int (iI b)]) (x_X4_splice_1 l hst E _ r b  (by assumption) (by assumption) (by assumption) (by assumption)) ml_L_43 mf_X4_splice (o := 0) (ci := 4) rfl rfl rfl rfl ⟨(Nat.le_of_ble_eq_true rfl), (Nat.le_of_ble_eq_true rfl)⟩ rfl rfl rfl (Nat.le_of_ble_eq_true rfl) ⟨(Nat.le_of_ble_eq_true rfl), (Nat.le_of_ble_eq_true rfl)⟩ dL_splice_5 [] ({ startPc := 0, endPc := 10, handlerPc := 13, catchType := 13 }) [{ startPc := 0, endPc := 10, handlerPc := 17, catchType := 15 }, { startPc := 0, endPc := 10, handlerPc := 21, catchType := 17 }] htab (fun _ h => absurd h List.not_mem_nil) (by decide) (by decide) xl_13 xc_IOOBE (q := 13) rfl (fun q9 => ?_)
  refine g_astore C (L' := [(4, .ref q9), (0, .ref (ea E 0)), (1, .int (iI r)), (2, .int (iI b)), (3, .ref (ea E 21))]) dL_splice_13 (by decide) rfl (q := 15) rfl ?_
  refine g_iconst C dL_splice_15 (q := 16) rfl ?_
  exact hret _ _ _ _ _ (Nat.le_of_ble_eq_true rfl) (Nat.le_of_ble_eq_true rfl) dL_splice_16 rfl
set_option maxRecDepth 100000 in
set_option maxHeartbeats 4000000 in
theorem c_L_splice_2 (l : Launch) (hst : l.stackTraces = false) (E : EV) (σ : SS) (r b : Int) (hr_r : -2147483648 ≤ r ∧ r ≤ 2147483647) (hr_b : -2147483648 ≤ b ∧ b ≤ 2147483647) (hW : CW (σ 2)) (hF : FK (σ 2) 5 r b 0 0 = 2) : KL l yL_splice (cwh yL_splice cL_splice 5 (some .int) th_L_splice) rm_L_splice E [.ref (ea E 0), .int (iI r), .int (iI b), .ref (ea E 21)] σ 2 σ := by
  refine KL_of (rm := rm_L_splice) (mL := 5) (b := cL_splice) RL rfl (by decide +kernel) [(0, .ref (ea E 0)), (1, .int (iI r)), (2, .int (iI b)), (3, .ref (ea E 21))] rfl (Nat.le_of_ble_eq_true rfl) (fun p_ e_ s_ m_ a_ b_ h_ c_ Q A C htab hret => ?_)
  refine g_aload_n C dL_splice_0 3 rfl rfl (q := 1) rfl ?_
  refine g_iconst C dL_splice_1 (q := 2) rfl ?_
  refine g_aload_n C dL_splice_2 0 rfl rfl (q := 3) rfl ?_
  refine g_iload_n C dL_splice_3 1 rfl rfl (q := 4) rfl ?_
  refine g_iload_n C dL_splice_4 2 rfl rfl (q := 5) rfl ?_
  refine g_xVc C (As := [.int (iI r), .int (iI b)]) (x_X4_splice_2 l hst E _ r b  (by assumption) (by assumption) (by assumption) (by assumption)) ml_L_43 mf_X4_splice (o := 0) (ci := 4) rfl rfl rfl rfl ⟨(Nat.le_of_ble_eq_true rfl), (Nat.le_of_ble_eq_true rfl)⟩ rfl rfl rfl (Nat.le_of_ble_eq_true rfl) ⟨(Nat.le_of_ble_eq_true rfl), (Nat.le_of_ble_eq_true rfl)⟩ dL_splice_5 [{ startPc := 0, endPc := 10, handlerPc := 13, catchType := 13 }] ({ startPc := 0, endPc := 10, handlerPc := 17, catchType := 15 }) [{ startPc := 0, endPc := 10, handlerPc := 21, catchType := 17 }] htab (List.forall_mem_cons.mpr ⟨Or.inr ⟨by decide, xIOOBE, xl_13, (by simp [ncs])⟩, fun _ h => absurd h List.not_mem_nil⟩) (by decide) (by decide) xl_15 xc_IAE (q := 17) rfl (fun q9 => ?_)
  refine g_astore C (L' := [(4, .ref q9), (0, .ref (ea E 0)), (1, .int (iI r)), (2, .int (iI b)), (3, .ref (ea E 21))]) dL_splice_17 (by decide) rfl (q := 19) rfl ?_
  refine g_iconst C dL_splice_19 (q := 20) rfl ?_
  exact hret _ _ _ _ _ (Nat.le_of_ble_eq_true rfl) (Nat.le_of_ble_eq_true rfl) dL_splice_20 rfl
set_option maxRecDepth 100000 in
set_option maxHeartbeats 4000000 in
theorem c_L_splice_3 (l : Launch) (hst : l.stackTraces = false) (E : EV) (σ : SS) (r b : Int) (hr_r : -2147483648 ≤ r ∧ r ≤ 2147483647) (hr_b : -2147483648 ≤ b ∧ b ≤ 2147483647) (hW : CW (σ 2)) (hF : FK (σ 2) 5 r b 0 0 = 3) : KL l yL_splice (cwh yL_splice cL_splice 5 (some .int) th_L_splice) rm_L_splice E [.ref (ea E 0), .int (iI r), .int (iI b), .ref (ea E 21)] σ 3 σ := by
  refine KL_of (rm := rm_L_splice) (mL := 5) (b := cL_splice) RL rfl (by decide +kernel) [(0, .ref (ea E 0)), (1, .int (iI r)), (2, .int (iI b)), (3, .ref (ea E 21))] rfl (Nat.le_of_ble_eq_true rfl) (fun p_ e_ s_ m_ a_ b_ h_ c_ Q A C htab hret => ?_)
  refine g_aload_n C dL_splice_0 3 rfl rfl (q := 1) rfl ?_
  refine g_iconst C dL_splice_1 (q := 2) rfl ?_
  refine g_aload_n C dL_splice_2 0 rfl rfl (q := 3) rfl ?_
  refine g_iload_n C dL_splice_3 1 rfl rfl (q := 4) rfl ?_
  refine g_iload_n C dL_splice_4 2 rfl rfl (q := 5) rfl ?_
  refine g_xVc C (As := [.int (iI r), .int (iI b)]) (x_X4_splice_3 l hst E _ r b  (by assumption) (by assumption) (by assumption) (by assumption)) ml_L_43 mf_X4_splice (o := 0) (ci := 4) rfl rfl rfl rfl ⟨(Nat.le_of_ble_eq_true rfl), (Nat.le_of_ble_eq_true rfl)⟩ rfl rfl rfl (Nat.le_of_ble_eq_true rfl) ⟨(Nat.le_of_ble_eq_true rfl), (Nat.le_of_ble_eq_true rfl)⟩ dL_splice_5 [{ startPc := 0, endPc := 10, handlerPc := 13, catchType := 13 }, { startPc := 0, endPc := 10, handlerPc := 17, catchType := 15 }] ({ startPc := 0, endPc := 10, handlerPc := 21, catchType := 17 }) [] htab (List.forall_mem_cons.mpr ⟨Or.inr ⟨by decide, xIOOBE, xl_13, (by simp [ncs])⟩, List.forall_mem_cons.mpr ⟨Or.inr ⟨by decide, xIAE, xl_15, (by simp [ncs])⟩, fun _ h => absurd h List.not_mem_nil⟩⟩) (by decide) (by decide) xl_17 xc_ISE (q := 21) rfl (fun q9 => ?_)
  refine g_astore C (L' := [(4, .ref q9), (0, .ref (ea E 0)), (1, .int (iI r)), (2, .int (iI b)), (3, .ref (ea E 21))]) dL_splice_21 (by decide) rfl (q := 23) rfl ?_
  refine g_iconst C dL_splice_23 (q := 24) rfl ?_
  exact hret _ _ _ _ _ (Nat.le_of_ble_eq_true rfl) (Nat.le_of_ble_eq_true rfl) dL_splice_24 rfl
abbrev rm_L_exchange : Room := { frames := 9, cells := 1, slots := 6, locals := 188 }
set_option maxRecDepth 100000 in
set_option maxHeartbeats 4000000 in
theorem c_L_exchange (l : Launch) (hst : l.stackTraces = false) (E : EV) (σ : SS) (r b : Int) (hr_r : -2147483648 ≤ r ∧ r ≤ 2147483647) (hr_b : -2147483648 ≤ b ∧ b ≤ 2147483647) (hW : CW (σ 2)) (hh : 0 ≤ (σ 5 1) ∧ (σ 5 1) < 8 ∧ 0 ≤ (σ 5 2) ∧ (σ 5 2) ≤ 8) (hF : FK (σ 2) 6 r b 0 0 = 0) : KL l yL_exchange (cwh yL_exchange cL_exchange 5 (some .int) th_L_exchange) rm_L_exchange E [.ref (ea E 0), .int (iI r), .int (iI b), .ref (ea E 21)] σ 0 (st (st (st (st (st σ 2 (refF (opF (σ 2) 6 r b 0 0))) 3 (cpf (σ 2) (σ 3) 0 0 310)) 5 (pt (pt (σ 5) 1 (nx8 (σ 5 1))) 2 (min ((σ 5 2) + 1) 8))) 6 (cpf (cpf (σ 2) (σ 3) 0 0 310) (σ 6) 0 ((σ 5 1) * 310) 310)) 21 (pt (σ 21) 0 (wr (opR (σ 2) 6 r b 0 0)))) := by
  refine KL_of (rm := rm_L_exchange) (mL := 5) (b := cL_exchange) RL rfl (by decide +kernel) [(0, .ref (ea E 0)), (1, .int (iI r)), (2, .int (iI b)), (3, .ref (ea E 21))] rfl (Nat.le_of_ble_eq_true rfl) (fun p_ e_ s_ m_ a_ b_ h_ c_ Q A C htab hret => ?_)
  refine g_aload_n C dL_exchange_0 3 rfl rfl (q := 1) rfl ?_
  refine g_iconst C dL_exchange_1 (q := 2) rfl ?_
  refine g_aload_n C dL_exchange_2 0 rfl rfl (q := 3) rfl ?_
  refine g_iload_n C dL_exchange_3 1 rfl rfl (q := 4) rfl ?_
  refine g_iload_n C dL_exchange_4 2 rfl rfl (q := 5) rfl ?_
  refine g_cV_i C (As := [.int (iI r), .int (iI b)]) (c_X4_exchange l E _ r b  (by assumption) (by assumption) (by assumption) (by assumption) (by assumption)) ml_L_46 mf_X4_exchange (o := 0) (ci := 4) rfl rfl rfl rfl ⟨(Nat.le_of_ble_eq_true rfl), (Nat.le_of_ble_eq_true rfl)⟩ rfl rfl rfl (Nat.le_of_ble_eq_true rfl) ⟨(Nat.le_of_ble_eq_true rfl), (Nat.le_of_ble_eq_true rfl)⟩ dL_exchange_5 (q := 8) rfl ?_
  refine g_i2lw C dL_exchange_8 (q := 9) rfl ?_
  refine gs_21 C dL_exchange_9 (q := 10) rfl ?_
  refine g_st (σ2 := (st (st (st (st (st σ 2 (refF (opF (σ 2) 6 r b 0 0))) 3 (cpf (σ 2) (σ 3) 0 0 310)) 5 (pt (pt (σ 5) 1 (nx8 (σ 5 1))) 2 (min ((σ 5 2) + 1) 8))) 6 (cpf (cpf (σ 2) (σ 3) 0 0 310) (σ 6) 0 ((σ 5 1) * 310) 310)) 21 (pt (σ 21) 0 (wr (opR (σ 2) 6 r b 0 0))))) rfl ?_
  refine g_goto C dL_exchange_10 (q := 17) rfl ?_
  refine g_iconst C dL_exchange_17 (q := 18) rfl ?_
  exact hret _ _ _ _ _ (Nat.le_of_ble_eq_true rfl) (Nat.le_of_ble_eq_true rfl) dL_exchange_18 rfl
set_option maxRecDepth 100000 in
set_option maxHeartbeats 4000000 in
theorem c_L_exchange_1 (l : Launch) (hst : l.stackTraces = false) (E : EV) (σ : SS) (r b : Int) (hr_r : -2147483648 ≤ r ∧ r ≤ 2147483647) (hr_b : -2147483648 ≤ b ∧ b ≤ 2147483647) (hW : CW (σ 2)) (hF : FK (σ 2) 6 r b 0 0 = 1) : KL l yL_exchange (cwh yL_exchange cL_exchange 5 (some .int) th_L_exchange) rm_L_exchange E [.ref (ea E 0), .int (iI r), .int (iI b), .ref (ea E 21)] σ 1 σ := by
  refine KL_of (rm := rm_L_exchange) (mL := 5) (b := cL_exchange) RL rfl (by decide +kernel) [(0, .ref (ea E 0)), (1, .int (iI r)), (2, .int (iI b)), (3, .ref (ea E 21))] rfl (Nat.le_of_ble_eq_true rfl) (fun p_ e_ s_ m_ a_ b_ h_ c_ Q A C htab hret => ?_)
  refine g_aload_n C dL_exchange_0 3 rfl rfl (q := 1) rfl ?_
  refine g_iconst C dL_exchange_1 (q := 2) rfl ?_
  refine g_aload_n C dL_exchange_2 0 rfl rfl (q := 3) rfl ?_
  refine g_iload_n C dL_exchange_3 1 rfl rfl (q := 4) rfl ?_
  refine g_iload_n C dL_exchange_4 2 rfl rfl (q := 5) rfl ?_
  refine g_xVc C (As := [.int (iI r), .int (iI b)]) (x_X4_exchange_1 l hst E _ r b  (by assumption) (by assumption) (by assumption) (by assumption)) ml_L_46 mf_X4_exchange (o := 0) (ci := 4) rfl rfl rfl rfl ⟨(Nat.le_of_ble_eq_true rfl), (Nat.le_of_ble_eq_true rfl)⟩ rfl rfl rfl (Nat.le_of_ble_eq_true rfl) ⟨(Nat.le_of_ble_eq_true rfl), (Nat.le_of_ble_eq_true rfl)⟩ dL_exchange_5 [] ({ startPc := 0, endPc := 10, handlerPc := 13, catchType := 13 }) [] htab (fun _ h => absurd h List.not_mem_nil) (by decide) (by decide) xl_13 xc_IOOBE (q := 13) rfl (fun q9 => ?_)
  refine g_astore C (L' := [(4, .ref q9), (0, .ref (ea E 0)), (1, .int (iI r)), (2, .int (iI b)), (3, .ref (ea E 21))]) dL_exchange_13 (by decide) rfl (q := 15) rfl ?_
  refine g_iconst C dL_exchange_15 (q := 16) rfl ?_
  exact hret _ _ _ _ _ (Nat.le_of_ble_eq_true rfl) (Nat.le_of_ble_eq_true rfl) dL_exchange_16 rfl
abbrev rm_L_flip : Room := { frames := 9, cells := 1, slots := 6, locals := 189 }
set_option maxRecDepth 100000 in
set_option maxHeartbeats 4000000 in
theorem c_L_flip (l : Launch) (hst : l.stackTraces = false) (E : EV) (σ : SS) (r b c : Int) (hr_r : -2147483648 ≤ r ∧ r ≤ 2147483647) (hr_b : -2147483648 ≤ b ∧ b ≤ 2147483647) (hr_c : -2147483648 ≤ c ∧ c ≤ 2147483647) (hW : CW (σ 2)) (hh : 0 ≤ (σ 5 1) ∧ (σ 5 1) < 8 ∧ 0 ≤ (σ 5 2) ∧ (σ 5 2) ≤ 8) (hF : FK (σ 2) 7 r b c 0 = 0) : KL l yL_flip (cwh yL_flip cL_flip 6 (some .int) th_L_flip) rm_L_flip E [.ref (ea E 0), .int (iI r), .int (iI b), .int (iI c), .ref (ea E 21)] σ 0 (st (st (st (st (st σ 2 (refF (opF (σ 2) 7 r b c 0))) 3 (cpf (σ 2) (σ 3) 0 0 310)) 5 (pt (pt (σ 5) 1 (nx8 (σ 5 1))) 2 (min ((σ 5 2) + 1) 8))) 6 (cpf (cpf (σ 2) (σ 3) 0 0 310) (σ 6) 0 ((σ 5 1) * 310) 310)) 21 (pt (σ 21) 0 (wr (opR (σ 2) 7 r b c 0)))) := by
  refine KL_of (rm := rm_L_flip) (mL := 6) (b := cL_flip) RL rfl (by decide +kernel) [(0, .ref (ea E 0)), (1, .int (iI r)), (2, .int (iI b)), (3, .int (iI c)), (4, .ref (ea E 21))] rfl (Nat.le_of_ble_eq_true rfl) (fun p_ e_ s_ m_ a_ b_ h_ c_ Q A C htab hret => ?_)
  refine g_aload C dL_flip_0 4 rfl (q := 2) rfl ?_
  refine g_iconst C dL_flip_2 (q := 3) rfl ?_
  refine g_aload_n C dL_flip_3 0 rfl rfl (q := 4) rfl ?_
  refine g_iload_n C dL_flip_4 1 rfl rfl (q := 5) rfl ?_
  refine g_iload_n C dL_flip_5 2 rfl rfl (q := 6) rfl ?_
  refine g_iload_n C dL_flip_6 3 rfl rfl (q := 7) rfl ?_
  refine g_cV_i C (As := [.int (iI r), .int (iI b), .int (iI c)]) (c_X4_flip l E _ r b c  (by assumption) (by assumption) (by assumption) (by assumption) (by assumption) (by assumption)) ml_L_49 mf_X4_flip (o := 0) (ci := 4) rfl rfl rfl rfl ⟨(Nat.le_of_ble_eq_true rfl), (Nat.le_of_ble_eq_true rfl)⟩ rfl rfl rfl (Nat.le_of_ble_eq_true rfl) ⟨(Nat.le_of_ble_eq_true rfl), (Nat.le_of_ble_eq_true rfl)⟩ dL_flip_7 (q := 10) rfl ?_
  refine g_i2lw C dL_flip_10 (q := 11) rfl ?_
  refine gs_21 C dL_flip_11 (q := 12) rfl ?_
  refine g_st (σ2 := (st (st (st (st (st σ 2 (refF (opF (σ 2) 7 r b c 0))) 3 (cpf (σ 2) (σ 3) 0 0 310)) 5 (pt (pt (σ 5) 1 (nx8 (σ 5 1))) 2 (min ((σ 5 2) + 1) 8))) 6 (cpf (cpf (σ 2) (σ 3) 0 0 310) (σ 6) 0 ((σ 5 1) * 310) 310)) 21 (pt (σ 21) 0 (wr (opR (σ 2) 7 r b c 0))))) rfl ?_
  refine g_goto C dL_flip_12 (q := 23) rfl ?_
  refine g_iconst C dL_flip_23 (q := 24) rfl ?_
  exact hret _ _ _ _ _ (Nat.le_of_ble_eq_true rfl) (Nat.le_of_ble_eq_true rfl) dL_flip_24 rfl
set_option maxRecDepth 100000 in
set_option maxHeartbeats 4000000 in
theorem c_L_flip_1 (l : Launch) (hst : l.stackTraces = false) (E : EV) (σ : SS) (r b c : Int) (hr_r : -2147483648 ≤ r ∧ r ≤ 2147483647) (hr_b : -2147483648 ≤ b ∧ b ≤ 2147483647) (hr_c : -2147483648 ≤ c ∧ c ≤ 2147483647) (hW : CW (σ 2)) (hF : FK (σ 2) 7 r b c 0 = 1) : KL l yL_flip (cwh yL_flip cL_flip 6 (some .int) th_L_flip) rm_L_flip E [.ref (ea E 0), .int (iI r), .int (iI b), .int (iI c), .ref (ea E 21)] σ 1 σ := by
  refine KL_of (rm := rm_L_flip) (mL := 6) (b := cL_flip) RL rfl (by decide +kernel) [(0, .ref (ea E 0)), (1, .int (iI r)), (2, .int (iI b)), (3, .int (iI c)), (4, .ref (ea E 21))] rfl (Nat.le_of_ble_eq_true rfl) (fun p_ e_ s_ m_ a_ b_ h_ c_ Q A C htab hret => ?_)
  refine g_aload C dL_flip_0 4 rfl (q := 2) rfl ?_
  refine g_iconst C dL_flip_2 (q := 3) rfl ?_
  refine g_aload_n C dL_flip_3 0 rfl rfl (q := 4) rfl ?_
  refine g_iload_n C dL_flip_4 1 rfl rfl (q := 5) rfl ?_
  refine g_iload_n C dL_flip_5 2 rfl rfl (q := 6) rfl ?_
  refine g_iload_n C dL_flip_6 3 rfl rfl (q := 7) rfl ?_
  refine g_xVc C (As := [.int (iI r), .int (iI b), .int (iI c)]) (x_X4_flip_1 l hst E _ r b c  (by assumption) (by assumption) (by assumption) (by assumption) (by assumption)) ml_L_49 mf_X4_flip (o := 0) (ci := 4) rfl rfl rfl rfl ⟨(Nat.le_of_ble_eq_true rfl), (Nat.le_of_ble_eq_true rfl)⟩ rfl rfl rfl (Nat.le_of_ble_eq_true rfl) ⟨(Nat.le_of_ble_eq_true rfl), (Nat.le_of_ble_eq_true rfl)⟩ dL_flip_7 [] ({ startPc := 0, endPc := 12, handlerPc := 15, catchType := 13 }) [{ startPc := 0, endPc := 12, handlerPc := 19, catchType := 15 }] htab (fun _ h => absurd h List.not_mem_nil) (by decide) (by decide) xl_13 xc_IOOBE (q := 15) rfl (fun q9 => ?_)
  refine g_astore C (L' := [(5, .ref q9), (0, .ref (ea E 0)), (1, .int (iI r)), (2, .int (iI b)), (3, .int (iI c)), (4, .ref (ea E 21))]) dL_flip_15 (by decide) rfl (q := 17) rfl ?_
  refine g_iconst C dL_flip_17 (q := 18) rfl ?_
  exact hret _ _ _ _ _ (Nat.le_of_ble_eq_true rfl) (Nat.le_of_ble_eq_true rfl) dL_flip_18 rfl
set_option maxRecDepth 100000 in
set_option maxHeartbeats 4000000 in
theorem c_L_flip_2 (l : Launch) (hst : l.stackTraces = false) (E : EV) (σ : SS) (r b c : Int) (hr_r : -2147483648 ≤ r ∧ r ≤ 2147483647) (hr_b : -2147483648 ≤ b ∧ b ≤ 2147483647) (hr_c : -2147483648 ≤ c ∧ c ≤ 2147483647) (hW : CW (σ 2)) (hF : FK (σ 2) 7 r b c 0 = 2) : KL l yL_flip (cwh yL_flip cL_flip 6 (some .int) th_L_flip) rm_L_flip E [.ref (ea E 0), .int (iI r), .int (iI b), .int (iI c), .ref (ea E 21)] σ 2 σ := by
  refine KL_of (rm := rm_L_flip) (mL := 6) (b := cL_flip) RL rfl (by decide +kernel) [(0, .ref (ea E 0)), (1, .int (iI r)), (2, .int (iI b)), (3, .int (iI c)), (4, .ref (ea E 21))] rfl (Nat.le_of_ble_eq_true rfl) (fun p_ e_ s_ m_ a_ b_ h_ c_ Q A C htab hret => ?_)
  refine g_aload C dL_flip_0 4 rfl (q := 2) rfl ?_
  refine g_iconst C dL_flip_2 (q := 3) rfl ?_
  refine g_aload_n C dL_flip_3 0 rfl rfl (q := 4) rfl ?_
  refine g_iload_n C dL_flip_4 1 rfl rfl (q := 5) rfl ?_
  refine g_iload_n C dL_flip_5 2 rfl rfl (q := 6) rfl ?_
  refine g_iload_n C dL_flip_6 3 rfl rfl (q := 7) rfl ?_
  refine g_xVc C (As := [.int (iI r), .int (iI b), .int (iI c)]) (x_X4_flip_2 l hst E _ r b c  (by assumption) (by assumption) (by assumption) (by assumption) (by assumption)) ml_L_49 mf_X4_flip (o := 0) (ci := 4) rfl rfl rfl rfl ⟨(Nat.le_of_ble_eq_true rfl), (Nat.le_of_ble_eq_true rfl)⟩ rfl rfl rfl (Nat.le_of_ble_eq_true rfl) ⟨(Nat.le_of_ble_eq_true rfl), (Nat.le_of_ble_eq_true rfl)⟩ dL_flip_7 [{ startPc := 0, endPc := 12, handlerPc := 15, catchType := 13 }] ({ startPc := 0, endPc := 12, handlerPc := 19, catchType := 15 }) [] htab (List.forall_mem_cons.mpr ⟨Or.inr ⟨by decide, xIOOBE, xl_13, (by simp [ncs])⟩, fun _ h => absurd h List.not_mem_nil⟩) (by decide) (by decide) xl_15 xc_IAE (q := 19) rfl (fun q9 => ?_)
  refine g_astore C (L' := [(5, .ref q9), (0, .ref (ea E 0)), (1, .int (iI r)), (2, .int (iI b)), (3, .int (iI c)), (4, .ref (ea E 21))]) dL_flip_19 (by decide) rfl (q := 21) rfl ?_
  refine g_iconst C dL_flip_21 (q := 22) rfl ?_
  exact hret _ _ _ _ _ (Nat.le_of_ble_eq_true rfl) (Nat.le_of_ble_eq_true rfl) dL_flip_22 rfl
abbrev rm_L_dye : Room := { frames := 9, cells := 1, slots := 6, locals := 190 }
set_option maxRecDepth 100000 in
set_option maxHeartbeats 4000000 in
theorem c_L_dye (l : Launch) (hst : l.stackTraces = false) (E : EV) (σ : SS) (r b c d : Int) (hr_r : -2147483648 ≤ r ∧ r ≤ 2147483647) (hr_b : -2147483648 ≤ b ∧ b ≤ 2147483647) (hr_c : -2147483648 ≤ c ∧ c ≤ 2147483647) (hr_d : -2147483648 ≤ d ∧ d ≤ 2147483647) (hW : CW (σ 2)) (hh : 0 ≤ (σ 5 1) ∧ (σ 5 1) < 8 ∧ 0 ≤ (σ 5 2) ∧ (σ 5 2) ≤ 8) (hF : FK (σ 2) 8 r b c d = 0) : KL l yL_dye (cwh yL_dye cL_dye 7 (some .int) th_L_dye) rm_L_dye E [.ref (ea E 0), .int (iI r), .int (iI b), .int (iI c), .int (iI d), .ref (ea E 21)] σ 0 (st (st (st (st (st σ 2 (refF (opF (σ 2) 8 r b c d))) 3 (cpf (σ 2) (σ 3) 0 0 310)) 5 (pt (pt (σ 5) 1 (nx8 (σ 5 1))) 2 (min ((σ 5 2) + 1) 8))) 6 (cpf (cpf (σ 2) (σ 3) 0 0 310) (σ 6) 0 ((σ 5 1) * 310) 310)) 21 (pt (σ 21) 0 (wr (opR (σ 2) 8 r b c d)))) := by
  refine KL_of (rm := rm_L_dye) (mL := 7) (b := cL_dye) RL rfl (by decide +kernel) [(0, .ref (ea E 0)), (1, .int (iI r)), (2, .int (iI b)), (3, .int (iI c)), (4, .int (iI d)), (5, .ref (ea E 21))] rfl (Nat.le_of_ble_eq_true rfl) (fun p_ e_ s_ m_ a_ b_ h_ c_ Q A C htab hret => ?_)
  refine g_aload C dL_dye_0 5 rfl (q := 2) rfl ?_
  refine g_iconst C dL_dye_2 (q := 3) rfl ?_
  refine g_aload_n C dL_dye_3 0 rfl rfl (q := 4) rfl ?_
  refine g_iload_n C dL_dye_4 1 rfl rfl (q := 5) rfl ?_
  refine g_iload_n C dL_dye_5 2 rfl rfl (q := 6) rfl ?_
  refine g_iload_n C dL_dye_6 3 rfl rfl (q := 7) rfl ?_
  refine g_iload C dL_dye_7 4 rfl (q := 9) rfl ?_
  refine g_cV_i C (As := [.int (iI r), .int (iI b), .int (iI c), .int (iI d)]) (c_X4_dye l E _ r b c d  (by assumption) (by assumption) (by assumption) (by assumption) (by assumption) (by assumption) (by assumption)) ml_L_52 mf_X4_dye (o := 0) (ci := 4) rfl rfl rfl rfl ⟨(Nat.le_of_ble_eq_true rfl), (Nat.le_of_ble_eq_true rfl)⟩ rfl rfl rfl (Nat.le_of_ble_eq_true rfl) ⟨(Nat.le_of_ble_eq_true rfl), (Nat.le_of_ble_eq_true rfl)⟩ dL_dye_9 (q := 12) rfl ?_
  refine g_i2lw C dL_dye_12 (q := 13) rfl ?_
  refine gs_21 C dL_dye_13 (q := 14) rfl ?_
  refine g_st (σ2 := (st (st (st (st (st σ 2 (refF (opF (σ 2) 8 r b c d))) 3 (cpf (σ 2) (σ 3) 0 0 310)) 5 (pt (pt (σ 5) 1 (nx8 (σ 5 1))) 2 (min ((σ 5 2) + 1) 8))) 6 (cpf (cpf (σ 2) (σ 3) 0 0 310) (σ 6) 0 ((σ 5 1) * 310) 310)) 21 (pt (σ 21) 0 (wr (opR (σ 2) 8 r b c d))))) rfl ?_
  refine g_goto C dL_dye_14 (q := 25) rfl ?_
  refine g_iconst C dL_dye_25 (q := 26) rfl ?_
  exact hret _ _ _ _ _ (Nat.le_of_ble_eq_true rfl) (Nat.le_of_ble_eq_true rfl) dL_dye_26 rfl
set_option maxRecDepth 100000 in
set_option maxHeartbeats 4000000 in
theorem c_L_dye_1 (l : Launch) (hst : l.stackTraces = false) (E : EV) (σ : SS) (r b c d : Int) (hr_r : -2147483648 ≤ r ∧ r ≤ 2147483647) (hr_b : -2147483648 ≤ b ∧ b ≤ 2147483647) (hr_c : -2147483648 ≤ c ∧ c ≤ 2147483647) (hr_d : -2147483648 ≤ d ∧ d ≤ 2147483647) (hW : CW (σ 2)) (hF : FK (σ 2) 8 r b c d = 1) : KL l yL_dye (cwh yL_dye cL_dye 7 (some .int) th_L_dye) rm_L_dye E [.ref (ea E 0), .int (iI r), .int (iI b), .int (iI c), .int (iI d), .ref (ea E 21)] σ 1 σ := by
  refine KL_of (rm := rm_L_dye) (mL := 7) (b := cL_dye) RL rfl (by decide +kernel) [(0, .ref (ea E 0)), (1, .int (iI r)), (2, .int (iI b)), (3, .int (iI c)), (4, .int (iI d)), (5, .ref (ea E 21))] rfl (Nat.le_of_ble_eq_true rfl) (fun p_ e_ s_ m_ a_ b_ h_ c_ Q A C htab hret => ?_)
  refine g_aload C dL_dye_0 5 rfl (q := 2) rfl ?_
  refine g_iconst C dL_dye_2 (q := 3) rfl ?_
  refine g_aload_n C dL_dye_3 0 rfl rfl (q := 4) rfl ?_
  refine g_iload_n C dL_dye_4 1 rfl rfl (q := 5) rfl ?_
  refine g_iload_n C dL_dye_5 2 rfl rfl (q := 6) rfl ?_
  refine g_iload_n C dL_dye_6 3 rfl rfl (q := 7) rfl ?_
  refine g_iload C dL_dye_7 4 rfl (q := 9) rfl ?_
  refine g_xVc C (As := [.int (iI r), .int (iI b), .int (iI c), .int (iI d)]) (x_X4_dye_1 l hst E _ r b c d  (by assumption) (by assumption) (by assumption) (by assumption) (by assumption) (by assumption)) ml_L_52 mf_X4_dye (o := 0) (ci := 4) rfl rfl rfl rfl ⟨(Nat.le_of_ble_eq_true rfl), (Nat.le_of_ble_eq_true rfl)⟩ rfl rfl rfl (Nat.le_of_ble_eq_true rfl) ⟨(Nat.le_of_ble_eq_true rfl), (Nat.le_of_ble_eq_true rfl)⟩ dL_dye_9 [] ({ startPc := 0, endPc := 14, handlerPc := 17, catchType := 13 }) [{ startPc := 0, endPc := 14, handlerPc := 21, catchType := 15 }] htab (fun _ h => absurd h List.not_mem_nil) (by decide) (by decide) xl_13 xc_IOOBE (q := 17) rfl (fun q9 => ?_)
  refine g_astore C (L' := [(6, .ref q9), (0, .ref (ea E 0)), (1, .int (iI r)), (2, .int (iI b)), (3, .int (iI c)), (4, .int (iI d)), (5, .ref (ea E 21))]) dL_dye_17 (by decide) rfl (q := 19) rfl ?_
  refine g_iconst C dL_dye_19 (q := 20) rfl ?_
  exact hret _ _ _ _ _ (Nat.le_of_ble_eq_true rfl) (Nat.le_of_ble_eq_true rfl) dL_dye_20 rfl
set_option maxRecDepth 100000 in
set_option maxHeartbeats 4000000 in
theorem c_L_dye_2 (l : Launch) (hst : l.stackTraces = false) (E : EV) (σ : SS) (r b c d : Int) (hr_r : -2147483648 ≤ r ∧ r ≤ 2147483647) (hr_b : -2147483648 ≤ b ∧ b ≤ 2147483647) (hr_c : -2147483648 ≤ c ∧ c ≤ 2147483647) (hr_d : -2147483648 ≤ d ∧ d ≤ 2147483647) (hW : CW (σ 2)) (hF : FK (σ 2) 8 r b c d = 2) : KL l yL_dye (cwh yL_dye cL_dye 7 (some .int) th_L_dye) rm_L_dye E [.ref (ea E 0), .int (iI r), .int (iI b), .int (iI c), .int (iI d), .ref (ea E 21)] σ 2 σ := by
  refine KL_of (rm := rm_L_dye) (mL := 7) (b := cL_dye) RL rfl (by decide +kernel) [(0, .ref (ea E 0)), (1, .int (iI r)), (2, .int (iI b)), (3, .int (iI c)), (4, .int (iI d)), (5, .ref (ea E 21))] rfl (Nat.le_of_ble_eq_true rfl) (fun p_ e_ s_ m_ a_ b_ h_ c_ Q A C htab hret => ?_)
  refine g_aload C dL_dye_0 5 rfl (q := 2) rfl ?_
  refine g_iconst C dL_dye_2 (q := 3) rfl ?_
  refine g_aload_n C dL_dye_3 0 rfl rfl (q := 4) rfl ?_
  refine g_iload_n C dL_dye_4 1 rfl rfl (q := 5) rfl ?_
  refine g_iload_n C dL_dye_5 2 rfl rfl (q := 6) rfl ?_
  refine g_iload_n C dL_dye_6 3 rfl rfl (q := 7) rfl ?_
  refine g_iload C dL_dye_7 4 rfl (q := 9) rfl ?_
  refine g_xVc C (As := [.int (iI r), .int (iI b), .int (iI c), .int (iI d)]) (x_X4_dye_2 l hst E _ r b c d  (by assumption) (by assumption) (by assumption) (by assumption) (by assumption) (by assumption)) ml_L_52 mf_X4_dye (o := 0) (ci := 4) rfl rfl rfl rfl ⟨(Nat.le_of_ble_eq_true rfl), (Nat.le_of_ble_eq_true rfl)⟩ rfl rfl rfl (Nat.le_of_ble_eq_true rfl) ⟨(Nat.le_of_ble_eq_true rfl), (Nat.le_of_ble_eq_true rfl)⟩ dL_dye_9 [{ startPc := 0, endPc := 14, handlerPc := 17, catchType := 13 }] ({ startPc := 0, endPc := 14, handlerPc := 21, catchType := 15 }) [] htab (List.forall_mem_cons.mpr ⟨Or.inr ⟨by decide, xIOOBE, xl_13, (by simp [ncs])⟩, fun _ h => absurd h List.not_mem_nil⟩) (by decide) (by decide) xl_15 xc_IAE (q := 21) rfl (fun q9 => ?_)
  refine g_astore C (L' := [(6, .ref q9), (0, .ref (ea E 0)), (1, .int (iI r)), (2, .int (iI b)), (3, .int (iI c)), (4, .int (iI d)), (5, .ref (ea E 21))]) dL_dye_21 (by decide) rfl (q := 23) rfl ?_
  refine g_iconst C dL_dye_23 (q := 24) rfl ?_
  exact hret _ _ _ _ _ (Nat.le_of_ble_eq_true rfl) (Nat.le_of_ble_eq_true rfl) dL_dye_24 rfl
abbrev rm_L_reelLength : Room := { frames := 8, cells := 1, slots := 6, locals := 157 }
set_option maxRecDepth 100000 in
set_option maxHeartbeats 4000000 in
theorem c_L_reelLength (l : Launch) (hst : l.stackTraces = false) (E : EV) (σ : SS) (r : Int) (hr_r : -2147483648 ≤ r ∧ r ≤ 2147483647) (hW : CW (σ 2)) (hF1 : fR r = 0) : KL l yL_reelLength (cwh yL_reelLength cL_reelLength 4 (some .int) th_L_reelLength) rm_L_reelLength E [.ref (ea E 0), .int (iI r), .ref (ea E 21)] σ 0 (st σ 21 (pt (σ 21) 0 (wr (sb (σ 2) r ((σ 2) (240 + r)))))) := by
  refine KL_of (rm := rm_L_reelLength) (mL := 4) (b := cL_reelLength) RL rfl (by decide +kernel) [(0, .ref (ea E 0)), (1, .int (iI r)), (2, .ref (ea E 21))] rfl (Nat.le_of_ble_eq_true rfl) (fun p_ e_ s_ m_ a_ b_ h_ c_ Q A C htab hret => ?_)
  refine g_aload_n C dL_reelLength_0 2 rfl rfl (q := 1) rfl ?_
  refine g_iconst C dL_reelLength_1 (q := 2) rfl ?_
  refine g_aload_n C dL_reelLength_2 0 rfl rfl (q := 3) rfl ?_
  refine g_iload_n C dL_reelLength_3 1 rfl rfl (q := 4) rfl ?_
  refine g_cV_i C (As := [.int (iI r)]) (c_X4_reelLength l E _ r  (by assumption) (by assumption) (by assumption)) ml_L_55 mf_X4_reelLength (o := 0) (ci := 4) rfl rfl rfl rfl ⟨(Nat.le_of_ble_eq_true rfl), (Nat.le_of_ble_eq_true rfl)⟩ rfl rfl rfl (Nat.le_of_ble_eq_true rfl) ⟨(Nat.le_of_ble_eq_true rfl), (Nat.le_of_ble_eq_true rfl)⟩ dL_reelLength_4 (q := 7) rfl ?_
  refine g_i2lw C dL_reelLength_7 (q := 8) rfl ?_
  refine gs_21 C dL_reelLength_8 (q := 9) rfl ?_
  refine g_goto C dL_reelLength_9 (q := 15) rfl ?_
  refine g_iconst C dL_reelLength_15 (q := 16) rfl ?_
  exact hret _ _ _ _ _ (Nat.le_of_ble_eq_true rfl) (Nat.le_of_ble_eq_true rfl) dL_reelLength_16 rfl
set_option maxRecDepth 100000 in
set_option maxHeartbeats 4000000 in
theorem c_L_reelLength_11 (l : Launch) (hst : l.stackTraces = false) (E : EV) (σ : SS) (r : Int) (hr_r : -2147483648 ≤ r ∧ r ≤ 2147483647) (hW : CW (σ 2)) (hF1 : fR r = 1) : KL l yL_reelLength (cwh yL_reelLength cL_reelLength 4 (some .int) th_L_reelLength) rm_L_reelLength E [.ref (ea E 0), .int (iI r), .ref (ea E 21)] σ 1 σ := by
  refine KL_of (rm := rm_L_reelLength) (mL := 4) (b := cL_reelLength) RL rfl (by decide +kernel) [(0, .ref (ea E 0)), (1, .int (iI r)), (2, .ref (ea E 21))] rfl (Nat.le_of_ble_eq_true rfl) (fun p_ e_ s_ m_ a_ b_ h_ c_ Q A C htab hret => ?_)
  refine g_aload_n C dL_reelLength_0 2 rfl rfl (q := 1) rfl ?_
  refine g_iconst C dL_reelLength_1 (q := 2) rfl ?_
  refine g_aload_n C dL_reelLength_2 0 rfl rfl (q := 3) rfl ?_
  refine g_iload_n C dL_reelLength_3 1 rfl rfl (q := 4) rfl ?_
  refine g_xVc C (As := [.int (iI r)]) (x_X4_reelLength_11 l hst E _ r  (by assumption) (by assumption) (by assumption)) ml_L_55 mf_X4_reelLength (o := 0) (ci := 4) rfl rfl rfl rfl ⟨(Nat.le_of_ble_eq_true rfl), (Nat.le_of_ble_eq_true rfl)⟩ rfl rfl rfl (Nat.le_of_ble_eq_true rfl) ⟨(Nat.le_of_ble_eq_true rfl), (Nat.le_of_ble_eq_true rfl)⟩ dL_reelLength_4 [] ({ startPc := 0, endPc := 9, handlerPc := 12, catchType := 13 }) [] htab (fun _ h => absurd h List.not_mem_nil) (by decide) (by decide) xl_13 xc_IOOBE (q := 12) rfl (fun q9 => ?_)
  refine g_astore_n C (L' := [(3, .ref q9), (0, .ref (ea E 0)), (1, .int (iI r)), (2, .ref (ea E 21))]) dL_reelLength_12 rfl (by decide) rfl (q := 13) rfl ?_
  refine g_iconst C dL_reelLength_13 (q := 14) rfl ?_
  exact hret _ _ _ _ _ (Nat.le_of_ble_eq_true rfl) (Nat.le_of_ble_eq_true rfl) dL_reelLength_14 rfl
abbrev rm_L_lengthBefore : Room := { frames := 8, cells := 1, slots := 6, locals := 137 }
set_option maxRecDepth 100000 in
set_option maxHeartbeats 4000000 in
theorem c_L_lengthBefore (l : Launch) (hst : l.stackTraces = false) (E : EV) (σ : SS) (r p : Int) (hr_r : -2147483648 ≤ r ∧ r ≤ 2147483647) (hr_p : -2147483648 ≤ p ∧ p ≤ 2147483647) (hW : CW (σ 2)) (hF1 : fB (σ 2) r p = 0) : KL l yL_lengthBefore (cwh yL_lengthBefore cL_lengthBefore 5 (some .int) th_L_lengthBefore) rm_L_lengthBefore E [.ref (ea E 0), .int (iI r), .int (iI p), .ref (ea E 21)] σ 0 (st σ 21 (pt (σ 21) 0 (wr (sb (σ 2) r p)))) := by
  refine KL_of (rm := rm_L_lengthBefore) (mL := 5) (b := cL_lengthBefore) RL rfl (by decide +kernel) [(0, .ref (ea E 0)), (1, .int (iI r)), (2, .int (iI p)), (3, .ref (ea E 21))] rfl (Nat.le_of_ble_eq_true rfl) (fun p_ e_ s_ m_ a_ b_ h_ c_ Q A C htab hret => ?_)
  refine g_aload_n C dL_lengthBefore_0 3 rfl rfl (q := 1) rfl ?_
  refine g_iconst C dL_lengthBefore_1 (q := 2) rfl ?_
  refine g_aload_n C dL_lengthBefore_2 0 rfl rfl (q := 3) rfl ?_
  refine g_iload_n C dL_lengthBefore_3 1 rfl rfl (q := 4) rfl ?_
  refine g_iload_n C dL_lengthBefore_4 2 rfl rfl (q := 5) rfl ?_
  refine g_cV_i C (As := [.int (iI r), .int (iI p)]) (c_X4_lengthBefore l E _ r p  (by assumption) (by assumption) (by assumption) (by assumption)) ml_L_58 mf_X4_lengthBefore (o := 0) (ci := 4) rfl rfl rfl rfl ⟨(Nat.le_of_ble_eq_true rfl), (Nat.le_of_ble_eq_true rfl)⟩ rfl rfl rfl (Nat.le_of_ble_eq_true rfl) ⟨(Nat.le_of_ble_eq_true rfl), (Nat.le_of_ble_eq_true rfl)⟩ dL_lengthBefore_5 (q := 8) rfl ?_
  refine g_i2lw C dL_lengthBefore_8 (q := 9) rfl ?_
  refine gs_21 C dL_lengthBefore_9 (q := 10) rfl ?_
  refine g_goto C dL_lengthBefore_10 (q := 17) rfl ?_
  refine g_iconst C dL_lengthBefore_17 (q := 18) rfl ?_
  exact hret _ _ _ _ _ (Nat.le_of_ble_eq_true rfl) (Nat.le_of_ble_eq_true rfl) dL_lengthBefore_18 rfl
set_option maxRecDepth 100000 in
set_option maxHeartbeats 4000000 in
theorem c_L_lengthBefore_11 (l : Launch) (hst : l.stackTraces = false) (E : EV) (σ : SS) (r p : Int) (hr_r : -2147483648 ≤ r ∧ r ≤ 2147483647) (hr_p : -2147483648 ≤ p ∧ p ≤ 2147483647) (hW : CW (σ 2)) (hF1 : fB (σ 2) r p = 1) : KL l yL_lengthBefore (cwh yL_lengthBefore cL_lengthBefore 5 (some .int) th_L_lengthBefore) rm_L_lengthBefore E [.ref (ea E 0), .int (iI r), .int (iI p), .ref (ea E 21)] σ 1 σ := by
  refine KL_of (rm := rm_L_lengthBefore) (mL := 5) (b := cL_lengthBefore) RL rfl (by decide +kernel) [(0, .ref (ea E 0)), (1, .int (iI r)), (2, .int (iI p)), (3, .ref (ea E 21))] rfl (Nat.le_of_ble_eq_true rfl) (fun p_ e_ s_ m_ a_ b_ h_ c_ Q A C htab hret => ?_)
  refine g_aload_n C dL_lengthBefore_0 3 rfl rfl (q := 1) rfl ?_
  refine g_iconst C dL_lengthBefore_1 (q := 2) rfl ?_
  refine g_aload_n C dL_lengthBefore_2 0 rfl rfl (q := 3) rfl ?_
  refine g_iload_n C dL_lengthBefore_3 1 rfl rfl (q := 4) rfl ?_
  refine g_iload_n C dL_lengthBefore_4 2 rfl rfl (q := 5) rfl ?_
  refine g_xVc C (As := [.int (iI r), .int (iI p)]) (x_X4_lengthBefore_11 l hst E _ r p  (by assumption) (by assumption) (by assumption) (by assumption)) ml_L_58 mf_X4_lengthBefore (o := 0) (ci := 4) rfl rfl rfl rfl ⟨(Nat.le_of_ble_eq_true rfl), (Nat.le_of_ble_eq_true rfl)⟩ rfl rfl rfl (Nat.le_of_ble_eq_true rfl) ⟨(Nat.le_of_ble_eq_true rfl), (Nat.le_of_ble_eq_true rfl)⟩ dL_lengthBefore_5 [] ({ startPc := 0, endPc := 10, handlerPc := 13, catchType := 13 }) [] htab (fun _ h => absurd h List.not_mem_nil) (by decide) (by decide) xl_13 xc_IOOBE (q := 13) rfl (fun q9 => ?_)
  refine g_astore C (L' := [(4, .ref q9), (0, .ref (ea E 0)), (1, .int (iI r)), (2, .int (iI p)), (3, .ref (ea E 21))]) dL_lengthBefore_13 (by decide) rfl (q := 15) rfl ?_
  refine g_iconst C dL_lengthBefore_15 (q := 16) rfl ?_
  exact hret _ _ _ _ _ (Nat.le_of_ble_eq_true rfl) (Nat.le_of_ble_eq_true rfl) dL_lengthBefore_16 rfl
abbrev rm_L_lengthBeforeByScan : Room := { frames := 8, cells := 1, slots := 6, locals := 124 }
set_option maxRecDepth 100000 in
set_option maxHeartbeats 4000000 in
theorem c_L_lengthBeforeByScan (l : Launch) (hst : l.stackTraces = false) (E : EV) (σ : SS) (r p : Int) (hr_r : -2147483648 ≤ r ∧ r ≤ 2147483647) (hr_p : -2147483648 ≤ p ∧ p ≤ 2147483647) (hW : CW (σ 2)) (hF1 : fB (σ 2) r p = 0) : KL l yL_lengthBeforeByScan (cwh yL_lengthBeforeByScan cL_lengthBeforeByScan 5 (some .int) th_L_lengthBeforeByScan) rm_L_lengthBeforeByScan E [.ref (ea E 0), .int (iI r), .int (iI p), .ref (ea E 21)] σ 0 (st σ 21 (pt (σ 21) 0 (wr (sI (lgs (σ 2) r) 0 (p - 1 + 1))))) := by
  refine KL_of (rm := rm_L_lengthBeforeByScan) (mL := 5) (b := cL_lengthBeforeByScan) RL rfl (by decide +kernel) [(0, .ref (ea E 0)), (1, .int (iI r)), (2, .int (iI p)), (3, .ref (ea E 21))] rfl (Nat.le_of_ble_eq_true rfl) (fun p_ e_ s_ m_ a_ b_ h_ c_ Q A C htab hret => ?_)
  refine g_aload_n C dL_lengthBeforeByScan_0 3 rfl rfl (q := 1) rfl ?_
  refine g_iconst C dL_lengthBeforeByScan_1 (q := 2) rfl ?_
  refine g_aload_n C dL_lengthBeforeByScan_2 0 rfl rfl (q := 3) rfl ?_
  refine g_iload_n C dL_lengthBeforeByScan_3 1 rfl rfl (q := 4) rfl ?_
  refine g_iload_n C dL_lengthBeforeByScan_4 2 rfl rfl (q := 5) rfl ?_
  refine g_cV_i C (As := [.int (iI r), .int (iI p)]) (c_X4_lengthBeforeByScan l E _ r p  (by assumption) (by assumption) (by assumption) (by assumption)) ml_L_61 mf_X4_lengthBeforeByScan (o := 0) (ci := 4) rfl rfl rfl rfl ⟨(Nat.le_of_ble_eq_true rfl), (Nat.le_of_ble_eq_true rfl)⟩ rfl rfl rfl (Nat.le_of_ble_eq_true rfl) ⟨(Nat.le_of_ble_eq_true rfl), (Nat.le_of_ble_eq_true rfl)⟩ dL_lengthBeforeByScan_5 (q := 8) rfl ?_
  refine g_i2lw C dL_lengthBeforeByScan_8 (q := 9) rfl ?_
  refine gs_21 C dL_lengthBeforeByScan_9 (q := 10) rfl ?_
  refine g_goto C dL_lengthBeforeByScan_10 (q := 17) rfl ?_
  refine g_iconst C dL_lengthBeforeByScan_17 (q := 18) rfl ?_
  exact hret _ _ _ _ _ (Nat.le_of_ble_eq_true rfl) (Nat.le_of_ble_eq_true rfl) dL_lengthBeforeByScan_18 rfl
set_option maxRecDepth 100000 in
set_option maxHeartbeats 4000000 in
theorem c_L_lengthBeforeByScan_11 (l : Launch) (hst : l.stackTraces = false) (E : EV) (σ : SS) (r p : Int) (hr_r : -2147483648 ≤ r ∧ r ≤ 2147483647) (hr_p : -2147483648 ≤ p ∧ p ≤ 2147483647) (hW : CW (σ 2)) (hF1 : fB (σ 2) r p = 1) : KL l yL_lengthBeforeByScan (cwh yL_lengthBeforeByScan cL_lengthBeforeByScan 5 (some .int) th_L_lengthBeforeByScan) rm_L_lengthBeforeByScan E [.ref (ea E 0), .int (iI r), .int (iI p), .ref (ea E 21)] σ 1 σ := by
  refine KL_of (rm := rm_L_lengthBeforeByScan) (mL := 5) (b := cL_lengthBeforeByScan) RL rfl (by decide +kernel) [(0, .ref (ea E 0)), (1, .int (iI r)), (2, .int (iI p)), (3, .ref (ea E 21))] rfl (Nat.le_of_ble_eq_true rfl) (fun p_ e_ s_ m_ a_ b_ h_ c_ Q A C htab hret => ?_)
  refine g_aload_n C dL_lengthBeforeByScan_0 3 rfl rfl (q := 1) rfl ?_
  refine g_iconst C dL_lengthBeforeByScan_1 (q := 2) rfl ?_
  refine g_aload_n C dL_lengthBeforeByScan_2 0 rfl rfl (q := 3) rfl ?_
  refine g_iload_n C dL_lengthBeforeByScan_3 1 rfl rfl (q := 4) rfl ?_
  refine g_iload_n C dL_lengthBeforeByScan_4 2 rfl rfl (q := 5) rfl ?_
  refine g_xVc C (As := [.int (iI r), .int (iI p)]) (x_X4_lengthBeforeByScan_11 l hst E _ r p  (by assumption) (by assumption) (by assumption) (by assumption)) ml_L_61 mf_X4_lengthBeforeByScan (o := 0) (ci := 4) rfl rfl rfl rfl ⟨(Nat.le_of_ble_eq_true rfl), (Nat.le_of_ble_eq_true rfl)⟩ rfl rfl rfl (Nat.le_of_ble_eq_true rfl) ⟨(Nat.le_of_ble_eq_true rfl), (Nat.le_of_ble_eq_true rfl)⟩ dL_lengthBeforeByScan_5 [] ({ startPc := 0, endPc := 10, handlerPc := 13, catchType := 13 }) [] htab (fun _ h => absurd h List.not_mem_nil) (by decide) (by decide) xl_13 xc_IOOBE (q := 13) rfl (fun q9 => ?_)
  refine g_astore C (L' := [(4, .ref q9), (0, .ref (ea E 0)), (1, .int (iI r)), (2, .int (iI p)), (3, .ref (ea E 21))]) dL_lengthBeforeByScan_13 (by decide) rfl (q := 15) rfl ?_
  refine g_iconst C dL_lengthBeforeByScan_15 (q := 16) rfl ?_
  exact hret _ _ _ _ _ (Nat.le_of_ble_eq_true rfl) (Nat.le_of_ble_eq_true rfl) dL_lengthBeforeByScan_16 rfl
abbrev rm_L_positionAt : Room := { frames := 8, cells := 1, slots := 6, locals := 124 }
set_option maxRecDepth 100000 in
set_option maxHeartbeats 4000000 in
theorem c_L_positionAt (l : Launch) (hst : l.stackTraces = false) (E : EV) (σ : SS) (r p : Int) (hr_r : -2147483648 ≤ r ∧ r ≤ 2147483647) (hr_p : -2147483648 ≤ p ∧ p ≤ 2147483647) (hW : CW (σ 2)) (hF1 : fR r = 0) (hne : po (σ 2) r p ≠ -1) : KL l yL_positionAt (cwh yL_positionAt cL_positionAt 5 (some .int) th_L_positionAt) rm_L_positionAt E [.ref (ea E 0), .int (iI r), .int (iI p), .ref (ea E 21)] σ 0 (st σ 21 (pt (σ 21) 0 (wr (po (σ 2) r p)))) := by
  refine KL_of (rm := rm_L_positionAt) (mL := 5) (b := cL_positionAt) RL rfl (by decide +kernel) [(0, .ref (ea E 0)), (1, .int (iI r)), (2, .int (iI p)), (3, .ref (ea E 21))] rfl (Nat.le_of_ble_eq_true rfl) (fun p_ e_ s_ m_ a_ b_ h_ c_ Q A C htab hret => ?_)
  refine g_aload_n C dL_positionAt_0 3 rfl rfl (q := 1) rfl ?_
  refine g_iconst C dL_positionAt_1 (q := 2) rfl ?_
  refine g_aload_n C dL_positionAt_2 0 rfl rfl (q := 3) rfl ?_
  refine g_iload_n C dL_positionAt_3 1 rfl rfl (q := 4) rfl ?_
  refine g_iload_n C dL_positionAt_4 2 rfl rfl (q := 5) rfl ?_
  refine g_cV_i C (As := [.int (iI r), .int (iI p)]) (c_X4_positionAt l E _ r p  (by assumption) (by assumption) (by assumption) (by assumption) (by assumption)) ml_L_64 mf_X4_positionAt (o := 0) (ci := 4) rfl rfl rfl rfl ⟨(Nat.le_of_ble_eq_true rfl), (Nat.le_of_ble_eq_true rfl)⟩ rfl rfl rfl (Nat.le_of_ble_eq_true rfl) ⟨(Nat.le_of_ble_eq_true rfl), (Nat.le_of_ble_eq_true rfl)⟩ dL_positionAt_5 (q := 8) rfl ?_
  refine g_i2lw C dL_positionAt_8 (q := 9) rfl ?_
  refine gs_21 C dL_positionAt_9 (q := 10) rfl ?_
  refine g_goto C dL_positionAt_10 (q := 21) rfl ?_
  refine g_iconst C dL_positionAt_21 (q := 22) rfl ?_
  exact hret _ _ _ _ _ (Nat.le_of_ble_eq_true rfl) (Nat.le_of_ble_eq_true rfl) dL_positionAt_22 rfl
set_option maxRecDepth 100000 in
set_option maxHeartbeats 4000000 in
theorem c_L_positionAt_11 (l : Launch) (hst : l.stackTraces = false) (E : EV) (σ : SS) (r p : Int) (hr_r : -2147483648 ≤ r ∧ r ≤ 2147483647) (hr_p : -2147483648 ≤ p ∧ p ≤ 2147483647) (hW : CW (σ 2)) (hF1 : fR r = 1) : KL l yL_positionAt (cwh yL_positionAt cL_positionAt 5 (some .int) th_L_positionAt) rm_L_positionAt E [.ref (ea E 0), .int (iI r), .int (iI p), .ref (ea E 21)] σ 1 σ := by
  refine KL_of (rm := rm_L_positionAt) (mL := 5) (b := cL_positionAt) RL rfl (by decide +kernel) [(0, .ref (ea E 0)), (1, .int (iI r)), (2, .int (iI p)), (3, .ref (ea E 21))] rfl (Nat.le_of_ble_eq_true rfl) (fun p_ e_ s_ m_ a_ b_ h_ c_ Q A C htab hret => ?_)
  refine g_aload_n C dL_positionAt_0 3 rfl rfl (q := 1) rfl ?_
  refine g_iconst C dL_positionAt_1 (q := 2) rfl ?_
  refine g_aload_n C dL_positionAt_2 0 rfl rfl (q := 3) rfl ?_
  refine g_iload_n C dL_positionAt_3 1 rfl rfl (q := 4) rfl ?_
  refine g_iload_n C dL_positionAt_4 2 rfl rfl (q := 5) rfl ?_
  refine g_xVc C (As := [.int (iI r), .int (iI p)]) (x_X4_positionAt_11 l hst E _ r p  (by assumption) (by assumption) (by assumption) (by assumption)) ml_L_64 mf_X4_positionAt (o := 0) (ci := 4) rfl rfl rfl rfl ⟨(Nat.le_of_ble_eq_true rfl), (Nat.le_of_ble_eq_true rfl)⟩ rfl rfl rfl (Nat.le_of_ble_eq_true rfl) ⟨(Nat.le_of_ble_eq_true rfl), (Nat.le_of_ble_eq_true rfl)⟩ dL_positionAt_5 [] ({ startPc := 0, endPc := 10, handlerPc := 13, catchType := 13 }) [{ startPc := 0, endPc := 10, handlerPc := 17, catchType := 67 }] htab (fun _ h => absurd h List.not_mem_nil) (by decide) (by decide) xl_13 xc_IOOBE (q := 13) rfl (fun q9 => ?_)
  refine g_astore C (L' := [(4, .ref q9), (0, .ref (ea E 0)), (1, .int (iI r)), (2, .int (iI p)), (3, .ref (ea E 21))]) dL_positionAt_13 (by decide) rfl (q := 15) rfl ?_
  refine g_iconst C dL_positionAt_15 (q := 16) rfl ?_
  exact hret _ _ _ _ _ (Nat.le_of_ble_eq_true rfl) (Nat.le_of_ble_eq_true rfl) dL_positionAt_16 rfl
set_option maxRecDepth 100000 in
set_option maxHeartbeats 4000000 in
theorem c_L_positionAt_n (l : Launch) (hst : l.stackTraces = false) (E : EV) (σ : SS) (r p : Int) (hr_r : -2147483648 ≤ r ∧ r ≤ 2147483647) (hr_p : -2147483648 ≤ p ∧ p ≤ 2147483647) (hW : CW (σ 2)) (hF1 : fR r = 0) (hne : po (σ 2) r p = -1) : KL l yL_positionAt (cwh yL_positionAt cL_positionAt 5 (some .int) th_L_positionAt) rm_L_positionAt E [.ref (ea E 0), .int (iI r), .int (iI p), .ref (ea E 21)] σ 2 σ := by
  refine KL_of (rm := rm_L_positionAt) (mL := 5) (b := cL_positionAt) RL rfl (by decide +kernel) [(0, .ref (ea E 0)), (1, .int (iI r)), (2, .int (iI p)), (3, .ref (ea E 21))] rfl (Nat.le_of_ble_eq_true rfl) (fun p_ e_ s_ m_ a_ b_ h_ c_ Q A C htab hret => ?_)
  refine g_aload_n C dL_positionAt_0 3 rfl rfl (q := 1) rfl ?_
  refine g_iconst C dL_positionAt_1 (q := 2) rfl ?_
  refine g_aload_n C dL_positionAt_2 0 rfl rfl (q := 3) rfl ?_
  refine g_iload_n C dL_positionAt_3 1 rfl rfl (q := 4) rfl ?_
  refine g_iload_n C dL_positionAt_4 2 rfl rfl (q := 5) rfl ?_
  refine g_xVc C (As := [.int (iI r), .int (iI p)]) (x_X4_positionAt_n l hst E _ r p  (by assumption) (by assumption) (by assumption) (by assumption) (by assumption)) ml_L_64 mf_X4_positionAt (o := 0) (ci := 4) rfl rfl rfl rfl ⟨(Nat.le_of_ble_eq_true rfl), (Nat.le_of_ble_eq_true rfl)⟩ rfl rfl rfl (Nat.le_of_ble_eq_true rfl) ⟨(Nat.le_of_ble_eq_true rfl), (Nat.le_of_ble_eq_true rfl)⟩ dL_positionAt_5 [{ startPc := 0, endPc := 10, handlerPc := 13, catchType := 13 }] ({ startPc := 0, endPc := 10, handlerPc := 17, catchType := 67 }) [] htab (List.forall_mem_cons.mpr ⟨Or.inr ⟨by decide, xIOOBE, xl_13, (by simp [ncs])⟩, fun _ h => absurd h List.not_mem_nil⟩) (by decide) (by decide) xl_67 xc_NSEE (q := 17) rfl (fun q9 => ?_)
  refine g_astore C (L' := [(4, .ref q9), (0, .ref (ea E 0)), (1, .int (iI r)), (2, .int (iI p)), (3, .ref (ea E 21))]) dL_positionAt_17 (by decide) rfl (q := 19) rfl ?_
  refine g_iconst C dL_positionAt_19 (q := 20) rfl ?_
  exact hret _ _ _ _ _ (Nat.le_of_ble_eq_true rfl) (Nat.le_of_ble_eq_true rfl) dL_positionAt_20 rfl
abbrev rm_L_rangeLength : Room := { frames := 8, cells := 1, slots := 6, locals := 125 }
set_option maxRecDepth 100000 in
set_option maxHeartbeats 4000000 in
theorem c_L_rangeLength (l : Launch) (hst : l.stackTraces = false) (E : EV) (σ : SS) (r x y : Int) (hr_r : -2147483648 ≤ r ∧ r ≤ 2147483647) (hr_x : -2147483648 ≤ x ∧ x ≤ 2147483647) (hr_y : -2147483648 ≤ y ∧ y ≤ 2147483647) (hW : CW (σ 2)) (hF1 : fX (σ 2) r x y = 0) : KL l yL_rangeLength (cwh yL_rangeLength cL_rangeLength 6 (some .int) th_L_rangeLength) rm_L_rangeLength E [.ref (ea E 0), .int (iI r), .int (iI x), .int (iI y), .ref (ea E 21)] σ 0 (st σ 21 (pt (σ 21) 0 (wr (sI (lgs (σ 2) r) x (y + 1))))) := by
  refine KL_of (rm := rm_L_rangeLength) (mL := 6) (b := cL_rangeLength) RL rfl (by decide +kernel) [(0, .ref (ea E 0)), (1, .int (iI r)), (2, .int (iI x)), (3, .int (iI y)), (4, .ref (ea E 21))] rfl (Nat.le_of_ble_eq_true rfl) (fun p_ e_ s_ m_ a_ b_ h_ c_ Q A C htab hret => ?_)
  refine g_aload C dL_rangeLength_0 4 rfl (q := 2) rfl ?_
  refine g_iconst C dL_rangeLength_2 (q := 3) rfl ?_
  refine g_aload_n C dL_rangeLength_3 0 rfl rfl (q := 4) rfl ?_
  refine g_iload_n C dL_rangeLength_4 1 rfl rfl (q := 5) rfl ?_
  refine g_iload_n C dL_rangeLength_5 2 rfl rfl (q := 6) rfl ?_
  refine g_iload_n C dL_rangeLength_6 3 rfl rfl (q := 7) rfl ?_
  refine g_cV_i C (As := [.int (iI r), .int (iI x), .int (iI y)]) (c_X4_rangeLength l E _ r x y  (by assumption) (by assumption) (by assumption) (by assumption) (by assumption)) ml_L_69 mf_X4_rangeLength (o := 0) (ci := 4) rfl rfl rfl rfl ⟨(Nat.le_of_ble_eq_true rfl), (Nat.le_of_ble_eq_true rfl)⟩ rfl rfl rfl (Nat.le_of_ble_eq_true rfl) ⟨(Nat.le_of_ble_eq_true rfl), (Nat.le_of_ble_eq_true rfl)⟩ dL_rangeLength_7 (q := 10) rfl ?_
  refine g_i2lw C dL_rangeLength_10 (q := 11) rfl ?_
  refine gs_21 C dL_rangeLength_11 (q := 12) rfl ?_
  refine g_goto C dL_rangeLength_12 (q := 23) rfl ?_
  refine g_iconst C dL_rangeLength_23 (q := 24) rfl ?_
  exact hret _ _ _ _ _ (Nat.le_of_ble_eq_true rfl) (Nat.le_of_ble_eq_true rfl) dL_rangeLength_24 rfl
set_option maxRecDepth 100000 in
set_option maxHeartbeats 4000000 in
theorem c_L_rangeLength_11 (l : Launch) (hst : l.stackTraces = false) (E : EV) (σ : SS) (r x y : Int) (hr_r : -2147483648 ≤ r ∧ r ≤ 2147483647) (hr_x : -2147483648 ≤ x ∧ x ≤ 2147483647) (hr_y : -2147483648 ≤ y ∧ y ≤ 2147483647) (hW : CW (σ 2)) (hF1 : fX (σ 2) r x y = 1) : KL l yL_rangeLength (cwh yL_rangeLength cL_rangeLength 6 (some .int) th_L_rangeLength) rm_L_rangeLength E [.ref (ea E 0), .int (iI r), .int (iI x), .int (iI y), .ref (ea E 21)] σ 1 σ := by
  refine KL_of (rm := rm_L_rangeLength) (mL := 6) (b := cL_rangeLength) RL rfl (by decide +kernel) [(0, .ref (ea E 0)), (1, .int (iI r)), (2, .int (iI x)), (3, .int (iI y)), (4, .ref (ea E 21))] rfl (Nat.le_of_ble_eq_true rfl) (fun p_ e_ s_ m_ a_ b_ h_ c_ Q A C htab hret => ?_)
  refine g_aload C dL_rangeLength_0 4 rfl (q := 2) rfl ?_
  refine g_iconst C dL_rangeLength_2 (q := 3) rfl ?_
  refine g_aload_n C dL_rangeLength_3 0 rfl rfl (q := 4) rfl ?_
  refine g_iload_n C dL_rangeLength_4 1 rfl rfl (q := 5) rfl ?_
  refine g_iload_n C dL_rangeLength_5 2 rfl rfl (q := 6) rfl ?_
  refine g_iload_n C dL_rangeLength_6 3 rfl rfl (q := 7) rfl ?_
  refine g_xVc C (As := [.int (iI r), .int (iI x), .int (iI y)]) (x_X4_rangeLength_11 l hst E _ r x y  (by assumption) (by assumption) (by assumption) (by assumption) (by assumption)) ml_L_69 mf_X4_rangeLength (o := 0) (ci := 4) rfl rfl rfl rfl ⟨(Nat.le_of_ble_eq_true rfl), (Nat.le_of_ble_eq_true rfl)⟩ rfl rfl rfl (Nat.le_of_ble_eq_true rfl) ⟨(Nat.le_of_ble_eq_true rfl), (Nat.le_of_ble_eq_true rfl)⟩ dL_rangeLength_7 [] ({ startPc := 0, endPc := 12, handlerPc := 15, catchType := 13 }) [{ startPc := 0, endPc := 12, handlerPc := 19, catchType := 15 }] htab (fun _ h => absurd h List.not_mem_nil) (by decide) (by decide) xl_13 xc_IOOBE (q := 15) rfl (fun q9 => ?_)
  refine g_astore C (L' := [(5, .ref q9), (0, .ref (ea E 0)), (1, .int (iI r)), (2, .int (iI x)), (3, .int (iI y)), (4, .ref (ea E 21))]) dL_rangeLength_15 (by decide) rfl (q := 17) rfl ?_
  refine g_iconst C dL_rangeLength_17 (q := 18) rfl ?_
  exact hret _ _ _ _ _ (Nat.le_of_ble_eq_true rfl) (Nat.le_of_ble_eq_true rfl) dL_rangeLength_18 rfl
set_option maxRecDepth 100000 in
set_option maxHeartbeats 4000000 in
theorem c_L_rangeLength_12 (l : Launch) (hst : l.stackTraces = false) (E : EV) (σ : SS) (r x y : Int) (hr_r : -2147483648 ≤ r ∧ r ≤ 2147483647) (hr_x : -2147483648 ≤ x ∧ x ≤ 2147483647) (hr_y : -2147483648 ≤ y ∧ y ≤ 2147483647) (hW : CW (σ 2)) (hF1 : fX (σ 2) r x y = 2) : KL l yL_rangeLength (cwh yL_rangeLength cL_rangeLength 6 (some .int) th_L_rangeLength) rm_L_rangeLength E [.ref (ea E 0), .int (iI r), .int (iI x), .int (iI y), .ref (ea E 21)] σ 2 σ := by
  refine KL_of (rm := rm_L_rangeLength) (mL := 6) (b := cL_rangeLength) RL rfl (by decide +kernel) [(0, .ref (ea E 0)), (1, .int (iI r)), (2, .int (iI x)), (3, .int (iI y)), (4, .ref (ea E 21))] rfl (Nat.le_of_ble_eq_true rfl) (fun p_ e_ s_ m_ a_ b_ h_ c_ Q A C htab hret => ?_)
  refine g_aload C dL_rangeLength_0 4 rfl (q := 2) rfl ?_
  refine g_iconst C dL_rangeLength_2 (q := 3) rfl ?_
  refine g_aload_n C dL_rangeLength_3 0 rfl rfl (q := 4) rfl ?_
  refine g_iload_n C dL_rangeLength_4 1 rfl rfl (q := 5) rfl ?_
  refine g_iload_n C dL_rangeLength_5 2 rfl rfl (q := 6) rfl ?_
  refine g_iload_n C dL_rangeLength_6 3 rfl rfl (q := 7) rfl ?_
  refine g_xVc C (As := [.int (iI r), .int (iI x), .int (iI y)]) (x_X4_rangeLength_12 l hst E _ r x y  (by assumption) (by assumption) (by assumption) (by assumption) (by assumption)) ml_L_69 mf_X4_rangeLength (o := 0) (ci := 4) rfl rfl rfl rfl ⟨(Nat.le_of_ble_eq_true rfl), (Nat.le_of_ble_eq_true rfl)⟩ rfl rfl rfl (Nat.le_of_ble_eq_true rfl) ⟨(Nat.le_of_ble_eq_true rfl), (Nat.le_of_ble_eq_true rfl)⟩ dL_rangeLength_7 [{ startPc := 0, endPc := 12, handlerPc := 15, catchType := 13 }] ({ startPc := 0, endPc := 12, handlerPc := 19, catchType := 15 }) [] htab (List.forall_mem_cons.mpr ⟨Or.inr ⟨by decide, xIOOBE, xl_13, (by simp [ncs])⟩, fun _ h => absurd h List.not_mem_nil⟩) (by decide) (by decide) xl_15 xc_IAE (q := 19) rfl (fun q9 => ?_)
  refine g_astore C (L' := [(5, .ref q9), (0, .ref (ea E 0)), (1, .int (iI r)), (2, .int (iI x)), (3, .int (iI y)), (4, .ref (ea E 21))]) dL_rangeLength_19 (by decide) rfl (q := 21) rfl ?_
  refine g_iconst C dL_rangeLength_21 (q := 22) rfl ?_
  exact hret _ _ _ _ _ (Nat.le_of_ble_eq_true rfl) (Nat.le_of_ble_eq_true rfl) dL_rangeLength_22 rfl
abbrev rm_L_longestInRange : Room := { frames := 8, cells := 1, slots := 6, locals := 125 }
set_option maxRecDepth 100000 in
set_option maxHeartbeats 4000000 in
theorem c_L_longestInRange (l : Launch) (hst : l.stackTraces = false) (E : EV) (σ : SS) (r x y : Int) (hr_r : -2147483648 ≤ r ∧ r ≤ 2147483647) (hr_x : -2147483648 ≤ x ∧ x ≤ 2147483647) (hr_y : -2147483648 ≤ y ∧ y ≤ 2147483647) (hW : CW (σ 2)) (hF1 : fX (σ 2) r x y = 0) : KL l yL_longestInRange (cwh yL_longestInRange cL_longestInRange 6 (some .int) th_L_longestInRange) rm_L_longestInRange E [.ref (ea E 0), .int (iI r), .int (iI x), .int (iI y), .ref (ea E 21)] σ 0 (st σ 21 (pt (σ 21) 0 (wr (mI (lgs (σ 2) r) x (x + 1) (y + 1))))) := by
  refine KL_of (rm := rm_L_longestInRange) (mL := 6) (b := cL_longestInRange) RL rfl (by decide +kernel) [(0, .ref (ea E 0)), (1, .int (iI r)), (2, .int (iI x)), (3, .int (iI y)), (4, .ref (ea E 21))] rfl (Nat.le_of_ble_eq_true rfl) (fun p_ e_ s_ m_ a_ b_ h_ c_ Q A C htab hret => ?_)
  refine g_aload C dL_longestInRange_0 4 rfl (q := 2) rfl ?_
  refine g_iconst C dL_longestInRange_2 (q := 3) rfl ?_
  refine g_aload_n C dL_longestInRange_3 0 rfl rfl (q := 4) rfl ?_
  refine g_iload_n C dL_longestInRange_4 1 rfl rfl (q := 5) rfl ?_
  refine g_iload_n C dL_longestInRange_5 2 rfl rfl (q := 6) rfl ?_
  refine g_iload_n C dL_longestInRange_6 3 rfl rfl (q := 7) rfl ?_
  refine g_cV_i C (As := [.int (iI r), .int (iI x), .int (iI y)]) (c_X4_longestInRange l E _ r x y  (by assumption) (by assumption) (by assumption) (by assumption) (by assumption)) ml_L_72 mf_X4_longestInRange (o := 0) (ci := 4) rfl rfl rfl rfl ⟨(Nat.le_of_ble_eq_true rfl), (Nat.le_of_ble_eq_true rfl)⟩ rfl rfl rfl (Nat.le_of_ble_eq_true rfl) ⟨(Nat.le_of_ble_eq_true rfl), (Nat.le_of_ble_eq_true rfl)⟩ dL_longestInRange_7 (q := 10) rfl ?_
  refine g_i2lw C dL_longestInRange_10 (q := 11) rfl ?_
  refine gs_21 C dL_longestInRange_11 (q := 12) rfl ?_
  refine g_goto C dL_longestInRange_12 (q := 23) rfl ?_
  refine g_iconst C dL_longestInRange_23 (q := 24) rfl ?_
  exact hret _ _ _ _ _ (Nat.le_of_ble_eq_true rfl) (Nat.le_of_ble_eq_true rfl) dL_longestInRange_24 rfl
set_option maxRecDepth 100000 in
set_option maxHeartbeats 4000000 in
theorem c_L_longestInRange_11 (l : Launch) (hst : l.stackTraces = false) (E : EV) (σ : SS) (r x y : Int) (hr_r : -2147483648 ≤ r ∧ r ≤ 2147483647) (hr_x : -2147483648 ≤ x ∧ x ≤ 2147483647) (hr_y : -2147483648 ≤ y ∧ y ≤ 2147483647) (hW : CW (σ 2)) (hF1 : fX (σ 2) r x y = 1) : KL l yL_longestInRange (cwh yL_longestInRange cL_longestInRange 6 (some .int) th_L_longestInRange) rm_L_longestInRange E [.ref (ea E 0), .int (iI r), .int (iI x), .int (iI y), .ref (ea E 21)] σ 1 σ := by
  refine KL_of (rm := rm_L_longestInRange) (mL := 6) (b := cL_longestInRange) RL rfl (by decide +kernel) [(0, .ref (ea E 0)), (1, .int (iI r)), (2, .int (iI x)), (3, .int (iI y)), (4, .ref (ea E 21))] rfl (Nat.le_of_ble_eq_true rfl) (fun p_ e_ s_ m_ a_ b_ h_ c_ Q A C htab hret => ?_)
  refine g_aload C dL_longestInRange_0 4 rfl (q := 2) rfl ?_
  refine g_iconst C dL_longestInRange_2 (q := 3) rfl ?_
  refine g_aload_n C dL_longestInRange_3 0 rfl rfl (q := 4) rfl ?_
  refine g_iload_n C dL_longestInRange_4 1 rfl rfl (q := 5) rfl ?_
  refine g_iload_n C dL_longestInRange_5 2 rfl rfl (q := 6) rfl ?_
  refine g_iload_n C dL_longestInRange_6 3 rfl rfl (q := 7) rfl ?_
  refine g_xVc C (As := [.int (iI r), .int (iI x), .int (iI y)]) (x_X4_longestInRange_11 l hst E _ r x y  (by assumption) (by assumption) (by assumption) (by assumption) (by assumption)) ml_L_72 mf_X4_longestInRange (o := 0) (ci := 4) rfl rfl rfl rfl ⟨(Nat.le_of_ble_eq_true rfl), (Nat.le_of_ble_eq_true rfl)⟩ rfl rfl rfl (Nat.le_of_ble_eq_true rfl) ⟨(Nat.le_of_ble_eq_true rfl), (Nat.le_of_ble_eq_true rfl)⟩ dL_longestInRange_7 [] ({ startPc := 0, endPc := 12, handlerPc := 15, catchType := 13 }) [{ startPc := 0, endPc := 12, handlerPc := 19, catchType := 15 }] htab (fun _ h => absurd h List.not_mem_nil) (by decide) (by decide) xl_13 xc_IOOBE (q := 15) rfl (fun q9 => ?_)
  refine g_astore C (L' := [(5, .ref q9), (0, .ref (ea E 0)), (1, .int (iI r)), (2, .int (iI x)), (3, .int (iI y)), (4, .ref (ea E 21))]) dL_longestInRange_15 (by decide) rfl (q := 17) rfl ?_
  refine g_iconst C dL_longestInRange_17 (q := 18) rfl ?_
  exact hret _ _ _ _ _ (Nat.le_of_ble_eq_true rfl) (Nat.le_of_ble_eq_true rfl) dL_longestInRange_18 rfl
set_option maxRecDepth 100000 in
set_option maxHeartbeats 4000000 in
theorem c_L_longestInRange_12 (l : Launch) (hst : l.stackTraces = false) (E : EV) (σ : SS) (r x y : Int) (hr_r : -2147483648 ≤ r ∧ r ≤ 2147483647) (hr_x : -2147483648 ≤ x ∧ x ≤ 2147483647) (hr_y : -2147483648 ≤ y ∧ y ≤ 2147483647) (hW : CW (σ 2)) (hF1 : fX (σ 2) r x y = 2) : KL l yL_longestInRange (cwh yL_longestInRange cL_longestInRange 6 (some .int) th_L_longestInRange) rm_L_longestInRange E [.ref (ea E 0), .int (iI r), .int (iI x), .int (iI y), .ref (ea E 21)] σ 2 σ := by
  refine KL_of (rm := rm_L_longestInRange) (mL := 6) (b := cL_longestInRange) RL rfl (by decide +kernel) [(0, .ref (ea E 0)), (1, .int (iI r)), (2, .int (iI x)), (3, .int (iI y)), (4, .ref (ea E 21))] rfl (Nat.le_of_ble_eq_true rfl) (fun p_ e_ s_ m_ a_ b_ h_ c_ Q A C htab hret => ?_)
  refine g_aload C dL_longestInRange_0 4 rfl (q := 2) rfl ?_
  refine g_iconst C dL_longestInRange_2 (q := 3) rfl ?_
  refine g_aload_n C dL_longestInRange_3 0 rfl rfl (q := 4) rfl ?_
  refine g_iload_n C dL_longestInRange_4 1 rfl rfl (q := 5) rfl ?_
  refine g_iload_n C dL_longestInRange_5 2 rfl rfl (q := 6) rfl ?_
  refine g_iload_n C dL_longestInRange_6 3 rfl rfl (q := 7) rfl ?_
  refine g_xVc C (As := [.int (iI r), .int (iI x), .int (iI y)]) (x_X4_longestInRange_12 l hst E _ r x y  (by assumption) (by assumption) (by assumption) (by assumption) (by assumption)) ml_L_72 mf_X4_longestInRange (o := 0) (ci := 4) rfl rfl rfl rfl ⟨(Nat.le_of_ble_eq_true rfl), (Nat.le_of_ble_eq_true rfl)⟩ rfl rfl rfl (Nat.le_of_ble_eq_true rfl) ⟨(Nat.le_of_ble_eq_true rfl), (Nat.le_of_ble_eq_true rfl)⟩ dL_longestInRange_7 [{ startPc := 0, endPc := 12, handlerPc := 15, catchType := 13 }] ({ startPc := 0, endPc := 12, handlerPc := 19, catchType := 15 }) [] htab (List.forall_mem_cons.mpr ⟨Or.inr ⟨by decide, xIOOBE, xl_13, (by simp [ncs])⟩, fun _ h => absurd h List.not_mem_nil⟩) (by decide) (by decide) xl_15 xc_IAE (q := 19) rfl (fun q9 => ?_)
  refine g_astore C (L' := [(5, .ref q9), (0, .ref (ea E 0)), (1, .int (iI r)), (2, .int (iI x)), (3, .int (iI y)), (4, .ref (ea E 21))]) dL_longestInRange_19 (by decide) rfl (q := 21) rfl ?_
  refine g_iconst C dL_longestInRange_21 (q := 22) rfl ?_
  exact hret _ _ _ _ _ (Nat.le_of_ble_eq_true rfl) (Nat.le_of_ble_eq_true rfl) dL_longestInRange_22 rfl
abbrev rm_L_segmentAtRank : Room := { frames := 8, cells := 1, slots := 6, locals := 136 }
set_option maxRecDepth 100000 in
set_option maxHeartbeats 4000000 in
theorem c_L_segmentAtRank (l : Launch) (hst : l.stackTraces = false) (E : EV) (σ : SS) (r p : Int) (hr_r : -2147483648 ≤ r ∧ r ≤ 2147483647) (hr_p : -2147483648 ≤ p ∧ p ≤ 2147483647) (hW : CW (σ 2)) (hF1 : fR r = 0) (hne : fI (rkP (σ 2) r p) 0 ((σ 2) (240 + r)) ≠ -1) : KL l yL_segmentAtRank (cwh yL_segmentAtRank cL_segmentAtRank 5 (some .int) th_L_segmentAtRank) rm_L_segmentAtRank E [.ref (ea E 0), .int (iI r), .int (iI p), .ref (ea E 21)] σ 0 (st σ 21 (pt (σ 21) 0 (wr (fI (rkP (σ 2) r p) 0 ((σ 2) (240 + r)))))) := by
  refine KL_of (rm := rm_L_segmentAtRank) (mL := 5) (b := cL_segmentAtRank) RL rfl (by decide +kernel) [(0, .ref (ea E 0)), (1, .int (iI r)), (2, .int (iI p)), (3, .ref (ea E 21))] rfl (Nat.le_of_ble_eq_true rfl) (fun p_ e_ s_ m_ a_ b_ h_ c_ Q A C htab hret => ?_)
  refine g_aload_n C dL_segmentAtRank_0 3 rfl rfl (q := 1) rfl ?_
  refine g_iconst C dL_segmentAtRank_1 (q := 2) rfl ?_
  refine g_aload_n C dL_segmentAtRank_2 0 rfl rfl (q := 3) rfl ?_
  refine g_iload_n C dL_segmentAtRank_3 1 rfl rfl (q := 4) rfl ?_
  refine g_iload_n C dL_segmentAtRank_4 2 rfl rfl (q := 5) rfl ?_
  refine g_cV_i C (As := [.int (iI r), .int (iI p)]) (c_X4_segmentAtRank l E _ r p  (by assumption) (by assumption) (by assumption) (by assumption) (by assumption)) ml_L_75 mf_X4_segmentAtRank (o := 0) (ci := 4) rfl rfl rfl rfl ⟨(Nat.le_of_ble_eq_true rfl), (Nat.le_of_ble_eq_true rfl)⟩ rfl rfl rfl (Nat.le_of_ble_eq_true rfl) ⟨(Nat.le_of_ble_eq_true rfl), (Nat.le_of_ble_eq_true rfl)⟩ dL_segmentAtRank_5 (q := 8) rfl ?_
  refine g_i2lw C dL_segmentAtRank_8 (q := 9) rfl ?_
  refine gs_21 C dL_segmentAtRank_9 (q := 10) rfl ?_
  refine g_goto C dL_segmentAtRank_10 (q := 21) rfl ?_
  refine g_iconst C dL_segmentAtRank_21 (q := 22) rfl ?_
  exact hret _ _ _ _ _ (Nat.le_of_ble_eq_true rfl) (Nat.le_of_ble_eq_true rfl) dL_segmentAtRank_22 rfl
set_option maxRecDepth 100000 in
set_option maxHeartbeats 4000000 in
theorem c_L_segmentAtRank_11 (l : Launch) (hst : l.stackTraces = false) (E : EV) (σ : SS) (r p : Int) (hr_r : -2147483648 ≤ r ∧ r ≤ 2147483647) (hr_p : -2147483648 ≤ p ∧ p ≤ 2147483647) (hW : CW (σ 2)) (hF1 : fR r = 1) : KL l yL_segmentAtRank (cwh yL_segmentAtRank cL_segmentAtRank 5 (some .int) th_L_segmentAtRank) rm_L_segmentAtRank E [.ref (ea E 0), .int (iI r), .int (iI p), .ref (ea E 21)] σ 1 σ := by
  refine KL_of (rm := rm_L_segmentAtRank) (mL := 5) (b := cL_segmentAtRank) RL rfl (by decide +kernel) [(0, .ref (ea E 0)), (1, .int (iI r)), (2, .int (iI p)), (3, .ref (ea E 21))] rfl (Nat.le_of_ble_eq_true rfl) (fun p_ e_ s_ m_ a_ b_ h_ c_ Q A C htab hret => ?_)
  refine g_aload_n C dL_segmentAtRank_0 3 rfl rfl (q := 1) rfl ?_
  refine g_iconst C dL_segmentAtRank_1 (q := 2) rfl ?_
  refine g_aload_n C dL_segmentAtRank_2 0 rfl rfl (q := 3) rfl ?_
  refine g_iload_n C dL_segmentAtRank_3 1 rfl rfl (q := 4) rfl ?_
  refine g_iload_n C dL_segmentAtRank_4 2 rfl rfl (q := 5) rfl ?_
  refine g_xVc C (As := [.int (iI r), .int (iI p)]) (x_X4_segmentAtRank_11 l hst E _ r p  (by assumption) (by assumption) (by assumption) (by assumption)) ml_L_75 mf_X4_segmentAtRank (o := 0) (ci := 4) rfl rfl rfl rfl ⟨(Nat.le_of_ble_eq_true rfl), (Nat.le_of_ble_eq_true rfl)⟩ rfl rfl rfl (Nat.le_of_ble_eq_true rfl) ⟨(Nat.le_of_ble_eq_true rfl), (Nat.le_of_ble_eq_true rfl)⟩ dL_segmentAtRank_5 [] ({ startPc := 0, endPc := 10, handlerPc := 13, catchType := 13 }) [{ startPc := 0, endPc := 10, handlerPc := 17, catchType := 67 }] htab (fun _ h => absurd h List.not_mem_nil) (by decide) (by decide) xl_13 xc_IOOBE (q := 13) rfl (fun q9 => ?_)
  refine g_astore C (L' := [(4, .ref q9), (0, .ref (ea E 0)), (1, .int (iI r)), (2, .int (iI p)), (3, .ref (ea E 21))]) dL_segmentAtRank_13 (by decide) rfl (q := 15) rfl ?_
  refine g_iconst C dL_segmentAtRank_15 (q := 16) rfl ?_
  exact hret _ _ _ _ _ (Nat.le_of_ble_eq_true rfl) (Nat.le_of_ble_eq_true rfl) dL_segmentAtRank_16 rfl
set_option maxRecDepth 100000 in
set_option maxHeartbeats 4000000 in
theorem c_L_segmentAtRank_n (l : Launch) (hst : l.stackTraces = false) (E : EV) (σ : SS) (r p : Int) (hr_r : -2147483648 ≤ r ∧ r ≤ 2147483647) (hr_p : -2147483648 ≤ p ∧ p ≤ 2147483647) (hW : CW (σ 2)) (hF1 : fR r = 0) (hne : fI (rkP (σ 2) r p) 0 ((σ 2) (240 + r)) = -1) : KL l yL_segmentAtRank (cwh yL_segmentAtRank cL_segmentAtRank 5 (some .int) th_L_segmentAtRank) rm_L_segmentAtRank E [.ref (ea E 0), .int (iI r), .int (iI p), .ref (ea E 21)] σ 2 σ := by
  refine KL_of (rm := rm_L_segmentAtRank) (mL := 5) (b := cL_segmentAtRank) RL rfl (by decide +kernel) [(0, .ref (ea E 0)), (1, .int (iI r)), (2, .int (iI p)), (3, .ref (ea E 21))] rfl (Nat.le_of_ble_eq_true rfl) (fun p_ e_ s_ m_ a_ b_ h_ c_ Q A C htab hret => ?_)
  refine g_aload_n C dL_segmentAtRank_0 3 rfl rfl (q := 1) rfl ?_
  refine g_iconst C dL_segmentAtRank_1 (q := 2) rfl ?_
  refine g_aload_n C dL_segmentAtRank_2 0 rfl rfl (q := 3) rfl ?_
  refine g_iload_n C dL_segmentAtRank_3 1 rfl rfl (q := 4) rfl ?_
  refine g_iload_n C dL_segmentAtRank_4 2 rfl rfl (q := 5) rfl ?_
  refine g_xVc C (As := [.int (iI r), .int (iI p)]) (x_X4_segmentAtRank_n l hst E _ r p  (by assumption) (by assumption) (by assumption) (by assumption) (by assumption)) ml_L_75 mf_X4_segmentAtRank (o := 0) (ci := 4) rfl rfl rfl rfl ⟨(Nat.le_of_ble_eq_true rfl), (Nat.le_of_ble_eq_true rfl)⟩ rfl rfl rfl (Nat.le_of_ble_eq_true rfl) ⟨(Nat.le_of_ble_eq_true rfl), (Nat.le_of_ble_eq_true rfl)⟩ dL_segmentAtRank_5 [{ startPc := 0, endPc := 10, handlerPc := 13, catchType := 13 }] ({ startPc := 0, endPc := 10, handlerPc := 17, catchType := 67 }) [] htab (List.forall_mem_cons.mpr ⟨Or.inr ⟨by decide, xIOOBE, xl_13, (by simp [ncs])⟩, fun _ h => absurd h List.not_mem_nil⟩) (by decide) (by decide) xl_67 xc_NSEE (q := 17) rfl (fun q9 => ?_)
  refine g_astore C (L' := [(4, .ref q9), (0, .ref (ea E 0)), (1, .int (iI r)), (2, .int (iI p)), (3, .ref (ea E 21))]) dL_segmentAtRank_17 (by decide) rfl (q := 19) rfl ?_
  refine g_iconst C dL_segmentAtRank_19 (q := 20) rfl ?_
  exact hret _ _ _ _ _ (Nat.le_of_ble_eq_true rfl) (Nat.le_of_ble_eq_true rfl) dL_segmentAtRank_20 rfl
abbrev rm_L_tangleCount : Room := { frames := 8, cells := 1, slots := 6, locals := 131 }
set_option maxRecDepth 100000 in
set_option maxHeartbeats 4000000 in
theorem c_L_tangleCount (l : Launch) (hst : l.stackTraces = false) (E : EV) (σ : SS) (r : Int) (hr_r : -2147483648 ≤ r ∧ r ≤ 2147483647) (hW : CW (σ 2)) (hF1 : fR r = 0) : KL l yL_tangleCount (cwh yL_tangleCount cL_tangleCount 4 (some .int) th_L_tangleCount) rm_L_tangleCount E [.ref (ea E 0), .int (iI r), .ref (ea E 21)] σ 0 (st σ 21 (pt (σ 21) 0 (wr (tt (σ 2) r)))) := by
  refine KL_of (rm := rm_L_tangleCount) (mL := 4) (b := cL_tangleCount) RL rfl (by decide +kernel) [(0, .ref (ea E 0)), (1, .int (iI r)), (2, .ref (ea E 21))] rfl (Nat.le_of_ble_eq_true rfl) (fun p_ e_ s_ m_ a_ b_ h_ c_ Q A C htab hret => ?_)
  refine g_aload_n C dL_tangleCount_0 2 rfl rfl (q := 1) rfl ?_
  refine g_iconst C dL_tangleCount_1 (q := 2) rfl ?_
  refine g_aload_n C dL_tangleCount_2 0 rfl rfl (q := 3) rfl ?_
  refine g_iload_n C dL_tangleCount_3 1 rfl rfl (q := 4) rfl ?_
  refine g_cV_i C (As := [.int (iI r)]) (c_X4_tangleCount l E _ r  (by assumption) (by assumption) (by assumption)) ml_L_78 mf_X4_tangleCount (o := 0) (ci := 4) rfl rfl rfl rfl ⟨(Nat.le_of_ble_eq_true rfl), (Nat.le_of_ble_eq_true rfl)⟩ rfl rfl rfl (Nat.le_of_ble_eq_true rfl) ⟨(Nat.le_of_ble_eq_true rfl), (Nat.le_of_ble_eq_true rfl)⟩ dL_tangleCount_4 (q := 7) rfl ?_
  refine g_i2lw C dL_tangleCount_7 (q := 8) rfl ?_
  refine gs_21 C dL_tangleCount_8 (q := 9) rfl ?_
  refine g_goto C dL_tangleCount_9 (q := 15) rfl ?_
  refine g_iconst C dL_tangleCount_15 (q := 16) rfl ?_
  exact hret _ _ _ _ _ (Nat.le_of_ble_eq_true rfl) (Nat.le_of_ble_eq_true rfl) dL_tangleCount_16 rfl
set_option maxRecDepth 100000 in
set_option maxHeartbeats 4000000 in
theorem c_L_tangleCount_11 (l : Launch) (hst : l.stackTraces = false) (E : EV) (σ : SS) (r : Int) (hr_r : -2147483648 ≤ r ∧ r ≤ 2147483647) (hW : CW (σ 2)) (hF1 : fR r = 1) : KL l yL_tangleCount (cwh yL_tangleCount cL_tangleCount 4 (some .int) th_L_tangleCount) rm_L_tangleCount E [.ref (ea E 0), .int (iI r), .ref (ea E 21)] σ 1 σ := by
  refine KL_of (rm := rm_L_tangleCount) (mL := 4) (b := cL_tangleCount) RL rfl (by decide +kernel) [(0, .ref (ea E 0)), (1, .int (iI r)), (2, .ref (ea E 21))] rfl (Nat.le_of_ble_eq_true rfl) (fun p_ e_ s_ m_ a_ b_ h_ c_ Q A C htab hret => ?_)
  refine g_aload_n C dL_tangleCount_0 2 rfl rfl (q := 1) rfl ?_
  refine g_iconst C dL_tangleCount_1 (q := 2) rfl ?_
  refine g_aload_n C dL_tangleCount_2 0 rfl rfl (q := 3) rfl ?_
  refine g_iload_n C dL_tangleCount_3 1 rfl rfl (q := 4) rfl ?_
  refine g_xVc C (As := [.int (iI r)]) (x_X4_tangleCount_11 l hst E _ r  (by assumption) (by assumption) (by assumption)) ml_L_78 mf_X4_tangleCount (o := 0) (ci := 4) rfl rfl rfl rfl ⟨(Nat.le_of_ble_eq_true rfl), (Nat.le_of_ble_eq_true rfl)⟩ rfl rfl rfl (Nat.le_of_ble_eq_true rfl) ⟨(Nat.le_of_ble_eq_true rfl), (Nat.le_of_ble_eq_true rfl)⟩ dL_tangleCount_4 [] ({ startPc := 0, endPc := 9, handlerPc := 12, catchType := 13 }) [] htab (fun _ h => absurd h List.not_mem_nil) (by decide) (by decide) xl_13 xc_IOOBE (q := 12) rfl (fun q9 => ?_)
  refine g_astore_n C (L' := [(3, .ref q9), (0, .ref (ea E 0)), (1, .int (iI r)), (2, .ref (ea E 21))]) dL_tangleCount_12 rfl (by decide) rfl (q := 13) rfl ?_
  refine g_iconst C dL_tangleCount_13 (q := 14) rfl ?_
  exact hret _ _ _ _ _ (Nat.le_of_ble_eq_true rfl) (Nat.le_of_ble_eq_true rfl) dL_tangleCount_14 rfl
abbrev rm_L_tangleCountByScan : Room := { frames := 8, cells := 1, slots := 6, locals := 131 }
set_option maxRecDepth 100000 in
set_option maxHeartbeats 4000000 in
theorem c_L_tangleCountByScan (l : Launch) (hst : l.stackTraces = false) (E : EV) (σ : SS) (r : Int) (hr_r : -2147483648 ≤ r ∧ r ≤ 2147483647) (hW : CW (σ 2)) (hF1 : fR r = 0) : KL l yL_tangleCountByScan (cwh yL_tangleCountByScan cL_tangleCountByScan 4 (some .int) th_L_tangleCountByScan) rm_L_tangleCountByScan E [.ref (ea E 0), .int (iI r), .ref (ea E 21)] σ 0 (st σ 21 (pt (σ 21) 0 (wr (tbs (σ 2) r)))) := by
  refine KL_of (rm := rm_L_tangleCountByScan) (mL := 4) (b := cL_tangleCountByScan) RL rfl (by decide +kernel) [(0, .ref (ea E 0)), (1, .int (iI r)), (2, .ref (ea E 21))] rfl (Nat.le_of_ble_eq_true rfl) (fun p_ e_ s_ m_ a_ b_ h_ c_ Q A C htab hret => ?_)
  refine g_aload_n C dL_tangleCountByScan_0 2 rfl rfl (q := 1) rfl ?_
  refine g_iconst C dL_tangleCountByScan_1 (q := 2) rfl ?_
  refine g_aload_n C dL_tangleCountByScan_2 0 rfl rfl (q := 3) rfl ?_
  refine g_iload_n C dL_tangleCountByScan_3 1 rfl rfl (q := 4) rfl ?_
  refine g_cV_i C (As := [.int (iI r)]) (c_X4_tangleCountByScan l E _ r  (by assumption) (by assumption) (by assumption)) ml_L_81 mf_X4_tangleCountByScan (o := 0) (ci := 4) rfl rfl rfl rfl ⟨(Nat.le_of_ble_eq_true rfl), (Nat.le_of_ble_eq_true rfl)⟩ rfl rfl rfl (Nat.le_of_ble_eq_true rfl) ⟨(Nat.le_of_ble_eq_true rfl), (Nat.le_of_ble_eq_true rfl)⟩ dL_tangleCountByScan_4 (q := 7) rfl ?_
  refine g_i2lw C dL_tangleCountByScan_7 (q := 8) rfl ?_
  refine gs_21 C dL_tangleCountByScan_8 (q := 9) rfl ?_
  refine g_goto C dL_tangleCountByScan_9 (q := 15) rfl ?_
  refine g_iconst C dL_tangleCountByScan_15 (q := 16) rfl ?_
  exact hret _ _ _ _ _ (Nat.le_of_ble_eq_true rfl) (Nat.le_of_ble_eq_true rfl) dL_tangleCountByScan_16 rfl
set_option maxRecDepth 100000 in
set_option maxHeartbeats 4000000 in
theorem c_L_tangleCountByScan_11 (l : Launch) (hst : l.stackTraces = false) (E : EV) (σ : SS) (r : Int) (hr_r : -2147483648 ≤ r ∧ r ≤ 2147483647) (hW : CW (σ 2)) (hF1 : fR r = 1) : KL l yL_tangleCountByScan (cwh yL_tangleCountByScan cL_tangleCountByScan 4 (some .int) th_L_tangleCountByScan) rm_L_tangleCountByScan E [.ref (ea E 0), .int (iI r), .ref (ea E 21)] σ 1 σ := by
  refine KL_of (rm := rm_L_tangleCountByScan) (mL := 4) (b := cL_tangleCountByScan) RL rfl (by decide +kernel) [(0, .ref (ea E 0)), (1, .int (iI r)), (2, .ref (ea E 21))] rfl (Nat.le_of_ble_eq_true rfl) (fun p_ e_ s_ m_ a_ b_ h_ c_ Q A C htab hret => ?_)
  refine g_aload_n C dL_tangleCountByScan_0 2 rfl rfl (q := 1) rfl ?_
  refine g_iconst C dL_tangleCountByScan_1 (q := 2) rfl ?_
  refine g_aload_n C dL_tangleCountByScan_2 0 rfl rfl (q := 3) rfl ?_
  refine g_iload_n C dL_tangleCountByScan_3 1 rfl rfl (q := 4) rfl ?_
  refine g_xVc C (As := [.int (iI r)]) (x_X4_tangleCountByScan_11 l hst E _ r  (by assumption) (by assumption) (by assumption)) ml_L_81 mf_X4_tangleCountByScan (o := 0) (ci := 4) rfl rfl rfl rfl ⟨(Nat.le_of_ble_eq_true rfl), (Nat.le_of_ble_eq_true rfl)⟩ rfl rfl rfl (Nat.le_of_ble_eq_true rfl) ⟨(Nat.le_of_ble_eq_true rfl), (Nat.le_of_ble_eq_true rfl)⟩ dL_tangleCountByScan_4 [] ({ startPc := 0, endPc := 9, handlerPc := 12, catchType := 13 }) [] htab (fun _ h => absurd h List.not_mem_nil) (by decide) (by decide) xl_13 xc_IOOBE (q := 12) rfl (fun q9 => ?_)
  refine g_astore_n C (L' := [(3, .ref q9), (0, .ref (ea E 0)), (1, .int (iI r)), (2, .ref (ea E 21))]) dL_tangleCountByScan_12 rfl (by decide) rfl (q := 13) rfl ?_
  refine g_iconst C dL_tangleCountByScan_13 (q := 14) rfl ?_
  exact hret _ _ _ _ _ (Nat.le_of_ble_eq_true rfl) (Nat.le_of_ble_eq_true rfl) dL_tangleCountByScan_14 rfl
