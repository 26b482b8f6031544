set_option maxRecDepth 100000 in
set_option maxHeartbeats 4000000 in
theorem lc_30 {p : Program} {l : Launch} {e : Env} {s : State} {m : MethodId} {args : Array Value} {below : List Frame} {meth : Method} {c : Code} {E : EV} {A : Nat → Prop} {Q : State → Prop} {σ : SS} {k n : Nat} {bS N : Nat} {xs : Nat → Int32} (hst : l.stackTraces = false) (C : CX p l e room_1 s m args below meth c RL cL_law 9 E A (some .boolean)) (hX : SX bS N xs s A) (hkn : k + 1 ≤ room_1.cells ∧ n + 6 ≤ room_1.slots) (i : Int) (hi : 0 ≤ i ∧ i + 5 ≤ N) (hI : INV σ) (K : ∀ σ2 : SS, INV σ2 → GG p l e room_1 s m args below meth c Q E A 9 σ2 (k + 1) (n + 6) 2912 [(0, .ref bS), (1, .ref (ea E 0)), (2, .ref (ea E 13)), (3, .ref (ea E 21)), (4, .ref (ea E 22)), (5, .int (iI i))] []) : GG p l e room_1 s m args below meth c Q E A 9 σ k n 2303 [(0, .ref bS), (1, .ref (ea E 0)), (2, .ref (ea E 13)), (3, .ref (ea E 21)), (4, .ref (ea E 22)), (5, .int (iI i))] [] := by
  have hM := hI.1.2
  have hP := hI.1.1
  have hW := hM.1
  have hH := hI.2.2.1.2.1
  have hK5 := hI.2.2.1.1
  have hN9 := hX.2.2.2
  have hkn0 : k ≤ room_1.cells ∧ n ≤ room_1.slots := ⟨Nat.le_of_succ_le hkn.1, Nat.le_trans (Nat.le_add_right n 6) hkn.2⟩
  refine g_aload_n C dL_law_2303 1 rfl rfl (q := 2304) rfl ?_
  refine g_cV_i C (As := []) (c_X4_cutCount l E _) ml_L_252 mf_X4_cutCount (o := 0) (ci := 4) rfl rfl rfl rfl ⟨(Nat.le_of_ble_eq_true rfl), (Nat.le_of_ble_eq_true rfl)⟩ rfl rfl rfl (Nat.le_of_ble_eq_true rfl) hkn0 dL_law_2304 (q := 2307) rfl ?_
  refine g_aload_n C dL_law_2307 2 rfl rfl (q := 2308) rfl ?_
  refine g_cV_i C (As := []) (c_X5_cutCount l E _) ml_L_255 mf_X5_cutCount (o := 13) (ci := 5) rfl rfl rfl rfl ⟨(Nat.le_of_ble_eq_true rfl), (Nat.le_of_ble_eq_true rfl)⟩ rfl rfl rfl (Nat.le_of_ble_eq_true rfl) hkn0 dL_law_2308 (q := 2311) rfl ?_
  refine g_icmp_eqR C (by exact hM.2.2.1.symm) dL_law_2311 (q2 := 2912) rfl ?_
  refine g_wide (Nat.le_succ k) (Nat.le_add_right n 6) ?_
  exact K _ (by exact hI)
set_option maxRecDepth 100000 in
set_option maxHeartbeats 4000000 in
theorem lc_31 {p : Program} {l : Launch} {e : Env} {s : State} {m : MethodId} {args : Array Value} {below : List Frame} {meth : Method} {c : Code} {E : EV} {A : Nat → Prop} {Q : State → Prop} {σ : SS} {k n : Nat} {bS N : Nat} {xs : Nat → Int32} (hst : l.stackTraces = false) (C : CX p l e room_1 s m args below meth c RL cL_law 9 E A (some .boolean)) (hX : SX bS N xs s A) (hkn : k + 1 ≤ room_1.cells ∧ n + 6 ≤ room_1.slots) (i : Int) (hi : 0 ≤ i ∧ i + 5 ≤ N) (hI : INV σ) (K : ∀ σ2 : SS, INV σ2 → GG p l e room_1 s m args below meth c Q E A 9 σ2 (k + 1) (n + 6) 2912 [(0, .ref bS), (1, .ref (ea E 0)), (2, .ref (ea E 13)), (3, .ref (ea E 21)), (4, .ref (ea E 22)), (5, .int (iI i))] []) : GG p l e room_1 s m args below meth c Q E A 9 σ k n 2316 [(0, .ref bS), (1, .ref (ea E 0)), (2, .ref (ea E 13)), (3, .ref (ea E 21)), (4, .ref (ea E 22)), (5, .int (iI i))] [] := by
  have hM := hI.1.2
  have hP := hI.1.1
  have hW := hM.1
  have hH := hI.2.2.1.2.1
  have hK5 := hI.2.2.1.1
  have hN9 := hX.2.2.2
  have hkn0 : k ≤ room_1.cells ∧ n ≤ room_1.slots := ⟨Nat.le_of_succ_le hkn.1, Nat.le_trans (Nat.le_add_right n 6) hkn.2⟩
  refine g_aload_n C dL_law_2316 1 rfl rfl (q := 2317) rfl ?_
  refine g_cV_i C (As := []) (c_X4_spliceCount l E _) ml_L_256 mf_X4_spliceCount (o := 0) (ci := 4) rfl rfl rfl rfl ⟨(Nat.le_of_ble_eq_true rfl), (Nat.le_of_ble_eq_true rfl)⟩ rfl rfl rfl (Nat.le_of_ble_eq_true rfl) hkn0 dL_law_2317 (q := 2320) rfl ?_
  refine g_aload_n C dL_law_2320 2 rfl rfl (q := 2321) rfl ?_
  refine g_cV_i C (As := []) (c_X5_spliceCount l E _) ml_L_259 mf_X5_spliceCount (o := 13) (ci := 5) rfl rfl rfl rfl ⟨(Nat.le_of_ble_eq_true rfl), (Nat.le_of_ble_eq_true rfl)⟩ rfl rfl rfl (Nat.le_of_ble_eq_true rfl) hkn0 dL_law_2321 (q := 2324) rfl ?_
  refine g_icmp_eqR C (by exact hM.2.2.2.symm) dL_law_2324 (q2 := 2912) rfl ?_
  refine g_wide (Nat.le_succ k) (Nat.le_add_right n 6) ?_
  exact K _ (by exact hI)
set_option maxRecDepth 100000 in
set_option maxHeartbeats 4000000 in
theorem lc_32 {p : Program} {l : Launch} {e : Env} {s : State} {m : MethodId} {args : Array Value} {below : List Frame} {meth : Method} {c : Code} {E : EV} {A : Nat → Prop} {Q : State → Prop} {σ : SS} {k n : Nat} {bS N : Nat} {xs : Nat → Int32} (hst : l.stackTraces = false) (C : CX p l e room_1 s m args below meth c RL cL_law 9 E A (some .boolean)) (hX : SX bS N xs s A) (hkn : k + 1 ≤ room_1.cells ∧ n + 6 ≤ room_1.slots) (i : Int) (hi : 0 ≤ i ∧ i + 5 ≤ N) (hI : INV σ) (K : ∀ σ2 : SS, INV σ2 → GG p l e room_1 s m args below meth c Q E A 9 σ2 (k + 1) (n + 6) 2912 [(0, .ref bS), (1, .ref (ea E 0)), (2, .ref (ea E 13)), (3, .ref (ea E 21)), (4, .ref (ea E 22)), (5, .int (iI i))] []) : GG p l e room_1 s m args below meth c Q E A 9 σ k n 2329 [(0, .ref bS), (1, .ref (ea E 0)), (2, .ref (ea E 13)), (3, .ref (ea E 21)), (4, .ref (ea E 22)), (5, .int (iI i))] [] := by
  have hM := hI.1.2
  have hP := hI.1.1
  have hW := hM.1
  have hH := hI.2.2.1.2.1
  have hK5 := hI.2.2.1.1
  have hN9 := hX.2.2.2
  have hkn0 : k ≤ room_1.cells ∧ n ≤ room_1.slots := ⟨Nat.le_of_succ_le hkn.1, Nat.le_trans (Nat.le_add_right n 6) hkn.2⟩
  obtain ⟨v, hv1⟩ : ∃ v, scr xs (i + 1) = v := ⟨_, rfl⟩
  obtain ⟨c, hc9⟩ : ∃ c, v % 65536 = c := ⟨_, rfl⟩
  have hT9 := hI.2.2.2.1
  have hT8 := hT9.1
  have hT7 := hT9.2.1.1
  refine g_aload_n C dL_law_2329 1 rfl rfl (q := 2330) rfl ?_
  refine g_aload_n C dL_law_2330 0 rfl rfl (q := 2331) rfl ?_
  refine g_iload C dL_law_2331 5 rfl (q := 2333) rfl ?_
  refine g_iconst C dL_law_2333 (q := 2334) rfl ?_
  refine g_iadd C dL_law_2334 (q := 2335) rfl ?_
  refine g_scr C hX (j := i + 1) (by omega) dL_law_2335 (q := 2336) rfl ?_
  refine g_top (b := v) hv1 ?_
  refine g_i2c C dL_law_2336 (q := 2337) rfl ?_
  refine g_top (b := c) hc9 ?_
  refine g_aload_n C dL_law_2337 3 rfl rfl (q := 2338) rfl ?_
  rcases (show ((32 ≤ c ∧ c ≤ 126) ∧ (0 ≤ (σ 7 1) ∧ (σ 7 1) < 60)) ∨ ((0 ≤ c ∧ c < 65536) ∧ (¬ (32 ≤ c ∧ c ≤ 126))) ∨ ((32 ≤ c ∧ c ≤ 126) ∧ ((σ 7 1) = 60)) by omega) with ⟨hq0, hq1⟩ | ⟨hq0, hq1⟩ | ⟨hq0, hq1⟩
  · skip
    refine g_cL C (hh := th_L_type) (As := [.ref (ea E 0), .int (iI c), .ref (ea E 21)]) (c_L_type l hst E _ c  (by assumption) (by assumption)) ml_L_260 mf_L_type rfl ⟨(Nat.le_of_ble_eq_true rfl), (Nat.le_of_ble_eq_true rfl)⟩ rfl rfl rfl (Nat.le_of_ble_eq_true rfl) hkn dL_law_2338 (q := 2341) rfl ?_
    refine g_istore C (L' := [(6, .int (iI 0)), (0, .ref bS), (1, .ref (ea E 0)), (2, .ref (ea E 13)), (3, .ref (ea E 21)), (4, .ref (ea E 22)), (5, .int (iI i))]) dL_law_2341 (by decide) rfl (q := 2343) rfl ?_
    refine g_aload_n C dL_law_2343 3 rfl rfl (q := 2344) rfl ?_
    refine g_aload_n C dL_law_2344 1 rfl rfl (q := 2345) rfl ?_
    refine g_iload C dL_law_2345 6 rfl (q := 2347) rfl ?_
    refine g_iconst C dL_law_2347 (q := 2348) rfl ?_
    refine g_iadd C dL_law_2348 (q := 2349) rfl ?_
    refine g_scr C hX (j := i + 1) (by omega) dL_law_2349 (q := 2350) rfl ?_
    refine g_top (b := v) hv1 ?_
    refine g_i2c C dL_law_2350 (q := 2351) rfl ?_
    refine g_top (b := c) hc9 ?_
    refine g_cV_i C (As := [.int (iI c)]) (c_X5_type l E _ c  (by omega) (by show 0 ≤ (σ 13 10) ∧ (σ 13 10) < 60; omega)) ml_L_263 mf_X5_type (o := 13) (ci := 5) rfl rfl rfl rfl ⟨(Nat.le_of_ble_eq_true rfl), (Nat.le_of_ble_eq_true rfl)⟩ rfl rfl rfl (Nat.le_of_ble_eq_true rfl) hkn dL_law_2351 (q := 2354) rfl ?_
    refine g_top (b := (σ 13 10) + 1) rfl ?_
    refine g_st (σ2 := (st (st (st (st (st σ 7 (pt (σ 7) 1 ((σ 7 1) + 1))) 8 (pt (σ 8) (σ 7 1) c)) 13 (pt (pt (σ 13) 0 0) 10 ((σ 13 10) + 1))) 18 (pt (σ 18) (σ 13 10) c)) 21 (pt (σ 21) 0 (wr ((σ 7 1) + 1))))) ((congrArg (fun g9 => st g9 18 (pt (σ 18) (σ 13 10) c)) (st_cm (st (st σ 7 (pt (σ 7) 1 ((σ 7 1) + 1))) 8 (pt (σ 8) (σ 7 1) c)) (o := 21) (q := 13) (pt (σ 21) 0 (wr ((σ 7 1) + 1))) (pt (pt (σ 13) 0 0) 10 ((σ 13 10) + 1)) (by decide))).trans (st_cm (st (st (st σ 7 (pt (σ 7) 1 ((σ 7 1) + 1))) 8 (pt (σ 8) (σ 7 1) c)) 13 (pt (pt (σ 13) 0 0) 10 ((σ 13 10) + 1))) (o := 21) (q := 18) (pt (σ 21) 0 (wr ((σ 7 1) + 1))) (pt (σ 18) (σ 13 10) c) (by decide))) ?_
    refine g_istore C (L' := [(7, .int (iI ((σ 13 10) + 1))), (6, .int (iI 0)), (0, .ref bS), (1, .ref (ea E 0)), (2, .ref (ea E 13)), (3, .ref (ea E 21)), (4, .ref (ea E 22)), (5, .int (iI i))]) dL_law_2354 (by decide) rfl (q := 2356) rfl ?_
    refine g_aload_n C dL_law_2356 4 rfl rfl (q := 2357) rfl ?_
    refine g_cV_i C (As := []) (c_X5_thrown l E _) ml_L_157 mf_X5_thrown (o := 13) (ci := 5) rfl rfl rfl rfl ⟨(Nat.le_of_ble_eq_true rfl), (Nat.le_of_ble_eq_true rfl)⟩ rfl rfl rfl (Nat.le_of_ble_eq_true rfl) hkn dL_law_2357 (q := 2360) rfl ?_
    refine g_top (b := 0) rfl ?_
    refine g_iload C dL_law_2360 1 rfl (q := 2362) rfl ?_
    refine g_icmp_eq C dL_law_2362 (by omega) (q2 := 2367) rfl (q := 2365) rfl (fun hb2 => ?_) (fun hb2 => ?_)
    · skip
      refine g_iload C dL_law_2367 1 rfl (q := 2369) rfl ?_
      refine g_if_ne C dL_law_2369 (by omega) (q2 := 2384) rfl (q := 2372) rfl (fun hb3 => ?_) (fun hb3 => ?_)
      · skip
        exfalso; omega
      · skip
        refine g_aload_n C dL_law_2372 5 rfl rfl (q := 2373) rfl ?_
        refine g_iconst C dL_law_2373 (q := 2374) rfl ?_
        refine gl_21 C dL_law_2374 (q := 2375) rfl ?_
        refine g_topl (b := (wr ((σ 7 1) + 1))) (show (pt (σ 21) 0 (wr ((σ 7 1) + 1))) 0 = (wr ((σ 7 1) + 1)) from pt_s _ _ _) ?_
        refine g_iload C dL_law_2375 0 rfl (q := 2377) rfl ?_
        refine g_i2lw C dL_law_2377 (q := 2378) rfl ?_
        refine g_lcmpE C (by rw [hT8]) dL_law_2378 (q := 2379) rfl ?_
        refine g_if_eq C dL_law_2379 (by omega) (q2 := 2384) rfl (q := 2382) rfl (fun hb4 => ?_) (fun hb4 => ?_)
        · skip
          refine g_goto C dL_law_2384 (q := 2912) rfl ?_
          refine g_sub [2, 3, 4, 5, 6, 7] (L' := [(0, .ref bS), (1, .ref (ea E 0)), (2, .ref (ea E 13)), (3, .ref (ea E 21)), (4, .ref (ea E 22)), (5, .int (iI i))]) rfl ?_
          exact K _ (by exact ⟨hI.1, hI.2.1, hI.2.2.1, TXW_add hT9 (by omega) hq0, hI.2.2.2.2⟩)
        · skip
          exfalso; omega
    · skip
      exfalso; omega
  · skip
    refine g_cL C (hh := th_L_type) (As := [.ref (ea E 0), .int (iI c), .ref (ea E 21)]) (c_L_type_1 l hst E _ c  (by assumption) (by assumption)) ml_L_260 mf_L_type rfl ⟨(Nat.le_of_ble_eq_true rfl), (Nat.le_of_ble_eq_true rfl)⟩ rfl rfl rfl (Nat.le_of_ble_eq_true rfl) hkn dL_law_2338 (q := 2341) rfl ?_
    refine g_istore C (L' := [(6, .int (iI 1)), (0, .ref bS), (1, .ref (ea E 0)), (2, .ref (ea E 13)), (3, .ref (ea E 21)), (4, .ref (ea E 22)), (5, .int (iI i))]) dL_law_2341 (by decide) rfl (q := 2343) rfl ?_
    refine g_aload_n C dL_law_2343 3 rfl rfl (q := 2344) rfl ?_
    refine g_aload_n C dL_law_2344 1 rfl rfl (q := 2345) rfl ?_
    refine g_iload C dL_law_2345 6 rfl (q := 2347) rfl ?_
    refine g_iconst C dL_law_2347 (q := 2348) rfl ?_
    refine g_iadd C dL_law_2348 (q := 2349) rfl ?_
    refine g_scr C hX (j := i + 1) (by omega) dL_law_2349 (q := 2350) rfl ?_
    refine g_top (b := v) hv1 ?_
    refine g_i2c C dL_law_2350 (q := 2351) rfl ?_
    refine g_top (b := c) hc9 ?_
    refine g_cV_i C (As := [.int (iI c)]) (c_X5_type_1 l E _ c  (by omega) (by omega)) ml_L_263 mf_X5_type (o := 13) (ci := 5) rfl rfl rfl rfl ⟨(Nat.le_of_ble_eq_true rfl), (Nat.le_of_ble_eq_true rfl)⟩ rfl rfl rfl (Nat.le_of_ble_eq_true rfl) hkn dL_law_2351 (q := 2354) rfl ?_
    refine g_istore C (L' := [(7, .int (iI 0)), (6, .int (iI 1)), (0, .ref bS), (1, .ref (ea E 0)), (2, .ref (ea E 13)), (3, .ref (ea E 21)), (4, .ref (ea E 22)), (5, .int (iI i))]) dL_law_2354 (by decide) rfl (q := 2356) rfl ?_
    refine g_aload_n C dL_law_2356 4 rfl rfl (q := 2357) rfl ?_
    refine g_cV_i C (As := []) (c_X5_thrown l E _) ml_L_157 mf_X5_thrown (o := 13) (ci := 5) rfl rfl rfl rfl ⟨(Nat.le_of_ble_eq_true rfl), (Nat.le_of_ble_eq_true rfl)⟩ rfl rfl rfl (Nat.le_of_ble_eq_true rfl) hkn dL_law_2357 (q := 2360) rfl ?_
    refine g_top (b := 1) rfl ?_
    refine g_iload C dL_law_2360 1 rfl (q := 2362) rfl ?_
    refine g_icmp_eq C dL_law_2362 (by omega) (q2 := 2367) rfl (q := 2365) rfl (fun hb5 => ?_) (fun hb5 => ?_)
    · skip
      refine g_iload C dL_law_2367 1 rfl (q := 2369) rfl ?_
      refine g_if_ne C dL_law_2369 (by omega) (q2 := 2384) rfl (q := 2372) rfl (fun hb6 => ?_) (fun hb6 => ?_)
      · skip
        refine g_goto C dL_law_2384 (q := 2912) rfl ?_
        refine g_sub [2, 3, 4, 5, 6, 7] (L' := [(0, .ref bS), (1, .ref (ea E 0)), (2, .ref (ea E 13)), (3, .ref (ea E 21)), (4, .ref (ea E 22)), (5, .int (iI i))]) rfl ?_
        exact K _ (by exact hI)
      · skip
        exfalso; omega
    · skip
      exfalso; omega
  · skip
    refine g_cL C (hh := th_L_type) (As := [.ref (ea E 0), .int (iI c), .ref (ea E 21)]) (c_L_type_2 l hst E _ c  (by assumption) (by assumption)) ml_L_260 mf_L_type rfl ⟨(Nat.le_of_ble_eq_true rfl), (Nat.le_of_ble_eq_true rfl)⟩ rfl rfl rfl (Nat.le_of_ble_eq_true rfl) hkn dL_law_2338 (q := 2341) rfl ?_
    refine g_istore C (L' := [(6, .int (iI 2)), (0, .ref bS), (1, .ref (ea E 0)), (2, .ref (ea E 13)), (3, .ref (ea E 21)), (4, .ref (ea E 22)), (5, .int (iI i))]) dL_law_2341 (by decide) rfl (q := 2343) rfl ?_
    refine g_aload_n C dL_law_2343 3 rfl rfl (q := 2344) rfl ?_
    refine g_aload_n C dL_law_2344 1 rfl rfl (q := 2345) rfl ?_
    refine g_iload C dL_law_2345 6 rfl (q := 2347) rfl ?_
    refine g_iconst C dL_law_2347 (q := 2348) rfl ?_
    refine g_iadd C dL_law_2348 (q := 2349) rfl ?_
    refine g_scr C hX (j := i + 1) (by omega) dL_law_2349 (q := 2350) rfl ?_
    refine g_top (b := v) hv1 ?_
    refine g_i2c C dL_law_2350 (q := 2351) rfl ?_
    refine g_top (b := c) hc9 ?_
    refine g_cV_i C (As := [.int (iI c)]) (c_X5_type_2 l E _ c  (by omega) (by omega)) ml_L_263 mf_X5_type (o := 13) (ci := 5) rfl rfl rfl rfl ⟨(Nat.le_of_ble_eq_true rfl), (Nat.le_of_ble_eq_true rfl)⟩ rfl rfl rfl (Nat.le_of_ble_eq_true rfl) hkn dL_law_2351 (q := 2354) rfl ?_
    refine g_istore C (L' := [(7, .int (iI 0)), (6, .int (iI 2)), (0, .ref bS), (1, .ref (ea E 0)), (2, .ref (ea E 13)), (3, .ref (ea E 21)), (4, .ref (ea E 22)), (5, .int (iI i))]) dL_law_2354 (by decide) rfl (q := 2356) rfl ?_
    refine g_aload_n C dL_law_2356 4 rfl rfl (q := 2357) rfl ?_
    refine g_cV_i C (As := []) (c_X5_thrown l E _) ml_L_157 mf_X5_thrown (o := 13) (ci := 5) rfl rfl rfl rfl ⟨(Nat.le_of_ble_eq_true rfl), (Nat.le_of_ble_eq_true rfl)⟩ rfl rfl rfl (Nat.le_of_ble_eq_true rfl) hkn dL_law_2357 (q := 2360) rfl ?_
    refine g_top (b := 2) rfl ?_
    refine g_iload C dL_law_2360 1 rfl (q := 2362) rfl ?_
    refine g_icmp_eq C dL_law_2362 (by omega) (q2 := 2367) rfl (q := 2365) rfl (fun hb7 => ?_) (fun hb7 => ?_)
    · skip
      refine g_iload C dL_law_2367 1 rfl (q := 2369) rfl ?_
      refine g_if_ne C dL_law_2369 (by omega) (q2 := 2384) rfl (q := 2372) rfl (fun hb8 => ?_) (fun hb8 => ?_)
      · skip
        refine g_goto C dL_law_2384 (q := 2912) rfl ?_
        refine g_sub [2, 3, 4, 5, 6, 7] (L' := [(0, .ref bS), (1, .ref (ea E 0)), (2, .ref (ea E 13)), (3, .ref (ea E 21)), (4, .ref (ea E 22)), (5, .int (iI i))]) rfl ?_
        exact K _ (by exact hI)
      · skip
        exfalso; omega
    · skip
      exfalso; omega
set_option maxRecDepth 100000 in
set_option maxHeartbeats 4000000 in
theorem lc_33 {p : Program} {l : Launch} {e : Env} {s : State} {m : MethodId} {args : Array Value} {below : List Frame} {meth : Method} {c : Code} {E : EV} {A : Nat → Prop} {Q : State → Prop} {σ : SS} {k n : Nat} {bS N : Nat} {xs : Nat → Int32} (hst : l.stackTraces = false) (C : CX p l e room_1 s m args below meth c RL cL_law 9 E A (some .boolean)) (hX : SX bS N xs s A) (hkn : k + 1 ≤ room_1.cells ∧ n + 6 ≤ room_1.slots) (i : Int) (hi : 0 ≤ i ∧ i + 5 ≤ N) (hI : INV σ) (K : ∀ σ2 : SS, INV σ2 → GG p l e room_1 s m args below meth c Q E A 9 σ2 (k + 1) (n + 6) 2912 [(0, .ref bS), (1, .ref (ea E 0)), (2, .ref (ea E 13)), (3, .ref (ea E 21)), (4, .ref (ea E 22)), (5, .int (iI i))] []) : GG p l e room_1 s m args below meth c Q E A 9 σ k n 2387 [(0, .ref bS), (1, .ref (ea E 0)), (2, .ref (ea E 13)), (3, .ref (ea E 21)), (4, .ref (ea E 22)), (5, .int (iI i))] [] := by
  have hM := hI.1.2
  have hP := hI.1.1
  have hW := hM.1
  have hH := hI.2.2.1.2.1
  have hK5 := hI.2.2.1.1
  have hN9 := hX.2.2.2
  have hkn0 : k ≤ room_1.cells ∧ n ≤ room_1.slots := ⟨Nat.le_of_succ_le hkn.1, Nat.le_trans (Nat.le_add_right n 6) hkn.2⟩
  have hTW := run_TW hI
  have hTR := run_TR hI
  have hT8 := hI.2.2.2.1.2.1
  have hKP := hI.2.2.2.2.1.1
  have hrg := run_rg hI
  refine g_aload_n C dL_law_2387 1 rfl rfl (q := 2388) rfl ?_
  refine g_aload_n C dL_law_2388 3 rfl rfl (q := 2389) rfl ?_
  rcases (show (((paN (σ 8) (σ 7 1) 8 0 0 (σ 9) (σ 10) (σ 7 6)).1 = -1) ∧ ((coN (paN (σ 8) (σ 7 1) 8 0 0 (σ 9) (σ 10) (σ 7 6)).2.2.2.2.1 (paN (σ 8) (σ 7 1) 8 0 0 (σ 9) (σ 10) (σ 7 6)).2.2.2.2.2 (paN (σ 8) (σ 7 1) 8 0 0 (σ 9) (σ 10) (σ 7 6)).2.2.1 9 0 (σ 2)).1 = -1)) ∨ (((paN (σ 8) (σ 7 1) 8 0 0 (σ 9) (σ 10) (σ 7 6)).1 ≠ -1)) ∨ (((paN (σ 8) (σ 7 1) 8 0 0 (σ 9) (σ 10) (σ 7 6)).1 = -1) ∧ ((coN (paN (σ 8) (σ 7 1) 8 0 0 (σ 9) (σ 10) (σ 7 6)).2.2.2.2.1 (paN (σ 8) (σ 7 1) 8 0 0 (σ 9) (σ 10) (σ 7 6)).2.2.2.2.2 (paN (σ 8) (σ 7 1) 8 0 0 (σ 9) (σ 10) (σ 7 6)).2.2.1 9 0 (σ 2)).1 ≠ -1)) by by_cases h9 : (rC σ).1 = -1 <;> by_cases h8 : (coN (rC σ).2.2.2.2.1 (rC σ).2.2.2.2.2 (rC σ).2.2.1 9 0 (σ 2)).1 = -1 <;> first | exact Or.inl ⟨h9, h8⟩ | exact Or.inr (Or.inl h9) | exact Or.inr (Or.inr ⟨h9, h8⟩)) with ⟨hq0, hq1⟩ | hq0 | ⟨hq0, hq1⟩
  · skip
    have hl9 : (rM σ).1 = 0 ∧ (rM σ).2.1 = σ 13 10 ∧ (rM σ).2.2.1 = (rC σ).2.2.1 ∧ TOL (rC σ).2.2.1 (rC σ).2.2.2.2.1 (rC σ).2.2.2.2.2 (rM σ).2.2.2 := by (rcases run_ls hI with h9 | h9; exact h9.2; exact absurd hq0 h9.1)
    have hl1 := hl9.1
    have hl2 := hl9.2.1
    have hl3 := hl9.2.2.1
    have hl4 := hl9.2.2
    have hl5 := run_co hl4
    have hl6 : ∀ i : Int, 0 ≤ i ∧ i < (rM σ).2.2.1 → (rM σ).2.2.2 (5 * i) = cdK (KT (rM σ).2.2.2 i) := by (rw [hl3]; exact TOL_K hl4.2)
    have hl7 := hq1
    rw [hl5] at hl7
    have hl8 : (rM σ).2.2.1 ≤ 8 := by rw [hl3]; exact hrg.2.1.2
    refine g_cL C (hh := th_L_run) (As := [.ref (ea E 0), .ref (ea E 21)]) (c_L_run l hst E _   (by assumption) (by assumption) (by assumption) (by assumption) (by assumption) (by assumption)) ml_L_264 mf_L_run rfl ⟨(Nat.le_of_ble_eq_true rfl), (Nat.le_of_ble_eq_true rfl)⟩ rfl rfl rfl (Nat.le_of_ble_eq_true rfl) hkn dL_law_2389 (q := 2392) rfl ?_
    refine g_istore C (L' := [(6, .int (iI 0)), (0, .ref bS), (1, .ref (ea E 0)), (2, .ref (ea E 13)), (3, .ref (ea E 21)), (4, .ref (ea E 22)), (5, .int (iI i))]) dL_law_2392 (by decide) rfl (q := 2394) rfl ?_
    refine g_aload_n C dL_law_2394 3 rfl rfl (q := 2395) rfl ?_
    refine g_cV_i C (As := []) (c_X5_run l E _  (σ 2) (by show MS (σ 2) (σ 14); assumption) (by show TW (σ 18) (σ 13 10); assumption) (by show (mAll (σ 18) (σ 13 10) (σ 19)).1 = 0; assumption) (by show (mAll (σ 18) (σ 13 10) (σ 19)).2.1 = (σ 13 10); assumption) (by show (mAll (σ 18) (σ 13 10) (σ 19)).2.2.1 ≤ 8; assumption) (by show ∀ i : Int, 0 ≤ i ∧ i < (mAll (σ 18) (σ 13 10) (σ 19)).2.2.1 → (mAll (σ 18) (σ 13 10) (σ 19)).2.2.2 (5 * i) = cdK (KT (mAll (σ 18) (σ 13 10) (σ 19)).2.2.2 i); assumption) (by show TR (mAll (σ 18) (σ 13 10) (σ 19)).2.2.2; assumption) (by show 0 ≤ (σ 13 5) ∧ (σ 13 5) ≤ 8; omega) (by show (coN (KT (mAll (σ 18) (σ 13 10) (σ 19)).2.2.2) (PT (mAll (σ 18) (σ 13 10) (σ 19)).2.2.2) (mAll (σ 18) (σ 13 10) (σ 19)).2.2.1 9 0 (σ 2)).1 = -1; assumption)) ml_L_267 mf_X5_run (o := 13) (ci := 5) rfl rfl rfl rfl ⟨(Nat.le_of_ble_eq_true rfl), (Nat.le_of_ble_eq_true rfl)⟩ rfl rfl rfl (Nat.le_of_ble_eq_true rfl) hkn dL_law_2395 (q := 2398) rfl ?_
    refine g_top (b := (mAll (σ 18) (σ 13 10) (σ 19)).2.2.1) rfl ?_
    refine g_st (σ2 := (st (st (st (st (st (st (st (st (st (st (st (st (st σ 2 (refF (coN (paN (σ 8) (σ 7 1) 8 0 0 (σ 9) (σ 10) (σ 7 6)).2.2.2.2.1 (paN (σ 8) (σ 7 1) 8 0 0 (σ 9) (σ 10) (σ 7 6)).2.2.2.2.2 (paN (σ 8) (σ 7 1) 8 0 0 (σ 9) (σ 10) (σ 7 6)).2.2.1 9 0 (σ 2)).2)) 3 (cpf (σ 2) (σ 3) 0 0 310)) 5 (pt (pt (σ 5) 1 (nx8 (σ 5 1))) 2 (min ((σ 5 2) + 1) 8))) 6 (cpf (cpf (σ 2) (σ 3) 0 0 310) (σ 6) 0 ((σ 5 1) * 310) 310)) 7 (pt (pt (pt (pt (σ 7) 1 0) 2 ((paN (σ 8) (σ 7 1) 8 0 0 (σ 9) (σ 10) (σ 7 6)).2.1)) 5 ((paN (σ 8) (σ 7 1) 8 0 0 (σ 9) (σ 10) (σ 7 6)).2.2.1)) 6 ((paN (σ 8) (σ 7 1) 8 0 0 (σ 9) (σ 10) (σ 7 6)).2.2.2.1))) 9 ((paN (σ 8) (σ 7 1) 8 0 0 (σ 9) (σ 10) (σ 7 6)).2.2.2.2.1)) 10 ((paN (σ 8) (σ 7 1) 8 0 0 (σ 9) (σ 10) (σ 7 6)).2.2.2.2.2)) 13 (pt (pt (pt (pt (pt (pt (pt (pt (σ 13) 0 0) 5 (min ((σ 13 5) + 1) 8)) 10 0) 14 ((mco (KT (mAll (σ 18) (σ 13 10) (σ 19)).2.2.2) (PT (mAll (σ 18) (σ 13 10) (σ 19)).2.2.2) (mAll (σ 18) (σ 13 10) (σ 19)).2.2.1 9 0 (σ 2) (σ 14) (σ 13 14)).2.2)) 15 ((mAll (σ 18) (σ 13 10) (σ 19)).2.1)) 16 (σ 13 10)) 17 ((mAll (σ 18) (σ 13 10) (σ 19)).2.2.1)) 18 ((mAll (σ 18) (σ 13 10) (σ 19)).1))) 14 ((mco (KT (mAll (σ 18) (σ 13 10) (σ 19)).2.2.2) (PT (mAll (σ 18) (σ 13 10) (σ 19)).2.2.2) (mAll (σ 18) (σ 13 10) (σ 19)).2.2.1 9 0 (σ 2) (σ 14) (σ 13 14)).2.1)) 15 (cpf (σ 14) (σ 15) 0 0 486)) 17 (hiF (σ 17) (cpf (σ 14) (σ 15) 0 0 486) (σ 13 5))) 19 ((mAll (σ 18) (σ 13 10) (σ 19)).2.2.2)) 21 (pt (σ 21) 0 (wr ((paN (σ 8) (σ 7 1) 8 0 0 (σ 9) (σ 10) (σ 7 6)).2.2.1))))) (((((congrArg (fun g9 => st g9 19 ((mAll (σ 18) (σ 13 10) (σ 19)).2.2.2)) (congrArg (fun g9 => st g9 17 (hiF (σ 17) (cpf (σ 14) (σ 15) 0 0 486) (σ 13 5))) (congrArg (fun g9 => st g9 15 (cpf (σ 14) (σ 15) 0 0 486)) (congrArg (fun g9 => st g9 14 ((mco (KT (mAll (σ 18) (σ 13 10) (σ 19)).2.2.2) (PT (mAll (σ 18) (σ 13 10) (σ 19)).2.2.2) (mAll (σ 18) (σ 13 10) (σ 19)).2.2.1 9 0 (σ 2) (σ 14) (σ 13 14)).2.1)) (st_cm (st (st (st (st (st (st (st σ 2 (refF (coN (paN (σ 8) (σ 7 1) 8 0 0 (σ 9) (σ 10) (σ 7 6)).2.2.2.2.1 (paN (σ 8) (σ 7 1) 8 0 0 (σ 9) (σ 10) (σ 7 6)).2.2.2.2.2 (paN (σ 8) (σ 7 1) 8 0 0 (σ 9) (σ 10) (σ 7 6)).2.2.1 9 0 (σ 2)).2)) 3 (cpf (σ 2) (σ 3) 0 0 310)) 5 (pt (pt (σ 5) 1 (nx8 (σ 5 1))) 2 (min ((σ 5 2) + 1) 8))) 6 (cpf (cpf (σ 2) (σ 3) 0 0 310) (σ 6) 0 ((σ 5 1) * 310) 310)) 7 (pt (pt (pt (pt (σ 7) 1 0) 2 ((paN (σ 8) (σ 7 1) 8 0 0 (σ 9) (σ 10) (σ 7 6)).2.1)) 5 ((paN (σ 8) (σ 7 1) 8 0 0 (σ 9) (σ 10) (σ 7 6)).2.2.1)) 6 ((paN (σ 8) (σ 7 1) 8 0 0 (σ 9) (σ 10) (σ 7 6)).2.2.2.1))) 9 ((paN (σ 8) (σ 7 1) 8 0 0 (σ 9) (σ 10) (σ 7 6)).2.2.2.2.1)) 10 ((paN (σ 8) (σ 7 1) 8 0 0 (σ 9) (σ 10) (σ 7 6)).2.2.2.2.2)) (o := 21) (q := 13) (pt (σ 21) 0 (wr ((paN (σ 8) (σ 7 1) 8 0 0 (σ 9) (σ 10) (σ 7 6)).2.2.1))) (pt (pt (pt (pt (pt (pt (pt (pt (σ 13) 0 0) 5 (min ((σ 13 5) + 1) 8)) 10 0) 14 ((mco (KT (mAll (σ 18) (σ 13 10) (σ 19)).2.2.2) (PT (mAll (σ 18) (σ 13 10) (σ 19)).2.2.2) (mAll (σ 18) (σ 13 10) (σ 19)).2.2.1 9 0 (σ 2) (σ 14) (σ 13 14)).2.2)) 15 ((mAll (σ 18) (σ 13 10) (σ 19)).2.1)) 16 (σ 13 10)) 17 ((mAll (σ 18) (σ 13 10) (σ 19)).2.2.1)) 18 ((mAll (σ 18) (σ 13 10) (σ 19)).1)) (by decide)))))).trans (congrArg (fun g9 => st g9 19 ((mAll (σ 18) (σ 13 10) (σ 19)).2.2.2)) (congrArg (fun g9 => st g9 17 (hiF (σ 17) (cpf (σ 14) (σ 15) 0 0 486) (σ 13 5))) (congrArg (fun g9 => st g9 15 (cpf (σ 14) (σ 15) 0 0 486)) (st_cm (st (st (st (st (st (st (st (st σ 2 (refF (coN (paN (σ 8) (σ 7 1) 8 0 0 (σ 9) (σ 10) (σ 7 6)).2.2.2.2.1 (paN (σ 8) (σ 7 1) 8 0 0 (σ 9) (σ 10) (σ 7 6)).2.2.2.2.2 (paN (σ 8) (σ 7 1) 8 0 0 (σ 9) (σ 10) (σ 7 6)).2.2.1 9 0 (σ 2)).2)) 3 (cpf (σ 2) (σ 3) 0 0 310)) 5 (pt (pt (σ 5) 1 (nx8 (σ 5 1))) 2 (min ((σ 5 2) + 1) 8))) 6 (cpf (cpf (σ 2) (σ 3) 0 0 310) (σ 6) 0 ((σ 5 1) * 310) 310)) 7 (pt (pt (pt (pt (σ 7) 1 0) 2 ((paN (σ 8) (σ 7 1) 8 0 0 (σ 9) (σ 10) (σ 7 6)).2.1)) 5 ((paN (σ 8) (σ 7 1) 8 0 0 (σ 9) (σ 10) (σ 7 6)).2.2.1)) 6 ((paN (σ 8) (σ 7 1) 8 0 0 (σ 9) (σ 10) (σ 7 6)).2.2.2.1))) 9 ((paN (σ 8) (σ 7 1) 8 0 0 (σ 9) (σ 10) (σ 7 6)).2.2.2.2.1)) 10 ((paN (σ 8) (σ 7 1) 8 0 0 (σ 9) (σ 10) (σ 7 6)).2.2.2.2.2)) 13 (pt (pt (pt (pt (pt (pt (pt (pt (σ 13) 0 0) 5 (min ((σ 13 5) + 1) 8)) 10 0) 14 ((mco (KT (mAll (σ 18) (σ 13 10) (σ 19)).2.2.2) (PT (mAll (σ 18) (σ 13 10) (σ 19)).2.2.2) (mAll (σ 18) (σ 13 10) (σ 19)).2.2.1 9 0 (σ 2) (σ 14) (σ 13 14)).2.2)) 15 ((mAll (σ 18) (σ 13 10) (σ 19)).2.1)) 16 (σ 13 10)) 17 ((mAll (σ 18) (σ 13 10) (σ 19)).2.2.1)) 18 ((mAll (σ 18) (σ 13 10) (σ 19)).1))) (o := 21) (q := 14) (pt (σ 21) 0 (wr ((paN (σ 8) (σ 7 1) 8 0 0 (σ 9) (σ 10) (σ 7 6)).2.2.1))) ((mco (KT (mAll (σ 18) (σ 13 10) (σ 19)).2.2.2) (PT (mAll (σ 18) (σ 13 10) (σ 19)).2.2.2) (mAll (σ 18) (σ 13 10) (σ 19)).2.2.1 9 0 (σ 2) (σ 14) (σ 13 14)).2.1) (by decide)))))).trans (congrArg (fun g9 => st g9 19 ((mAll (σ 18) (σ 13 10) (σ 19)).2.2.2)) (congrArg (fun g9 => st g9 17 (hiF (σ 17) (cpf (σ 14) (σ 15) 0 0 486) (σ 13 5))) (st_cm (st (st (st (st (st (st (st (st (st σ 2 (refF (coN (paN (σ 8) (σ 7 1) 8 0 0 (σ 9) (σ 10) (σ 7 6)).2.2.2.2.1 (paN (σ 8) (σ 7 1) 8 0 0 (σ 9) (σ 10) (σ 7 6)).2.2.2.2.2 (paN (σ 8) (σ 7 1) 8 0 0 (σ 9) (σ 10) (σ 7 6)).2.2.1 9 0 (σ 2)).2)) 3 (cpf (σ 2) (σ 3) 0 0 310)) 5 (pt (pt (σ 5) 1 (nx8 (σ 5 1))) 2 (min ((σ 5 2) + 1) 8))) 6 (cpf (cpf (σ 2) (σ 3) 0 0 310) (σ 6) 0 ((σ 5 1) * 310) 310)) 7 (pt (pt (pt (pt (σ 7) 1 0) 2 ((paN (σ 8) (σ 7 1) 8 0 0 (σ 9) (σ 10) (σ 7 6)).2.1)) 5 ((paN (σ 8) (σ 7 1) 8 0 0 (σ 9) (σ 10) (σ 7 6)).2.2.1)) 6 ((paN (σ 8) (σ 7 1) 8 0 0 (σ 9) (σ 10) (σ 7 6)).2.2.2.1))) 9 ((paN (σ 8) (σ 7 1) 8 0 0 (σ 9) (σ 10) (σ 7 6)).2.2.2.2.1)) 10 ((paN (σ 8) (σ 7 1) 8 0 0 (σ 9) (σ 10) (σ 7 6)).2.2.2.2.2)) 13 (pt (pt (pt (pt (pt (pt (pt (pt (σ 13) 0 0) 5 (min ((σ 13 5) + 1) 8)) 10 0) 14 ((mco (KT (mAll (σ 18) (σ 13 10) (σ 19)).2.2.2) (PT (mAll (σ 18) (σ 13 10) (σ 19)).2.2.2) (mAll (σ 18) (σ 13 10) (σ 19)).2.2.1 9 0 (σ 2) (σ 14) (σ 13 14)).2.2)) 15 ((mAll (σ 18) (σ 13 10) (σ 19)).2.1)) 16 (σ 13 10)) 17 ((mAll (σ 18) (σ 13 10) (σ 19)).2.2.1)) 18 ((mAll (σ 18) (σ 13 10) (σ 19)).1))) 14 ((mco (KT (mAll (σ 18) (σ 13 10) (σ 19)).2.2.2) (PT (mAll (σ 18) (σ 13 10) (σ 19)).2.2.2) (mAll (σ 18) (σ 13 10) (σ 19)).2.2.1 9 0 (σ 2) (σ 14) (σ 13 14)).2.1)) (o := 21) (q := 15) (pt (σ 21) 0 (wr ((paN (σ 8) (σ 7 1) 8 0 0 (σ 9) (σ 10) (σ 7 6)).2.2.1))) (cpf (σ 14) (σ 15) 0 0 486) (by decide))))).trans (congrArg (fun g9 => st g9 19 ((mAll (σ 18) (σ 13 10) (σ 19)).2.2.2)) (st_cm (st (st (st (st (st (st (st (st (st (st σ 2 (refF (coN (paN (σ 8) (σ 7 1) 8 0 0 (σ 9) (σ 10) (σ 7 6)).2.2.2.2.1 (paN (σ 8) (σ 7 1) 8 0 0 (σ 9) (σ 10) (σ 7 6)).2.2.2.2.2 (paN (σ 8) (σ 7 1) 8 0 0 (σ 9) (σ 10) (σ 7 6)).2.2.1 9 0 (σ 2)).2)) 3 (cpf (σ 2) (σ 3) 0 0 310)) 5 (pt (pt (σ 5) 1 (nx8 (σ 5 1))) 2 (min ((σ 5 2) + 1) 8))) 6 (cpf (cpf (σ 2) (σ 3) 0 0 310) (σ 6) 0 ((σ 5 1) * 310) 310)) 7 (pt (pt (pt (pt (σ 7) 1 0) 2 ((paN (σ 8) (σ 7 1) 8 0 0 (σ 9) (σ 10) (σ 7 6)).2.1)) 5 ((paN (σ 8) (σ 7 1) 8 0 0 (σ 9) (σ 10) (σ 7 6)).2.2.1)) 6 ((paN (σ 8) (σ 7 1) 8 0 0 (σ 9) (σ 10) (σ 7 6)).2.2.2.1))) 9 ((paN (σ 8) (σ 7 1) 8 0 0 (σ 9) (σ 10) (σ 7 6)).2.2.2.2.1)) 10 ((paN (σ 8) (σ 7 1) 8 0 0 (σ 9) (σ 10) (σ 7 6)).2.2.2.2.2)) 13 (pt (pt (pt (pt (pt (pt (pt (pt (σ 13) 0 0) 5 (min ((σ 13 5) + 1) 8)) 10 0) 14 ((mco (KT (mAll (σ 18) (σ 13 10) (σ 19)).2.2.2) (PT (mAll (σ 18) (σ 13 10) (σ 19)).2.2.2) (mAll (σ 18) (σ 13 10) (σ 19)).2.2.1 9 0 (σ 2) (σ 14) (σ 13 14)).2.2)) 15 ((mAll (σ 18) (σ 13 10) (σ 19)).2.1)) 16 (σ 13 10)) 17 ((mAll (σ 18) (σ 13 10) (σ 19)).2.2.1)) 18 ((mAll (σ 18) (σ 13 10) (σ 19)).1))) 14 ((mco (KT (mAll (σ 18) (σ 13 10) (σ 19)).2.2.2) (PT (mAll (σ 18) (σ 13 10) (σ 19)).2.2.2) (mAll (σ 18) (σ 13 10) (σ 19)).2.2.1 9 0 (σ 2) (σ 14) (σ 13 14)).2.1)) 15 (cpf (σ 14) (σ 15) 0 0 486)) (o := 21) (q := 17) (pt (σ 21) 0 (wr ((paN (σ 8) (σ 7 1) 8 0 0 (σ 9) (σ 10) (σ 7 6)).2.2.1))) (hiF (σ 17) (cpf (σ 14) (σ 15) 0 0 486) (σ 13 5)) (by decide)))).trans (st_cm (st (st (st (st (st (st (st (st (st (st (st σ 2 (refF (coN (paN (σ 8) (σ 7 1) 8 0 0 (σ 9) (σ 10) (σ 7 6)).2.2.2.2.1 (paN (σ 8) (σ 7 1) 8 0 0 (σ 9) (σ 10) (σ 7 6)).2.2.2.2.2 (paN (σ 8) (σ 7 1) 8 0 0 (σ 9) (σ 10) (σ 7 6)).2.2.1 9 0 (σ 2)).2)) 3 (cpf (σ 2) (σ 3) 0 0 310)) 5 (pt (pt (σ 5) 1 (nx8 (σ 5 1))) 2 (min ((σ 5 2) + 1) 8))) 6 (cpf (cpf (σ 2) (σ 3) 0 0 310) (σ 6) 0 ((σ 5 1) * 310) 310)) 7 (pt (pt (pt (pt (σ 7) 1 0) 2 ((paN (σ 8) (σ 7 1) 8 0 0 (σ 9) (σ 10) (σ 7 6)).2.1)) 5 ((paN (σ 8) (σ 7 1) 8 0 0 (σ 9) (σ 10) (σ 7 6)).2.2.1)) 6 ((paN (σ 8) (σ 7 1) 8 0 0 (σ 9) (σ 10) (σ 7 6)).2.2.2.1))) 9 ((paN (σ 8) (σ 7 1) 8 0 0 (σ 9) (σ 10) (σ 7 6)).2.2.2.2.1)) 10 ((paN (σ 8) (σ 7 1) 8 0 0 (σ 9) (σ 10) (σ 7 6)).2.2.2.2.2)) 13 (pt (pt (pt (pt (pt (pt (pt (pt (σ 13) 0 0) 5 (min ((σ 13 5) + 1) 8)) 10 0) 14 ((mco (KT (mAll (σ 18) (σ 13 10) (σ 19)).2.2.2) (PT (mAll (σ 18) (σ 13 10) (σ 19)).2.2.2) (mAll (σ 18) (σ 13 10) (σ 19)).2.2.1 9 0 (σ 2) (σ 14) (σ 13 14)).2.2)) 15 ((mAll (σ 18) (σ 13 10) (σ 19)).2.1)) 16 (σ 13 10)) 17 ((mAll (σ 18) (σ 13 10) (σ 19)).2.2.1)) 18 ((mAll (σ 18) (σ 13 10) (σ 19)).1))) 14 ((mco (KT (mAll (σ 18) (σ 13 10) (σ 19)).2.2.2) (PT (mAll (σ 18) (σ 13 10) (σ 19)).2.2.2) (mAll (σ 18) (σ 13 10) (σ 19)).2.2.1 9 0 (σ 2) (σ 14) (σ 13 14)).2.1)) 15 (cpf (σ 14) (σ 15) 0 0 486)) 17 (hiF (σ 17) (cpf (σ 14) (σ 15) 0 0 486) (σ 13 5))) (o := 21) (q := 19) (pt (σ 21) 0 (wr ((paN (σ 8) (σ 7 1) 8 0 0 (σ 9) (σ 10) (σ 7 6)).2.2.1))) ((mAll (σ 18) (σ 13 10) (σ 19)).2.2.2) (by decide))) ?_
    refine g_istore C (L' := [(7, .int (iI ((mAll (σ 18) (σ 13 10) (σ 19)).2.2.1))), (6, .int (iI 0)), (0, .ref bS), (1, .ref (ea E 0)), (2, .ref (ea E 13)), (3, .ref (ea E 21)), (4, .ref (ea E 22)), (5, .int (iI i))]) dL_law_2398 (by decide) rfl (q := 2400) rfl ?_
    refine g_aload_n C dL_law_2400 4 rfl rfl (q := 2401) rfl ?_
    refine g_cV_i C (As := []) (c_X5_thrown l E _) ml_L_157 mf_X5_thrown (o := 13) (ci := 5) rfl rfl rfl rfl ⟨(Nat.le_of_ble_eq_true rfl), (Nat.le_of_ble_eq_true rfl)⟩ rfl rfl rfl (Nat.le_of_ble_eq_true rfl) hkn dL_law_2401 (q := 2404) rfl ?_
    refine g_top (b := 0) rfl ?_
    refine g_iload C dL_law_2404 1 rfl (q := 2406) rfl ?_
    refine g_icmp_eq C dL_law_2406 (by omega) (q2 := 2411) rfl (q := 2409) rfl (fun hb2 => ?_) (fun hb2 => ?_)
    · skip
      refine g_iload C dL_law_2411 1 rfl (q := 2413) rfl ?_
      refine g_if_ne C dL_law_2413 (by omega) (q2 := 2428) rfl (q := 2416) rfl (fun hb3 => ?_) (fun hb3 => ?_)
      · skip
        exfalso; omega
      · skip
        refine g_aload_n C dL_law_2416 5 rfl rfl (q := 2417) rfl ?_
        refine g_iconst C dL_law_2417 (q := 2418) rfl ?_
        refine gl_21 C dL_law_2418 (q := 2419) rfl ?_
        refine g_topl (b := (wr ((paN (σ 8) (σ 7 1) 8 0 0 (σ 9) (σ 10) (σ 7 6)).2.2.1))) (show (pt (σ 21) 0 (wr ((paN (σ 8) (σ 7 1) 8 0 0 (σ 9) (σ 10) (σ 7 6)).2.2.1))) 0 = (wr ((paN (σ 8) (σ 7 1) 8 0 0 (σ 9) (σ 10) (σ 7 6)).2.2.1)) from pt_s _ _ _) ?_
        refine g_iload C dL_law_2419 0 rfl (q := 2421) rfl ?_
        refine g_i2lw C dL_law_2421 (q := 2422) rfl ?_
        refine g_lcmpE C (by exact congrArg wr hl3.symm) dL_law_2422 (q := 2423) rfl ?_
        refine g_if_eq C dL_law_2423 (by omega) (q2 := 2428) rfl (q := 2426) rfl (fun hb4 => ?_) (fun hb4 => ?_)
        · skip
          refine g_goto C dL_law_2428 (q := 2912) rfl ?_
          refine g_sub [2, 3, 4, 5, 6, 7] (L' := [(0, .ref bS), (1, .ref (ea E 0)), (2, .ref (ea E 13)), (3, .ref (ea E 21)), (4, .ref (ea E 22)), (5, .int (iI i))]) rfl ?_
          exact K _ (by exact INV_chg hI (run_RW hI hl4 (σ 13 14)) rfl rfl rfl rfl rfl rfl rfl hI.2.1 ⟨TXW_0 _ _, ⟨hrg.2.2, hTR⟩, hI.2.2.2.2.2⟩)
        · skip
          exfalso; omega
    · skip
      exfalso; omega
  · skip
    have hl9 : ((rM σ).1 = 1 ∨ (rM σ).2.1 < σ 13 10) ∧ (rM σ).2.1 = (rC σ).1 := by (rcases run_ls hI with h9 | h9; exact absurd h9.1 hq0; exact h9.2)
    have hl8 := hl9.1
    have hl7 := hl9.2
    refine g_cL C (hh := th_L_run) (As := [.ref (ea E 0), .ref (ea E 21)]) (c_L_run_1 l hst E _   (by assumption) (by assumption) (by assumption)) ml_L_264 mf_L_run rfl ⟨(Nat.le_of_ble_eq_true rfl), (Nat.le_of_ble_eq_true rfl)⟩ rfl rfl rfl (Nat.le_of_ble_eq_true rfl) hkn dL_law_2389 (q := 2392) rfl ?_
    refine g_istore C (L' := [(6, .int (iI 1)), (0, .ref bS), (1, .ref (ea E 0)), (2, .ref (ea E 13)), (3, .ref (ea E 21)), (4, .ref (ea E 22)), (5, .int (iI i))]) dL_law_2392 (by decide) rfl (q := 2394) rfl ?_
    refine g_aload_n C dL_law_2394 3 rfl rfl (q := 2395) rfl ?_
    refine g_cV_i C (As := []) (c_X5_run_1 l E _   (by show TW (σ 18) (σ 13 10); assumption) (by show (mAll (σ 18) (σ 13 10) (σ 19)).1 = 1 ∨ (mAll (σ 18) (σ 13 10) (σ 19)).2.1 < (σ 13 10); assumption)) ml_L_267 mf_X5_run (o := 13) (ci := 5) rfl rfl rfl rfl ⟨(Nat.le_of_ble_eq_true rfl), (Nat.le_of_ble_eq_true rfl)⟩ rfl rfl rfl (Nat.le_of_ble_eq_true rfl) hkn dL_law_2395 (q := 2398) rfl ?_
    refine g_st (σ2 := (st (st (st (st (st (st (st σ 0 (pt (σ 0) 7 ((paN (σ 8) (σ 7 1) 8 0 0 (σ 9) (σ 10) (σ 7 6)).1))) 7 (pt (pt (pt (pt (σ 7) 1 0) 2 ((paN (σ 8) (σ 7 1) 8 0 0 (σ 9) (σ 10) (σ 7 6)).2.1)) 5 ((paN (σ 8) (σ 7 1) 8 0 0 (σ 9) (σ 10) (σ 7 6)).2.2.1)) 6 ((paN (σ 8) (σ 7 1) 8 0 0 (σ 9) (σ 10) (σ 7 6)).2.2.2.1))) 9 ((paN (σ 8) (σ 7 1) 8 0 0 (σ 9) (σ 10) (σ 7 6)).2.2.2.2.1)) 10 ((paN (σ 8) (σ 7 1) 8 0 0 (σ 9) (σ 10) (σ 7 6)).2.2.2.2.2)) 13 (pt (pt (pt (pt (pt (pt (pt (σ 13) 0 1) 10 0) 12 ((mAll (σ 18) (σ 13 10) (σ 19)).2.1)) 15 ((mAll (σ 18) (σ 13 10) (σ 19)).2.1)) 16 (σ 13 10)) 17 ((mAll (σ 18) (σ 13 10) (σ 19)).2.2.1)) 18 ((mAll (σ 18) (σ 13 10) (σ 19)).1))) 15 (cpf (σ 14) (σ 15) 0 0 486)) 19 ((mAll (σ 18) (σ 13 10) (σ 19)).2.2.2))) rfl ?_
    refine g_istore C (L' := [(7, .int (iI 0)), (6, .int (iI 1)), (0, .ref bS), (1, .ref (ea E 0)), (2, .ref (ea E 13)), (3, .ref (ea E 21)), (4, .ref (ea E 22)), (5, .int (iI i))]) dL_law_2398 (by decide) rfl (q := 2400) rfl ?_
    refine g_aload_n C dL_law_2400 4 rfl rfl (q := 2401) rfl ?_
    refine g_cV_i C (As := []) (c_X5_thrown l E _) ml_L_157 mf_X5_thrown (o := 13) (ci := 5) rfl rfl rfl rfl ⟨(Nat.le_of_ble_eq_true rfl), (Nat.le_of_ble_eq_true rfl)⟩ rfl rfl rfl (Nat.le_of_ble_eq_true rfl) hkn dL_law_2401 (q := 2404) rfl ?_
    refine g_top (b := 1) rfl ?_
    refine g_iload C dL_law_2404 1 rfl (q := 2406) rfl ?_
    refine g_icmp_eq C dL_law_2406 (by omega) (q2 := 2411) rfl (q := 2409) rfl (fun hb5 => ?_) (fun hb5 => ?_)
    · skip
      refine g_iload C dL_law_2411 1 rfl (q := 2413) rfl ?_
      refine g_if_ne C dL_law_2413 (by omega) (q2 := 2428) rfl (q := 2416) rfl (fun hb6 => ?_) (fun hb6 => ?_)
      · skip
        refine g_goto C dL_law_2428 (q := 2912) rfl ?_
        refine g_sub [2, 3, 4, 5, 6, 7] (L' := [(0, .ref bS), (1, .ref (ea E 0)), (2, .ref (ea E 13)), (3, .ref (ea E 21)), (4, .ref (ea E 22)), (5, .int (iI i))]) rfl ?_
        exact K _ (by exact ⟨hI.1, hI.2.1, hI.2.2.1, TXW_0 _ _, ⟨hrg.2.2, hTR⟩, ⟨hl7, hI.2.2.2.2.2.1.2.1, ⟨hrg.1.1, by have := hrg.1.2; exact Int.le_trans this (by decide)⟩, hI.2.2.2.2.2.1.2.2.2⟩, hI.2.2.2.2.2.2⟩)
      · skip
        exfalso; omega
    · skip
      exfalso; omega
  · skip
    have hl9 : (rM σ).1 = 0 ∧ (rM σ).2.1 = σ 13 10 ∧ (rM σ).2.2.1 = (rC σ).2.2.1 ∧ TOL (rC σ).2.2.1 (rC σ).2.2.2.2.1 (rC σ).2.2.2.2.2 (rM σ).2.2.2 := by (rcases run_ls hI with h9 | h9; exact h9.2; exact absurd hq0 h9.1)
    have hl1 := hl9.1
    have hl2 := hl9.2.1
    have hl3 := hl9.2.2.1
    have hl4 := hl9.2.2
    have hl5 := run_co hl4
    have hl6 : ∀ i : Int, 0 ≤ i ∧ i < (rM σ).2.2.1 → (rM σ).2.2.2 (5 * i) = cdK (KT (rM σ).2.2.2 i) := by (rw [hl3]; exact TOL_K hl4.2)
    have hl7 := hq1
    rw [hl5] at hl7
    have hl8 : (rM σ).2.2.1 ≤ 8 := by rw [hl3]; exact hrg.2.1.2
    have hco := coN_rg (σ 2) (K := (rC σ).2.2.2.2.1) (P := (rC σ).2.2.2.2.2) hrg.2.1
    refine g_cL C (hh := th_L_run) (As := [.ref (ea E 0), .ref (ea E 21)]) (c_L_run_2 l hst E _   (by assumption) (by assumption) (by assumption) (by assumption) (by assumption)) ml_L_264 mf_L_run rfl ⟨(Nat.le_of_ble_eq_true rfl), (Nat.le_of_ble_eq_true rfl)⟩ rfl rfl rfl (Nat.le_of_ble_eq_true rfl) hkn dL_law_2389 (q := 2392) rfl ?_
    refine g_istore C (L' := [(6, .int (iI 2)), (0, .ref bS), (1, .ref (ea E 0)), (2, .ref (ea E 13)), (3, .ref (ea E 21)), (4, .ref (ea E 22)), (5, .int (iI i))]) dL_law_2392 (by decide) rfl (q := 2394) rfl ?_
    refine g_aload_n C dL_law_2394 3 rfl rfl (q := 2395) rfl ?_
    refine g_cV_i C (As := []) (c_X5_run_2 l E _  (σ 2) (by show MS (σ 2) (σ 14); assumption) (by show TW (σ 18) (σ 13 10); assumption) (by show (mAll (σ 18) (σ 13 10) (σ 19)).1 = 0; assumption) (by show (mAll (σ 18) (σ 13 10) (σ 19)).2.1 = (σ 13 10); assumption) (by show (mAll (σ 18) (σ 13 10) (σ 19)).2.2.1 ≤ 8; assumption) (by show ∀ i : Int, 0 ≤ i ∧ i < (mAll (σ 18) (σ 13 10) (σ 19)).2.2.1 → (mAll (σ 18) (σ 13 10) (σ 19)).2.2.2 (5 * i) = cdK (KT (mAll (σ 18) (σ 13 10) (σ 19)).2.2.2 i); assumption) (by show TR (mAll (σ 18) (σ 13 10) (σ 19)).2.2.2; assumption) (by show (coN (KT (mAll (σ 18) (σ 13 10) (σ 19)).2.2.2) (PT (mAll (σ 18) (σ 13 10) (σ 19)).2.2.2) (mAll (σ 18) (σ 13 10) (σ 19)).2.2.1 9 0 (σ 2)).1 ≠ -1; assumption)) ml_L_267 mf_X5_run (o := 13) (ci := 5) rfl rfl rfl rfl ⟨(Nat.le_of_ble_eq_true rfl), (Nat.le_of_ble_eq_true rfl)⟩ rfl rfl rfl (Nat.le_of_ble_eq_true rfl) hkn dL_law_2395 (q := 2398) rfl ?_
    refine g_st (σ2 := (st (st (st (st (st (st (st (st (st (st σ 0 (pt (σ 0) 8 ((coN (paN (σ 8) (σ 7 1) 8 0 0 (σ 9) (σ 10) (σ 7 6)).2.2.2.2.1 (paN (σ 8) (σ 7 1) 8 0 0 (σ 9) (σ 10) (σ 7 6)).2.2.2.2.2 (paN (σ 8) (σ 7 1) 8 0 0 (σ 9) (σ 10) (σ 7 6)).2.2.1 9 0 (σ 2)).1))) 2 (cpf (cpf (σ 2) (σ 3) 0 0 310) (coN (paN (σ 8) (σ 7 1) 8 0 0 (σ 9) (σ 10) (σ 7 6)).2.2.2.2.1 (paN (σ 8) (σ 7 1) 8 0 0 (σ 9) (σ 10) (σ 7 6)).2.2.2.2.2 (paN (σ 8) (σ 7 1) 8 0 0 (σ 9) (σ 10) (σ 7 6)).2.2.1 9 0 (σ 2)).2 0 0 310)) 3 (cpf (σ 2) (σ 3) 0 0 310)) 7 (pt (pt (pt (pt (σ 7) 1 0) 2 ((paN (σ 8) (σ 7 1) 8 0 0 (σ 9) (σ 10) (σ 7 6)).2.1)) 5 ((paN (σ 8) (σ 7 1) 8 0 0 (σ 9) (σ 10) (σ 7 6)).2.2.1)) 6 ((paN (σ 8) (σ 7 1) 8 0 0 (σ 9) (σ 10) (σ 7 6)).2.2.2.1))) 9 ((paN (σ 8) (σ 7 1) 8 0 0 (σ 9) (σ 10) (σ 7 6)).2.2.2.2.1)) 10 ((paN (σ 8) (σ 7 1) 8 0 0 (σ 9) (σ 10) (σ 7 6)).2.2.2.2.2)) 13 (pt (pt (pt (pt (pt (pt (pt (pt (σ 13) 0 2) 10 0) 13 ((coN (KT (mAll (σ 18) (σ 13 10) (σ 19)).2.2.2) (PT (mAll (σ 18) (σ 13 10) (σ 19)).2.2.2) (mAll (σ 18) (σ 13 10) (σ 19)).2.2.1 9 0 (σ 2)).1)) 14 ((mco (KT (mAll (σ 18) (σ 13 10) (σ 19)).2.2.2) (PT (mAll (σ 18) (σ 13 10) (σ 19)).2.2.2) (mAll (σ 18) (σ 13 10) (σ 19)).2.2.1 9 0 (σ 2) (σ 14) (σ 13 14)).2.2)) 15 ((mAll (σ 18) (σ 13 10) (σ 19)).2.1)) 16 (σ 13 10)) 17 ((mAll (σ 18) (σ 13 10) (σ 19)).2.2.1)) 18 ((mAll (σ 18) (σ 13 10) (σ 19)).1))) 14 (cpf (cpf (σ 14) (σ 15) 0 0 486) (mco (KT (mAll (σ 18) (σ 13 10) (σ 19)).2.2.2) (PT (mAll (σ 18) (σ 13 10) (σ 19)).2.2.2) (mAll (σ 18) (σ 13 10) (σ 19)).2.2.1 9 0 (σ 2) (σ 14) (σ 13 14)).2.1 0 0 486)) 15 (cpf (σ 14) (σ 15) 0 0 486)) 19 ((mAll (σ 18) (σ 13 10) (σ 19)).2.2.2))) rfl ?_
    refine g_istore C (L' := [(7, .int (iI 0)), (6, .int (iI 2)), (0, .ref bS), (1, .ref (ea E 0)), (2, .ref (ea E 13)), (3, .ref (ea E 21)), (4, .ref (ea E 22)), (5, .int (iI i))]) dL_law_2398 (by decide) rfl (q := 2400) rfl ?_
    refine g_aload_n C dL_law_2400 4 rfl rfl (q := 2401) rfl ?_
    refine g_cV_i C (As := []) (c_X5_thrown l E _) ml_L_157 mf_X5_thrown (o := 13) (ci := 5) rfl rfl rfl rfl ⟨(Nat.le_of_ble_eq_true rfl), (Nat.le_of_ble_eq_true rfl)⟩ rfl rfl rfl (Nat.le_of_ble_eq_true rfl) hkn dL_law_2401 (q := 2404) rfl ?_
    refine g_top (b := 2) rfl ?_
    refine g_iload C dL_law_2404 1 rfl (q := 2406) rfl ?_
    refine g_icmp_eq C dL_law_2406 (by omega) (q2 := 2411) rfl (q := 2409) rfl (fun hb7 => ?_) (fun hb7 => ?_)
    · skip
      refine g_iload C dL_law_2411 1 rfl (q := 2413) rfl ?_
      refine g_if_ne C dL_law_2413 (by omega) (q2 := 2428) rfl (q := 2416) rfl (fun hb8 => ?_) (fun hb8 => ?_)
      · skip
        refine g_goto C dL_law_2428 (q := 2912) rfl ?_
        refine g_sub [2, 3, 4, 5, 6, 7] (L' := [(0, .ref bS), (1, .ref (ea E 0)), (2, .ref (ea E 13)), (3, .ref (ea E 21)), (4, .ref (ea E 22)), (5, .int (iI i))]) rfl ?_
        exact K _ (by exact ⟨RW_lo hI.1 (fun z hz => (cpf_in hz).trans (cpf_in hz)) (fun z hz => (cpf_in hz).trans (cpf_in hz)), hI.2.1, hI.2.2.1, TXW_0 _ _, ⟨hrg.2.2, hTR⟩, ⟨hI.2.2.2.2.2.1.1, congrArg Prod.fst hl5.symm, hI.2.2.2.2.2.1.2.2.1, hco.1, Int.le_trans hco.2 (by decide)⟩, hI.2.2.2.2.2.2⟩)
      · skip
        exfalso; omega
    · skip
      exfalso; omega
set_option maxRecDepth 100000 in
set_option maxHeartbeats 4000000 in
theorem lc_34 {p : Program} {l : Launch} {e : Env} {s : State} {m : MethodId} {args : Array Value} {below : List Frame} {meth : Method} {c : Code} {E : EV} {A : Nat → Prop} {Q : State → Prop} {σ : SS} {k n : Nat} {bS N : Nat} {xs : Nat → Int32} (hst : l.stackTraces = false) (C : CX p l e room_1 s m args below meth c RL cL_law 9 E A (some .boolean)) (hX : SX bS N xs s A) (hkn : k + 1 ≤ room_1.cells ∧ n + 6 ≤ room_1.slots) (i : Int) (hi : 0 ≤ i ∧ i + 5 ≤ N) (hI : INV σ) (K : ∀ σ2 : SS, INV σ2 → GG p l e room_1 s m args below meth c Q E A 9 σ2 (k + 1) (n + 6) 2912 [(0, .ref bS), (1, .ref (ea E 0)), (2, .ref (ea E 13)), (3, .ref (ea E 21)), (4, .ref (ea E 22)), (5, .int (iI i))] []) : GG p l e room_1 s m args below meth c Q E A 9 σ k n 2431 [(0, .ref bS), (1, .ref (ea E 0)), (2, .ref (ea E 13)), (3, .ref (ea E 21)), (4, .ref (ea E 22)), (5, .int (iI i))] [] := by
  have hM := hI.1.2
  have hP := hI.1.1
  have hW := hM.1
  have hH := hI.2.2.1.2.1
  have hK5 := hI.2.2.1.1
  have hN9 := hX.2.2.2
  have hkn0 : k ≤ room_1.cells ∧ n ≤ room_1.slots := ⟨Nat.le_of_succ_le hkn.1, Nat.le_trans (Nat.le_add_right n 6) hkn.2⟩
  have hE := hI.2.2.2.2.2.1
  have hE1 := hE.1
  have hE2 := hE.2.1
  have hE3 := hE.2.2.1
  have hE4 := hE.2.2.2
  refine g_aload_n C dL_law_2431 1 rfl rfl (q := 2432) rfl ?_
  refine g_aload_n C dL_law_2432 3 rfl rfl (q := 2433) rfl ?_
  rcases (show ((-2147483648 ≤ (σ 0 7) ∧ (σ 0 7) ≤ 2147483647) ∧ ((σ 0 7) ≠ -1)) ∨ (((σ 0 7) = -1)) by omega) with ⟨hq0, hq1⟩ | hq0
  · skip
    refine g_cL C (hh := th_L_errorPosition) (As := [.ref (ea E 0), .ref (ea E 21)]) (c_L_errorPosition l hst E _   (by assumption) (by assumption)) ml_L_268 mf_L_errorPosition rfl ⟨(Nat.le_of_ble_eq_true rfl), (Nat.le_of_ble_eq_true rfl)⟩ rfl rfl rfl (Nat.le_of_ble_eq_true rfl) hkn dL_law_2433 (q := 2436) rfl ?_
    refine g_istore C (L' := [(6, .int (iI 0)), (0, .ref bS), (1, .ref (ea E 0)), (2, .ref (ea E 13)), (3, .ref (ea E 21)), (4, .ref (ea E 22)), (5, .int (iI i))]) dL_law_2436 (by decide) rfl (q := 2438) rfl ?_
    refine g_aload_n C dL_law_2438 3 rfl rfl (q := 2439) rfl ?_
    refine g_cV_i C (As := []) (c_X5_errorPosition l E _   (by show -2147483648 ≤ (σ 13 12) ∧ (σ 13 12) ≤ 2147483647; omega) (by show (σ 13 12) ≠ -1; omega)) ml_L_270 mf_X5_errorPosition (o := 13) (ci := 5) rfl rfl rfl rfl ⟨(Nat.le_of_ble_eq_true rfl), (Nat.le_of_ble_eq_true rfl)⟩ rfl rfl rfl (Nat.le_of_ble_eq_true rfl) hkn dL_law_2439 (q := 2442) rfl ?_
    refine g_top (b := (σ 13 12)) rfl ?_
    refine g_st (σ2 := (st (st σ 13 (pt (σ 13) 0 0)) 21 (pt (σ 21) 0 (wr ((σ 0 7)))))) (st_cm σ (o := 21) (q := 13) (pt (σ 21) 0 (wr ((σ 0 7)))) (pt (σ 13) 0 0) (by decide)) ?_
    refine g_istore C (L' := [(7, .int (iI (σ 13 12))), (6, .int (iI 0)), (0, .ref bS), (1, .ref (ea E 0)), (2, .ref (ea E 13)), (3, .ref (ea E 21)), (4, .ref (ea E 22)), (5, .int (iI i))]) dL_law_2442 (by decide) rfl (q := 2444) rfl ?_
    refine g_aload_n C dL_law_2444 4 rfl rfl (q := 2445) rfl ?_
    refine g_cV_i C (As := []) (c_X5_thrown l E _) ml_L_157 mf_X5_thrown (o := 13) (ci := 5) rfl rfl rfl rfl ⟨(Nat.le_of_ble_eq_true rfl), (Nat.le_of_ble_eq_true rfl)⟩ rfl rfl rfl (Nat.le_of_ble_eq_true rfl) hkn dL_law_2445 (q := 2448) rfl ?_
    refine g_top (b := 0) rfl ?_
    refine g_iload C dL_law_2448 1 rfl (q := 2450) rfl ?_
    refine g_icmp_eq C dL_law_2450 (by omega) (q2 := 2455) rfl (q := 2453) rfl (fun hb2 => ?_) (fun hb2 => ?_)
    · skip
      refine g_iload C dL_law_2455 1 rfl (q := 2457) rfl ?_
      refine g_if_ne C dL_law_2457 (by omega) (q2 := 2472) rfl (q := 2460) rfl (fun hb3 => ?_) (fun hb3 => ?_)
      · skip
        exfalso; omega
      · skip
        refine g_aload_n C dL_law_2460 5 rfl rfl (q := 2461) rfl ?_
        refine g_iconst C dL_law_2461 (q := 2462) rfl ?_
        refine gl_21 C dL_law_2462 (q := 2463) rfl ?_
        refine g_topl (b := (wr ((σ 0 7)))) (show (pt (σ 21) 0 (wr ((σ 0 7)))) 0 = (wr ((σ 0 7))) from pt_s _ _ _) ?_
        refine g_iload C dL_law_2463 0 rfl (q := 2465) rfl ?_
        refine g_i2lw C dL_law_2465 (q := 2466) rfl ?_
        refine g_lcmpE C (by rw [hE1]) dL_law_2466 (q := 2467) rfl ?_
        refine g_if_eq C dL_law_2467 (by omega) (q2 := 2472) rfl (q := 2470) rfl (fun hb4 => ?_) (fun hb4 => ?_)
        · skip
          refine g_goto C dL_law_2472 (q := 2912) rfl ?_
          refine g_sub [2, 3, 4, 5, 6, 7] (L' := [(0, .ref bS), (1, .ref (ea E 0)), (2, .ref (ea E 13)), (3, .ref (ea E 21)), (4, .ref (ea E 22)), (5, .int (iI i))]) rfl ?_
          exact K _ (by exact hI)
        · skip
          exfalso; omega
    · skip
      exfalso; omega
  · skip
    refine g_cL C (hh := th_L_errorPosition) (As := [.ref (ea E 0), .ref (ea E 21)]) (c_L_errorPosition_n l hst E _   (by assumption)) ml_L_268 mf_L_errorPosition rfl ⟨(Nat.le_of_ble_eq_true rfl), (Nat.le_of_ble_eq_true rfl)⟩ rfl rfl rfl (Nat.le_of_ble_eq_true rfl) hkn dL_law_2433 (q := 2436) rfl ?_
    refine g_istore C (L' := [(6, .int (iI 1)), (0, .ref bS), (1, .ref (ea E 0)), (2, .ref (ea E 13)), (3, .ref (ea E 21)), (4, .ref (ea E 22)), (5, .int (iI i))]) dL_law_2436 (by decide) rfl (q := 2438) rfl ?_
    refine g_aload_n C dL_law_2438 3 rfl rfl (q := 2439) rfl ?_
    refine g_cV_i C (As := []) (c_X5_errorPosition_n l E _   (by omega)) ml_L_270 mf_X5_errorPosition (o := 13) (ci := 5) rfl rfl rfl rfl ⟨(Nat.le_of_ble_eq_true rfl), (Nat.le_of_ble_eq_true rfl)⟩ rfl rfl rfl (Nat.le_of_ble_eq_true rfl) hkn dL_law_2439 (q := 2442) rfl ?_
    refine g_istore C (L' := [(7, .int (iI 0)), (6, .int (iI 1)), (0, .ref bS), (1, .ref (ea E 0)), (2, .ref (ea E 13)), (3, .ref (ea E 21)), (4, .ref (ea E 22)), (5, .int (iI i))]) dL_law_2442 (by decide) rfl (q := 2444) rfl ?_
    refine g_aload_n C dL_law_2444 4 rfl rfl (q := 2445) rfl ?_
    refine g_cV_i C (As := []) (c_X5_thrown l E _) ml_L_157 mf_X5_thrown (o := 13) (ci := 5) rfl rfl rfl rfl ⟨(Nat.le_of_ble_eq_true rfl), (Nat.le_of_ble_eq_true rfl)⟩ rfl rfl rfl (Nat.le_of_ble_eq_true rfl) hkn dL_law_2445 (q := 2448) rfl ?_
    refine g_top (b := 1) rfl ?_
    refine g_iload C dL_law_2448 1 rfl (q := 2450) rfl ?_
    refine g_icmp_eq C dL_law_2450 (by omega) (q2 := 2455) rfl (q := 2453) rfl (fun hb5 => ?_) (fun hb5 => ?_)
    · skip
      refine g_iload C dL_law_2455 1 rfl (q := 2457) rfl ?_
      refine g_if_ne C dL_law_2457 (by omega) (q2 := 2472) rfl (q := 2460) rfl (fun hb6 => ?_) (fun hb6 => ?_)
      · skip
        refine g_goto C dL_law_2472 (q := 2912) rfl ?_
        refine g_sub [2, 3, 4, 5, 6, 7] (L' := [(0, .ref bS), (1, .ref (ea E 0)), (2, .ref (ea E 13)), (3, .ref (ea E 21)), (4, .ref (ea E 22)), (5, .int (iI i))]) rfl ?_
        exact K _ (by exact hI)
      · skip
        exfalso; omega
    · skip
      exfalso; omega
set_option maxRecDepth 100000 in
set_option maxHeartbeats 4000000 in
theorem lc_35 {p : Program} {l : Launch} {e : Env} {s : State} {m : MethodId} {args : Array Value} {below : List Frame} {meth : Method} {c : Code} {E : EV} {A : Nat → Prop} {Q : State → Prop} {σ : SS} {k n : Nat} {bS N : Nat} {xs : Nat → Int32} (hst : l.stackTraces = false) (C : CX p l e room_1 s m args below meth c RL cL_law 9 E A (some .boolean)) (hX : SX bS N xs s A) (hkn : k + 1 ≤ room_1.cells ∧ n + 6 ≤ room_1.slots) (i : Int) (hi : 0 ≤ i ∧ i + 5 ≤ N) (hI : INV σ) (K : ∀ σ2 : SS, INV σ2 → GG p l e room_1 s m args below meth c Q E A 9 σ2 (k + 1) (n + 6) 2912 [(0, .ref bS), (1, .ref (ea E 0)), (2, .ref (ea E 13)), (3, .ref (ea E 21)), (4, .ref (ea E 22)), (5, .int (iI i))] []) : GG p l e room_1 s m args below meth c Q E A 9 σ k n 2475 [(0, .ref bS), (1, .ref (ea E 0)), (2, .ref (ea E 13)), (3, .ref (ea E 21)), (4, .ref (ea E 22)), (5, .int (iI i))] [] := by
  have hM := hI.1.2
  have hP := hI.1.1
  have hW := hM.1
  have hH := hI.2.2.1.2.1
  have hK5 := hI.2.2.1.1
  have hN9 := hX.2.2.2
  have hkn0 : k ≤ room_1.cells ∧ n ≤ room_1.slots := ⟨Nat.le_of_succ_le hkn.1, Nat.le_trans (Nat.le_add_right n 6) hkn.2⟩
  have hE := hI.2.2.2.2.2.1
  have hE1 := hE.1
  have hE2 := hE.2.1
  have hE3 := hE.2.2.1
  have hE4 := hE.2.2.2
  refine g_aload_n C dL_law_2475 1 rfl rfl (q := 2476) rfl ?_
  refine g_aload_n C dL_law_2476 3 rfl rfl (q := 2477) rfl ?_
  rcases (show ((-2147483648 ≤ (σ 0 8) ∧ (σ 0 8) ≤ 2147483647) ∧ ((σ 0 8) ≠ -1)) ∨ (((σ 0 8) = -1)) by omega) with ⟨hq0, hq1⟩ | hq0
  · skip
    refine g_cL C (hh := th_L_failedCommand) (As := [.ref (ea E 0), .ref (ea E 21)]) (c_L_failedCommand l hst E _   (by assumption) (by assumption)) ml_L_271 mf_L_failedCommand rfl ⟨(Nat.le_of_ble_eq_true rfl), (Nat.le_of_ble_eq_true rfl)⟩ rfl rfl rfl (Nat.le_of_ble_eq_true rfl) hkn dL_law_2477 (q := 2480) rfl ?_
    refine g_istore C (L' := [(6, .int (iI 0)), (0, .ref bS), (1, .ref (ea E 0)), (2, .ref (ea E 13)), (3, .ref (ea E 21)), (4, .ref (ea E 22)), (5, .int (iI i))]) dL_law_2480 (by decide) rfl (q := 2482) rfl ?_
    refine g_aload_n C dL_law_2482 3 rfl rfl (q := 2483) rfl ?_
    refine g_cV_i C (As := []) (c_X5_failedCommand l E _   (by show -2147483648 ≤ (σ 13 13) ∧ (σ 13 13) ≤ 2147483647; omega) (by show (σ 13 13) ≠ -1; omega)) ml_L_273 mf_X5_failedCommand (o := 13) (ci := 5) rfl rfl rfl rfl ⟨(Nat.le_of_ble_eq_true rfl), (Nat.le_of_ble_eq_true rfl)⟩ rfl rfl rfl (Nat.le_of_ble_eq_true rfl) hkn dL_law_2483 (q := 2486) rfl ?_
    refine g_top (b := (σ 13 13)) rfl ?_
    refine g_st (σ2 := (st (st σ 13 (pt (σ 13) 0 0)) 21 (pt (σ 21) 0 (wr ((σ 0 8)))))) (st_cm σ (o := 21) (q := 13) (pt (σ 21) 0 (wr ((σ 0 8)))) (pt (σ 13) 0 0) (by decide)) ?_
    refine g_istore C (L' := [(7, .int (iI (σ 13 13))), (6, .int (iI 0)), (0, .ref bS), (1, .ref (ea E 0)), (2, .ref (ea E 13)), (3, .ref (ea E 21)), (4, .ref (ea E 22)), (5, .int (iI i))]) dL_law_2486 (by decide) rfl (q := 2488) rfl ?_
    refine g_aload_n C dL_law_2488 4 rfl rfl (q := 2489) rfl ?_
    refine g_cV_i C (As := []) (c_X5_thrown l E _) ml_L_157 mf_X5_thrown (o := 13) (ci := 5) rfl rfl rfl rfl ⟨(Nat.le_of_ble_eq_true rfl), (Nat.le_of_ble_eq_true rfl)⟩ rfl rfl rfl (Nat.le_of_ble_eq_true rfl) hkn dL_law_2489 (q := 2492) rfl ?_
    refine g_top (b := 0) rfl ?_
    refine g_iload C dL_law_2492 1 rfl (q := 2494) rfl ?_
    refine g_icmp_eq C dL_law_2494 (by omega) (q2 := 2499) rfl (q := 2497) rfl (fun hb2 => ?_) (fun hb2 => ?_)
    · skip
      refine g_iload C dL_law_2499 1 rfl (q := 2501) rfl ?_
      refine g_if_ne C dL_law_2501 (by omega) (q2 := 2516) rfl (q := 2504) rfl (fun hb3 => ?_) (fun hb3 => ?_)
      · skip
        exfalso; omega
      · skip
        refine g_aload_n C dL_law_2504 5 rfl rfl (q := 2505) rfl ?_
        refine g_iconst C dL_law_2505 (q := 2506) rfl ?_
        refine gl_21 C dL_law_2506 (q := 2507) rfl ?_
        refine g_topl (b := (wr ((σ 0 8)))) (show (pt (σ 21) 0 (wr ((σ 0 8)))) 0 = (wr ((σ 0 8))) from pt_s _ _ _) ?_
        refine g_iload C dL_law_2507 0 rfl (q := 2509) rfl ?_
        refine g_i2lw C dL_law_2509 (q := 2510) rfl ?_
        refine g_lcmpE C (by rw [hE2]) dL_law_2510 (q := 2511) rfl ?_
        refine g_if_eq C dL_law_2511 (by omega) (q2 := 2516) rfl (q := 2514) rfl (fun hb4 => ?_) (fun hb4 => ?_)
        · skip
          refine g_goto C dL_law_2516 (q := 2912) rfl ?_
          refine g_sub [2, 3, 4, 5, 6, 7] (L' := [(0, .ref bS), (1, .ref (ea E 0)), (2, .ref (ea E 13)), (3, .ref (ea E 21)), (4, .ref (ea E 22)), (5, .int (iI i))]) rfl ?_
          exact K _ (by exact hI)
        · skip
          exfalso; omega
    · skip
      exfalso; omega
  · skip
    refine g_cL C (hh := th_L_failedCommand) (As := [.ref (ea E 0), .ref (ea E 21)]) (c_L_failedCommand_n l hst E _   (by assumption)) ml_L_271 mf_L_failedCommand rfl ⟨(Nat.le_of_ble_eq_true rfl), (Nat.le_of_ble_eq_true rfl)⟩ rfl rfl rfl (Nat.le_of_ble_eq_true rfl) hkn dL_law_2477 (q := 2480) rfl ?_
    refine g_istore C (L' := [(6, .int (iI 1)), (0, .ref bS), (1, .ref (ea E 0)), (2, .ref (ea E 13)), (3, .ref (ea E 21)), (4, .ref (ea E 22)), (5, .int (iI i))]) dL_law_2480 (by decide) rfl (q := 2482) rfl ?_
    refine g_aload_n C dL_law_2482 3 rfl rfl (q := 2483) rfl ?_
    refine g_cV_i C (As := []) (c_X5_failedCommand_n l E _   (by omega)) ml_L_273 mf_X5_failedCommand (o := 13) (ci := 5) rfl rfl rfl rfl ⟨(Nat.le_of_ble_eq_true rfl), (Nat.le_of_ble_eq_true rfl)⟩ rfl rfl rfl (Nat.le_of_ble_eq_true rfl) hkn dL_law_2483 (q := 2486) rfl ?_
    refine g_istore C (L' := [(7, .int (iI 0)), (6, .int (iI 1)), (0, .ref bS), (1, .ref (ea E 0)), (2, .ref (ea E 13)), (3, .ref (ea E 21)), (4, .ref (ea E 22)), (5, .int (iI i))]) dL_law_2486 (by decide) rfl (q := 2488) rfl ?_
    refine g_aload_n C dL_law_2488 4 rfl rfl (q := 2489) rfl ?_
    refine g_cV_i C (As := []) (c_X5_thrown l E _) ml_L_157 mf_X5_thrown (o := 13) (ci := 5) rfl rfl rfl rfl ⟨(Nat.le_of_ble_eq_true rfl), (Nat.le_of_ble_eq_true rfl)⟩ rfl rfl rfl (Nat.le_of_ble_eq_true rfl) hkn dL_law_2489 (q := 2492) rfl ?_
    refine g_top (b := 1) rfl ?_
    refine g_iload C dL_law_2492 1 rfl (q := 2494) rfl ?_
    refine g_icmp_eq C dL_law_2494 (by omega) (q2 := 2499) rfl (q := 2497) rfl (fun hb5 => ?_) (fun hb5 => ?_)
    · skip
      refine g_iload C dL_law_2499 1 rfl (q := 2501) rfl ?_
      refine g_if_ne C dL_law_2501 (by omega) (q2 := 2516) rfl (q := 2504) rfl (fun hb6 => ?_) (fun hb6 => ?_)
      · skip
        refine g_goto C dL_law_2516 (q := 2912) rfl ?_
        refine g_sub [2, 3, 4, 5, 6, 7] (L' := [(0, .ref bS), (1, .ref (ea E 0)), (2, .ref (ea E 13)), (3, .ref (ea E 21)), (4, .ref (ea E 22)), (5, .int (iI i))]) rfl ?_
        exact K _ (by exact hI)
      · skip
        exfalso; omega
    · skip
      exfalso; omega
set_option maxRecDepth 100000 in
set_option maxHeartbeats 4000000 in
theorem lc_36 {p : Program} {l : Launch} {e : Env} {s : State} {m : MethodId} {args : Array Value} {below : List Frame} {meth : Method} {c : Code} {E : EV} {A : Nat → Prop} {Q : State → Prop} {σ : SS} {k n : Nat} {bS N : Nat} {xs : Nat → Int32} (hst : l.stackTraces = false) (C : CX p l e room_1 s m args below meth c RL cL_law 9 E A (some .boolean)) (hX : SX bS N xs s A) (hkn : k + 1 ≤ room_1.cells ∧ n + 6 ≤ room_1.slots) (i : Int) (hi : 0 ≤ i ∧ i + 5 ≤ N) (hI : INV σ) (K : ∀ σ2 : SS, INV σ2 → GG p l e room_1 s m args below meth c Q E A 9 σ2 (k + 1) (n + 6) 2912 [(0, .ref bS), (1, .ref (ea E 0)), (2, .ref (ea E 13)), (3, .ref (ea E 21)), (4, .ref (ea E 22)), (5, .int (iI i))] []) : GG p l e room_1 s m args below meth c Q E A 9 σ k n 2519 [(0, .ref bS), (1, .ref (ea E 0)), (2, .ref (ea E 13)), (3, .ref (ea E 21)), (4, .ref (ea E 22)), (5, .int (iI i))] [] := by
  have hM := hI.1.2
  have hP := hI.1.1
  have hW := hM.1
  have hH := hI.2.2.1.2.1
  have hK5 := hI.2.2.1.1
  have hN9 := hX.2.2.2
  have hkn0 : k ≤ room_1.cells ∧ n ≤ room_1.slots := ⟨Nat.le_of_succ_le hkn.1, Nat.le_trans (Nat.le_add_right n 6) hkn.2⟩
  obtain ⟨r, hs_r⟩ : ∃ v, scr xs (i + 1) = v := ⟨_, rfl⟩
  have hr_r := scr_rg xs (i + 1)
  rw [hs_r] at hr_r
  have hq_0 := fR_c r
  refine g_aload_n C dL_law_2519 1 rfl rfl (q := 2520) rfl ?_
  refine g_aload_n C dL_law_2520 0 rfl rfl (q := 2521) rfl ?_
  refine g_iload C dL_law_2521 5 rfl (q := 2523) rfl ?_
  refine g_iconst C dL_law_2523 (q := 2524) rfl ?_
  refine g_iadd C dL_law_2524 (q := 2525) rfl ?_
  refine g_scr C hX (j := i + 1) (by omega) dL_law_2525 (q := 2526) rfl ?_
  refine g_top (b := r) hs_r ?_
  refine g_aload_n C dL_law_2526 3 rfl rfl (q := 2527) rfl ?_
  rcases (show ((fR r = 0)) ∨ ((fR r = 1)) by omega) with hq0 | hq0
  · skip
    refine g_cL C (hh := th_L_describeReel) (As := [.ref (ea E 0), .int (iI r), .ref (ea E 21)]) (c_L_describeReel l hst E _ r  (by assumption) (by assumption) (by assumption)) ml_L_274 mf_L_describeReel rfl ⟨(Nat.le_of_ble_eq_true rfl), (Nat.le_of_ble_eq_true rfl)⟩ rfl rfl rfl (Nat.le_of_ble_eq_true rfl) hkn dL_law_2527 (q := 2530) rfl ?_
    refine g_istore C (L' := [(6, .int (iI 0)), (0, .ref bS), (1, .ref (ea E 0)), (2, .ref (ea E 13)), (3, .ref (ea E 21)), (4, .ref (ea E 22)), (5, .int (iI i))]) dL_law_2530 (by decide) rfl (q := 2532) rfl ?_
    refine g_aload_n C dL_law_2532 3 rfl rfl (q := 2533) rfl ?_
    refine g_aload_n C dL_law_2533 1 rfl rfl (q := 2534) rfl ?_
    refine g_iload C dL_law_2534 6 rfl (q := 2536) rfl ?_
    refine g_iconst C dL_law_2536 (q := 2537) rfl ?_
    refine g_iadd C dL_law_2537 (q := 2538) rfl ?_
    refine g_scr C hX (j := i + 1) (by omega) dL_law_2538 (q := 2539) rfl ?_
    refine g_top (b := r) hs_r ?_
    refine g_cV_i C (As := [.int (iI r)]) (c_X5_describeReel l E _ r (σ 2) (by show MS (σ 2) (σ 14); assumption) (by omega) (by assumption)) ml_L_276 mf_X5_describeReel (o := 13) (ci := 5) rfl rfl rfl rfl ⟨(Nat.le_of_ble_eq_true rfl), (Nat.le_of_ble_eq_true rfl)⟩ rfl rfl rfl (Nat.le_of_ble_eq_true rfl) hkn dL_law_2539 (q := 2542) rfl ?_
    refine g_top (b := (dsI (σ 2) r 0 (σ 20) 0 ((σ 2) (240 + r))).2) rfl ?_
    refine g_st (σ2 := (st (st (st (st (st σ 11 (pt (σ 11) 1 ((dsI (σ 2) r 0 (σ 12) 0 ((σ 2) (240 + r))).2))) 12 ((dsI (σ 2) r 0 (σ 12) 0 ((σ 2) (240 + r))).1)) 13 (pt (pt (σ 13) 0 0) 11 ((dsI (σ 2) r 0 (σ 20) 0 ((σ 2) (240 + r))).2))) 20 ((dsI (σ 2) r 0 (σ 20) 0 ((σ 2) (240 + r))).1)) 21 (pt (σ 21) 0 (wr ((dsI (σ 2) r 0 (σ 12) 0 ((σ 2) (240 + r))).2))))) ((congrArg (fun g9 => st g9 20 ((dsI (σ 2) r 0 (σ 20) 0 ((σ 2) (240 + r))).1)) (st_cm (st (st σ 11 (pt (σ 11) 1 ((dsI (σ 2) r 0 (σ 12) 0 ((σ 2) (240 + r))).2))) 12 ((dsI (σ 2) r 0 (σ 12) 0 ((σ 2) (240 + r))).1)) (o := 21) (q := 13) (pt (σ 21) 0 (wr ((dsI (σ 2) r 0 (σ 12) 0 ((σ 2) (240 + r))).2))) (pt (pt (σ 13) 0 0) 11 ((dsI (σ 2) r 0 (σ 20) 0 ((σ 2) (240 + r))).2)) (by decide))).trans (st_cm (st (st (st σ 11 (pt (σ 11) 1 ((dsI (σ 2) r 0 (σ 12) 0 ((σ 2) (240 + r))).2))) 12 ((dsI (σ 2) r 0 (σ 12) 0 ((σ 2) (240 + r))).1)) 13 (pt (pt (σ 13) 0 0) 11 ((dsI (σ 2) r 0 (σ 20) 0 ((σ 2) (240 + r))).2))) (o := 21) (q := 20) (pt (σ 21) 0 (wr ((dsI (σ 2) r 0 (σ 12) 0 ((σ 2) (240 + r))).2))) ((dsI (σ 2) r 0 (σ 20) 0 ((σ 2) (240 + r))).1) (by decide))) ?_
    refine g_istore C (L' := [(7, .int (iI ((dsI (σ 2) r 0 (σ 20) 0 ((σ 2) (240 + r))).2))), (6, .int (iI 0)), (0, .ref bS), (1, .ref (ea E 0)), (2, .ref (ea E 13)), (3, .ref (ea E 21)), (4, .ref (ea E 22)), (5, .int (iI i))]) dL_law_2542 (by decide) rfl (q := 2544) rfl ?_
    refine g_aload_n C dL_law_2544 4 rfl rfl (q := 2545) rfl ?_
    refine g_cV_i C (As := []) (c_X5_thrown l E _) ml_L_157 mf_X5_thrown (o := 13) (ci := 5) rfl rfl rfl rfl ⟨(Nat.le_of_ble_eq_true rfl), (Nat.le_of_ble_eq_true rfl)⟩ rfl rfl rfl (Nat.le_of_ble_eq_true rfl) hkn dL_law_2545 (q := 2548) rfl ?_
    refine g_top (b := 0) rfl ?_
    refine g_iload C dL_law_2548 1 rfl (q := 2550) rfl ?_
    refine g_icmp_eq C dL_law_2550 (by omega) (q2 := 2555) rfl (q := 2553) rfl (fun hb2 => ?_) (fun hb2 => ?_)
    · skip
      refine g_iload C dL_law_2555 1 rfl (q := 2557) rfl ?_
      refine g_if_ne C dL_law_2557 (by omega) (q2 := 2572) rfl (q := 2560) rfl (fun hb3 => ?_) (fun hb3 => ?_)
      · skip
        exfalso; omega
      · skip
        refine g_aload_n C dL_law_2560 5 rfl rfl (q := 2561) rfl ?_
        refine g_iconst C dL_law_2561 (q := 2562) rfl ?_
        refine gl_21 C dL_law_2562 (q := 2563) rfl ?_
        refine g_topl (b := (wr ((dsI (σ 2) r 0 (σ 12) 0 ((σ 2) (240 + r))).2))) (show (pt (σ 21) 0 (wr ((dsI (σ 2) r 0 (σ 12) 0 ((σ 2) (240 + r))).2))) 0 = (wr ((dsI (σ 2) r 0 (σ 12) 0 ((σ 2) (240 + r))).2)) from pt_s _ _ _) ?_
        refine g_iload C dL_law_2563 0 rfl (q := 2565) rfl ?_
        refine g_i2lw C dL_law_2565 (q := 2566) rfl ?_
        refine g_lcmpE C (by exact congrArg wr (ds_all hW (fR_0 hq0) (σ 12) (σ 20)).1.symm) dL_law_2566 (q := 2567) rfl ?_
        refine g_if_eq C dL_law_2567 (by omega) (q2 := 2572) rfl (q := 2570) rfl (fun hb4 => ?_) (fun hb4 => ?_)
        · skip
          refine g_goto C dL_law_2572 (q := 2912) rfl ?_
          refine g_sub [2, 3, 4, 5, 6, 7] (L' := [(0, .ref bS), (1, .ref (ea E 0)), (2, .ref (ea E 13)), (3, .ref (ea E 21)), (4, .ref (ea E 22)), (5, .int (iI i))]) rfl ?_
          exact K _ (by exact ⟨hI.1, hI.2.1, hI.2.2.1, hI.2.2.2.1, hI.2.2.2.2.1, hI.2.2.2.2.2.1, ds_all hW (fR_0 hq0) (σ 12) (σ 20)⟩)
        · skip
          exfalso; omega
    · skip
      exfalso; omega
  · skip
    refine g_cL C (hh := th_L_describeReel) (As := [.ref (ea E 0), .int (iI r), .ref (ea E 21)]) (c_L_describeReel_1 l hst E _ r  (by assumption) (by assumption)) ml_L_274 mf_L_describeReel rfl ⟨(Nat.le_of_ble_eq_true rfl), (Nat.le_of_ble_eq_true rfl)⟩ rfl rfl rfl (Nat.le_of_ble_eq_true rfl) hkn dL_law_2527 (q := 2530) rfl ?_
    refine g_istore C (L' := [(6, .int (iI 1)), (0, .ref bS), (1, .ref (ea E 0)), (2, .ref (ea E 13)), (3, .ref (ea E 21)), (4, .ref (ea E 22)), (5, .int (iI i))]) dL_law_2530 (by decide) rfl (q := 2532) rfl ?_
    refine g_aload_n C dL_law_2532 3 rfl rfl (q := 2533) rfl ?_
    refine g_aload_n C dL_law_2533 1 rfl rfl (q := 2534) rfl ?_
    refine g_iload C dL_law_2534 6 rfl (q := 2536) rfl ?_
    refine g_iconst C dL_law_2536 (q := 2537) rfl ?_
    refine g_iadd C dL_law_2537 (q := 2538) rfl ?_
    refine g_scr C hX (j := i + 1) (by omega) dL_law_2538 (q := 2539) rfl ?_
    refine g_top (b := r) hs_r ?_
    refine g_cV_i C (As := [.int (iI r)]) (c_X5_describeReel_11 l E _ r (σ 2) (by assumption) (by omega) (by assumption)) ml_L_276 mf_X5_describeReel (o := 13) (ci := 5) rfl rfl rfl rfl ⟨(Nat.le_of_ble_eq_true rfl), (Nat.le_of_ble_eq_true rfl)⟩ rfl rfl rfl (Nat.le_of_ble_eq_true rfl) hkn dL_law_2539 (q := 2542) rfl ?_
    refine g_istore C (L' := [(7, .int (iI 0)), (6, .int (iI 1)), (0, .ref bS), (1, .ref (ea E 0)), (2, .ref (ea E 13)), (3, .ref (ea E 21)), (4, .ref (ea E 22)), (5, .int (iI i))]) dL_law_2542 (by decide) rfl (q := 2544) rfl ?_
    refine g_aload_n C dL_law_2544 4 rfl rfl (q := 2545) rfl ?_
    refine g_cV_i C (As := []) (c_X5_thrown l E _) ml_L_157 mf_X5_thrown (o := 13) (ci := 5) rfl rfl rfl rfl ⟨(Nat.le_of_ble_eq_true rfl), (Nat.le_of_ble_eq_true rfl)⟩ rfl rfl rfl (Nat.le_of_ble_eq_true rfl) hkn dL_law_2545 (q := 2548) rfl ?_
    refine g_top (b := 1) rfl ?_
    refine g_iload C dL_law_2548 1 rfl (q := 2550) rfl ?_
    refine g_icmp_eq C dL_law_2550 (by omega) (q2 := 2555) rfl (q := 2553) rfl (fun hb5 => ?_) (fun hb5 => ?_)
    · skip
      refine g_iload C dL_law_2555 1 rfl (q := 2557) rfl ?_
      refine g_if_ne C dL_law_2557 (by omega) (q2 := 2572) rfl (q := 2560) rfl (fun hb6 => ?_) (fun hb6 => ?_)
      · skip
        refine g_goto C dL_law_2572 (q := 2912) rfl ?_
        refine g_sub [2, 3, 4, 5, 6, 7] (L' := [(0, .ref bS), (1, .ref (ea E 0)), (2, .ref (ea E 13)), (3, .ref (ea E 21)), (4, .ref (ea E 22)), (5, .int (iI i))]) rfl ?_
        exact K _ (by exact hI)
      · skip
        exfalso; omega
    · skip
      exfalso; omega
set_option maxRecDepth 100000 in
set_option maxHeartbeats 4000000 in
theorem lc_37 {p : Program} {l : Launch} {e : Env} {s : State} {m : MethodId} {args : Array Value} {below : List Frame} {meth : Method} {c : Code} {E : EV} {A : Nat → Prop} {Q : State → Prop} {σ : SS} {k n : Nat} {bS N : Nat} {xs : Nat → Int32} (hst : l.stackTraces = false) (C : CX p l e room_1 s m args below meth c RL cL_law 9 E A (some .boolean)) (hX : SX bS N xs s A) (hkn : k + 1 ≤ room_1.cells ∧ n + 6 ≤ room_1.slots) (i : Int) (hi : 0 ≤ i ∧ i + 5 ≤ N) (hI : INV σ) (K : ∀ σ2 : SS, INV σ2 → GG p l e room_1 s m args below meth c Q E A 9 σ2 (k + 1) (n + 6) 2912 [(0, .ref bS), (1, .ref (ea E 0)), (2, .ref (ea E 13)), (3, .ref (ea E 21)), (4, .ref (ea E 22)), (5, .int (iI i))] []) : GG p l e room_1 s m args below meth c Q E A 9 σ k n 2575 [(0, .ref bS), (1, .ref (ea E 0)), (2, .ref (ea E 13)), (3, .ref (ea E 21)), (4, .ref (ea E 22)), (5, .int (iI i))] [] := by
  have hM := hI.1.2
  have hP := hI.1.1
  have hW := hM.1
  have hH := hI.2.2.1.2.1
  have hK5 := hI.2.2.1.1
  have hN9 := hX.2.2.2
  have hkn0 : k ≤ room_1.cells ∧ n ≤ room_1.slots := ⟨Nat.le_of_succ_le hkn.1, Nat.le_trans (Nat.le_add_right n 6) hkn.2⟩
  obtain ⟨v, hv1⟩ : ∃ v, scr xs (i + 1) = v := ⟨_, rfl⟩
  have hr_v := scr_rg xs (i + 1)
  rw [hv1] at hr_v
  have hL := hI.2.2.2.2.2.2
  have hL1 := hL.1
  have hL2 := hL.2.1
  refine g_aload_n C dL_law_2575 1 rfl rfl (q := 2576) rfl ?_
  refine g_aload_n C dL_law_2576 0 rfl rfl (q := 2577) rfl ?_
  refine g_iload C dL_law_2577 5 rfl (q := 2579) rfl ?_
  refine g_iconst C dL_law_2579 (q := 2580) rfl ?_
  refine g_iadd C dL_law_2580 (q := 2581) rfl ?_
  refine g_scr C hX (j := i + 1) (by omega) dL_law_2581 (q := 2582) rfl ?_
  refine g_top (b := v) hv1 ?_
  refine g_aload_n C dL_law_2582 3 rfl rfl (q := 2583) rfl ?_
  rcases (show ((0 ≤ v ∧ v < (σ 11 1))) ∨ ((¬ (0 ≤ v ∧ v < (σ 11 1)))) by omega) with hq0 | hq0
  · skip
    have hL3 := hL.2.2 v hq0
    refine g_cL C (hh := th_L_lineAt) (As := [.ref (ea E 0), .int (iI v), .ref (ea E 21)]) (c_L_lineAt l hst E _ v  (by assumption) (by assumption) (by assumption) (by exact hL3.2)) ml_L_277 mf_L_lineAt rfl ⟨(Nat.le_of_ble_eq_true rfl), (Nat.le_of_ble_eq_true rfl)⟩ rfl rfl rfl (Nat.le_of_ble_eq_true rfl) hkn dL_law_2583 (q := 2586) rfl ?_
    refine g_istore C (L' := [(6, .int (iI 0)), (0, .ref bS), (1, .ref (ea E 0)), (2, .ref (ea E 13)), (3, .ref (ea E 21)), (4, .ref (ea E 22)), (5, .int (iI i))]) dL_law_2586 (by decide) rfl (q := 2588) rfl ?_
    refine g_aload_n C dL_law_2588 3 rfl rfl (q := 2589) rfl ?_
    refine g_aload_n C dL_law_2589 1 rfl rfl (q := 2590) rfl ?_
    refine g_iload C dL_law_2590 6 rfl (q := 2592) rfl ?_
    refine g_iconst C dL_law_2592 (q := 2593) rfl ?_
    refine g_iadd C dL_law_2593 (q := 2594) rfl ?_
    refine g_scr C hX (j := i + 1) (by omega) dL_law_2594 (q := 2595) rfl ?_
    refine g_top (b := v) hv1 ?_
    refine g_cV_i C (As := [.int (iI v)]) (c_X5_lineAt l E _ v  (by omega) (by show 0 ≤ (σ 13 11) ∧ (σ 13 11) ≤ 240; omega) (by show 0 ≤ v ∧ v < (σ 13 11); omega) (by show 0 ≤ (σ 20) v ∧ (σ 20) v < 65536; omega)) ml_L_279 mf_X5_lineAt (o := 13) (ci := 5) rfl rfl rfl rfl ⟨(Nat.le_of_ble_eq_true rfl), (Nat.le_of_ble_eq_true rfl)⟩ rfl rfl rfl (Nat.le_of_ble_eq_true rfl) hkn dL_law_2595 (q := 2598) rfl ?_
    refine g_top (b := (σ 20) v) rfl ?_
    refine g_st (σ2 := (st (st σ 13 (pt (σ 13) 0 0)) 21 (pt (σ 21) 0 (wr ((σ 12) v))))) (st_cm σ (o := 21) (q := 13) (pt (σ 21) 0 (wr ((σ 12) v))) (pt (σ 13) 0 0) (by decide)) ?_
    refine g_istore C (L' := [(7, .int (iI ((σ 20) v))), (6, .int (iI 0)), (0, .ref bS), (1, .ref (ea E 0)), (2, .ref (ea E 13)), (3, .ref (ea E 21)), (4, .ref (ea E 22)), (5, .int (iI i))]) dL_law_2598 (by decide) rfl (q := 2600) rfl ?_
    refine g_aload_n C dL_law_2600 4 rfl rfl (q := 2601) rfl ?_
    refine g_cV_i C (As := []) (c_X5_thrown l E _) ml_L_157 mf_X5_thrown (o := 13) (ci := 5) rfl rfl rfl rfl ⟨(Nat.le_of_ble_eq_true rfl), (Nat.le_of_ble_eq_true rfl)⟩ rfl rfl rfl (Nat.le_of_ble_eq_true rfl) hkn dL_law_2601 (q := 2604) rfl ?_
    refine g_top (b := 0) rfl ?_
    refine g_iload C dL_law_2604 1 rfl (q := 2606) rfl ?_
    refine g_icmp_eq C dL_law_2606 (by omega) (q2 := 2611) rfl (q := 2609) rfl (fun hb2 => ?_) (fun hb2 => ?_)
    · skip
      refine g_iload C dL_law_2611 1 rfl (q := 2613) rfl ?_
      refine g_if_ne C dL_law_2613 (by omega) (q2 := 2628) rfl (q := 2616) rfl (fun hb3 => ?_) (fun hb3 => ?_)
      · skip
        exfalso; omega
      · skip
        refine g_aload_n C dL_law_2616 5 rfl rfl (q := 2617) rfl ?_
        refine g_iconst C dL_law_2617 (q := 2618) rfl ?_
        refine gl_21 C dL_law_2618 (q := 2619) rfl ?_
        refine g_topl (b := (wr ((σ 12) v))) (show (pt (σ 21) 0 (wr ((σ 12) v))) 0 = (wr ((σ 12) v)) from pt_s _ _ _) ?_
        refine g_iload C dL_law_2619 0 rfl (q := 2621) rfl ?_
        refine g_i2lw C dL_law_2621 (q := 2622) rfl ?_
        refine g_lcmpE C (by rw [hL3.1]) dL_law_2622 (q := 2623) rfl ?_
        refine g_if_eq C dL_law_2623 (by omega) (q2 := 2628) rfl (q := 2626) rfl (fun hb4 => ?_) (fun hb4 => ?_)
        · skip
          refine g_goto C dL_law_2628 (q := 2912) rfl ?_
          refine g_sub [2, 3, 4, 5, 6, 7] (L' := [(0, .ref bS), (1, .ref (ea E 0)), (2, .ref (ea E 13)), (3, .ref (ea E 21)), (4, .ref (ea E 22)), (5, .int (iI i))]) rfl ?_
          exact K _ (by exact hI)
        · skip
          exfalso; omega
    · skip
      exfalso; omega
  · skip
    refine g_cL C (hh := th_L_lineAt) (As := [.ref (ea E 0), .int (iI v), .ref (ea E 21)]) (c_L_lineAt_1 l hst E _ v  (by assumption) (by assumption) (by assumption)) ml_L_277 mf_L_lineAt rfl ⟨(Nat.le_of_ble_eq_true rfl), (Nat.le_of_ble_eq_true rfl)⟩ rfl rfl rfl (Nat.le_of_ble_eq_true rfl) hkn dL_law_2583 (q := 2586) rfl ?_
    refine g_istore C (L' := [(6, .int (iI 1)), (0, .ref bS), (1, .ref (ea E 0)), (2, .ref (ea E 13)), (3, .ref (ea E 21)), (4, .ref (ea E 22)), (5, .int (iI i))]) dL_law_2586 (by decide) rfl (q := 2588) rfl ?_
    refine g_aload_n C dL_law_2588 3 rfl rfl (q := 2589) rfl ?_
    refine g_aload_n C dL_law_2589 1 rfl rfl (q := 2590) rfl ?_
    refine g_iload C dL_law_2590 6 rfl (q := 2592) rfl ?_
    refine g_iconst C dL_law_2592 (q := 2593) rfl ?_
    refine g_iadd C dL_law_2593 (q := 2594) rfl ?_
    refine g_scr C hX (j := i + 1) (by omega) dL_law_2594 (q := 2595) rfl ?_
    refine g_top (b := v) hv1 ?_
    refine g_cV_i C (As := [.int (iI v)]) (c_X5_lineAt_1 l E _ v  (by omega) (by omega) (by omega)) ml_L_279 mf_X5_lineAt (o := 13) (ci := 5) rfl rfl rfl rfl ⟨(Nat.le_of_ble_eq_true rfl), (Nat.le_of_ble_eq_true rfl)⟩ rfl rfl rfl (Nat.le_of_ble_eq_true rfl) hkn dL_law_2595 (q := 2598) rfl ?_
    refine g_istore C (L' := [(7, .int (iI 0)), (6, .int (iI 1)), (0, .ref bS), (1, .ref (ea E 0)), (2, .ref (ea E 13)), (3, .ref (ea E 21)), (4, .ref (ea E 22)), (5, .int (iI i))]) dL_law_2598 (by decide) rfl (q := 2600) rfl ?_
    refine g_aload_n C dL_law_2600 4 rfl rfl (q := 2601) rfl ?_
    refine g_cV_i C (As := []) (c_X5_thrown l E _) ml_L_157 mf_X5_thrown (o := 13) (ci := 5) rfl rfl rfl rfl ⟨(Nat.le_of_ble_eq_true rfl), (Nat.le_of_ble_eq_true rfl)⟩ rfl rfl rfl (Nat.le_of_ble_eq_true rfl) hkn dL_law_2601 (q := 2604) rfl ?_
    refine g_top (b := 1) rfl ?_
    refine g_iload C dL_law_2604 1 rfl (q := 2606) rfl ?_
    refine g_icmp_eq C dL_law_2606 (by omega) (q2 := 2611) rfl (q := 2609) rfl (fun hb5 => ?_) (fun hb5 => ?_)
    · skip
      refine g_iload C dL_law_2611 1 rfl (q := 2613) rfl ?_
      refine g_if_ne C dL_law_2613 (by omega) (q2 := 2628) rfl (q := 2616) rfl (fun hb6 => ?_) (fun hb6 => ?_)
      · skip
        refine g_goto C dL_law_2628 (q := 2912) rfl ?_
        refine g_sub [2, 3, 4, 5, 6, 7] (L' := [(0, .ref bS), (1, .ref (ea E 0)), (2, .ref (ea E 13)), (3, .ref (ea E 21)), (4, .ref (ea E 22)), (5, .int (iI i))]) rfl ?_
        exact K _ (by exact hI)
      · skip
        exfalso; omega
    · skip
      exfalso; omega
set_option maxRecDepth 100000 in
set_option maxHeartbeats 4000000 in
theorem lc_38 {p : Program} {l : Launch} {e : Env} {s : State} {m : MethodId} {args : Array Value} {below : List Frame} {meth : Method} {c : Code} {E : EV} {A : Nat → Prop} {Q : State → Prop} {σ : SS} {k n : Nat} {bS N : Nat} {xs : Nat → Int32} (hst : l.stackTraces = false) (C : CX p l e room_1 s m args below meth c RL cL_law 9 E A (some .boolean)) (hX : SX bS N xs s A) (hkn : k + 1 ≤ room_1.cells ∧ n + 6 ≤ room_1.slots) (i : Int) (hi : 0 ≤ i ∧ i + 5 ≤ N) (hI : INV σ) (K : ∀ σ2 : SS, INV σ2 → GG p l e room_1 s m args below meth c Q E A 9 σ2 (k + 1) (n + 6) 2912 [(0, .ref bS), (1, .ref (ea E 0)), (2, .ref (ea E 13)), (3, .ref (ea E 21)), (4, .ref (ea E 22)), (5, .int (iI i))] []) : GG p l e room_1 s m args below meth c Q E A 9 σ k n 2631 [(0, .ref bS), (1, .ref (ea E 0)), (2, .ref (ea E 13)), (3, .ref (ea E 21)), (4, .ref (ea E 22)), (5, .int (iI i))] [] := by
  have hM := hI.1.2
  have hP := hI.1.1
  have hW := hM.1
  have hH := hI.2.2.1.2.1
  have hK5 := hI.2.2.1.1
  have hN9 := hX.2.2.2
  have hkn0 : k ≤ room_1.cells ∧ n ≤ room_1.slots := ⟨Nat.le_of_succ_le hkn.1, Nat.le_trans (Nat.le_add_right n 6) hkn.2⟩
  obtain ⟨r, hs_r⟩ : ∃ v, scr xs (i + 1) = v := ⟨_, rfl⟩
  have hr_r := scr_rg xs (i + 1)
  rw [hs_r] at hr_r
  have hq_0 := fR_c r
  refine g_aload_n C dL_law_2631 1 rfl rfl (q := 2632) rfl ?_
  refine g_aload_n C dL_law_2632 0 rfl rfl (q := 2633) rfl ?_
  refine g_iload C dL_law_2633 5 rfl (q := 2635) rfl ?_
  refine g_iconst C dL_law_2635 (q := 2636) rfl ?_
  refine g_iadd C dL_law_2636 (q := 2637) rfl ?_
  refine g_scr C hX (j := i + 1) (by omega) dL_law_2637 (q := 2638) rfl ?_
  refine g_top (b := r) hs_r ?_
  refine g_aload C dL_law_2638 4 rfl (q := 2640) rfl ?_
  rcases (show ((fR r = 0) ∧ ((σ 2) (240 + r) ≠ 0)) ∨ ((fR r = 0) ∧ ((σ 2) (240 + r) = 0)) ∨ ((fR r = 1)) by omega) with ⟨hq0, hq1⟩ | ⟨hq0, hq1⟩ | hq0
  · skip
    refine g_cL C (hh := th_L_meanLength) (As := [.ref (ea E 0), .int (iI r), .ref (ea E 22)]) (c_L_meanLength l hst E _ r  (by assumption) (by assumption) (by assumption) (by assumption) (by assumption)) ml_L_280 mf_L_meanLength rfl ⟨(Nat.le_of_ble_eq_true rfl), (Nat.le_of_ble_eq_true rfl)⟩ rfl rfl rfl (Nat.le_of_ble_eq_true rfl) hkn dL_law_2640 (q := 2643) rfl ?_
    refine g_istore C (L' := [(6, .int (iI 0)), (0, .ref bS), (1, .ref (ea E 0)), (2, .ref (ea E 13)), (3, .ref (ea E 21)), (4, .ref (ea E 22)), (5, .int (iI i))]) dL_law_2643 (by decide) rfl (q := 2645) rfl ?_
    refine g_aload_n C dL_law_2645 3 rfl rfl (q := 2646) rfl ?_
    refine g_aload_n C dL_law_2646 1 rfl rfl (q := 2647) rfl ?_
    refine g_iload C dL_law_2647 6 rfl (q := 2649) rfl ?_
    refine g_iconst C dL_law_2649 (q := 2650) rfl ?_
    refine g_iadd C dL_law_2650 (q := 2651) rfl ?_
    refine g_scr C hX (j := i + 1) (by omega) dL_law_2651 (q := 2652) rfl ?_
    refine g_top (b := r) hs_r ?_
    refine g_cV_d C (As := [.int (iI r)]) (c_X5_meanLength l E _ r (σ 2) (by show MS (σ 2) (σ 14); assumption) (by omega) (by assumption) (by assumption)) ml_L_283 mf_X5_meanLength (o := 13) (ci := 5) rfl rfl rfl rfl ⟨(Nat.le_of_ble_eq_true rfl), (Nat.le_of_ble_eq_true rfl)⟩ rfl rfl rfl (Nat.le_of_ble_eq_true rfl) hkn dL_law_2652 (q := 2655) rfl ?_
    refine g_st (σ2 := (st (st σ 13 (pt (σ 13) 0 0)) 22 (pt (σ 22) 0 ((FP.ddiv (FP.i2d (iI (sb (σ 2) r ((σ 2) (240 + r))))) (FP.i2d (iI ((σ 2) (240 + r))))).toNat : Int)))) (st_cm σ (o := 22) (q := 13) (pt (σ 22) 0 ((FP.ddiv (FP.i2d (iI (sb (σ 2) r ((σ 2) (240 + r))))) (FP.i2d (iI ((σ 2) (240 + r))))).toNat : Int)) (pt (σ 13) 0 0) (by decide)) ?_
    refine g_dstore C (L' := [(7, .double (FP.ddiv (FP.i2d (iI (sI (lgs (σ 2) r) 0 ((σ 2) (240 + r))))) (FP.i2d (iI ((σ 2) (240 + r)))))), (6, .int (iI 0)), (0, .ref bS), (1, .ref (ea E 0)), (2, .ref (ea E 13)), (3, .ref (ea E 21)), (4, .ref (ea E 22)), (5, .int (iI i))]) dL_law_2655 (by decide) rfl (q := 2657) rfl ?_
    refine g_aload_n C dL_law_2657 4 rfl rfl (q := 2658) rfl ?_
    refine g_cV_i C (As := []) (c_X5_thrown l E _) ml_L_157 mf_X5_thrown (o := 13) (ci := 5) rfl rfl rfl rfl ⟨(Nat.le_of_ble_eq_true rfl), (Nat.le_of_ble_eq_true rfl)⟩ rfl rfl rfl (Nat.le_of_ble_eq_true rfl) hkn dL_law_2658 (q := 2661) rfl ?_
    refine g_top (b := 0) rfl ?_
    refine g_iload C dL_law_2661 1 rfl (q := 2663) rfl ?_
    refine g_icmp_eq C dL_law_2663 (by omega) (q2 := 2668) rfl (q := 2666) rfl (fun hb2 => ?_) (fun hb2 => ?_)
    · skip
      refine g_iload C dL_law_2668 1 rfl (q := 2670) rfl ?_
      refine g_if_ne C dL_law_2670 (by omega) (q2 := 2705) rfl (q := 2673) rfl (fun hb3 => ?_) (fun hb3 => ?_)
      · skip
        exfalso; omega
      · skip
        refine g_aload C dL_law_2673 6 rfl (q := 2675) rfl ?_
        refine g_iconst C dL_law_2675 (q := 2676) rfl ?_
        refine gl_22 C dL_law_2676 (q := 2677) rfl ?_
        refine g_topd (b := FP.ddiv (FP.i2d (iI (sb (σ 2) r ((σ 2) (240 + r))))) (FP.i2d (iI ((σ 2) (240 + r))))) (show iD ((pt (σ 22) 0 ((FP.ddiv (FP.i2d (iI (sb (σ 2) r ((σ 2) (240 + r))))) (FP.i2d (iI ((σ 2) (240 + r))))).toNat : Int)) 0) = FP.ddiv (FP.i2d (iI (sb (σ 2) r ((σ 2) (240 + r))))) (FP.i2d (iI ((σ 2) (240 + r)))) from (congrArg iD (pt_s _ _ _)).trans (iD_of _)) ?_
        refine g_dload C dL_law_2677 0 rfl (q := 2679) rfl ?_
        refine g_dcmpE C (by rw [sb_eq hP (fR_0 hq0) (hW r (fR_0 hq0)).1.2 (by have := (hW r (fR_0 hq0)).1; omega)]) (by rw [sb_eq hP (fR_0 hq0) (hW r (fR_0 hq0)).1.2 (by have := (hW r (fR_0 hq0)).1; omega)]; exact dv64 (by have := sum_rg hW (fR_0 hq0) (a := 0) (b := σ 2 (240 + r)) (by omega); omega) (by have := (hW r (fR_0 hq0)).1; omega)) dL_law_2679 (q := 2680) rfl ?_
        refine g_if_eq C dL_law_2680 (by omega) (q2 := 2705) rfl (q := 2683) rfl (fun hb4 => ?_) (fun hb4 => ?_)
        · skip
          refine g_goto C dL_law_2705 (q := 2912) rfl ?_
          refine g_sub [2, 3, 4, 5, 6, 7] (L' := [(0, .ref bS), (1, .ref (ea E 0)), (2, .ref (ea E 13)), (3, .ref (ea E 21)), (4, .ref (ea E 22)), (5, .int (iI i))]) rfl ?_
          exact K _ (by exact hI)
        · skip
          exfalso; omega
    · skip
      exfalso; omega
  · skip
    refine g_cL C (hh := th_L_meanLength) (As := [.ref (ea E 0), .int (iI r), .ref (ea E 22)]) (c_L_meanLength_2 l hst E _ r  (by assumption) (by assumption) (by assumption) (by assumption) (by assumption)) ml_L_280 mf_L_meanLength rfl ⟨(Nat.le_of_ble_eq_true rfl), (Nat.le_of_ble_eq_true rfl)⟩ rfl rfl rfl (Nat.le_of_ble_eq_true rfl) hkn dL_law_2640 (q := 2643) rfl ?_
    refine g_istore C (L' := [(6, .int (iI 2)), (0, .ref bS), (1, .ref (ea E 0)), (2, .ref (ea E 13)), (3, .ref (ea E 21)), (4, .ref (ea E 22)), (5, .int (iI i))]) dL_law_2643 (by decide) rfl (q := 2645) rfl ?_
    refine g_aload_n C dL_law_2645 3 rfl rfl (q := 2646) rfl ?_
    refine g_aload_n C dL_law_2646 1 rfl rfl (q := 2647) rfl ?_
    refine g_iload C dL_law_2647 6 rfl (q := 2649) rfl ?_
    refine g_iconst C dL_law_2649 (q := 2650) rfl ?_
    refine g_iadd C dL_law_2650 (q := 2651) rfl ?_
    refine g_scr C hX (j := i + 1) (by omega) dL_law_2651 (q := 2652) rfl ?_
    refine g_top (b := r) hs_r ?_
    refine g_cV_d C (As := [.int (iI r)]) (c_X5_meanLength_2 l E _ r (σ 2) (by assumption) (by omega) (by assumption) (by assumption)) ml_L_283 mf_X5_meanLength (o := 13) (ci := 5) rfl rfl rfl rfl ⟨(Nat.le_of_ble_eq_true rfl), (Nat.le_of_ble_eq_true rfl)⟩ rfl rfl rfl (Nat.le_of_ble_eq_true rfl) hkn dL_law_2652 (q := 2655) rfl ?_
    refine g_dstore C (L' := [(7, .double FP.dconst0), (6, .int (iI 2)), (0, .ref bS), (1, .ref (ea E 0)), (2, .ref (ea E 13)), (3, .ref (ea E 21)), (4, .ref (ea E 22)), (5, .int (iI i))]) dL_law_2655 (by decide) rfl (q := 2657) rfl ?_
    refine g_aload_n C dL_law_2657 4 rfl rfl (q := 2658) rfl ?_
    refine g_cV_i C (As := []) (c_X5_thrown l E _) ml_L_157 mf_X5_thrown (o := 13) (ci := 5) rfl rfl rfl rfl ⟨(Nat.le_of_ble_eq_true rfl), (Nat.le_of_ble_eq_true rfl)⟩ rfl rfl rfl (Nat.le_of_ble_eq_true rfl) hkn dL_law_2658 (q := 2661) rfl ?_
    refine g_top (b := 2) rfl ?_
    refine g_iload C dL_law_2661 1 rfl (q := 2663) rfl ?_
    refine g_icmp_eq C dL_law_2663 (by omega) (q2 := 2668) rfl (q := 2666) rfl (fun hb5 => ?_) (fun hb5 => ?_)
    · skip
      refine g_iload C dL_law_2668 1 rfl (q := 2670) rfl ?_
      refine g_if_ne C dL_law_2670 (by omega) (q2 := 2705) rfl (q := 2673) rfl (fun hb6 => ?_) (fun hb6 => ?_)
      · skip
        refine g_goto C dL_law_2705 (q := 2912) rfl ?_
        refine g_sub [2, 3, 4, 5, 6, 7] (L' := [(0, .ref bS), (1, .ref (ea E 0)), (2, .ref (ea E 13)), (3, .ref (ea E 21)), (4, .ref (ea E 22)), (5, .int (iI i))]) rfl ?_
        exact K _ (by exact hI)
      · skip
        exfalso; omega
    · skip
      exfalso; omega
  · skip
    refine g_cL C (hh := th_L_meanLength) (As := [.ref (ea E 0), .int (iI r), .ref (ea E 22)]) (c_L_meanLength_1 l hst E _ r  (by assumption) (by assumption) (by assumption)) ml_L_280 mf_L_meanLength rfl ⟨(Nat.le_of_ble_eq_true rfl), (Nat.le_of_ble_eq_true rfl)⟩ rfl rfl rfl (Nat.le_of_ble_eq_true rfl) hkn dL_law_2640 (q := 2643) rfl ?_
    refine g_istore C (L' := [(6, .int (iI 1)), (0, .ref bS), (1, .ref (ea E 0)), (2, .ref (ea E 13)), (3, .ref (ea E 21)), (4, .ref (ea E 22)), (5, .int (iI i))]) dL_law_2643 (by decide) rfl (q := 2645) rfl ?_
    refine g_aload_n C dL_law_2645 3 rfl rfl (q := 2646) rfl ?_
    refine g_aload_n C dL_law_2646 1 rfl rfl (q := 2647) rfl ?_
    refine g_iload C dL_law_2647 6 rfl (q := 2649) rfl ?_
    refine g_iconst C dL_law_2649 (q := 2650) rfl ?_
    refine g_iadd C dL_law_2650 (q := 2651) rfl ?_
    refine g_scr C hX (j := i + 1) (by omega) dL_law_2651 (q := 2652) rfl ?_
    refine g_top (b := r) hs_r ?_
    refine g_cV_d C (As := [.int (iI r)]) (c_X5_meanLength_1 l E _ r (σ 2) (by assumption) (by omega) (by assumption)) ml_L_283 mf_X5_meanLength (o := 13) (ci := 5) rfl rfl rfl rfl ⟨(Nat.le_of_ble_eq_true rfl), (Nat.le_of_ble_eq_true rfl)⟩ rfl rfl rfl (Nat.le_of_ble_eq_true rfl) hkn dL_law_2652 (q := 2655) rfl ?_
    refine g_dstore C (L' := [(7, .double FP.dconst0), (6, .int (iI 1)), (0, .ref bS), (1, .ref (ea E 0)), (2, .ref (ea E 13)), (3, .ref (ea E 21)), (4, .ref (ea E 22)), (5, .int (iI i))]) dL_law_2655 (by decide) rfl (q := 2657) rfl ?_
    refine g_aload_n C dL_law_2657 4 rfl rfl (q := 2658) rfl ?_
    refine g_cV_i C (As := []) (c_X5_thrown l E _) ml_L_157 mf_X5_thrown (o := 13) (ci := 5) rfl rfl rfl rfl ⟨(Nat.le_of_ble_eq_true rfl), (Nat.le_of_ble_eq_true rfl)⟩ rfl rfl rfl (Nat.le_of_ble_eq_true rfl) hkn dL_law_2658 (q := 2661) rfl ?_
    refine g_top (b := 1) rfl ?_
    refine g_iload C dL_law_2661 1 rfl (q := 2663) rfl ?_
    refine g_icmp_eq C dL_law_2663 (by omega) (q2 := 2668) rfl (q := 2666) rfl (fun hb7 => ?_) (fun hb7 => ?_)
    · skip
      refine g_iload C dL_law_2668 1 rfl (q := 2670) rfl ?_
      refine g_if_ne C dL_law_2670 (by omega) (q2 := 2705) rfl (q := 2673) rfl (fun hb8 => ?_) (fun hb8 => ?_)
      · skip
        refine g_goto C dL_law_2705 (q := 2912) rfl ?_
        refine g_sub [2, 3, 4, 5, 6, 7] (L' := [(0, .ref bS), (1, .ref (ea E 0)), (2, .ref (ea E 13)), (3, .ref (ea E 21)), (4, .ref (ea E 22)), (5, .int (iI i))]) rfl ?_
        exact K _ (by exact hI)
      · skip
        exfalso; omega
    · skip
      exfalso; omega
set_option maxRecDepth 100000 in
set_option maxHeartbeats 4000000 in
theorem lc_39 {p : Program} {l : Launch} {e : Env} {s : State} {m : MethodId} {args : Array Value} {below : List Frame} {meth : Method} {c : Code} {E : EV} {A : Nat → Prop} {Q : State → Prop} {σ : SS} {k n : Nat} {bS N : Nat} {xs : Nat → Int32} (hst : l.stackTraces = false) (C : CX p l e room_1 s m args below meth c RL cL_law 9 E A (some .boolean)) (hX : SX bS N xs s A) (hkn : k + 1 ≤ room_1.cells ∧ n + 6 ≤ room_1.slots) (i : Int) (hi : 0 ≤ i ∧ i + 5 ≤ N) (hI : INV σ) (K : ∀ σ2 : SS, INV σ2 → GG p l e room_1 s m args below meth c Q E A 9 σ2 (k + 1) (n + 6) 2912 [(0, .ref bS), (1, .ref (ea E 0)), (2, .ref (ea E 13)), (3, .ref (ea E 21)), (4, .ref (ea E 22)), (5, .int (iI i))] []) : GG p l e room_1 s m args below meth c Q E A 9 σ k n 2708 [(0, .ref bS), (1, .ref (ea E 0)), (2, .ref (ea E 13)), (3, .ref (ea E 21)), (4, .ref (ea E 22)), (5, .int (iI i))] [] := by
  have hM := hI.1.2
  have hP := hI.1.1
  have hW := hM.1
  have hH := hI.2.2.1.2.1
  have hK5 := hI.2.2.1.1
  have hN9 := hX.2.2.2
  have hkn0 : k ≤ room_1.cells ∧ n ≤ room_1.slots := ⟨Nat.le_of_succ_le hkn.1, Nat.le_trans (Nat.le_add_right n 6) hkn.2⟩
  obtain ⟨r, hs_r⟩ : ∃ v, scr xs (i + 1) = v := ⟨_, rfl⟩
  have hr_r := scr_rg xs (i + 1)
  rw [hs_r] at hr_r
  obtain ⟨c, hs_c⟩ : ∃ v, scr xs (i + 2) = v := ⟨_, rfl⟩
  have hr_c := scr_rg xs (i + 2)
  rw [hs_c] at hr_c
  have hq_0 := fR_c r
  have hq_1 := fC_c c
  refine g_aload_n C dL_law_2708 1 rfl rfl (q := 2709) rfl ?_
  refine g_aload_n C dL_law_2709 0 rfl rfl (q := 2710) rfl ?_
  refine g_iload C dL_law_2710 5 rfl (q := 2712) rfl ?_
  refine g_iconst C dL_law_2712 (q := 2713) rfl ?_
  refine g_iadd C dL_law_2713 (q := 2714) rfl ?_
  refine g_scr C hX (j := i + 1) (by omega) dL_law_2714 (q := 2715) rfl ?_
  refine g_top (b := r) hs_r ?_
  refine g_aload_n C dL_law_2715 0 rfl rfl (q := 2716) rfl ?_
  refine g_iload C dL_law_2716 5 rfl (q := 2718) rfl ?_
  refine g_iconst C dL_law_2718 (q := 2719) rfl ?_
  refine g_iadd C dL_law_2719 (q := 2720) rfl ?_
  refine g_scr C hX (j := i + 2) (by omega) dL_law_2720 (q := 2721) rfl ?_
  refine g_top (b := c) hs_c ?_
  refine g_aload C dL_law_2721 4 rfl (q := 2723) rfl ?_
  rcases (show ((fR r = 0) ∧ (fC c = 0) ∧ ((σ 2) (240 + r) ≠ 0)) ∨ ((fR r = 0) ∧ (fC c = 0) ∧ ((σ 2) (240 + r) = 0)) ∨ ((fR r = 0) ∧ (fC c = 2)) ∨ ((fR r = 1)) by omega) with ⟨hq0, hq1, hq2⟩ | ⟨hq0, hq1, hq2⟩ | ⟨hq0, hq1⟩ | hq0
  · skip
    refine g_cL C (hh := th_L_colourShare) (As := [.ref (ea E 0), .int (iI r), .int (iI c), .ref (ea E 22)]) (c_L_colourShare l hst E _ r c  (by assumption) (by assumption) (by assumption) (by assumption) (by assumption) (by assumption) (by assumption)) ml_L_284 mf_L_colourShare rfl ⟨(Nat.le_of_ble_eq_true rfl), (Nat.le_of_ble_eq_true rfl)⟩ rfl rfl rfl (Nat.le_of_ble_eq_true rfl) hkn dL_law_2723 (q := 2726) rfl ?_
    refine g_istore C (L' := [(6, .int (iI 0)), (0, .ref bS), (1, .ref (ea E 0)), (2, .ref (ea E 13)), (3, .ref (ea E 21)), (4, .ref (ea E 22)), (5, .int (iI i))]) dL_law_2726 (by decide) rfl (q := 2728) rfl ?_
    refine g_aload_n C dL_law_2728 3 rfl rfl (q := 2729) rfl ?_
    refine g_aload_n C dL_law_2729 1 rfl rfl (q := 2730) rfl ?_
    refine g_iload C dL_law_2730 6 rfl (q := 2732) rfl ?_
    refine g_iconst C dL_law_2732 (q := 2733) rfl ?_
    refine g_iadd C dL_law_2733 (q := 2734) rfl ?_
    refine g_scr C hX (j := i + 1) (by omega) dL_law_2734 (q := 2735) rfl ?_
    refine g_top (b := r) hs_r ?_
    refine g_aload_n C dL_law_2735 1 rfl rfl (q := 2736) rfl ?_
    refine g_iload C dL_law_2736 6 rfl (q := 2738) rfl ?_
    refine g_iconst C dL_law_2738 (q := 2739) rfl ?_
    refine g_iadd C dL_law_2739 (q := 2740) rfl ?_
    refine g_scr C hX (j := i + 2) (by omega) dL_law_2740 (q := 2741) rfl ?_
    refine g_top (b := c) hs_c ?_
    refine g_cV_f C (As := [.int (iI r), .int (iI c)]) (c_X5_colourShare l E _ r c (σ 2) (by show MS (σ 2) (σ 14); assumption) (by omega) (by omega) (by assumption) (by assumption) (by assumption)) ml_L_287 mf_X5_colourShare (o := 13) (ci := 5) rfl rfl rfl rfl ⟨(Nat.le_of_ble_eq_true rfl), (Nat.le_of_ble_eq_true rfl)⟩ rfl rfl rfl (Nat.le_of_ble_eq_true rfl) hkn dL_law_2741 (q := 2744) rfl ?_
    refine g_st (σ2 := (st (st σ 13 (pt (σ 13) 0 0)) 22 (pt (σ 22) 0 ((FP.f2d (FP.fdiv (FP.i2f (iI (sc (σ 2) r c))) (FP.i2f (iI (sb (σ 2) r ((σ 2) (240 + r))))))).toNat : Int)))) (st_cm σ (o := 22) (q := 13) (pt (σ 22) 0 ((FP.f2d (FP.fdiv (FP.i2f (iI (sc (σ 2) r c))) (FP.i2f (iI (sb (σ 2) r ((σ 2) (240 + r))))))).toNat : Int)) (pt (σ 13) 0 0) (by decide)) ?_
    refine g_fstore C (L' := [(7, .float (FP.fdiv (FP.i2f (iI (sc (σ 2) r c))) (FP.i2f (iI (sI (lgs (σ 2) r) 0 ((σ 2) (240 + r))))))), (6, .int (iI 0)), (0, .ref bS), (1, .ref (ea E 0)), (2, .ref (ea E 13)), (3, .ref (ea E 21)), (4, .ref (ea E 22)), (5, .int (iI i))]) dL_law_2744 (by decide) rfl (q := 2746) rfl ?_
    refine g_aload_n C dL_law_2746 4 rfl rfl (q := 2747) rfl ?_
    refine g_cV_i C (As := []) (c_X5_thrown l E _) ml_L_157 mf_X5_thrown (o := 13) (ci := 5) rfl rfl rfl rfl ⟨(Nat.le_of_ble_eq_true rfl), (Nat.le_of_ble_eq_true rfl)⟩ rfl rfl rfl (Nat.le_of_ble_eq_true rfl) hkn dL_law_2747 (q := 2750) rfl ?_
    refine g_top (b := 0) rfl ?_
    refine g_iload C dL_law_2750 1 rfl (q := 2752) rfl ?_
    refine g_icmp_eq C dL_law_2752 (by omega) (q2 := 2757) rfl (q := 2755) rfl (fun hb2 => ?_) (fun hb2 => ?_)
    · skip
      refine g_iload C dL_law_2757 1 rfl (q := 2759) rfl ?_
      refine g_if_ne C dL_law_2759 (by omega) (q2 := 2795) rfl (q := 2762) rfl (fun hb3 => ?_) (fun hb3 => ?_)
      · skip
        exfalso; omega
      · skip
        refine g_aload C dL_law_2762 6 rfl (q := 2764) rfl ?_
        refine g_iconst C dL_law_2764 (q := 2765) rfl ?_
        refine gl_22 C dL_law_2765 (q := 2766) rfl ?_
        refine g_topd (b := FP.f2d (FP.fdiv (FP.i2f (iI (sc (σ 2) r c))) (FP.i2f (iI (sb (σ 2) r ((σ 2) (240 + r))))))) (show iD ((pt (σ 22) 0 ((FP.f2d (FP.fdiv (FP.i2f (iI (sc (σ 2) r c))) (FP.i2f (iI (sb (σ 2) r ((σ 2) (240 + r))))))).toNat : Int)) 0) = FP.f2d (FP.fdiv (FP.i2f (iI (sc (σ 2) r c))) (FP.i2f (iI (sb (σ 2) r ((σ 2) (240 + r)))))) from (congrArg iD (pt_s _ _ _)).trans (iD_of _)) ?_
        refine g_fload C dL_law_2766 0 rfl (q := 2768) rfl ?_
        refine g_f2d C (by obtain ⟨v9, hv9, hw9⟩ := nnc (a := sc (σ 2) r c) (b := sI (lgs (σ 2) r) 0 (σ 2 (240 + r))) (by have := sc_rg hW (fR_0 hq0) c; omega) (by have := (sum_z hW (fR_0 hq0)).2 hq2; have := sum_rg hW (fR_0 hq0) (a := 0) (b := σ 2 (240 + r)) (by omega); omega); rw [hv9]; exact vf64_of hw9) dL_law_2768 (q := 2769) rfl ?_
        refine g_dcmpE C (by rw [sb_eq hP (fR_0 hq0) (hW r (fR_0 hq0)).1.2 (by have := (hW r (fR_0 hq0)).1; omega)]) (by rw [sb_eq hP (fR_0 hq0) (hW r (fR_0 hq0)).1.2 (by have := (hW r (fR_0 hq0)).1; omega)]; exact nnc (by have := sc_rg hW (fR_0 hq0) c; omega) (by have := (sum_z hW (fR_0 hq0)).2 hq2; have := sum_rg hW (fR_0 hq0) (a := 0) (b := σ 2 (240 + r)) (by omega); omega)) dL_law_2769 (q := 2770) rfl ?_
        refine g_if_eq C dL_law_2770 (by omega) (q2 := 2795) rfl (q := 2773) rfl (fun hb4 => ?_) (fun hb4 => ?_)
        · skip
          refine g_goto C dL_law_2795 (q := 2912) rfl ?_
          refine g_sub [2, 3, 4, 5, 6, 7] (L' := [(0, .ref bS), (1, .ref (ea E 0)), (2, .ref (ea E 13)), (3, .ref (ea E 21)), (4, .ref (ea E 22)), (5, .int (iI i))]) rfl ?_
          exact K _ (by exact hI)
        · skip
          exfalso; omega
    · skip
      exfalso; omega
  · skip
    refine g_cL C (hh := th_L_colourShare) (As := [.ref (ea E 0), .int (iI r), .int (iI c), .ref (ea E 22)]) (c_L_colourShare_3 l hst E _ r c  (by assumption) (by assumption) (by assumption) (by assumption) (by assumption) (by assumption) (by assumption)) ml_L_284 mf_L_colourShare rfl ⟨(Nat.le_of_ble_eq_true rfl), (Nat.le_of_ble_eq_true rfl)⟩ rfl rfl rfl (Nat.le_of_ble_eq_true rfl) hkn dL_law_2723 (q := 2726) rfl ?_
    refine g_istore C (L' := [(6, .int (iI 3)), (0, .ref bS), (1, .ref (ea E 0)), (2, .ref (ea E 13)), (3, .ref (ea E 21)), (4, .ref (ea E 22)), (5, .int (iI i))]) dL_law_2726 (by decide) rfl (q := 2728) rfl ?_
    refine g_aload_n C dL_law_2728 3 rfl rfl (q := 2729) rfl ?_
    refine g_aload_n C dL_law_2729 1 rfl rfl (q := 2730) rfl ?_
    refine g_iload C dL_law_2730 6 rfl (q := 2732) rfl ?_
    refine g_iconst C dL_law_2732 (q := 2733) rfl ?_
    refine g_iadd C dL_law_2733 (q := 2734) rfl ?_
    refine g_scr C hX (j := i + 1) (by omega) dL_law_2734 (q := 2735) rfl ?_
    refine g_top (b := r) hs_r ?_
    refine g_aload_n C dL_law_2735 1 rfl rfl (q := 2736) rfl ?_
    refine g_iload C dL_law_2736 6 rfl (q := 2738) rfl ?_
    refine g_iconst C dL_law_2738 (q := 2739) rfl ?_
    refine g_iadd C dL_law_2739 (q := 2740) rfl ?_
    refine g_scr C hX (j := i + 2) (by omega) dL_law_2740 (q := 2741) rfl ?_
    refine g_top (b := c) hs_c ?_
    refine g_cV_f C (As := [.int (iI r), .int (iI c)]) (c_X5_colourShare_3 l E _ r c (σ 2) (by assumption) (by omega) (by omega) (by assumption) (by assumption) (by assumption)) ml_L_287 mf_X5_colourShare (o := 13) (ci := 5) rfl rfl rfl rfl ⟨(Nat.le_of_ble_eq_true rfl), (Nat.le_of_ble_eq_true rfl)⟩ rfl rfl rfl (Nat.le_of_ble_eq_true rfl) hkn dL_law_2741 (q := 2744) rfl ?_
    refine g_fstore C (L' := [(7, .float FP.fconst0), (6, .int (iI 3)), (0, .ref bS), (1, .ref (ea E 0)), (2, .ref (ea E 13)), (3, .ref (ea E 21)), (4, .ref (ea E 22)), (5, .int (iI i))]) dL_law_2744 (by decide) rfl (q := 2746) rfl ?_
    refine g_aload_n C dL_law_2746 4 rfl rfl (q := 2747) rfl ?_
    refine g_cV_i C (As := []) (c_X5_thrown l E _) ml_L_157 mf_X5_thrown (o := 13) (ci := 5) rfl rfl rfl rfl ⟨(Nat.le_of_ble_eq_true rfl), (Nat.le_of_ble_eq_true rfl)⟩ rfl rfl rfl (Nat.le_of_ble_eq_true rfl) hkn dL_law_2747 (q := 2750) rfl ?_
    refine g_top (b := 3) rfl ?_
    refine g_iload C dL_law_2750 1 rfl (q := 2752) rfl ?_
    refine g_icmp_eq C dL_law_2752 (by omega) (q2 := 2757) rfl (q := 2755) rfl (fun hb5 => ?_) (fun hb5 => ?_)
    · skip
      refine g_iload C dL_law_2757 1 rfl (q := 2759) rfl ?_
      refine g_if_ne C dL_law_2759 (by omega) (q2 := 2795) rfl (q := 2762) rfl (fun hb6 => ?_) (fun hb6 => ?_)
      · skip
        refine g_goto C dL_law_2795 (q := 2912) rfl ?_
        refine g_sub [2, 3, 4, 5, 6, 7] (L' := [(0, .ref bS), (1, .ref (ea E 0)), (2, .ref (ea E 13)), (3, .ref (ea E 21)), (4, .ref (ea E 22)), (5, .int (iI i))]) rfl ?_
        exact K _ (by exact hI)
      · skip
        exfalso; omega
    · skip
      exfalso; omega
  · skip
    refine g_cL C (hh := th_L_colourShare) (As := [.ref (ea E 0), .int (iI r), .int (iI c), .ref (ea E 22)]) (c_L_colourShare_2 l hst E _ r c  (by assumption) (by assumption) (by assumption) (by assumption) (by assumption)) ml_L_284 mf_L_colourShare rfl ⟨(Nat.le_of_ble_eq_true rfl), (Nat.le_of_ble_eq_true rfl)⟩ rfl rfl rfl (Nat.le_of_ble_eq_true rfl) hkn dL_law_2723 (q := 2726) rfl ?_
    refine g_istore C (L' := [(6, .int (iI 2)), (0, .ref bS), (1, .ref (ea E 0)), (2, .ref (ea E 13)), (3, .ref (ea E 21)), (4, .ref (ea E 22)), (5, .int (iI i))]) dL_law_2726 (by decide) rfl (q := 2728) rfl ?_
    refine g_aload_n C dL_law_2728 3 rfl rfl (q := 2729) rfl ?_
    refine g_aload_n C dL_law_2729 1 rfl rfl (q := 2730) rfl ?_
    refine g_iload C dL_law_2730 6 rfl (q := 2732) rfl ?_
    refine g_iconst C dL_law_2732 (q := 2733) rfl ?_
    refine g_iadd C dL_law_2733 (q := 2734) rfl ?_
    refine g_scr C hX (j := i + 1) (by omega) dL_law_2734 (q := 2735) rfl ?_
    refine g_top (b := r) hs_r ?_
    refine g_aload_n C dL_law_2735 1 rfl rfl (q := 2736) rfl ?_
    refine g_iload C dL_law_2736 6 rfl (q := 2738) rfl ?_
    refine g_iconst C dL_law_2738 (q := 2739) rfl ?_
    refine g_iadd C dL_law_2739 (q := 2740) rfl ?_
    refine g_scr C hX (j := i + 2) (by omega) dL_law_2740 (q := 2741) rfl ?_
    refine g_top (b := c) hs_c ?_
    refine g_cV_f C (As := [.int (iI r), .int (iI c)]) (c_X5_colourShare_2 l E _ r c (σ 2) (by assumption) (by omega) (by omega) (by assumption) (by assumption)) ml_L_287 mf_X5_colourShare (o := 13) (ci := 5) rfl rfl rfl rfl ⟨(Nat.le_of_ble_eq_true rfl), (Nat.le_of_ble_eq_true rfl)⟩ rfl rfl rfl (Nat.le_of_ble_eq_true rfl) hkn dL_law_2741 (q := 2744) rfl ?_
    refine g_fstore C (L' := [(7, .float FP.fconst0), (6, .int (iI 2)), (0, .ref bS), (1, .ref (ea E 0)), (2, .ref (ea E 13)), (3, .ref (ea E 21)), (4, .ref (ea E 22)), (5, .int (iI i))]) dL_law_2744 (by decide) rfl (q := 2746) rfl ?_
    refine g_aload_n C dL_law_2746 4 rfl rfl (q := 2747) rfl ?_
    refine g_cV_i C (As := []) (c_X5_thrown l E _) ml_L_157 mf_X5_thrown (o := 13) (ci := 5) rfl rfl rfl rfl ⟨(Nat.le_of_ble_eq_true rfl), (Nat.le_of_ble_eq_true rfl)⟩ rfl rfl rfl (Nat.le_of_ble_eq_true rfl) hkn dL_law_2747 (q := 2750) rfl ?_
    refine g_top (b := 2) rfl ?_
    refine g_iload C dL_law_2750 1 rfl (q := 2752) rfl ?_
    refine g_icmp_eq C dL_law_2752 (by omega) (q2 := 2757) rfl (q := 2755) rfl (fun hb7 => ?_) (fun hb7 => ?_)
    · skip
      refine g_iload C dL_law_2757 1 rfl (q := 2759) rfl ?_
      refine g_if_ne C dL_law_2759 (by omega) (q2 := 2795) rfl (q := 2762) rfl (fun hb8 => ?_) (fun hb8 => ?_)
      · skip
        refine g_goto C dL_law_2795 (q := 2912) rfl ?_
        refine g_sub [2, 3, 4, 5, 6, 7] (L' := [(0, .ref bS), (1, .ref (ea E 0)), (2, .ref (ea E 13)), (3, .ref (ea E 21)), (4, .ref (ea E 22)), (5, .int (iI i))]) rfl ?_
        exact K _ (by exact hI)
      · skip
        exfalso; omega
    · skip
      exfalso; omega
  · skip
    refine g_cL C (hh := th_L_colourShare) (As := [.ref (ea E 0), .int (iI r), .int (iI c), .ref (ea E 22)]) (c_L_colourShare_1 l hst E _ r c  (by assumption) (by assumption) (by assumption) (by assumption)) ml_L_284 mf_L_colourShare rfl ⟨(Nat.le_of_ble_eq_true rfl), (Nat.le_of_ble_eq_true rfl)⟩ rfl rfl rfl (Nat.le_of_ble_eq_true rfl) hkn dL_law_2723 (q := 2726) rfl ?_
    refine g_istore C (L' := [(6, .int (iI 1)), (0, .ref bS), (1, .ref (ea E 0)), (2, .ref (ea E 13)), (3, .ref (ea E 21)), (4, .ref (ea E 22)), (5, .int (iI i))]) dL_law_2726 (by decide) rfl (q := 2728) rfl ?_
    refine g_aload_n C dL_law_2728 3 rfl rfl (q := 2729) rfl ?_
    refine g_aload_n C dL_law_2729 1 rfl rfl (q := 2730) rfl ?_
    refine g_iload C dL_law_2730 6 rfl (q := 2732) rfl ?_
    refine g_iconst C dL_law_2732 (q := 2733) rfl ?_
    refine g_iadd C dL_law_2733 (q := 2734) rfl ?_
    refine g_scr C hX (j := i + 1) (by omega) dL_law_2734 (q := 2735) rfl ?_
    refine g_top (b := r) hs_r ?_
    refine g_aload_n C dL_law_2735 1 rfl rfl (q := 2736) rfl ?_
    refine g_iload C dL_law_2736 6 rfl (q := 2738) rfl ?_
    refine g_iconst C dL_law_2738 (q := 2739) rfl ?_
    refine g_iadd C dL_law_2739 (q := 2740) rfl ?_
    refine g_scr C hX (j := i + 2) (by omega) dL_law_2740 (q := 2741) rfl ?_
    refine g_top (b := c) hs_c ?_
    refine g_cV_f C (As := [.int (iI r), .int (iI c)]) (c_X5_colourShare_1 l E _ r c (σ 2) (by assumption) (by omega) (by omega) (by assumption)) ml_L_287 mf_X5_colourShare (o := 13) (ci := 5) rfl rfl rfl rfl ⟨(Nat.le_of_ble_eq_true rfl), (Nat.le_of_ble_eq_true rfl)⟩ rfl rfl rfl (Nat.le_of_ble_eq_true rfl) hkn dL_law_2741 (q := 2744) rfl ?_
    refine g_fstore C (L' := [(7, .float FP.fconst0), (6, .int (iI 1)), (0, .ref bS), (1, .ref (ea E 0)), (2, .ref (ea E 13)), (3, .ref (ea E 21)), (4, .ref (ea E 22)), (5, .int (iI i))]) dL_law_2744 (by decide) rfl (q := 2746) rfl ?_
    refine g_aload_n C dL_law_2746 4 rfl rfl (q := 2747) rfl ?_
    refine g_cV_i C (As := []) (c_X5_thrown l E _) ml_L_157 mf_X5_thrown (o := 13) (ci := 5) rfl rfl rfl rfl ⟨(Nat.le_of_ble_eq_true rfl), (Nat.le_of_ble_eq_true rfl)⟩ rfl rfl rfl (Nat.le_of_ble_eq_true rfl) hkn dL_law_2747 (q := 2750) rfl ?_
    refine g_top (b := 1) rfl ?_
    refine g_iload C dL_law_2750 1 rfl (q := 2752) rfl ?_
    refine g_icmp_eq C dL_law_2752 (by omega) (q2 := 2757) rfl (q := 2755) rfl (fun hb9 => ?_) (fun hb9 => ?_)
    · skip
      refine g_iload C dL_law_2757 1 rfl (q := 2759) rfl ?_
      refine g_if_ne C dL_law_2759 (by omega) (q2 := 2795) rfl (q := 2762) rfl (fun hb10 => ?_) (fun hb10 => ?_)
      · skip
        refine g_goto C dL_law_2795 (q := 2912) rfl ?_
        refine g_sub [2, 3, 4, 5, 6, 7] (L' := [(0, .ref bS), (1, .ref (ea E 0)), (2, .ref (ea E 13)), (3, .ref (ea E 21)), (4, .ref (ea E 22)), (5, .int (iI i))]) rfl ?_
        exact K _ (by exact hI)
      · skip
        exfalso; omega
    · skip
      exfalso; omega
set_option maxRecDepth 100000 in
set_option maxHeartbeats 4000000 in
theorem lc_40 {p : Program} {l : Launch} {e : Env} {s : State} {m : MethodId} {args : Array Value} {below : List Frame} {meth : Method} {c : Code} {E : EV} {A : Nat → Prop} {Q : State → Prop} {σ : SS} {k n : Nat} {bS N : Nat} {xs : Nat → Int32} (hst : l.stackTraces = false) (C : CX p l e room_1 s m args below meth c RL cL_law 9 E A (some .boolean)) (hX : SX bS N xs s A) (hkn : k + 1 ≤ room_1.cells ∧ n + 6 ≤ room_1.slots) (i : Int) (hi : 0 ≤ i ∧ i + 5 ≤ N) (hI : INV σ) (K : ∀ σ2 : SS, INV σ2 → GG p l e room_1 s m args below meth c Q E A 9 σ2 (k + 1) (n + 6) 2912 [(0, .ref bS), (1, .ref (ea E 0)), (2, .ref (ea E 13)), (3, .ref (ea E 21)), (4, .ref (ea E 22)), (5, .int (iI i))] []) : GG p l e room_1 s m args below meth c Q E A 9 σ k n 2798 [(0, .ref bS), (1, .ref (ea E 0)), (2, .ref (ea E 13)), (3, .ref (ea E 21)), (4, .ref (ea E 22)), (5, .int (iI i))] [] := by
  have hM := hI.1.2
  have hP := hI.1.1
  have hW := hM.1
  have hH := hI.2.2.1.2.1
  have hK5 := hI.2.2.1.1
  have hN9 := hX.2.2.2
  have hkn0 : k ≤ room_1.cells ∧ n ≤ room_1.slots := ⟨Nat.le_of_succ_le hkn.1, Nat.le_trans (Nat.le_add_right n 6) hkn.2⟩
  refine g_aload_n C dL_law_2798 1 rfl rfl (q := 2799) rfl ?_
  refine g_cV_i C (As := []) (c_X4_isConsistent l E _   (by assumption) (by assumption)) ml_L_288 mf_X4_isConsistent (o := 0) (ci := 4) rfl rfl rfl rfl ⟨(Nat.le_of_ble_eq_true rfl), (Nat.le_of_ble_eq_true rfl)⟩ rfl rfl rfl (Nat.le_of_ble_eq_true rfl) hkn0 dL_law_2799 (q := 2802) rfl ?_
  refine g_aload_n C dL_law_2802 2 rfl rfl (q := 2803) rfl ?_
  refine g_cV_i C (As := []) (c_X5_isConsistent l E _) ml_L_292 mf_X5_isConsistent (o := 13) (ci := 5) rfl rfl rfl rfl ⟨(Nat.le_of_ble_eq_true rfl), (Nat.le_of_ble_eq_true rfl)⟩ rfl rfl rfl (Nat.le_of_ble_eq_true rfl) hkn0 dL_law_2803 (q := 2806) rfl ?_
  refine g_icmp_eq C dL_law_2806 (by omega) (q2 := 2912) rfl (q := 2809) rfl (fun hb1 => ?_) (fun hb1 => ?_)
  · skip
    refine g_wide (Nat.le_succ k) (Nat.le_add_right n 6) ?_
    exact K _ (by exact hI)
  · skip
    exfalso; omega
set_option maxRecDepth 100000 in
set_option maxHeartbeats 4000000 in
theorem lc_41 {p : Program} {l : Launch} {e : Env} {s : State} {m : MethodId} {args : Array Value} {below : List Frame} {meth : Method} {c : Code} {E : EV} {A : Nat → Prop} {Q : State → Prop} {σ : SS} {k n : Nat} {bS N : Nat} {xs : Nat → Int32} (hst : l.stackTraces = false) (C : CX p l e room_1 s m args below meth c RL cL_law 9 E A (some .boolean)) (hX : SX bS N xs s A) (hkn : k + 1 ≤ room_1.cells ∧ n + 6 ≤ room_1.slots) (i : Int) (hi : 0 ≤ i ∧ i + 5 ≤ N) (hI : INV σ) (K : ∀ σ2 : SS, INV σ2 → GG p l e room_1 s m args below meth c Q E A 9 σ2 (k + 1) (n + 6) 2912 [(0, .ref bS), (1, .ref (ea E 0)), (2, .ref (ea E 13)), (3, .ref (ea E 21)), (4, .ref (ea E 22)), (5, .int (iI i))] []) : GG p l e room_1 s m args below meth c Q E A 9 σ k n 2811 [(0, .ref bS), (1, .ref (ea E 0)), (2, .ref (ea E 13)), (3, .ref (ea E 21)), (4, .ref (ea E 22)), (5, .int (iI i))] [] := by
  have hM := hI.1.2
  have hP := hI.1.1
  have hW := hM.1
  have hH := hI.2.2.1.2.1
  have hK5 := hI.2.2.1.1
  have hN9 := hX.2.2.2
  have hkn0 : k ≤ room_1.cells ∧ n ≤ room_1.slots := ⟨Nat.le_of_succ_le hkn.1, Nat.le_trans (Nat.le_add_right n 6) hkn.2⟩
  refine g_aload_n C dL_law_2811 1 rfl rfl (q := 2812) rfl ?_
  refine g_aload_n C dL_law_2812 3 rfl rfl (q := 2813) rfl ?_
  rcases (show ((0 < (σ 5 2))) ∨ (((σ 5 2) = 0)) by omega) with hq0 | hq0
  · skip
    refine g_cL C (hh := th_L_undo) (As := [.ref (ea E 0), .ref (ea E 21)]) (c_L_undo l hst E _   (by assumption) (by assumption)) ml_L_293 mf_L_undo rfl ⟨(Nat.le_of_ble_eq_true rfl), (Nat.le_of_ble_eq_true rfl)⟩ rfl rfl rfl (Nat.le_of_ble_eq_true rfl) hkn dL_law_2813 (q := 2816) rfl ?_
    refine g_istore C (L' := [(6, .int (iI 0)), (0, .ref bS), (1, .ref (ea E 0)), (2, .ref (ea E 13)), (3, .ref (ea E 21)), (4, .ref (ea E 22)), (5, .int (iI i))]) dL_law_2816 (by decide) rfl (q := 2818) rfl ?_
    refine g_aload_n C dL_law_2818 3 rfl rfl (q := 2819) rfl ?_
    refine g_cV_i C (As := []) (c_X5_undo l E _   (by show 0 < (σ 13 5) ∧ (σ 13 5) ≤ 8; omega)) ml_L_295 mf_X5_undo (o := 13) (ci := 5) rfl rfl rfl rfl ⟨(Nat.le_of_ble_eq_true rfl), (Nat.le_of_ble_eq_true rfl)⟩ rfl rfl rfl (Nat.le_of_ble_eq_true rfl) hkn dL_law_2819 (q := 2822) rfl ?_
    refine g_top (b := (σ 13 5) - 1) rfl ?_
    refine g_st (σ2 := (st (st (st (st (st σ 2 (cpf (σ 6) (σ 2) (pv8 (σ 5 1) * 310) 0 310)) 5 (pt (pt (σ 5) 1 (pv8 (σ 5 1))) 2 ((σ 5 2) - 1))) 13 (pt (pt (σ 13) 0 0) 5 ((σ 13 5) - 1))) 14 (cpf (σ 17) (σ 14) (486 * ((σ 13 5) - 1)) 0 486)) 21 (pt (σ 21) 0 (wr ((σ 5 2) - 1))))) ((congrArg (fun g9 => st g9 14 (cpf (σ 17) (σ 14) (486 * ((σ 13 5) - 1)) 0 486)) (st_cm (st (st σ 2 (cpf (σ 6) (σ 2) (pv8 (σ 5 1) * 310) 0 310)) 5 (pt (pt (σ 5) 1 (pv8 (σ 5 1))) 2 ((σ 5 2) - 1))) (o := 21) (q := 13) (pt (σ 21) 0 (wr ((σ 5 2) - 1))) (pt (pt (σ 13) 0 0) 5 ((σ 13 5) - 1)) (by decide))).trans (st_cm (st (st (st σ 2 (cpf (σ 6) (σ 2) (pv8 (σ 5 1) * 310) 0 310)) 5 (pt (pt (σ 5) 1 (pv8 (σ 5 1))) 2 ((σ 5 2) - 1))) 13 (pt (pt (σ 13) 0 0) 5 ((σ 13 5) - 1))) (o := 21) (q := 14) (pt (σ 21) 0 (wr ((σ 5 2) - 1))) (cpf (σ 17) (σ 14) (486 * ((σ 13 5) - 1)) 0 486) (by decide))) ?_
    refine g_istore C (L' := [(7, .int (iI ((σ 13 5) - 1))), (6, .int (iI 0)), (0, .ref bS), (1, .ref (ea E 0)), (2, .ref (ea E 13)), (3, .ref (ea E 21)), (4, .ref (ea E 22)), (5, .int (iI i))]) dL_law_2822 (by decide) rfl (q := 2824) rfl ?_
    refine g_aload_n C dL_law_2824 4 rfl rfl (q := 2825) rfl ?_
    refine g_cV_i C (As := []) (c_X5_thrown l E _) ml_L_157 mf_X5_thrown (o := 13) (ci := 5) rfl rfl rfl rfl ⟨(Nat.le_of_ble_eq_true rfl), (Nat.le_of_ble_eq_true rfl)⟩ rfl rfl rfl (Nat.le_of_ble_eq_true rfl) hkn dL_law_2825 (q := 2828) rfl ?_
    refine g_top (b := 0) rfl ?_
    refine g_iload C dL_law_2828 1 rfl (q := 2830) rfl ?_
    refine g_icmp_eq C dL_law_2830 (by omega) (q2 := 2835) rfl (q := 2833) rfl (fun hb2 => ?_) (fun hb2 => ?_)
    · skip
      refine g_iload C dL_law_2835 1 rfl (q := 2837) rfl ?_
      refine g_if_ne C dL_law_2837 (by omega) (q2 := 2852) rfl (q := 2840) rfl (fun hb3 => ?_) (fun hb3 => ?_)
      · skip
        exfalso; omega
      · skip
        refine g_aload_n C dL_law_2840 5 rfl rfl (q := 2841) rfl ?_
        refine g_iconst C dL_law_2841 (q := 2842) rfl ?_
        refine gl_21 C dL_law_2842 (q := 2843) rfl ?_
        refine g_topl (b := (wr ((σ 5 2) - 1))) (show (pt (σ 21) 0 (wr ((σ 5 2) - 1))) 0 = (wr ((σ 5 2) - 1)) from pt_s _ _ _) ?_
        refine g_iload C dL_law_2843 0 rfl (q := 2845) rfl ?_
        refine g_i2lw C dL_law_2845 (q := 2846) rfl ?_
        refine g_lcmpE C (by rw [hK5]) dL_law_2846 (q := 2847) rfl ?_
        refine g_if_eq C dL_law_2847 (by omega) (q2 := 2852) rfl (q := 2850) rfl (fun hb4 => ?_) (fun hb4 => ?_)
        · skip
          refine g_goto C dL_law_2852 (q := 2912) rfl ?_
          refine g_sub [2, 3, 4, 5, 6, 7] (L' := [(0, .ref bS), (1, .ref (ea E 0)), (2, .ref (ea E 13)), (3, .ref (ea E 21)), (4, .ref (ea E 22)), (5, .int (iI i))]) rfl ?_
          exact K _ (by exact ⟨by rw [hK5]; exact HIS_top hI.2.2.1.2 hq0, hI.2.1, ⟨congrArg (fun z => z - 1) hK5, HIS_pop hI.2.2.1.2 hq0⟩, hI.2.2.2⟩)
        · skip
          exfalso; omega
    · skip
      exfalso; omega
  · skip
    refine g_cL C (hh := th_L_undo) (As := [.ref (ea E 0), .ref (ea E 21)]) (c_L_undo_1 l hst E _   (by assumption) (by assumption)) ml_L_293 mf_L_undo rfl ⟨(Nat.le_of_ble_eq_true rfl), (Nat.le_of_ble_eq_true rfl)⟩ rfl rfl rfl (Nat.le_of_ble_eq_true rfl) hkn dL_law_2813 (q := 2816) rfl ?_
    refine g_istore C (L' := [(6, .int (iI 1)), (0, .ref bS), (1, .ref (ea E 0)), (2, .ref (ea E 13)), (3, .ref (ea E 21)), (4, .ref (ea E 22)), (5, .int (iI i))]) dL_law_2816 (by decide) rfl (q := 2818) rfl ?_
    refine g_aload_n C dL_law_2818 3 rfl rfl (q := 2819) rfl ?_
    refine g_cV_i C (As := []) (c_X5_undo_1 l E _   (by omega)) ml_L_295 mf_X5_undo (o := 13) (ci := 5) rfl rfl rfl rfl ⟨(Nat.le_of_ble_eq_true rfl), (Nat.le_of_ble_eq_true rfl)⟩ rfl rfl rfl (Nat.le_of_ble_eq_true rfl) hkn dL_law_2819 (q := 2822) rfl ?_
    refine g_istore C (L' := [(7, .int (iI 0)), (6, .int (iI 1)), (0, .ref bS), (1, .ref (ea E 0)), (2, .ref (ea E 13)), (3, .ref (ea E 21)), (4, .ref (ea E 22)), (5, .int (iI i))]) dL_law_2822 (by decide) rfl (q := 2824) rfl ?_
    refine g_aload_n C dL_law_2824 4 rfl rfl (q := 2825) rfl ?_
    refine g_cV_i C (As := []) (c_X5_thrown l E _) ml_L_157 mf_X5_thrown (o := 13) (ci := 5) rfl rfl rfl rfl ⟨(Nat.le_of_ble_eq_true rfl), (Nat.le_of_ble_eq_true rfl)⟩ rfl rfl rfl (Nat.le_of_ble_eq_true rfl) hkn dL_law_2825 (q := 2828) rfl ?_
    refine g_top (b := 1) rfl ?_
    refine g_iload C dL_law_2828 1 rfl (q := 2830) rfl ?_
    refine g_icmp_eq C dL_law_2830 (by omega) (q2 := 2835) rfl (q := 2833) rfl (fun hb5 => ?_) (fun hb5 => ?_)
    · skip
      refine g_iload C dL_law_2835 1 rfl (q := 2837) rfl ?_
      refine g_if_ne C dL_law_2837 (by omega) (q2 := 2852) rfl (q := 2840) rfl (fun hb6 => ?_) (fun hb6 => ?_)
      · skip
        refine g_goto C dL_law_2852 (q := 2912) rfl ?_
        refine g_sub [2, 3, 4, 5, 6, 7] (L' := [(0, .ref bS), (1, .ref (ea E 0)), (2, .ref (ea E 13)), (3, .ref (ea E 21)), (4, .ref (ea E 22)), (5, .int (iI i))]) rfl ?_
        exact K _ (by exact hI)
      · skip
        exfalso; omega
    · skip
      exfalso; omega
set_option maxRecDepth 100000 in
set_option maxHeartbeats 4000000 in
theorem lc_42 {p : Program} {l : Launch} {e : Env} {s : State} {m : MethodId} {args : Array Value} {below : List Frame} {meth : Method} {c : Code} {E : EV} {A : Nat → Prop} {Q : State → Prop} {σ : SS} {k n : Nat} {bS N : Nat} {xs : Nat → Int32} (hst : l.stackTraces = false) (C : CX p l e room_1 s m args below meth c RL cL_law 9 E A (some .boolean)) (hX : SX bS N xs s A) (hkn : k + 1 ≤ room_1.cells ∧ n + 6 ≤ room_1.slots) (i : Int) (hi : 0 ≤ i ∧ i + 5 ≤ N) (hI : INV σ) (K : ∀ σ2 : SS, INV σ2 → GG p l e room_1 s m args below meth c Q E A 9 σ2 (k + 1) (n + 6) 2912 [(0, .ref bS), (1, .ref (ea E 0)), (2, .ref (ea E 13)), (3, .ref (ea E 21)), (4, .ref (ea E 22)), (5, .int (iI i))] []) : GG p l e room_1 s m args below meth c Q E A 9 σ k n 2855 [(0, .ref bS), (1, .ref (ea E 0)), (2, .ref (ea E 13)), (3, .ref (ea E 21)), (4, .ref (ea E 22)), (5, .int (iI i))] [] := by
  have hM := hI.1.2
  have hP := hI.1.1
  have hW := hM.1
  have hH := hI.2.2.1.2.1
  have hK5 := hI.2.2.1.1
  have hN9 := hX.2.2.2
  have hkn0 : k ≤ room_1.cells ∧ n ≤ room_1.slots := ⟨Nat.le_of_succ_le hkn.1, Nat.le_trans (Nat.le_add_right n 6) hkn.2⟩
  refine g_aload_n C dL_law_2855 1 rfl rfl (q := 2856) rfl ?_
  refine g_cV_i C (As := []) (c_X4_save l E _) ml_L_296 mf_X4_save (o := 0) (ci := 4) rfl rfl rfl rfl ⟨(Nat.le_of_ble_eq_true rfl), (Nat.le_of_ble_eq_true rfl)⟩ rfl rfl rfl (Nat.le_of_ble_eq_true rfl) hkn0 dL_law_2856 (q := 2859) rfl ?_
  refine g_aload_n C dL_law_2859 2 rfl rfl (q := 2860) rfl ?_
  refine g_cV_i C (As := []) (c_X5_save l E _) ml_L_299 mf_X5_save (o := 13) (ci := 5) rfl rfl rfl rfl ⟨(Nat.le_of_ble_eq_true rfl), (Nat.le_of_ble_eq_true rfl)⟩ rfl rfl rfl (Nat.le_of_ble_eq_true rfl) hkn0 dL_law_2860 (q := 2863) rfl ?_
  refine g_top (b := (σ 14) (2 + 121 * 0) + (σ 14) (2 + 121 * 1) + (σ 14) (2 + 121 * 2) + (σ 14) (2 + 121 * 3)) rfl ?_
  refine g_st (σ2 := (st (st (st (st σ 0 (pt (σ 0) 3 1)) 4 (cpf (σ 2) (σ 4) 0 0 310)) 13 (pt (pt (σ 13) 0 0) 6 1)) 16 (cpf (σ 14) (σ 16) 0 0 486))) rfl ?_
  refine g_icmp_eqR C (by exact seg_eq hM) dL_law_2863 (q2 := 2912) rfl ?_
  refine g_wide (Nat.le_succ k) (Nat.le_add_right n 6) ?_
  exact K _ (by exact ⟨hI.1, ⟨rfl, Or.inr rfl, fun _ => RW_lo hI.1 (fun z hz => cpf_in hz) (fun z hz => cpf_in hz)⟩, hI.2.2⟩)
set_option maxRecDepth 100000 in
set_option maxHeartbeats 4000000 in
theorem lc_43 {p : Program} {l : Launch} {e : Env} {s : State} {m : MethodId} {args : Array Value} {below : List Frame} {meth : Method} {c : Code} {E : EV} {A : Nat → Prop} {Q : State → Prop} {σ : SS} {k n : Nat} {bS N : Nat} {xs : Nat → Int32} (hst : l.stackTraces = false) (C : CX p l e room_1 s m args below meth c RL cL_law 9 E A (some .boolean)) (hX : SX bS N xs s A) (hkn : k + 1 ≤ room_1.cells ∧ n + 6 ≤ room_1.slots) (i : Int) (hi : 0 ≤ i ∧ i + 5 ≤ N) (hI : INV σ) (K : ∀ σ2 : SS, INV σ2 → GG p l e room_1 s m args below meth c Q E A 9 σ2 (k + 1) (n + 6) 2912 [(0, .ref bS), (1, .ref (ea E 0)), (2, .ref (ea E 13)), (3, .ref (ea E 21)), (4, .ref (ea E 22)), (5, .int (iI i))] []) : GG p l e room_1 s m args below meth c Q E A 9 σ k n 2868 [(0, .ref bS), (1, .ref (ea E 0)), (2, .ref (ea E 13)), (3, .ref (ea E 21)), (4, .ref (ea E 22)), (5, .int (iI i))] [] := by
  have hM := hI.1.2
  have hP := hI.1.1
  have hW := hM.1
  have hH := hI.2.2.1.2.1
  have hK5 := hI.2.2.1.1
  have hN9 := hX.2.2.2
  have hkn0 : k ≤ room_1.cells ∧ n ≤ room_1.slots := ⟨Nat.le_of_succ_le hkn.1, Nat.le_trans (Nat.le_add_right n 6) hkn.2⟩
  have hs4 := hI.2.1
  have hs5 := hs4.2.1
  have hs6 := hs4.1
  refine g_aload_n C dL_law_2868 1 rfl rfl (q := 2869) rfl ?_
  refine g_aload_n C dL_law_2869 3 rfl rfl (q := 2870) rfl ?_
  rcases (show (((σ 0 3) = 1)) ∨ (((σ 0 3) = 0)) by omega) with hq0 | hq0
  · skip
    refine g_cL C (hh := th_L_restore) (As := [.ref (ea E 0), .ref (ea E 21)]) (c_L_restore l hst E _   (by assumption)) ml_L_300 mf_L_restore rfl ⟨(Nat.le_of_ble_eq_true rfl), (Nat.le_of_ble_eq_true rfl)⟩ rfl rfl rfl (Nat.le_of_ble_eq_true rfl) hkn dL_law_2870 (q := 2873) rfl ?_
    refine g_istore C (L' := [(6, .int (iI 0)), (0, .ref bS), (1, .ref (ea E 0)), (2, .ref (ea E 13)), (3, .ref (ea E 21)), (4, .ref (ea E 22)), (5, .int (iI i))]) dL_law_2873 (by decide) rfl (q := 2875) rfl ?_
    refine g_aload_n C dL_law_2875 3 rfl rfl (q := 2876) rfl ?_
    refine g_cV_i C (As := []) (c_X5_restore l E _   (by show (σ 13 6) = 1; omega)) ml_L_302 mf_X5_restore (o := 13) (ci := 5) rfl rfl rfl rfl ⟨(Nat.le_of_ble_eq_true rfl), (Nat.le_of_ble_eq_true rfl)⟩ rfl rfl rfl (Nat.le_of_ble_eq_true rfl) hkn dL_law_2876 (q := 2879) rfl ?_
    refine g_top (b := (cpf (σ 16) (σ 14) 0 0 486) (2 + 121 * 0) + (cpf (σ 16) (σ 14) 0 0 486) (2 + 121 * 1) + (cpf (σ 16) (σ 14) 0 0 486) (2 + 121 * 2) + (cpf (σ 16) (σ 14) 0 0 486) (2 + 121 * 3)) rfl ?_
    refine g_st (σ2 := (st (st (st (st (st σ 2 (cpf (σ 4) (σ 2) 0 0 310)) 5 (pt (σ 5) 2 0)) 13 (pt (pt (σ 13) 0 0) 5 0)) 14 (cpf (σ 16) (σ 14) 0 0 486)) 21 (pt (σ 21) 0 (wr (0 + (cpf (σ 4) (σ 2) 0 0 310) (240 + 0) + (cpf (σ 4) (σ 2) 0 0 310) (240 + 1) + (cpf (σ 4) (σ 2) 0 0 310) (240 + 2) + (cpf (σ 4) (σ 2) 0 0 310) (240 + 3)))))) ((congrArg (fun g9 => st g9 14 (cpf (σ 16) (σ 14) 0 0 486)) (st_cm (st (st σ 2 (cpf (σ 4) (σ 2) 0 0 310)) 5 (pt (σ 5) 2 0)) (o := 21) (q := 13) (pt (σ 21) 0 (wr (0 + (cpf (σ 4) (σ 2) 0 0 310) (240 + 0) + (cpf (σ 4) (σ 2) 0 0 310) (240 + 1) + (cpf (σ 4) (σ 2) 0 0 310) (240 + 2) + (cpf (σ 4) (σ 2) 0 0 310) (240 + 3)))) (pt (pt (σ 13) 0 0) 5 0) (by decide))).trans (st_cm (st (st (st σ 2 (cpf (σ 4) (σ 2) 0 0 310)) 5 (pt (σ 5) 2 0)) 13 (pt (pt (σ 13) 0 0) 5 0)) (o := 21) (q := 14) (pt (σ 21) 0 (wr (0 + (cpf (σ 4) (σ 2) 0 0 310) (240 + 0) + (cpf (σ 4) (σ 2) 0 0 310) (240 + 1) + (cpf (σ 4) (σ 2) 0 0 310) (240 + 2) + (cpf (σ 4) (σ 2) 0 0 310) (240 + 3)))) (cpf (σ 16) (σ 14) 0 0 486) (by decide))) ?_
    refine g_istore C (L' := [(7, .int (iI ((cpf (σ 16) (σ 14) 0 0 486) (2 + 121 * 0) + (cpf (σ 16) (σ 14) 0 0 486) (2 + 121 * 1) + (cpf (σ 16) (σ 14) 0 0 486) (2 + 121 * 2) + (cpf (σ 16) (σ 14) 0 0 486) (2 + 121 * 3)))), (6, .int (iI 0)), (0, .ref bS), (1, .ref (ea E 0)), (2, .ref (ea E 13)), (3, .ref (ea E 21)), (4, .ref (ea E 22)), (5, .int (iI i))]) dL_law_2879 (by decide) rfl (q := 2881) rfl ?_
    refine g_aload_n C dL_law_2881 4 rfl rfl (q := 2882) rfl ?_
    refine g_cV_i C (As := []) (c_X5_thrown l E _) ml_L_157 mf_X5_thrown (o := 13) (ci := 5) rfl rfl rfl rfl ⟨(Nat.le_of_ble_eq_true rfl), (Nat.le_of_ble_eq_true rfl)⟩ rfl rfl rfl (Nat.le_of_ble_eq_true rfl) hkn dL_law_2882 (q := 2885) rfl ?_
    refine g_top (b := 0) rfl ?_
    refine g_iload C dL_law_2885 1 rfl (q := 2887) rfl ?_
    refine g_icmp_eq C dL_law_2887 (by omega) (q2 := 2892) rfl (q := 2890) rfl (fun hb2 => ?_) (fun hb2 => ?_)
    · skip
      refine g_iload C dL_law_2892 1 rfl (q := 2894) rfl ?_
      refine g_if_ne C dL_law_2894 (by omega) (q2 := 2909) rfl (q := 2897) rfl (fun hb3 => ?_) (fun hb3 => ?_)
      · skip
        exfalso; omega
      · skip
        refine g_aload_n C dL_law_2897 5 rfl rfl (q := 2898) rfl ?_
        refine g_iconst C dL_law_2898 (q := 2899) rfl ?_
        refine gl_21 C dL_law_2899 (q := 2900) rfl ?_
        refine g_topl (b := (wr (0 + (cpf (σ 4) (σ 2) 0 0 310) (240 + 0) + (cpf (σ 4) (σ 2) 0 0 310) (240 + 1) + (cpf (σ 4) (σ 2) 0 0 310) (240 + 2) + (cpf (σ 4) (σ 2) 0 0 310) (240 + 3)))) (show (pt (σ 21) 0 (wr (0 + (cpf (σ 4) (σ 2) 0 0 310) (240 + 0) + (cpf (σ 4) (σ 2) 0 0 310) (240 + 1) + (cpf (σ 4) (σ 2) 0 0 310) (240 + 2) + (cpf (σ 4) (σ 2) 0 0 310) (240 + 3)))) 0 = (wr (0 + (cpf (σ 4) (σ 2) 0 0 310) (240 + 0) + (cpf (σ 4) (σ 2) 0 0 310) (240 + 1) + (cpf (σ 4) (σ 2) 0 0 310) (240 + 2) + (cpf (σ 4) (σ 2) 0 0 310) (240 + 3))) from pt_s _ _ _) ?_
        refine g_iload C dL_law_2900 0 rfl (q := 2902) rfl ?_
        refine g_i2lw C dL_law_2902 (q := 2903) rfl ?_
        refine g_lcmpE C (by exact congrArg wr (seg_eq (RW_lo (hs4.2.2 hq0) (fun z hz => cpf_in hz) (fun z hz => cpf_in hz)).2)) dL_law_2903 (q := 2904) rfl ?_
        refine g_if_eq C dL_law_2904 (by omega) (q2 := 2909) rfl (q := 2907) rfl (fun hb4 => ?_) (fun hb4 => ?_)
        · skip
          refine g_goto C dL_law_2909 (q := 2912) rfl ?_
          refine g_sub [2, 3, 4, 5, 6, 7] (L' := [(0, .ref bS), (1, .ref (ea E 0)), (2, .ref (ea E 13)), (3, .ref (ea E 21)), (4, .ref (ea E 22)), (5, .int (iI i))]) rfl ?_
          exact K _ (by exact ⟨RW_lo (hs4.2.2 hq0) (fun z hz => cpf_in hz) (fun z hz => cpf_in hz), hI.2.1, ⟨rfl, HIS_0 hI.2.2.1.2⟩, hI.2.2.2⟩)
        · skip
          exfalso; omega
    · skip
      exfalso; omega
  · skip
    refine g_cL C (hh := th_L_restore) (As := [.ref (ea E 0), .ref (ea E 21)]) (c_L_restore_1 l hst E _   (by assumption)) ml_L_300 mf_L_restore rfl ⟨(Nat.le_of_ble_eq_true rfl), (Nat.le_of_ble_eq_true rfl)⟩ rfl rfl rfl (Nat.le_of_ble_eq_true rfl) hkn dL_law_2870 (q := 2873) rfl ?_
    refine g_istore C (L' := [(6, .int (iI 1)), (0, .ref bS), (1, .ref (ea E 0)), (2, .ref (ea E 13)), (3, .ref (ea E 21)), (4, .ref (ea E 22)), (5, .int (iI i))]) dL_law_2873 (by decide) rfl (q := 2875) rfl ?_
    refine g_aload_n C dL_law_2875 3 rfl rfl (q := 2876) rfl ?_
    refine g_cV_i C (As := []) (c_X5_restore_1 l E _   (by omega)) ml_L_302 mf_X5_restore (o := 13) (ci := 5) rfl rfl rfl rfl ⟨(Nat.le_of_ble_eq_true rfl), (Nat.le_of_ble_eq_true rfl)⟩ rfl rfl rfl (Nat.le_of_ble_eq_true rfl) hkn dL_law_2876 (q := 2879) rfl ?_
    refine g_istore C (L' := [(7, .int (iI 0)), (6, .int (iI 1)), (0, .ref bS), (1, .ref (ea E 0)), (2, .ref (ea E 13)), (3, .ref (ea E 21)), (4, .ref (ea E 22)), (5, .int (iI i))]) dL_law_2879 (by decide) rfl (q := 2881) rfl ?_
    refine g_aload_n C dL_law_2881 4 rfl rfl (q := 2882) rfl ?_
    refine g_cV_i C (As := []) (c_X5_thrown l E _) ml_L_157 mf_X5_thrown (o := 13) (ci := 5) rfl rfl rfl rfl ⟨(Nat.le_of_ble_eq_true rfl), (Nat.le_of_ble_eq_true rfl)⟩ rfl rfl rfl (Nat.le_of_ble_eq_true rfl) hkn dL_law_2882 (q := 2885) rfl ?_
    refine g_top (b := 1) rfl ?_
    refine g_iload C dL_law_2885 1 rfl (q := 2887) rfl ?_
    refine g_icmp_eq C dL_law_2887 (by omega) (q2 := 2892) rfl (q := 2890) rfl (fun hb5 => ?_) (fun hb5 => ?_)
    · skip
      refine g_iload C dL_law_2892 1 rfl (q := 2894) rfl ?_
      refine g_if_ne C dL_law_2894 (by omega) (q2 := 2909) rfl (q := 2897) rfl (fun hb6 => ?_) (fun hb6 => ?_)
      · skip
        refine g_goto C dL_law_2909 (q := 2912) rfl ?_
        refine g_sub [2, 3, 4, 5, 6, 7] (L' := [(0, .ref bS), (1, .ref (ea E 0)), (2, .ref (ea E 13)), (3, .ref (ea E 21)), (4, .ref (ea E 22)), (5, .int (iI i))]) rfl ?_
        exact K _ (by exact hI)
      · skip
        exfalso; omega
    · skip
      exfalso; omega
