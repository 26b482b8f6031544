set_option maxRecDepth 100000 in
set_option maxHeartbeats 4000000 in
theorem lc_16 {p : Program} {l : Launch} {e : Env} {s : State} {m : MethodId} {args : Array Value} {below : List Frame} {meth : Method} {c : Code} {E : EV} {A : Nat → Prop} {Q : State → Prop} {σ : SS} {k n : Nat} {bS N : Nat} {xs : Nat → Int32} (hst : l.stackTraces = false) (C : CX p l e room_1 s m args below meth c RL cL_law 9 E A (some .boolean)) (hX : SX bS N xs s A) (hkn : k + 1 ≤ room_1.cells ∧ n + 6 ≤ room_1.slots) (i : Int) (hi : 0 ≤ i ∧ i + 5 ≤ N) (hI : INV σ) (K : ∀ σ2 : SS, INV σ2 → GG p l e room_1 s m args below meth c Q E A 9 σ2 (k + 1) (n + 6) 2912 [(0, .ref bS), (1, .ref (ea E 0)), (2, .ref (ea E 13)), (3, .ref (ea E 21)), (4, .ref (ea E 22)), (5, .int (iI i))] []) : GG p l e room_1 s m args below meth c Q E A 9 σ k n 1396 [(0, .ref bS), (1, .ref (ea E 0)), (2, .ref (ea E 13)), (3, .ref (ea E 21)), (4, .ref (ea E 22)), (5, .int (iI i))] [] := by
  have hM := hI.1.2
  have hP := hI.1.1
  have hW := hM.1
  have hH := hI.2.2.1.2.1
  have hK5 := hI.2.2.1.1
  have hN9 := hX.2.2.2
  have hkn0 : k ≤ room_1.cells ∧ n ≤ room_1.slots := ⟨Nat.le_of_succ_le hkn.1, Nat.le_trans (Nat.le_add_right n 6) hkn.2⟩
  obtain ⟨r, hs_r⟩ : ∃ v, scr xs (i + 1) = v := ⟨_, rfl⟩
  have hr_r := scr_rg xs (i + 1)
  rw [hs_r] at hr_r
  obtain ⟨x, hs_x⟩ : ∃ v, scr xs (i + 2) = v := ⟨_, rfl⟩
  have hr_x := scr_rg xs (i + 2)
  rw [hs_x] at hr_x
  obtain ⟨y, hs_y⟩ : ∃ v, scr xs (i + 3) = v := ⟨_, rfl⟩
  have hr_y := scr_rg xs (i + 3)
  rw [hs_y] at hr_y
  have hq_0 := fX_c (σ 2) r x y
  refine g_aload_n C dL_law_1396 1 rfl rfl (q := 1397) rfl ?_
  refine g_aload_n C dL_law_1397 0 rfl rfl (q := 1398) rfl ?_
  refine g_iload C dL_law_1398 5 rfl (q := 1400) rfl ?_
  refine g_iconst C dL_law_1400 (q := 1401) rfl ?_
  refine g_iadd C dL_law_1401 (q := 1402) rfl ?_
  refine g_scr C hX (j := i + 1) (by omega) dL_law_1402 (q := 1403) rfl ?_
  refine g_top (b := r) hs_r ?_
  refine g_aload_n C dL_law_1403 0 rfl rfl (q := 1404) rfl ?_
  refine g_iload C dL_law_1404 5 rfl (q := 1406) rfl ?_
  refine g_iconst C dL_law_1406 (q := 1407) rfl ?_
  refine g_iadd C dL_law_1407 (q := 1408) rfl ?_
  refine g_scr C hX (j := i + 2) (by omega) dL_law_1408 (q := 1409) rfl ?_
  refine g_top (b := x) hs_x ?_
  refine g_aload_n C dL_law_1409 0 rfl rfl (q := 1410) rfl ?_
  refine g_iload C dL_law_1410 5 rfl (q := 1412) rfl ?_
  refine g_iconst C dL_law_1412 (q := 1413) rfl ?_
  refine g_iadd C dL_law_1413 (q := 1414) rfl ?_
  refine g_scr C hX (j := i + 3) (by omega) dL_law_1414 (q := 1415) rfl ?_
  refine g_top (b := y) hs_y ?_
  refine g_aload_n C dL_law_1415 3 rfl rfl (q := 1416) rfl ?_
  rcases (show ((fX (σ 2) r x y = 0)) ∨ ((fX (σ 2) r x y = 1)) ∨ ((fX (σ 2) r x y = 2)) by omega) with hq0 | hq0 | hq0
  · skip
    refine g_cL C (hh := th_L_rangeLength) (As := [.ref (ea E 0), .int (iI r), .int (iI x), .int (iI y), .ref (ea E 21)]) (c_L_rangeLength l hst E _ r x y  (by assumption) (by assumption) (by assumption) (by assumption) (by assumption)) ml_L_208 mf_L_rangeLength rfl ⟨(Nat.le_of_ble_eq_true rfl), (Nat.le_of_ble_eq_true rfl)⟩ rfl rfl rfl (Nat.le_of_ble_eq_true rfl) hkn dL_law_1416 (q := 1419) rfl ?_
    refine g_istore C (L' := [(6, .int (iI 0)), (0, .ref bS), (1, .ref (ea E 0)), (2, .ref (ea E 13)), (3, .ref (ea E 21)), (4, .ref (ea E 22)), (5, .int (iI i))]) dL_law_1419 (by decide) rfl (q := 1421) rfl ?_
    refine g_aload_n C dL_law_1421 3 rfl rfl (q := 1422) rfl ?_
    refine g_aload_n C dL_law_1422 1 rfl rfl (q := 1423) rfl ?_
    refine g_iload C dL_law_1423 6 rfl (q := 1425) rfl ?_
    refine g_iconst C dL_law_1425 (q := 1426) rfl ?_
    refine g_iadd C dL_law_1426 (q := 1427) rfl ?_
    refine g_scr C hX (j := i + 1) (by omega) dL_law_1427 (q := 1428) rfl ?_
    refine g_top (b := r) hs_r ?_
    refine g_aload_n C dL_law_1428 1 rfl rfl (q := 1429) rfl ?_
    refine g_iload C dL_law_1429 6 rfl (q := 1431) rfl ?_
    refine g_iconst C dL_law_1431 (q := 1432) rfl ?_
    refine g_iadd C dL_law_1432 (q := 1433) rfl ?_
    refine g_scr C hX (j := i + 2) (by omega) dL_law_1433 (q := 1434) rfl ?_
    refine g_top (b := x) hs_x ?_
    refine g_aload_n C dL_law_1434 1 rfl rfl (q := 1435) rfl ?_
    refine g_iload C dL_law_1435 6 rfl (q := 1437) rfl ?_
    refine g_iconst C dL_law_1437 (q := 1438) rfl ?_
    refine g_iadd C dL_law_1438 (q := 1439) rfl ?_
    refine g_scr C hX (j := i + 3) (by omega) dL_law_1439 (q := 1440) rfl ?_
    refine g_top (b := y) hs_y ?_
    refine g_cV_i C (As := [.int (iI r), .int (iI x), .int (iI y)]) (c_X5_rangeLength l E _ r x y (σ 2) (by show MS (σ 2) (σ 14); assumption) (by omega) (by omega) (by omega) (by assumption)) ml_L_210 mf_X5_rangeLength (o := 13) (ci := 5) rfl rfl rfl rfl ⟨(Nat.le_of_ble_eq_true rfl), (Nat.le_of_ble_eq_true rfl)⟩ rfl rfl rfl (Nat.le_of_ble_eq_true rfl) hkn dL_law_1440 (q := 1443) rfl ?_
    refine g_st (σ2 := (st (st σ 13 (pt (σ 13) 0 0)) 21 (pt (σ 21) 0 (wr (sI (lgs (σ 2) r) x (y + 1)))))) (st_cm σ (o := 21) (q := 13) (pt (σ 21) 0 (wr (sI (lgs (σ 2) r) x (y + 1)))) (pt (σ 13) 0 0) (by decide)) ?_
    refine g_istore C (L' := [(7, .int (iI (sI (lgs (σ 2) r) x (y + 1)))), (6, .int (iI 0)), (0, .ref bS), (1, .ref (ea E 0)), (2, .ref (ea E 13)), (3, .ref (ea E 21)), (4, .ref (ea E 22)), (5, .int (iI i))]) dL_law_1443 (by decide) rfl (q := 1445) rfl ?_
    refine g_aload_n C dL_law_1445 4 rfl rfl (q := 1446) rfl ?_
    refine g_cV_i C (As := []) (c_X5_thrown l E _) ml_L_157 mf_X5_thrown (o := 13) (ci := 5) rfl rfl rfl rfl ⟨(Nat.le_of_ble_eq_true rfl), (Nat.le_of_ble_eq_true rfl)⟩ rfl rfl rfl (Nat.le_of_ble_eq_true rfl) hkn dL_law_1446 (q := 1449) rfl ?_
    refine g_top (b := 0) rfl ?_
    refine g_iload C dL_law_1449 1 rfl (q := 1451) rfl ?_
    refine g_icmp_eq C dL_law_1451 (by omega) (q2 := 1456) rfl (q := 1454) rfl (fun hb2 => ?_) (fun hb2 => ?_)
    · skip
      refine g_iload C dL_law_1456 1 rfl (q := 1458) rfl ?_
      refine g_if_ne C dL_law_1458 (by omega) (q2 := 1473) rfl (q := 1461) rfl (fun hb3 => ?_) (fun hb3 => ?_)
      · skip
        exfalso; omega
      · skip
        refine g_aload_n C dL_law_1461 5 rfl rfl (q := 1462) rfl ?_
        refine g_iconst C dL_law_1462 (q := 1463) rfl ?_
        refine gl_21 C dL_law_1463 (q := 1464) rfl ?_
        refine g_topl (b := (wr (sI (lgs (σ 2) r) x (y + 1)))) (show (pt (σ 21) 0 (wr (sI (lgs (σ 2) r) x (y + 1)))) 0 = (wr (sI (lgs (σ 2) r) x (y + 1))) from pt_s _ _ _) ?_
        refine g_iload C dL_law_1464 0 rfl (q := 1466) rfl ?_
        refine g_i2lw C dL_law_1466 (q := 1467) rfl ?_
        refine g_lcmpE C (by rfl) dL_law_1467 (q := 1468) rfl ?_
        refine g_if_eq C dL_law_1468 (by omega) (q2 := 1473) rfl (q := 1471) rfl (fun hb4 => ?_) (fun hb4 => ?_)
        · skip
          refine g_goto C dL_law_1473 (q := 2912) rfl ?_
          refine g_sub [2, 3, 4, 5, 6, 7] (L' := [(0, .ref bS), (1, .ref (ea E 0)), (2, .ref (ea E 13)), (3, .ref (ea E 21)), (4, .ref (ea E 22)), (5, .int (iI i))]) rfl ?_
          exact K _ (by exact hI)
        · skip
          exfalso; omega
    · skip
      exfalso; omega
  · skip
    refine g_cL C (hh := th_L_rangeLength) (As := [.ref (ea E 0), .int (iI r), .int (iI x), .int (iI y), .ref (ea E 21)]) (c_L_rangeLength_11 l hst E _ r x y  (by assumption) (by assumption) (by assumption) (by assumption) (by assumption)) ml_L_208 mf_L_rangeLength rfl ⟨(Nat.le_of_ble_eq_true rfl), (Nat.le_of_ble_eq_true rfl)⟩ rfl rfl rfl (Nat.le_of_ble_eq_true rfl) hkn dL_law_1416 (q := 1419) rfl ?_
    refine g_istore C (L' := [(6, .int (iI 1)), (0, .ref bS), (1, .ref (ea E 0)), (2, .ref (ea E 13)), (3, .ref (ea E 21)), (4, .ref (ea E 22)), (5, .int (iI i))]) dL_law_1419 (by decide) rfl (q := 1421) rfl ?_
    refine g_aload_n C dL_law_1421 3 rfl rfl (q := 1422) rfl ?_
    refine g_aload_n C dL_law_1422 1 rfl rfl (q := 1423) rfl ?_
    refine g_iload C dL_law_1423 6 rfl (q := 1425) rfl ?_
    refine g_iconst C dL_law_1425 (q := 1426) rfl ?_
    refine g_iadd C dL_law_1426 (q := 1427) rfl ?_
    refine g_scr C hX (j := i + 1) (by omega) dL_law_1427 (q := 1428) rfl ?_
    refine g_top (b := r) hs_r ?_
    refine g_aload_n C dL_law_1428 1 rfl rfl (q := 1429) rfl ?_
    refine g_iload C dL_law_1429 6 rfl (q := 1431) rfl ?_
    refine g_iconst C dL_law_1431 (q := 1432) rfl ?_
    refine g_iadd C dL_law_1432 (q := 1433) rfl ?_
    refine g_scr C hX (j := i + 2) (by omega) dL_law_1433 (q := 1434) rfl ?_
    refine g_top (b := x) hs_x ?_
    refine g_aload_n C dL_law_1434 1 rfl rfl (q := 1435) rfl ?_
    refine g_iload C dL_law_1435 6 rfl (q := 1437) rfl ?_
    refine g_iconst C dL_law_1437 (q := 1438) rfl ?_
    refine g_iadd C dL_law_1438 (q := 1439) rfl ?_
    refine g_scr C hX (j := i + 3) (by omega) dL_law_1439 (q := 1440) rfl ?_
    refine g_top (b := y) hs_y ?_
    refine g_cV_i C (As := [.int (iI r), .int (iI x), .int (iI y)]) (c_X5_rangeLength_11 l E _ r x y (σ 2) (by assumption) (by omega) (by omega) (by omega) (by assumption)) ml_L_210 mf_X5_rangeLength (o := 13) (ci := 5) rfl rfl rfl rfl ⟨(Nat.le_of_ble_eq_true rfl), (Nat.le_of_ble_eq_true rfl)⟩ rfl rfl rfl (Nat.le_of_ble_eq_true rfl) hkn dL_law_1440 (q := 1443) rfl ?_
    refine g_istore C (L' := [(7, .int (iI 0)), (6, .int (iI 1)), (0, .ref bS), (1, .ref (ea E 0)), (2, .ref (ea E 13)), (3, .ref (ea E 21)), (4, .ref (ea E 22)), (5, .int (iI i))]) dL_law_1443 (by decide) rfl (q := 1445) rfl ?_
    refine g_aload_n C dL_law_1445 4 rfl rfl (q := 1446) rfl ?_
    refine g_cV_i C (As := []) (c_X5_thrown l E _) ml_L_157 mf_X5_thrown (o := 13) (ci := 5) rfl rfl rfl rfl ⟨(Nat.le_of_ble_eq_true rfl), (Nat.le_of_ble_eq_true rfl)⟩ rfl rfl rfl (Nat.le_of_ble_eq_true rfl) hkn dL_law_1446 (q := 1449) rfl ?_
    refine g_top (b := 1) rfl ?_
    refine g_iload C dL_law_1449 1 rfl (q := 1451) rfl ?_
    refine g_icmp_eq C dL_law_1451 (by omega) (q2 := 1456) rfl (q := 1454) rfl (fun hb5 => ?_) (fun hb5 => ?_)
    · skip
      refine g_iload C dL_law_1456 1 rfl (q := 1458) rfl ?_
      refine g_if_ne C dL_law_1458 (by omega) (q2 := 1473) rfl (q := 1461) rfl (fun hb6 => ?_) (fun hb6 => ?_)
      · skip
        refine g_goto C dL_law_1473 (q := 2912) rfl ?_
        refine g_sub [2, 3, 4, 5, 6, 7] (L' := [(0, .ref bS), (1, .ref (ea E 0)), (2, .ref (ea E 13)), (3, .ref (ea E 21)), (4, .ref (ea E 22)), (5, .int (iI i))]) rfl ?_
        exact K _ (by exact hI)
      · skip
        exfalso; omega
    · skip
      exfalso; omega
  · skip
    refine g_cL C (hh := th_L_rangeLength) (As := [.ref (ea E 0), .int (iI r), .int (iI x), .int (iI y), .ref (ea E 21)]) (c_L_rangeLength_12 l hst E _ r x y  (by assumption) (by assumption) (by assumption) (by assumption) (by assumption)) ml_L_208 mf_L_rangeLength rfl ⟨(Nat.le_of_ble_eq_true rfl), (Nat.le_of_ble_eq_true rfl)⟩ rfl rfl rfl (Nat.le_of_ble_eq_true rfl) hkn dL_law_1416 (q := 1419) rfl ?_
    refine g_istore C (L' := [(6, .int (iI 2)), (0, .ref bS), (1, .ref (ea E 0)), (2, .ref (ea E 13)), (3, .ref (ea E 21)), (4, .ref (ea E 22)), (5, .int (iI i))]) dL_law_1419 (by decide) rfl (q := 1421) rfl ?_
    refine g_aload_n C dL_law_1421 3 rfl rfl (q := 1422) rfl ?_
    refine g_aload_n C dL_law_1422 1 rfl rfl (q := 1423) rfl ?_
    refine g_iload C dL_law_1423 6 rfl (q := 1425) rfl ?_
    refine g_iconst C dL_law_1425 (q := 1426) rfl ?_
    refine g_iadd C dL_law_1426 (q := 1427) rfl ?_
    refine g_scr C hX (j := i + 1) (by omega) dL_law_1427 (q := 1428) rfl ?_
    refine g_top (b := r) hs_r ?_
    refine g_aload_n C dL_law_1428 1 rfl rfl (q := 1429) rfl ?_
    refine g_iload C dL_law_1429 6 rfl (q := 1431) rfl ?_
    refine g_iconst C dL_law_1431 (q := 1432) rfl ?_
    refine g_iadd C dL_law_1432 (q := 1433) rfl ?_
    refine g_scr C hX (j := i + 2) (by omega) dL_law_1433 (q := 1434) rfl ?_
    refine g_top (b := x) hs_x ?_
    refine g_aload_n C dL_law_1434 1 rfl rfl (q := 1435) rfl ?_
    refine g_iload C dL_law_1435 6 rfl (q := 1437) rfl ?_
    refine g_iconst C dL_law_1437 (q := 1438) rfl ?_
    refine g_iadd C dL_law_1438 (q := 1439) rfl ?_
    refine g_scr C hX (j := i + 3) (by omega) dL_law_1439 (q := 1440) rfl ?_
    refine g_top (b := y) hs_y ?_
    refine g_cV_i C (As := [.int (iI r), .int (iI x), .int (iI y)]) (c_X5_rangeLength_12 l E _ r x y (σ 2) (by assumption) (by omega) (by omega) (by omega) (by assumption)) ml_L_210 mf_X5_rangeLength (o := 13) (ci := 5) rfl rfl rfl rfl ⟨(Nat.le_of_ble_eq_true rfl), (Nat.le_of_ble_eq_true rfl)⟩ rfl rfl rfl (Nat.le_of_ble_eq_true rfl) hkn dL_law_1440 (q := 1443) rfl ?_
    refine g_istore C (L' := [(7, .int (iI 0)), (6, .int (iI 2)), (0, .ref bS), (1, .ref (ea E 0)), (2, .ref (ea E 13)), (3, .ref (ea E 21)), (4, .ref (ea E 22)), (5, .int (iI i))]) dL_law_1443 (by decide) rfl (q := 1445) rfl ?_
    refine g_aload_n C dL_law_1445 4 rfl rfl (q := 1446) rfl ?_
    refine g_cV_i C (As := []) (c_X5_thrown l E _) ml_L_157 mf_X5_thrown (o := 13) (ci := 5) rfl rfl rfl rfl ⟨(Nat.le_of_ble_eq_true rfl), (Nat.le_of_ble_eq_true rfl)⟩ rfl rfl rfl (Nat.le_of_ble_eq_true rfl) hkn dL_law_1446 (q := 1449) rfl ?_
    refine g_top (b := 2) rfl ?_
    refine g_iload C dL_law_1449 1 rfl (q := 1451) rfl ?_
    refine g_icmp_eq C dL_law_1451 (by omega) (q2 := 1456) rfl (q := 1454) rfl (fun hb7 => ?_) (fun hb7 => ?_)
    · skip
      refine g_iload C dL_law_1456 1 rfl (q := 1458) rfl ?_
      refine g_if_ne C dL_law_1458 (by omega) (q2 := 1473) rfl (q := 1461) rfl (fun hb8 => ?_) (fun hb8 => ?_)
      · skip
        refine g_goto C dL_law_1473 (q := 2912) rfl ?_
        refine g_sub [2, 3, 4, 5, 6, 7] (L' := [(0, .ref bS), (1, .ref (ea E 0)), (2, .ref (ea E 13)), (3, .ref (ea E 21)), (4, .ref (ea E 22)), (5, .int (iI i))]) rfl ?_
        exact K _ (by exact hI)
      · skip
        exfalso; omega
    · skip
      exfalso; omega
set_option maxRecDepth 100000 in
set_option maxHeartbeats 4000000 in
theorem lc_17 {p : Program} {l : Launch} {e : Env} {s : State} {m : MethodId} {args : Array Value} {below : List Frame} {meth : Method} {c : Code} {E : EV} {A : Nat → Prop} {Q : State → Prop} {σ : SS} {k n : Nat} {bS N : Nat} {xs : Nat → Int32} (hst : l.stackTraces = false) (C : CX p l e room_1 s m args below meth c RL cL_law 9 E A (some .boolean)) (hX : SX bS N xs s A) (hkn : k + 1 ≤ room_1.cells ∧ n + 6 ≤ room_1.slots) (i : Int) (hi : 0 ≤ i ∧ i + 5 ≤ N) (hI : INV σ) (K : ∀ σ2 : SS, INV σ2 → GG p l e room_1 s m args below meth c Q E A 9 σ2 (k + 1) (n + 6) 2912 [(0, .ref bS), (1, .ref (ea E 0)), (2, .ref (ea E 13)), (3, .ref (ea E 21)), (4, .ref (ea E 22)), (5, .int (iI i))] []) : GG p l e room_1 s m args below meth c Q E A 9 σ k n 1476 [(0, .ref bS), (1, .ref (ea E 0)), (2, .ref (ea E 13)), (3, .ref (ea E 21)), (4, .ref (ea E 22)), (5, .int (iI i))] [] := by
  have hM := hI.1.2
  have hP := hI.1.1
  have hW := hM.1
  have hH := hI.2.2.1.2.1
  have hK5 := hI.2.2.1.1
  have hN9 := hX.2.2.2
  have hkn0 : k ≤ room_1.cells ∧ n ≤ room_1.slots := ⟨Nat.le_of_succ_le hkn.1, Nat.le_trans (Nat.le_add_right n 6) hkn.2⟩
  obtain ⟨r, hs_r⟩ : ∃ v, scr xs (i + 1) = v := ⟨_, rfl⟩
  have hr_r := scr_rg xs (i + 1)
  rw [hs_r] at hr_r
  obtain ⟨x, hs_x⟩ : ∃ v, scr xs (i + 2) = v := ⟨_, rfl⟩
  have hr_x := scr_rg xs (i + 2)
  rw [hs_x] at hr_x
  obtain ⟨y, hs_y⟩ : ∃ v, scr xs (i + 3) = v := ⟨_, rfl⟩
  have hr_y := scr_rg xs (i + 3)
  rw [hs_y] at hr_y
  have hq_0 := fX_c (σ 2) r x y
  refine g_aload_n C dL_law_1476 1 rfl rfl (q := 1477) rfl ?_
  refine g_aload_n C dL_law_1477 0 rfl rfl (q := 1478) rfl ?_
  refine g_iload C dL_law_1478 5 rfl (q := 1480) rfl ?_
  refine g_iconst C dL_law_1480 (q := 1481) rfl ?_
  refine g_iadd C dL_law_1481 (q := 1482) rfl ?_
  refine g_scr C hX (j := i + 1) (by omega) dL_law_1482 (q := 1483) rfl ?_
  refine g_top (b := r) hs_r ?_
  refine g_aload_n C dL_law_1483 0 rfl rfl (q := 1484) rfl ?_
  refine g_iload C dL_law_1484 5 rfl (q := 1486) rfl ?_
  refine g_iconst C dL_law_1486 (q := 1487) rfl ?_
  refine g_iadd C dL_law_1487 (q := 1488) rfl ?_
  refine g_scr C hX (j := i + 2) (by omega) dL_law_1488 (q := 1489) rfl ?_
  refine g_top (b := x) hs_x ?_
  refine g_aload_n C dL_law_1489 0 rfl rfl (q := 1490) rfl ?_
  refine g_iload C dL_law_1490 5 rfl (q := 1492) rfl ?_
  refine g_iconst C dL_law_1492 (q := 1493) rfl ?_
  refine g_iadd C dL_law_1493 (q := 1494) rfl ?_
  refine g_scr C hX (j := i + 3) (by omega) dL_law_1494 (q := 1495) rfl ?_
  refine g_top (b := y) hs_y ?_
  refine g_aload_n C dL_law_1495 3 rfl rfl (q := 1496) rfl ?_
  rcases (show ((fX (σ 2) r x y = 0)) ∨ ((fX (σ 2) r x y = 1)) ∨ ((fX (σ 2) r x y = 2)) by omega) with hq0 | hq0 | hq0
  · skip
    refine g_cL C (hh := th_L_longestInRange) (As := [.ref (ea E 0), .int (iI r), .int (iI x), .int (iI y), .ref (ea E 21)]) (c_L_longestInRange l hst E _ r x y  (by assumption) (by assumption) (by assumption) (by assumption) (by assumption)) ml_L_211 mf_L_longestInRange rfl ⟨(Nat.le_of_ble_eq_true rfl), (Nat.le_of_ble_eq_true rfl)⟩ rfl rfl rfl (Nat.le_of_ble_eq_true rfl) hkn dL_law_1496 (q := 1499) rfl ?_
    refine g_istore C (L' := [(6, .int (iI 0)), (0, .ref bS), (1, .ref (ea E 0)), (2, .ref (ea E 13)), (3, .ref (ea E 21)), (4, .ref (ea E 22)), (5, .int (iI i))]) dL_law_1499 (by decide) rfl (q := 1501) rfl ?_
    refine g_aload_n C dL_law_1501 3 rfl rfl (q := 1502) rfl ?_
    refine g_aload_n C dL_law_1502 1 rfl rfl (q := 1503) rfl ?_
    refine g_iload C dL_law_1503 6 rfl (q := 1505) rfl ?_
    refine g_iconst C dL_law_1505 (q := 1506) rfl ?_
    refine g_iadd C dL_law_1506 (q := 1507) rfl ?_
    refine g_scr C hX (j := i + 1) (by omega) dL_law_1507 (q := 1508) rfl ?_
    refine g_top (b := r) hs_r ?_
    refine g_aload_n C dL_law_1508 1 rfl rfl (q := 1509) rfl ?_
    refine g_iload C dL_law_1509 6 rfl (q := 1511) rfl ?_
    refine g_iconst C dL_law_1511 (q := 1512) rfl ?_
    refine g_iadd C dL_law_1512 (q := 1513) rfl ?_
    refine g_scr C hX (j := i + 2) (by omega) dL_law_1513 (q := 1514) rfl ?_
    refine g_top (b := x) hs_x ?_
    refine g_aload_n C dL_law_1514 1 rfl rfl (q := 1515) rfl ?_
    refine g_iload C dL_law_1515 6 rfl (q := 1517) rfl ?_
    refine g_iconst C dL_law_1517 (q := 1518) rfl ?_
    refine g_iadd C dL_law_1518 (q := 1519) rfl ?_
    refine g_scr C hX (j := i + 3) (by omega) dL_law_1519 (q := 1520) rfl ?_
    refine g_top (b := y) hs_y ?_
    refine g_cV_i C (As := [.int (iI r), .int (iI x), .int (iI y)]) (c_X5_longestInRange l E _ r x y (σ 2) (by show MS (σ 2) (σ 14); assumption) (by omega) (by omega) (by omega) (by assumption)) ml_L_213 mf_X5_longestInRange (o := 13) (ci := 5) rfl rfl rfl rfl ⟨(Nat.le_of_ble_eq_true rfl), (Nat.le_of_ble_eq_true rfl)⟩ rfl rfl rfl (Nat.le_of_ble_eq_true rfl) hkn dL_law_1520 (q := 1523) rfl ?_
    refine g_st (σ2 := (st (st σ 13 (pt (σ 13) 0 0)) 21 (pt (σ 21) 0 (wr (mI (lgs (σ 2) r) x (x + 1) (y + 1)))))) (st_cm σ (o := 21) (q := 13) (pt (σ 21) 0 (wr (mI (lgs (σ 2) r) x (x + 1) (y + 1)))) (pt (σ 13) 0 0) (by decide)) ?_
    refine g_istore C (L' := [(7, .int (iI (mI (lgs (σ 2) r) x (x + 1) (y + 1)))), (6, .int (iI 0)), (0, .ref bS), (1, .ref (ea E 0)), (2, .ref (ea E 13)), (3, .ref (ea E 21)), (4, .ref (ea E 22)), (5, .int (iI i))]) dL_law_1523 (by decide) rfl (q := 1525) rfl ?_
    refine g_aload_n C dL_law_1525 4 rfl rfl (q := 1526) rfl ?_
    refine g_cV_i C (As := []) (c_X5_thrown l E _) ml_L_157 mf_X5_thrown (o := 13) (ci := 5) rfl rfl rfl rfl ⟨(Nat.le_of_ble_eq_true rfl), (Nat.le_of_ble_eq_true rfl)⟩ rfl rfl rfl (Nat.le_of_ble_eq_true rfl) hkn dL_law_1526 (q := 1529) rfl ?_
    refine g_top (b := 0) rfl ?_
    refine g_iload C dL_law_1529 1 rfl (q := 1531) rfl ?_
    refine g_icmp_eq C dL_law_1531 (by omega) (q2 := 1536) rfl (q := 1534) rfl (fun hb2 => ?_) (fun hb2 => ?_)
    · skip
      refine g_iload C dL_law_1536 1 rfl (q := 1538) rfl ?_
      refine g_if_ne C dL_law_1538 (by omega) (q2 := 1553) rfl (q := 1541) rfl (fun hb3 => ?_) (fun hb3 => ?_)
      · skip
        exfalso; omega
      · skip
        refine g_aload_n C dL_law_1541 5 rfl rfl (q := 1542) rfl ?_
        refine g_iconst C dL_law_1542 (q := 1543) rfl ?_
        refine gl_21 C dL_law_1543 (q := 1544) rfl ?_
        refine g_topl (b := (wr (mI (lgs (σ 2) r) x (x + 1) (y + 1)))) (show (pt (σ 21) 0 (wr (mI (lgs (σ 2) r) x (x + 1) (y + 1)))) 0 = (wr (mI (lgs (σ 2) r) x (x + 1) (y + 1))) from pt_s _ _ _) ?_
        refine g_iload C dL_law_1544 0 rfl (q := 1546) rfl ?_
        refine g_i2lw C dL_law_1546 (q := 1547) rfl ?_
        refine g_lcmpE C (by rfl) dL_law_1547 (q := 1548) rfl ?_
        refine g_if_eq C dL_law_1548 (by omega) (q2 := 1553) rfl (q := 1551) rfl (fun hb4 => ?_) (fun hb4 => ?_)
        · skip
          refine g_goto C dL_law_1553 (q := 2912) rfl ?_
          refine g_sub [2, 3, 4, 5, 6, 7] (L' := [(0, .ref bS), (1, .ref (ea E 0)), (2, .ref (ea E 13)), (3, .ref (ea E 21)), (4, .ref (ea E 22)), (5, .int (iI i))]) rfl ?_
          exact K _ (by exact hI)
        · skip
          exfalso; omega
    · skip
      exfalso; omega
  · skip
    refine g_cL C (hh := th_L_longestInRange) (As := [.ref (ea E 0), .int (iI r), .int (iI x), .int (iI y), .ref (ea E 21)]) (c_L_longestInRange_11 l hst E _ r x y  (by assumption) (by assumption) (by assumption) (by assumption) (by assumption)) ml_L_211 mf_L_longestInRange rfl ⟨(Nat.le_of_ble_eq_true rfl), (Nat.le_of_ble_eq_true rfl)⟩ rfl rfl rfl (Nat.le_of_ble_eq_true rfl) hkn dL_law_1496 (q := 1499) rfl ?_
    refine g_istore C (L' := [(6, .int (iI 1)), (0, .ref bS), (1, .ref (ea E 0)), (2, .ref (ea E 13)), (3, .ref (ea E 21)), (4, .ref (ea E 22)), (5, .int (iI i))]) dL_law_1499 (by decide) rfl (q := 1501) rfl ?_
    refine g_aload_n C dL_law_1501 3 rfl rfl (q := 1502) rfl ?_
    refine g_aload_n C dL_law_1502 1 rfl rfl (q := 1503) rfl ?_
    refine g_iload C dL_law_1503 6 rfl (q := 1505) rfl ?_
    refine g_iconst C dL_law_1505 (q := 1506) rfl ?_
    refine g_iadd C dL_law_1506 (q := 1507) rfl ?_
    refine g_scr C hX (j := i + 1) (by omega) dL_law_1507 (q := 1508) rfl ?_
    refine g_top (b := r) hs_r ?_
    refine g_aload_n C dL_law_1508 1 rfl rfl (q := 1509) rfl ?_
    refine g_iload C dL_law_1509 6 rfl (q := 1511) rfl ?_
    refine g_iconst C dL_law_1511 (q := 1512) rfl ?_
    refine g_iadd C dL_law_1512 (q := 1513) rfl ?_
    refine g_scr C hX (j := i + 2) (by omega) dL_law_1513 (q := 1514) rfl ?_
    refine g_top (b := x) hs_x ?_
    refine g_aload_n C dL_law_1514 1 rfl rfl (q := 1515) rfl ?_
    refine g_iload C dL_law_1515 6 rfl (q := 1517) rfl ?_
    refine g_iconst C dL_law_1517 (q := 1518) rfl ?_
    refine g_iadd C dL_law_1518 (q := 1519) rfl ?_
    refine g_scr C hX (j := i + 3) (by omega) dL_law_1519 (q := 1520) rfl ?_
    refine g_top (b := y) hs_y ?_
    refine g_cV_i C (As := [.int (iI r), .int (iI x), .int (iI y)]) (c_X5_longestInRange_11 l E _ r x y (σ 2) (by assumption) (by omega) (by omega) (by omega) (by assumption)) ml_L_213 mf_X5_longestInRange (o := 13) (ci := 5) rfl rfl rfl rfl ⟨(Nat.le_of_ble_eq_true rfl), (Nat.le_of_ble_eq_true rfl)⟩ rfl rfl rfl (Nat.le_of_ble_eq_true rfl) hkn dL_law_1520 (q := 1523) rfl ?_
    refine g_istore C (L' := [(7, .int (iI 0)), (6, .int (iI 1)), (0, .ref bS), (1, .ref (ea E 0)), (2, .ref (ea E 13)), (3, .ref (ea E 21)), (4, .ref (ea E 22)), (5, .int (iI i))]) dL_law_1523 (by decide) rfl (q := 1525) rfl ?_
    refine g_aload_n C dL_law_1525 4 rfl rfl (q := 1526) rfl ?_
    refine g_cV_i C (As := []) (c_X5_thrown l E _) ml_L_157 mf_X5_thrown (o := 13) (ci := 5) rfl rfl rfl rfl ⟨(Nat.le_of_ble_eq_true rfl), (Nat.le_of_ble_eq_true rfl)⟩ rfl rfl rfl (Nat.le_of_ble_eq_true rfl) hkn dL_law_1526 (q := 1529) rfl ?_
    refine g_top (b := 1) rfl ?_
    refine g_iload C dL_law_1529 1 rfl (q := 1531) rfl ?_
    refine g_icmp_eq C dL_law_1531 (by omega) (q2 := 1536) rfl (q := 1534) rfl (fun hb5 => ?_) (fun hb5 => ?_)
    · skip
      refine g_iload C dL_law_1536 1 rfl (q := 1538) rfl ?_
      refine g_if_ne C dL_law_1538 (by omega) (q2 := 1553) rfl (q := 1541) rfl (fun hb6 => ?_) (fun hb6 => ?_)
      · skip
        refine g_goto C dL_law_1553 (q := 2912) rfl ?_
        refine g_sub [2, 3, 4, 5, 6, 7] (L' := [(0, .ref bS), (1, .ref (ea E 0)), (2, .ref (ea E 13)), (3, .ref (ea E 21)), (4, .ref (ea E 22)), (5, .int (iI i))]) rfl ?_
        exact K _ (by exact hI)
      · skip
        exfalso; omega
    · skip
      exfalso; omega
  · skip
    refine g_cL C (hh := th_L_longestInRange) (As := [.ref (ea E 0), .int (iI r), .int (iI x), .int (iI y), .ref (ea E 21)]) (c_L_longestInRange_12 l hst E _ r x y  (by assumption) (by assumption) (by assumption) (by assumption) (by assumption)) ml_L_211 mf_L_longestInRange rfl ⟨(Nat.le_of_ble_eq_true rfl), (Nat.le_of_ble_eq_true rfl)⟩ rfl rfl rfl (Nat.le_of_ble_eq_true rfl) hkn dL_law_1496 (q := 1499) rfl ?_
    refine g_istore C (L' := [(6, .int (iI 2)), (0, .ref bS), (1, .ref (ea E 0)), (2, .ref (ea E 13)), (3, .ref (ea E 21)), (4, .ref (ea E 22)), (5, .int (iI i))]) dL_law_1499 (by decide) rfl (q := 1501) rfl ?_
    refine g_aload_n C dL_law_1501 3 rfl rfl (q := 1502) rfl ?_
    refine g_aload_n C dL_law_1502 1 rfl rfl (q := 1503) rfl ?_
    refine g_iload C dL_law_1503 6 rfl (q := 1505) rfl ?_
    refine g_iconst C dL_law_1505 (q := 1506) rfl ?_
    refine g_iadd C dL_law_1506 (q := 1507) rfl ?_
    refine g_scr C hX (j := i + 1) (by omega) dL_law_1507 (q := 1508) rfl ?_
    refine g_top (b := r) hs_r ?_
    refine g_aload_n C dL_law_1508 1 rfl rfl (q := 1509) rfl ?_
    refine g_iload C dL_law_1509 6 rfl (q := 1511) rfl ?_
    refine g_iconst C dL_law_1511 (q := 1512) rfl ?_
    refine g_iadd C dL_law_1512 (q := 1513) rfl ?_
    refine g_scr C hX (j := i + 2) (by omega) dL_law_1513 (q := 1514) rfl ?_
    refine g_top (b := x) hs_x ?_
    refine g_aload_n C dL_law_1514 1 rfl rfl (q := 1515) rfl ?_
    refine g_iload C dL_law_1515 6 rfl (q := 1517) rfl ?_
    refine g_iconst C dL_law_1517 (q := 1518) rfl ?_
    refine g_iadd C dL_law_1518 (q := 1519) rfl ?_
    refine g_scr C hX (j := i + 3) (by omega) dL_law_1519 (q := 1520) rfl ?_
    refine g_top (b := y) hs_y ?_
    refine g_cV_i C (As := [.int (iI r), .int (iI x), .int (iI y)]) (c_X5_longestInRange_12 l E _ r x y (σ 2) (by assumption) (by omega) (by omega) (by omega) (by assumption)) ml_L_213 mf_X5_longestInRange (o := 13) (ci := 5) rfl rfl rfl rfl ⟨(Nat.le_of_ble_eq_true rfl), (Nat.le_of_ble_eq_true rfl)⟩ rfl rfl rfl (Nat.le_of_ble_eq_true rfl) hkn dL_law_1520 (q := 1523) rfl ?_
    refine g_istore C (L' := [(7, .int (iI 0)), (6, .int (iI 2)), (0, .ref bS), (1, .ref (ea E 0)), (2, .ref (ea E 13)), (3, .ref (ea E 21)), (4, .ref (ea E 22)), (5, .int (iI i))]) dL_law_1523 (by decide) rfl (q := 1525) rfl ?_
    refine g_aload_n C dL_law_1525 4 rfl rfl (q := 1526) rfl ?_
    refine g_cV_i C (As := []) (c_X5_thrown l E _) ml_L_157 mf_X5_thrown (o := 13) (ci := 5) rfl rfl rfl rfl ⟨(Nat.le_of_ble_eq_true rfl), (Nat.le_of_ble_eq_true rfl)⟩ rfl rfl rfl (Nat.le_of_ble_eq_true rfl) hkn dL_law_1526 (q := 1529) rfl ?_
    refine g_top (b := 2) rfl ?_
    refine g_iload C dL_law_1529 1 rfl (q := 1531) rfl ?_
    refine g_icmp_eq C dL_law_1531 (by omega) (q2 := 1536) rfl (q := 1534) rfl (fun hb7 => ?_) (fun hb7 => ?_)
    · skip
      refine g_iload C dL_law_1536 1 rfl (q := 1538) rfl ?_
      refine g_if_ne C dL_law_1538 (by omega) (q2 := 1553) rfl (q := 1541) rfl (fun hb8 => ?_) (fun hb8 => ?_)
      · skip
        refine g_goto C dL_law_1553 (q := 2912) rfl ?_
        refine g_sub [2, 3, 4, 5, 6, 7] (L' := [(0, .ref bS), (1, .ref (ea E 0)), (2, .ref (ea E 13)), (3, .ref (ea E 21)), (4, .ref (ea E 22)), (5, .int (iI i))]) rfl ?_
        exact K _ (by exact hI)
      · skip
        exfalso; omega
    · skip
      exfalso; omega
set_option maxRecDepth 100000 in
set_option maxHeartbeats 4000000 in
theorem lc_18 {p : Program} {l : Launch} {e : Env} {s : State} {m : MethodId} {args : Array Value} {below : List Frame} {meth : Method} {c : Code} {E : EV} {A : Nat → Prop} {Q : State → Prop} {σ : SS} {k n : Nat} {bS N : Nat} {xs : Nat → Int32} (hst : l.stackTraces = false) (C : CX p l e room_1 s m args below meth c RL cL_law 9 E A (some .boolean)) (hX : SX bS N xs s A) (hkn : k + 1 ≤ room_1.cells ∧ n + 6 ≤ room_1.slots) (i : Int) (hi : 0 ≤ i ∧ i + 5 ≤ N) (hI : INV σ) (K : ∀ σ2 : SS, INV σ2 → GG p l e room_1 s m args below meth c Q E A 9 σ2 (k + 1) (n + 6) 2912 [(0, .ref bS), (1, .ref (ea E 0)), (2, .ref (ea E 13)), (3, .ref (ea E 21)), (4, .ref (ea E 22)), (5, .int (iI i))] []) : GG p l e room_1 s m args below meth c Q E A 9 σ k n 1556 [(0, .ref bS), (1, .ref (ea E 0)), (2, .ref (ea E 13)), (3, .ref (ea E 21)), (4, .ref (ea E 22)), (5, .int (iI i))] [] := by
  have hM := hI.1.2
  have hP := hI.1.1
  have hW := hM.1
  have hH := hI.2.2.1.2.1
  have hK5 := hI.2.2.1.1
  have hN9 := hX.2.2.2
  have hkn0 : k ≤ room_1.cells ∧ n ≤ room_1.slots := ⟨Nat.le_of_succ_le hkn.1, Nat.le_trans (Nat.le_add_right n 6) hkn.2⟩
  obtain ⟨r, hs_r⟩ : ∃ v, scr xs (i + 1) = v := ⟨_, rfl⟩
  have hr_r := scr_rg xs (i + 1)
  rw [hs_r] at hr_r
  obtain ⟨p, hs_p⟩ : ∃ v, scr xs (i + 2) = v := ⟨_, rfl⟩
  have hr_p := scr_rg xs (i + 2)
  rw [hs_p] at hr_p
  have hq_0 := fR_c r
  refine g_aload_n C dL_law_1556 1 rfl rfl (q := 1557) rfl ?_
  refine g_aload_n C dL_law_1557 0 rfl rfl (q := 1558) rfl ?_
  refine g_iload C dL_law_1558 5 rfl (q := 1560) rfl ?_
  refine g_iconst C dL_law_1560 (q := 1561) rfl ?_
  refine g_iadd C dL_law_1561 (q := 1562) rfl ?_
  refine g_scr C hX (j := i + 1) (by omega) dL_law_1562 (q := 1563) rfl ?_
  refine g_top (b := r) hs_r ?_
  refine g_aload_n C dL_law_1563 0 rfl rfl (q := 1564) rfl ?_
  refine g_iload C dL_law_1564 5 rfl (q := 1566) rfl ?_
  refine g_iconst C dL_law_1566 (q := 1567) rfl ?_
  refine g_iadd C dL_law_1567 (q := 1568) rfl ?_
  refine g_scr C hX (j := i + 2) (by omega) dL_law_1568 (q := 1569) rfl ?_
  refine g_top (b := p) hs_p ?_
  refine g_aload_n C dL_law_1569 3 rfl rfl (q := 1570) rfl ?_
  rcases (show ((fR r = 0) ∧ (fI (rkP (σ 2) r p) 0 ((σ 2) (240 + r)) ≠ -1)) ∨ ((fR r = 1)) ∨ ((fR r = 0) ∧ (fI (rkP (σ 2) r p) 0 ((σ 2) (240 + r)) = -1)) by omega) with ⟨hq0, hq1⟩ | hq0 | ⟨hq0, hq1⟩
  · skip
    refine g_cL C (hh := th_L_segmentAtRank) (As := [.ref (ea E 0), .int (iI r), .int (iI p), .ref (ea E 21)]) (c_L_segmentAtRank l hst E _ r p  (by assumption) (by assumption) (by assumption) (by assumption) (by assumption)) ml_L_214 mf_L_segmentAtRank rfl ⟨(Nat.le_of_ble_eq_true rfl), (Nat.le_of_ble_eq_true rfl)⟩ rfl rfl rfl (Nat.le_of_ble_eq_true rfl) hkn dL_law_1570 (q := 1573) rfl ?_
    refine g_istore C (L' := [(6, .int (iI 0)), (0, .ref bS), (1, .ref (ea E 0)), (2, .ref (ea E 13)), (3, .ref (ea E 21)), (4, .ref (ea E 22)), (5, .int (iI i))]) dL_law_1573 (by decide) rfl (q := 1575) rfl ?_
    refine g_aload_n C dL_law_1575 3 rfl rfl (q := 1576) rfl ?_
    refine g_aload_n C dL_law_1576 1 rfl rfl (q := 1577) rfl ?_
    refine g_iload C dL_law_1577 6 rfl (q := 1579) rfl ?_
    refine g_iconst C dL_law_1579 (q := 1580) rfl ?_
    refine g_iadd C dL_law_1580 (q := 1581) rfl ?_
    refine g_scr C hX (j := i + 1) (by omega) dL_law_1581 (q := 1582) rfl ?_
    refine g_top (b := r) hs_r ?_
    refine g_aload_n C dL_law_1582 1 rfl rfl (q := 1583) rfl ?_
    refine g_iload C dL_law_1583 6 rfl (q := 1585) rfl ?_
    refine g_iconst C dL_law_1585 (q := 1586) rfl ?_
    refine g_iadd C dL_law_1586 (q := 1587) rfl ?_
    refine g_scr C hX (j := i + 2) (by omega) dL_law_1587 (q := 1588) rfl ?_
    refine g_top (b := p) hs_p ?_
    refine g_cV_i C (As := [.int (iI r), .int (iI p)]) (c_X5_segmentAtRank l E _ r p (σ 2) (by show MS (σ 2) (σ 14); assumption) (by omega) (by omega) (by assumption) (by assumption)) ml_L_216 mf_X5_segmentAtRank (o := 13) (ci := 5) rfl rfl rfl rfl ⟨(Nat.le_of_ble_eq_true rfl), (Nat.le_of_ble_eq_true rfl)⟩ rfl rfl rfl (Nat.le_of_ble_eq_true rfl) hkn dL_law_1588 (q := 1591) rfl ?_
    refine g_st (σ2 := (st (st σ 13 (pt (σ 13) 0 0)) 21 (pt (σ 21) 0 (wr (fI (rkP (σ 2) r p) 0 ((σ 2) (240 + r))))))) (st_cm σ (o := 21) (q := 13) (pt (σ 21) 0 (wr (fI (rkP (σ 2) r p) 0 ((σ 2) (240 + r))))) (pt (σ 13) 0 0) (by decide)) ?_
    refine g_istore C (L' := [(7, .int (iI (fI (rkP (σ 2) r p) 0 ((σ 2) (240 + r))))), (6, .int (iI 0)), (0, .ref bS), (1, .ref (ea E 0)), (2, .ref (ea E 13)), (3, .ref (ea E 21)), (4, .ref (ea E 22)), (5, .int (iI i))]) dL_law_1591 (by decide) rfl (q := 1593) rfl ?_
    refine g_aload_n C dL_law_1593 4 rfl rfl (q := 1594) rfl ?_
    refine g_cV_i C (As := []) (c_X5_thrown l E _) ml_L_157 mf_X5_thrown (o := 13) (ci := 5) rfl rfl rfl rfl ⟨(Nat.le_of_ble_eq_true rfl), (Nat.le_of_ble_eq_true rfl)⟩ rfl rfl rfl (Nat.le_of_ble_eq_true rfl) hkn dL_law_1594 (q := 1597) rfl ?_
    refine g_top (b := 0) rfl ?_
    refine g_iload C dL_law_1597 1 rfl (q := 1599) rfl ?_
    refine g_icmp_eq C dL_law_1599 (by omega) (q2 := 1604) rfl (q := 1602) rfl (fun hb2 => ?_) (fun hb2 => ?_)
    · skip
      refine g_iload C dL_law_1604 1 rfl (q := 1606) rfl ?_
      refine g_if_ne C dL_law_1606 (by omega) (q2 := 1621) rfl (q := 1609) rfl (fun hb3 => ?_) (fun hb3 => ?_)
      · skip
        exfalso; omega
      · skip
        refine g_aload_n C dL_law_1609 5 rfl rfl (q := 1610) rfl ?_
        refine g_iconst C dL_law_1610 (q := 1611) rfl ?_
        refine gl_21 C dL_law_1611 (q := 1612) rfl ?_
        refine g_topl (b := (wr (fI (rkP (σ 2) r p) 0 ((σ 2) (240 + r))))) (show (pt (σ 21) 0 (wr (fI (rkP (σ 2) r p) 0 ((σ 2) (240 + r))))) 0 = (wr (fI (rkP (σ 2) r p) 0 ((σ 2) (240 + r)))) from pt_s _ _ _) ?_
        refine g_iload C dL_law_1612 0 rfl (q := 1614) rfl ?_
        refine g_i2lw C dL_law_1614 (q := 1615) rfl ?_
        refine g_lcmpE C (by rfl) dL_law_1615 (q := 1616) rfl ?_
        refine g_if_eq C dL_law_1616 (by omega) (q2 := 1621) rfl (q := 1619) rfl (fun hb4 => ?_) (fun hb4 => ?_)
        · skip
          refine g_goto C dL_law_1621 (q := 2912) rfl ?_
          refine g_sub [2, 3, 4, 5, 6, 7] (L' := [(0, .ref bS), (1, .ref (ea E 0)), (2, .ref (ea E 13)), (3, .ref (ea E 21)), (4, .ref (ea E 22)), (5, .int (iI i))]) rfl ?_
          exact K _ (by exact hI)
        · skip
          exfalso; omega
    · skip
      exfalso; omega
  · skip
    refine g_cL C (hh := th_L_segmentAtRank) (As := [.ref (ea E 0), .int (iI r), .int (iI p), .ref (ea E 21)]) (c_L_segmentAtRank_11 l hst E _ r p  (by assumption) (by assumption) (by assumption) (by assumption)) ml_L_214 mf_L_segmentAtRank rfl ⟨(Nat.le_of_ble_eq_true rfl), (Nat.le_of_ble_eq_true rfl)⟩ rfl rfl rfl (Nat.le_of_ble_eq_true rfl) hkn dL_law_1570 (q := 1573) rfl ?_
    refine g_istore C (L' := [(6, .int (iI 1)), (0, .ref bS), (1, .ref (ea E 0)), (2, .ref (ea E 13)), (3, .ref (ea E 21)), (4, .ref (ea E 22)), (5, .int (iI i))]) dL_law_1573 (by decide) rfl (q := 1575) rfl ?_
    refine g_aload_n C dL_law_1575 3 rfl rfl (q := 1576) rfl ?_
    refine g_aload_n C dL_law_1576 1 rfl rfl (q := 1577) rfl ?_
    refine g_iload C dL_law_1577 6 rfl (q := 1579) rfl ?_
    refine g_iconst C dL_law_1579 (q := 1580) rfl ?_
    refine g_iadd C dL_law_1580 (q := 1581) rfl ?_
    refine g_scr C hX (j := i + 1) (by omega) dL_law_1581 (q := 1582) rfl ?_
    refine g_top (b := r) hs_r ?_
    refine g_aload_n C dL_law_1582 1 rfl rfl (q := 1583) rfl ?_
    refine g_iload C dL_law_1583 6 rfl (q := 1585) rfl ?_
    refine g_iconst C dL_law_1585 (q := 1586) rfl ?_
    refine g_iadd C dL_law_1586 (q := 1587) rfl ?_
    refine g_scr C hX (j := i + 2) (by omega) dL_law_1587 (q := 1588) rfl ?_
    refine g_top (b := p) hs_p ?_
    refine g_cV_i C (As := [.int (iI r), .int (iI p)]) (c_X5_segmentAtRank_11 l E _ r p (σ 2) (by assumption) (by omega) (by omega) (by assumption)) ml_L_216 mf_X5_segmentAtRank (o := 13) (ci := 5) rfl rfl rfl rfl ⟨(Nat.le_of_ble_eq_true rfl), (Nat.le_of_ble_eq_true rfl)⟩ rfl rfl rfl (Nat.le_of_ble_eq_true rfl) hkn dL_law_1588 (q := 1591) rfl ?_
    refine g_istore C (L' := [(7, .int (iI 0)), (6, .int (iI 1)), (0, .ref bS), (1, .ref (ea E 0)), (2, .ref (ea E 13)), (3, .ref (ea E 21)), (4, .ref (ea E 22)), (5, .int (iI i))]) dL_law_1591 (by decide) rfl (q := 1593) rfl ?_
    refine g_aload_n C dL_law_1593 4 rfl rfl (q := 1594) rfl ?_
    refine g_cV_i C (As := []) (c_X5_thrown l E _) ml_L_157 mf_X5_thrown (o := 13) (ci := 5) rfl rfl rfl rfl ⟨(Nat.le_of_ble_eq_true rfl), (Nat.le_of_ble_eq_true rfl)⟩ rfl rfl rfl (Nat.le_of_ble_eq_true rfl) hkn dL_law_1594 (q := 1597) rfl ?_
    refine g_top (b := 1) rfl ?_
    refine g_iload C dL_law_1597 1 rfl (q := 1599) rfl ?_
    refine g_icmp_eq C dL_law_1599 (by omega) (q2 := 1604) rfl (q := 1602) rfl (fun hb5 => ?_) (fun hb5 => ?_)
    · skip
      refine g_iload C dL_law_1604 1 rfl (q := 1606) rfl ?_
      refine g_if_ne C dL_law_1606 (by omega) (q2 := 1621) rfl (q := 1609) rfl (fun hb6 => ?_) (fun hb6 => ?_)
      · skip
        refine g_goto C dL_law_1621 (q := 2912) rfl ?_
        refine g_sub [2, 3, 4, 5, 6, 7] (L' := [(0, .ref bS), (1, .ref (ea E 0)), (2, .ref (ea E 13)), (3, .ref (ea E 21)), (4, .ref (ea E 22)), (5, .int (iI i))]) rfl ?_
        exact K _ (by exact hI)
      · skip
        exfalso; omega
    · skip
      exfalso; omega
  · skip
    refine g_cL C (hh := th_L_segmentAtRank) (As := [.ref (ea E 0), .int (iI r), .int (iI p), .ref (ea E 21)]) (c_L_segmentAtRank_n l hst E _ r p  (by assumption) (by assumption) (by assumption) (by assumption) (by assumption)) ml_L_214 mf_L_segmentAtRank rfl ⟨(Nat.le_of_ble_eq_true rfl), (Nat.le_of_ble_eq_true rfl)⟩ rfl rfl rfl (Nat.le_of_ble_eq_true rfl) hkn dL_law_1570 (q := 1573) rfl ?_
    refine g_istore C (L' := [(6, .int (iI 2)), (0, .ref bS), (1, .ref (ea E 0)), (2, .ref (ea E 13)), (3, .ref (ea E 21)), (4, .ref (ea E 22)), (5, .int (iI i))]) dL_law_1573 (by decide) rfl (q := 1575) rfl ?_
    refine g_aload_n C dL_law_1575 3 rfl rfl (q := 1576) rfl ?_
    refine g_aload_n C dL_law_1576 1 rfl rfl (q := 1577) rfl ?_
    refine g_iload C dL_law_1577 6 rfl (q := 1579) rfl ?_
    refine g_iconst C dL_law_1579 (q := 1580) rfl ?_
    refine g_iadd C dL_law_1580 (q := 1581) rfl ?_
    refine g_scr C hX (j := i + 1) (by omega) dL_law_1581 (q := 1582) rfl ?_
    refine g_top (b := r) hs_r ?_
    refine g_aload_n C dL_law_1582 1 rfl rfl (q := 1583) rfl ?_
    refine g_iload C dL_law_1583 6 rfl (q := 1585) rfl ?_
    refine g_iconst C dL_law_1585 (q := 1586) rfl ?_
    refine g_iadd C dL_law_1586 (q := 1587) rfl ?_
    refine g_scr C hX (j := i + 2) (by omega) dL_law_1587 (q := 1588) rfl ?_
    refine g_top (b := p) hs_p ?_
    refine g_cV_i C (As := [.int (iI r), .int (iI p)]) (c_X5_segmentAtRank_n l E _ r p (σ 2) (by assumption) (by omega) (by omega) (by assumption) (by assumption)) ml_L_216 mf_X5_segmentAtRank (o := 13) (ci := 5) rfl rfl rfl rfl ⟨(Nat.le_of_ble_eq_true rfl), (Nat.le_of_ble_eq_true rfl)⟩ rfl rfl rfl (Nat.le_of_ble_eq_true rfl) hkn dL_law_1588 (q := 1591) rfl ?_
    refine g_istore C (L' := [(7, .int (iI 0)), (6, .int (iI 2)), (0, .ref bS), (1, .ref (ea E 0)), (2, .ref (ea E 13)), (3, .ref (ea E 21)), (4, .ref (ea E 22)), (5, .int (iI i))]) dL_law_1591 (by decide) rfl (q := 1593) rfl ?_
    refine g_aload_n C dL_law_1593 4 rfl rfl (q := 1594) rfl ?_
    refine g_cV_i C (As := []) (c_X5_thrown l E _) ml_L_157 mf_X5_thrown (o := 13) (ci := 5) rfl rfl rfl rfl ⟨(Nat.le_of_ble_eq_true rfl), (Nat.le_of_ble_eq_true rfl)⟩ rfl rfl rfl (Nat.le_of_ble_eq_true rfl) hkn dL_law_1594 (q := 1597) rfl ?_
    refine g_top (b := 2) rfl ?_
    refine g_iload C dL_law_1597 1 rfl (q := 1599) rfl ?_
    refine g_icmp_eq C dL_law_1599 (by omega) (q2 := 1604) rfl (q := 1602) rfl (fun hb7 => ?_) (fun hb7 => ?_)
    · skip
      refine g_iload C dL_law_1604 1 rfl (q := 1606) rfl ?_
      refine g_if_ne C dL_law_1606 (by omega) (q2 := 1621) rfl (q := 1609) rfl (fun hb8 => ?_) (fun hb8 => ?_)
      · skip
        refine g_goto C dL_law_1621 (q := 2912) rfl ?_
        refine g_sub [2, 3, 4, 5, 6, 7] (L' := [(0, .ref bS), (1, .ref (ea E 0)), (2, .ref (ea E 13)), (3, .ref (ea E 21)), (4, .ref (ea E 22)), (5, .int (iI i))]) rfl ?_
        exact K _ (by exact hI)
      · skip
        exfalso; omega
    · skip
      exfalso; omega
set_option maxRecDepth 100000 in
set_option maxHeartbeats 4000000 in
theorem lc_19 {p : Program} {l : Launch} {e : Env} {s : State} {m : MethodId} {args : Array Value} {below : List Frame} {meth : Method} {c : Code} {E : EV} {A : Nat → Prop} {Q : State → Prop} {σ : SS} {k n : Nat} {bS N : Nat} {xs : Nat → Int32} (hst : l.stackTraces = false) (C : CX p l e room_1 s m args below meth c RL cL_law 9 E A (some .boolean)) (hX : SX bS N xs s A) (hkn : k + 1 ≤ room_1.cells ∧ n + 6 ≤ room_1.slots) (i : Int) (hi : 0 ≤ i ∧ i + 5 ≤ N) (hI : INV σ) (K : ∀ σ2 : SS, INV σ2 → GG p l e room_1 s m args below meth c Q E A 9 σ2 (k + 1) (n + 6) 2912 [(0, .ref bS), (1, .ref (ea E 0)), (2, .ref (ea E 13)), (3, .ref (ea E 21)), (4, .ref (ea E 22)), (5, .int (iI i))] []) : GG p l e room_1 s m args below meth c Q E A 9 σ k n 1624 [(0, .ref bS), (1, .ref (ea E 0)), (2, .ref (ea E 13)), (3, .ref (ea E 21)), (4, .ref (ea E 22)), (5, .int (iI i))] [] := by
  have hM := hI.1.2
  have hP := hI.1.1
  have hW := hM.1
  have hH := hI.2.2.1.2.1
  have hK5 := hI.2.2.1.1
  have hN9 := hX.2.2.2
  have hkn0 : k ≤ room_1.cells ∧ n ≤ room_1.slots := ⟨Nat.le_of_succ_le hkn.1, Nat.le_trans (Nat.le_add_right n 6) hkn.2⟩
  refine g_aload_n C dL_law_1624 1 rfl rfl (q := 1625) rfl ?_
  refine g_cV_l C (As := []) (c_X4_totalLength l E _   (by assumption) (by assumption)) ml_L_217 mf_X4_totalLength (o := 0) (ci := 4) rfl rfl rfl rfl ⟨(Nat.le_of_ble_eq_true rfl), (Nat.le_of_ble_eq_true rfl)⟩ rfl rfl rfl (Nat.le_of_ble_eq_true rfl) hkn0 dL_law_1625 (q := 1628) rfl ?_
  refine g_aload_n C dL_law_1628 2 rfl rfl (q := 1629) rfl ?_
  refine g_cV_l C (As := []) (c_X5_totalLength l E _  (σ 2) (by assumption)) ml_L_221 mf_X5_totalLength (o := 13) (ci := 5) rfl rfl rfl rfl ⟨(Nat.le_of_ble_eq_true rfl), (Nat.le_of_ble_eq_true rfl)⟩ rfl rfl rfl (Nat.le_of_ble_eq_true rfl) hkn0 dL_law_1629 (q := 1632) rfl ?_
  refine g_lcmpE C (by exact tot_eq hW hP) dL_law_1632 (q := 1633) rfl ?_
  refine g_if_eq C dL_law_1633 (by omega) (q2 := 2912) rfl (q := 1636) rfl (fun hb1 => ?_) (fun hb1 => ?_)
  · skip
    refine g_wide (Nat.le_succ k) (Nat.le_add_right n 6) ?_
    exact K _ (by exact hI)
  · skip
    exfalso; omega
set_option maxRecDepth 100000 in
set_option maxHeartbeats 4000000 in
theorem lc_20 {p : Program} {l : Launch} {e : Env} {s : State} {m : MethodId} {args : Array Value} {below : List Frame} {meth : Method} {c : Code} {E : EV} {A : Nat → Prop} {Q : State → Prop} {σ : SS} {k n : Nat} {bS N : Nat} {xs : Nat → Int32} (hst : l.stackTraces = false) (C : CX p l e room_1 s m args below meth c RL cL_law 9 E A (some .boolean)) (hX : SX bS N xs s A) (hkn : k + 1 ≤ room_1.cells ∧ n + 6 ≤ room_1.slots) (i : Int) (hi : 0 ≤ i ∧ i + 5 ≤ N) (hI : INV σ) (K : ∀ σ2 : SS, INV σ2 → GG p l e room_1 s m args below meth c Q E A 9 σ2 (k + 1) (n + 6) 2912 [(0, .ref bS), (1, .ref (ea E 0)), (2, .ref (ea E 13)), (3, .ref (ea E 21)), (4, .ref (ea E 22)), (5, .int (iI i))] []) : GG p l e room_1 s m args below meth c Q E A 9 σ k n 1638 [(0, .ref bS), (1, .ref (ea E 0)), (2, .ref (ea E 13)), (3, .ref (ea E 21)), (4, .ref (ea E 22)), (5, .int (iI i))] [] := by
  have hM := hI.1.2
  have hP := hI.1.1
  have hW := hM.1
  have hH := hI.2.2.1.2.1
  have hK5 := hI.2.2.1.1
  have hN9 := hX.2.2.2
  have hkn0 : k ≤ room_1.cells ∧ n ≤ room_1.slots := ⟨Nat.le_of_succ_le hkn.1, Nat.le_trans (Nat.le_add_right n 6) hkn.2⟩
  obtain ⟨r, hs_r⟩ : ∃ v, scr xs (i + 1) = v := ⟨_, rfl⟩
  have hr_r := scr_rg xs (i + 1)
  rw [hs_r] at hr_r
  have hq_0 := fR_c r
  refine g_aload_n C dL_law_1638 1 rfl rfl (q := 1639) rfl ?_
  refine g_aload_n C dL_law_1639 0 rfl rfl (q := 1640) rfl ?_
  refine g_iload C dL_law_1640 5 rfl (q := 1642) rfl ?_
  refine g_iconst C dL_law_1642 (q := 1643) rfl ?_
  refine g_iadd C dL_law_1643 (q := 1644) rfl ?_
  refine g_scr C hX (j := i + 1) (by omega) dL_law_1644 (q := 1645) rfl ?_
  refine g_top (b := r) hs_r ?_
  refine g_aload_n C dL_law_1645 3 rfl rfl (q := 1646) rfl ?_
  rcases (show ((fR r = 0)) ∨ ((fR r = 1)) by omega) with hq0 | hq0
  · skip
    refine g_cL C (hh := th_L_tangleCount) (As := [.ref (ea E 0), .int (iI r), .ref (ea E 21)]) (c_L_tangleCount l hst E _ r  (by assumption) (by assumption) (by assumption)) ml_L_222 mf_L_tangleCount rfl ⟨(Nat.le_of_ble_eq_true rfl), (Nat.le_of_ble_eq_true rfl)⟩ rfl rfl rfl (Nat.le_of_ble_eq_true rfl) hkn dL_law_1646 (q := 1649) rfl ?_
    refine g_istore C (L' := [(6, .int (iI 0)), (0, .ref bS), (1, .ref (ea E 0)), (2, .ref (ea E 13)), (3, .ref (ea E 21)), (4, .ref (ea E 22)), (5, .int (iI i))]) dL_law_1649 (by decide) rfl (q := 1651) rfl ?_
    refine g_aload_n C dL_law_1651 3 rfl rfl (q := 1652) rfl ?_
    refine g_aload_n C dL_law_1652 1 rfl rfl (q := 1653) rfl ?_
    refine g_iload C dL_law_1653 6 rfl (q := 1655) rfl ?_
    refine g_iconst C dL_law_1655 (q := 1656) rfl ?_
    refine g_iadd C dL_law_1656 (q := 1657) rfl ?_
    refine g_scr C hX (j := i + 1) (by omega) dL_law_1657 (q := 1658) rfl ?_
    refine g_top (b := r) hs_r ?_
    refine g_cV_i C (As := [.int (iI r)]) (c_X5_tangleCount l E _ r (σ 2) (by show MS (σ 2) (σ 14); assumption) (by omega) (by assumption)) ml_L_224 mf_X5_tangleCount (o := 13) (ci := 5) rfl rfl rfl rfl ⟨(Nat.le_of_ble_eq_true rfl), (Nat.le_of_ble_eq_true rfl)⟩ rfl rfl rfl (Nat.le_of_ble_eq_true rfl) hkn dL_law_1658 (q := 1661) rfl ?_
    refine g_st (σ2 := (st (st σ 13 (pt (σ 13) 0 0)) 21 (pt (σ 21) 0 (wr (tt (σ 2) r))))) (st_cm σ (o := 21) (q := 13) (pt (σ 21) 0 (wr (tt (σ 2) r))) (pt (σ 13) 0 0) (by decide)) ?_
    refine g_istore C (L' := [(7, .int (iI (sI (tg (σ 2) r) 0 ((σ 2) (240 + r))))), (6, .int (iI 0)), (0, .ref bS), (1, .ref (ea E 0)), (2, .ref (ea E 13)), (3, .ref (ea E 21)), (4, .ref (ea E 22)), (5, .int (iI i))]) dL_law_1661 (by decide) rfl (q := 1663) rfl ?_
    refine g_aload_n C dL_law_1663 4 rfl rfl (q := 1664) rfl ?_
    refine g_cV_i C (As := []) (c_X5_thrown l E _) ml_L_157 mf_X5_thrown (o := 13) (ci := 5) rfl rfl rfl rfl ⟨(Nat.le_of_ble_eq_true rfl), (Nat.le_of_ble_eq_true rfl)⟩ rfl rfl rfl (Nat.le_of_ble_eq_true rfl) hkn dL_law_1664 (q := 1667) rfl ?_
    refine g_top (b := 0) rfl ?_
    refine g_iload C dL_law_1667 1 rfl (q := 1669) rfl ?_
    refine g_icmp_eq C dL_law_1669 (by omega) (q2 := 1674) rfl (q := 1672) rfl (fun hb2 => ?_) (fun hb2 => ?_)
    · skip
      refine g_iload C dL_law_1674 1 rfl (q := 1676) rfl ?_
      refine g_if_ne C dL_law_1676 (by omega) (q2 := 1691) rfl (q := 1679) rfl (fun hb3 => ?_) (fun hb3 => ?_)
      · skip
        exfalso; omega
      · skip
        refine g_aload_n C dL_law_1679 5 rfl rfl (q := 1680) rfl ?_
        refine g_iconst C dL_law_1680 (q := 1681) rfl ?_
        refine gl_21 C dL_law_1681 (q := 1682) rfl ?_
        refine g_topl (b := (wr (tt (σ 2) r))) (show (pt (σ 21) 0 (wr (tt (σ 2) r))) 0 = (wr (tt (σ 2) r)) from pt_s _ _ _) ?_
        refine g_iload C dL_law_1682 0 rfl (q := 1684) rfl ?_
        refine g_i2lw C dL_law_1684 (q := 1685) rfl ?_
        refine g_lcmpE C (by rw [tt_eq hP (fR_0 hq0) (hW r (fR_0 hq0)).1, tgN (hW r (fR_0 hq0)).1.1]) dL_law_1685 (q := 1686) rfl ?_
        refine g_if_eq C dL_law_1686 (by omega) (q2 := 1691) rfl (q := 1689) rfl (fun hb4 => ?_) (fun hb4 => ?_)
        · skip
          refine g_goto C dL_law_1691 (q := 2912) rfl ?_
          refine g_sub [2, 3, 4, 5, 6, 7] (L' := [(0, .ref bS), (1, .ref (ea E 0)), (2, .ref (ea E 13)), (3, .ref (ea E 21)), (4, .ref (ea E 22)), (5, .int (iI i))]) rfl ?_
          exact K _ (by exact hI)
        · skip
          exfalso; omega
    · skip
      exfalso; omega
  · skip
    refine g_cL C (hh := th_L_tangleCount) (As := [.ref (ea E 0), .int (iI r), .ref (ea E 21)]) (c_L_tangleCount_11 l hst E _ r  (by assumption) (by assumption) (by assumption)) ml_L_222 mf_L_tangleCount rfl ⟨(Nat.le_of_ble_eq_true rfl), (Nat.le_of_ble_eq_true rfl)⟩ rfl rfl rfl (Nat.le_of_ble_eq_true rfl) hkn dL_law_1646 (q := 1649) rfl ?_
    refine g_istore C (L' := [(6, .int (iI 1)), (0, .ref bS), (1, .ref (ea E 0)), (2, .ref (ea E 13)), (3, .ref (ea E 21)), (4, .ref (ea E 22)), (5, .int (iI i))]) dL_law_1649 (by decide) rfl (q := 1651) rfl ?_
    refine g_aload_n C dL_law_1651 3 rfl rfl (q := 1652) rfl ?_
    refine g_aload_n C dL_law_1652 1 rfl rfl (q := 1653) rfl ?_
    refine g_iload C dL_law_1653 6 rfl (q := 1655) rfl ?_
    refine g_iconst C dL_law_1655 (q := 1656) rfl ?_
    refine g_iadd C dL_law_1656 (q := 1657) rfl ?_
    refine g_scr C hX (j := i + 1) (by omega) dL_law_1657 (q := 1658) rfl ?_
    refine g_top (b := r) hs_r ?_
    refine g_cV_i C (As := [.int (iI r)]) (c_X5_tangleCount_11 l E _ r (σ 2) (by assumption) (by omega) (by assumption)) ml_L_224 mf_X5_tangleCount (o := 13) (ci := 5) rfl rfl rfl rfl ⟨(Nat.le_of_ble_eq_true rfl), (Nat.le_of_ble_eq_true rfl)⟩ rfl rfl rfl (Nat.le_of_ble_eq_true rfl) hkn dL_law_1658 (q := 1661) rfl ?_
    refine g_istore C (L' := [(7, .int (iI 0)), (6, .int (iI 1)), (0, .ref bS), (1, .ref (ea E 0)), (2, .ref (ea E 13)), (3, .ref (ea E 21)), (4, .ref (ea E 22)), (5, .int (iI i))]) dL_law_1661 (by decide) rfl (q := 1663) rfl ?_
    refine g_aload_n C dL_law_1663 4 rfl rfl (q := 1664) rfl ?_
    refine g_cV_i C (As := []) (c_X5_thrown l E _) ml_L_157 mf_X5_thrown (o := 13) (ci := 5) rfl rfl rfl rfl ⟨(Nat.le_of_ble_eq_true rfl), (Nat.le_of_ble_eq_true rfl)⟩ rfl rfl rfl (Nat.le_of_ble_eq_true rfl) hkn dL_law_1664 (q := 1667) rfl ?_
    refine g_top (b := 1) rfl ?_
    refine g_iload C dL_law_1667 1 rfl (q := 1669) rfl ?_
    refine g_icmp_eq C dL_law_1669 (by omega) (q2 := 1674) rfl (q := 1672) rfl (fun hb5 => ?_) (fun hb5 => ?_)
    · skip
      refine g_iload C dL_law_1674 1 rfl (q := 1676) rfl ?_
      refine g_if_ne C dL_law_1676 (by omega) (q2 := 1691) rfl (q := 1679) rfl (fun hb6 => ?_) (fun hb6 => ?_)
      · skip
        refine g_goto C dL_law_1691 (q := 2912) rfl ?_
        refine g_sub [2, 3, 4, 5, 6, 7] (L' := [(0, .ref bS), (1, .ref (ea E 0)), (2, .ref (ea E 13)), (3, .ref (ea E 21)), (4, .ref (ea E 22)), (5, .int (iI i))]) rfl ?_
        exact K _ (by exact hI)
      · skip
        exfalso; omega
    · skip
      exfalso; omega
set_option maxRecDepth 100000 in
set_option maxHeartbeats 4000000 in
theorem lc_21 {p : Program} {l : Launch} {e : Env} {s : State} {m : MethodId} {args : Array Value} {below : List Frame} {meth : Method} {c : Code} {E : EV} {A : Nat → Prop} {Q : State → Prop} {σ : SS} {k n : Nat} {bS N : Nat} {xs : Nat → Int32} (hst : l.stackTraces = false) (C : CX p l e room_1 s m args below meth c RL cL_law 9 E A (some .boolean)) (hX : SX bS N xs s A) (hkn : k + 1 ≤ room_1.cells ∧ n + 6 ≤ room_1.slots) (i : Int) (hi : 0 ≤ i ∧ i + 5 ≤ N) (hI : INV σ) (K : ∀ σ2 : SS, INV σ2 → GG p l e room_1 s m args below meth c Q E A 9 σ2 (k + 1) (n + 6) 2912 [(0, .ref bS), (1, .ref (ea E 0)), (2, .ref (ea E 13)), (3, .ref (ea E 21)), (4, .ref (ea E 22)), (5, .int (iI i))] []) : GG p l e room_1 s m args below meth c Q E A 9 σ k n 1694 [(0, .ref bS), (1, .ref (ea E 0)), (2, .ref (ea E 13)), (3, .ref (ea E 21)), (4, .ref (ea E 22)), (5, .int (iI i))] [] := by
  have hM := hI.1.2
  have hP := hI.1.1
  have hW := hM.1
  have hH := hI.2.2.1.2.1
  have hK5 := hI.2.2.1.1
  have hN9 := hX.2.2.2
  have hkn0 : k ≤ room_1.cells ∧ n ≤ room_1.slots := ⟨Nat.le_of_succ_le hkn.1, Nat.le_trans (Nat.le_add_right n 6) hkn.2⟩
  obtain ⟨r, hs_r⟩ : ∃ v, scr xs (i + 1) = v := ⟨_, rfl⟩
  have hr_r := scr_rg xs (i + 1)
  rw [hs_r] at hr_r
  have hq_0 := fR_c r
  refine g_aload_n C dL_law_1694 1 rfl rfl (q := 1695) rfl ?_
  refine g_aload_n C dL_law_1695 0 rfl rfl (q := 1696) rfl ?_
  refine g_iload C dL_law_1696 5 rfl (q := 1698) rfl ?_
  refine g_iconst C dL_law_1698 (q := 1699) rfl ?_
  refine g_iadd C dL_law_1699 (q := 1700) rfl ?_
  refine g_scr C hX (j := i + 1) (by omega) dL_law_1700 (q := 1701) rfl ?_
  refine g_top (b := r) hs_r ?_
  refine g_aload_n C dL_law_1701 3 rfl rfl (q := 1702) rfl ?_
  rcases (show ((fR r = 0)) ∨ ((fR r = 1)) by omega) with hq0 | hq0
  · skip
    refine g_cL C (hh := th_L_tangleCountByScan) (As := [.ref (ea E 0), .int (iI r), .ref (ea E 21)]) (c_L_tangleCountByScan l hst E _ r  (by assumption) (by assumption) (by assumption)) ml_L_225 mf_L_tangleCountByScan rfl ⟨(Nat.le_of_ble_eq_true rfl), (Nat.le_of_ble_eq_true rfl)⟩ rfl rfl rfl (Nat.le_of_ble_eq_true rfl) hkn dL_law_1702 (q := 1705) rfl ?_
    refine g_istore C (L' := [(6, .int (iI 0)), (0, .ref bS), (1, .ref (ea E 0)), (2, .ref (ea E 13)), (3, .ref (ea E 21)), (4, .ref (ea E 22)), (5, .int (iI i))]) dL_law_1705 (by decide) rfl (q := 1707) rfl ?_
    refine g_aload_n C dL_law_1707 3 rfl rfl (q := 1708) rfl ?_
    refine g_aload_n C dL_law_1708 1 rfl rfl (q := 1709) rfl ?_
    refine g_iload C dL_law_1709 6 rfl (q := 1711) rfl ?_
    refine g_iconst C dL_law_1711 (q := 1712) rfl ?_
    refine g_iadd C dL_law_1712 (q := 1713) rfl ?_
    refine g_scr C hX (j := i + 1) (by omega) dL_law_1713 (q := 1714) rfl ?_
    refine g_top (b := r) hs_r ?_
    refine g_cV_i C (As := [.int (iI r)]) (c_X5_tangleCountByScan l E _ r (σ 2) (by show MS (σ 2) (σ 14); assumption) (by omega) (by assumption)) ml_L_227 mf_X5_tangleCountByScan (o := 13) (ci := 5) rfl rfl rfl rfl ⟨(Nat.le_of_ble_eq_true rfl), (Nat.le_of_ble_eq_true rfl)⟩ rfl rfl rfl (Nat.le_of_ble_eq_true rfl) hkn dL_law_1714 (q := 1717) rfl ?_
    refine g_st (σ2 := (st (st σ 13 (pt (σ 13) 0 0)) 21 (pt (σ 21) 0 (wr (tbs (σ 2) r))))) (st_cm σ (o := 21) (q := 13) (pt (σ 21) 0 (wr (tbs (σ 2) r))) (pt (σ 13) 0 0) (by decide)) ?_
    refine g_istore C (L' := [(7, .int (iI (sI (tg (σ 2) r) 0 ((σ 2) (240 + r))))), (6, .int (iI 0)), (0, .ref bS), (1, .ref (ea E 0)), (2, .ref (ea E 13)), (3, .ref (ea E 21)), (4, .ref (ea E 22)), (5, .int (iI i))]) dL_law_1717 (by decide) rfl (q := 1719) rfl ?_
    refine g_aload_n C dL_law_1719 4 rfl rfl (q := 1720) rfl ?_
    refine g_cV_i C (As := []) (c_X5_thrown l E _) ml_L_157 mf_X5_thrown (o := 13) (ci := 5) rfl rfl rfl rfl ⟨(Nat.le_of_ble_eq_true rfl), (Nat.le_of_ble_eq_true rfl)⟩ rfl rfl rfl (Nat.le_of_ble_eq_true rfl) hkn dL_law_1720 (q := 1723) rfl ?_
    refine g_top (b := 0) rfl ?_
    refine g_iload C dL_law_1723 1 rfl (q := 1725) rfl ?_
    refine g_icmp_eq C dL_law_1725 (by omega) (q2 := 1730) rfl (q := 1728) rfl (fun hb2 => ?_) (fun hb2 => ?_)
    · skip
      refine g_iload C dL_law_1730 1 rfl (q := 1732) rfl ?_
      refine g_if_ne C dL_law_1732 (by omega) (q2 := 1747) rfl (q := 1735) rfl (fun hb3 => ?_) (fun hb3 => ?_)
      · skip
        exfalso; omega
      · skip
        refine g_aload_n C dL_law_1735 5 rfl rfl (q := 1736) rfl ?_
        refine g_iconst C dL_law_1736 (q := 1737) rfl ?_
        refine gl_21 C dL_law_1737 (q := 1738) rfl ?_
        refine g_topl (b := (wr (tbs (σ 2) r))) (show (pt (σ 21) 0 (wr (tbs (σ 2) r))) 0 = (wr (tbs (σ 2) r)) from pt_s _ _ _) ?_
        refine g_iload C dL_law_1738 0 rfl (q := 1740) rfl ?_
        refine g_i2lw C dL_law_1740 (q := 1741) rfl ?_
        refine g_lcmpE C (by rw [tgN (hW r (fR_0 hq0)).1.1]) dL_law_1741 (q := 1742) rfl ?_
        refine g_if_eq C dL_law_1742 (by omega) (q2 := 1747) rfl (q := 1745) rfl (fun hb4 => ?_) (fun hb4 => ?_)
        · skip
          refine g_goto C dL_law_1747 (q := 2912) rfl ?_
          refine g_sub [2, 3, 4, 5, 6, 7] (L' := [(0, .ref bS), (1, .ref (ea E 0)), (2, .ref (ea E 13)), (3, .ref (ea E 21)), (4, .ref (ea E 22)), (5, .int (iI i))]) rfl ?_
          exact K _ (by exact hI)
        · skip
          exfalso; omega
    · skip
      exfalso; omega
  · skip
    refine g_cL C (hh := th_L_tangleCountByScan) (As := [.ref (ea E 0), .int (iI r), .ref (ea E 21)]) (c_L_tangleCountByScan_11 l hst E _ r  (by assumption) (by assumption) (by assumption)) ml_L_225 mf_L_tangleCountByScan rfl ⟨(Nat.le_of_ble_eq_true rfl), (Nat.le_of_ble_eq_true rfl)⟩ rfl rfl rfl (Nat.le_of_ble_eq_true rfl) hkn dL_law_1702 (q := 1705) rfl ?_
    refine g_istore C (L' := [(6, .int (iI 1)), (0, .ref bS), (1, .ref (ea E 0)), (2, .ref (ea E 13)), (3, .ref (ea E 21)), (4, .ref (ea E 22)), (5, .int (iI i))]) dL_law_1705 (by decide) rfl (q := 1707) rfl ?_
    refine g_aload_n C dL_law_1707 3 rfl rfl (q := 1708) rfl ?_
    refine g_aload_n C dL_law_1708 1 rfl rfl (q := 1709) rfl ?_
    refine g_iload C dL_law_1709 6 rfl (q := 1711) rfl ?_
    refine g_iconst C dL_law_1711 (q := 1712) rfl ?_
    refine g_iadd C dL_law_1712 (q := 1713) rfl ?_
    refine g_scr C hX (j := i + 1) (by omega) dL_law_1713 (q := 1714) rfl ?_
    refine g_top (b := r) hs_r ?_
    refine g_cV_i C (As := [.int (iI r)]) (c_X5_tangleCountByScan_11 l E _ r (σ 2) (by assumption) (by omega) (by assumption)) ml_L_227 mf_X5_tangleCountByScan (o := 13) (ci := 5) rfl rfl rfl rfl ⟨(Nat.le_of_ble_eq_true rfl), (Nat.le_of_ble_eq_true rfl)⟩ rfl rfl rfl (Nat.le_of_ble_eq_true rfl) hkn dL_law_1714 (q := 1717) rfl ?_
    refine g_istore C (L' := [(7, .int (iI 0)), (6, .int (iI 1)), (0, .ref bS), (1, .ref (ea E 0)), (2, .ref (ea E 13)), (3, .ref (ea E 21)), (4, .ref (ea E 22)), (5, .int (iI i))]) dL_law_1717 (by decide) rfl (q := 1719) rfl ?_
    refine g_aload_n C dL_law_1719 4 rfl rfl (q := 1720) rfl ?_
    refine g_cV_i C (As := []) (c_X5_thrown l E _) ml_L_157 mf_X5_thrown (o := 13) (ci := 5) rfl rfl rfl rfl ⟨(Nat.le_of_ble_eq_true rfl), (Nat.le_of_ble_eq_true rfl)⟩ rfl rfl rfl (Nat.le_of_ble_eq_true rfl) hkn dL_law_1720 (q := 1723) rfl ?_
    refine g_top (b := 1) rfl ?_
    refine g_iload C dL_law_1723 1 rfl (q := 1725) rfl ?_
    refine g_icmp_eq C dL_law_1725 (by omega) (q2 := 1730) rfl (q := 1728) rfl (fun hb5 => ?_) (fun hb5 => ?_)
    · skip
      refine g_iload C dL_law_1730 1 rfl (q := 1732) rfl ?_
      refine g_if_ne C dL_law_1732 (by omega) (q2 := 1747) rfl (q := 1735) rfl (fun hb6 => ?_) (fun hb6 => ?_)
      · skip
        refine g_goto C dL_law_1747 (q := 2912) rfl ?_
        refine g_sub [2, 3, 4, 5, 6, 7] (L' := [(0, .ref bS), (1, .ref (ea E 0)), (2, .ref (ea E 13)), (3, .ref (ea E 21)), (4, .ref (ea E 22)), (5, .int (iI i))]) rfl ?_
        exact K _ (by exact hI)
      · skip
        exfalso; omega
    · skip
      exfalso; omega
set_option maxRecDepth 100000 in
set_option maxHeartbeats 4000000 in
theorem lc_22 {p : Program} {l : Launch} {e : Env} {s : State} {m : MethodId} {args : Array Value} {below : List Frame} {meth : Method} {c : Code} {E : EV} {A : Nat → Prop} {Q : State → Prop} {σ : SS} {k n : Nat} {bS N : Nat} {xs : Nat → Int32} (hst : l.stackTraces = false) (C : CX p l e room_1 s m args below meth c RL cL_law 9 E A (some .boolean)) (hX : SX bS N xs s A) (hkn : k + 1 ≤ room_1.cells ∧ n + 6 ≤ room_1.slots) (i : Int) (hi : 0 ≤ i ∧ i + 5 ≤ N) (hI : INV σ) (K : ∀ σ2 : SS, INV σ2 → GG p l e room_1 s m args below meth c Q E A 9 σ2 (k + 1) (n + 6) 2912 [(0, .ref bS), (1, .ref (ea E 0)), (2, .ref (ea E 13)), (3, .ref (ea E 21)), (4, .ref (ea E 22)), (5, .int (iI i))] []) : GG p l e room_1 s m args below meth c Q E A 9 σ k n 1750 [(0, .ref bS), (1, .ref (ea E 0)), (2, .ref (ea E 13)), (3, .ref (ea E 21)), (4, .ref (ea E 22)), (5, .int (iI i))] [] := by
  have hM := hI.1.2
  have hP := hI.1.1
  have hW := hM.1
  have hH := hI.2.2.1.2.1
  have hK5 := hI.2.2.1.1
  have hN9 := hX.2.2.2
  have hkn0 : k ≤ room_1.cells ∧ n ≤ room_1.slots := ⟨Nat.le_of_succ_le hkn.1, Nat.le_trans (Nat.le_add_right n 6) hkn.2⟩
  obtain ⟨r, hs_r⟩ : ∃ v, scr xs (i + 1) = v := ⟨_, rfl⟩
  have hr_r := scr_rg xs (i + 1)
  rw [hs_r] at hr_r
  obtain ⟨p, hs_p⟩ : ∃ v, scr xs (i + 2) = v := ⟨_, rfl⟩
  have hr_p := scr_rg xs (i + 2)
  rw [hs_p] at hr_p
  have hq_0 := fP_c (σ 2) r p
  have hb9 := iT_01 (σ 2) r p
  refine g_aload_n C dL_law_1750 1 rfl rfl (q := 1751) rfl ?_
  refine g_aload_n C dL_law_1751 0 rfl rfl (q := 1752) rfl ?_
  refine g_iload C dL_law_1752 5 rfl (q := 1754) rfl ?_
  refine g_iconst C dL_law_1754 (q := 1755) rfl ?_
  refine g_iadd C dL_law_1755 (q := 1756) rfl ?_
  refine g_scr C hX (j := i + 1) (by omega) dL_law_1756 (q := 1757) rfl ?_
  refine g_top (b := r) hs_r ?_
  refine g_aload_n C dL_law_1757 0 rfl rfl (q := 1758) rfl ?_
  refine g_iload C dL_law_1758 5 rfl (q := 1760) rfl ?_
  refine g_iconst C dL_law_1760 (q := 1761) rfl ?_
  refine g_iadd C dL_law_1761 (q := 1762) rfl ?_
  refine g_scr C hX (j := i + 2) (by omega) dL_law_1762 (q := 1763) rfl ?_
  refine g_top (b := p) hs_p ?_
  refine g_aload_n C dL_law_1763 3 rfl rfl (q := 1764) rfl ?_
  rcases (show ((fP (σ 2) r p = 0)) ∨ ((fP (σ 2) r p = 1)) by omega) with hq0 | hq0
  · skip
    refine g_cL C (hh := th_L_isTangled) (As := [.ref (ea E 0), .int (iI r), .int (iI p), .ref (ea E 21)]) (c_L_isTangled l hst E _ r p  (by assumption) (by assumption) (by assumption) (by assumption)) ml_L_228 mf_L_isTangled rfl ⟨(Nat.le_of_ble_eq_true rfl), (Nat.le_of_ble_eq_true rfl)⟩ rfl rfl rfl (Nat.le_of_ble_eq_true rfl) hkn dL_law_1764 (q := 1767) rfl ?_
    refine g_istore C (L' := [(6, .int (iI 0)), (0, .ref bS), (1, .ref (ea E 0)), (2, .ref (ea E 13)), (3, .ref (ea E 21)), (4, .ref (ea E 22)), (5, .int (iI i))]) dL_law_1767 (by decide) rfl (q := 1769) rfl ?_
    refine g_aload_n C dL_law_1769 3 rfl rfl (q := 1770) rfl ?_
    refine g_aload_n C dL_law_1770 1 rfl rfl (q := 1771) rfl ?_
    refine g_iload C dL_law_1771 6 rfl (q := 1773) rfl ?_
    refine g_iconst C dL_law_1773 (q := 1774) rfl ?_
    refine g_iadd C dL_law_1774 (q := 1775) rfl ?_
    refine g_scr C hX (j := i + 1) (by omega) dL_law_1775 (q := 1776) rfl ?_
    refine g_top (b := r) hs_r ?_
    refine g_aload_n C dL_law_1776 1 rfl rfl (q := 1777) rfl ?_
    refine g_iload C dL_law_1777 6 rfl (q := 1779) rfl ?_
    refine g_iconst C dL_law_1779 (q := 1780) rfl ?_
    refine g_iadd C dL_law_1780 (q := 1781) rfl ?_
    refine g_scr C hX (j := i + 2) (by omega) dL_law_1781 (q := 1782) rfl ?_
    refine g_top (b := p) hs_p ?_
    refine g_cV_i C (As := [.int (iI r), .int (iI p)]) (c_X5_isTangled l E _ r p (σ 2) (by show MS (σ 2) (σ 14); assumption) (by omega) (by omega) (by assumption)) ml_L_230 mf_X5_isTangled (o := 13) (ci := 5) rfl rfl rfl rfl ⟨(Nat.le_of_ble_eq_true rfl), (Nat.le_of_ble_eq_true rfl)⟩ rfl rfl rfl (Nat.le_of_ble_eq_true rfl) hkn dL_law_1782 (q := 1785) rfl ?_
    refine g_st (σ2 := (st (st σ 13 (pt (σ 13) 0 0)) 21 (pt (σ 21) 0 (iT (σ 2) r p)))) (st_cm σ (o := 21) (q := 13) (pt (σ 21) 0 (iT (σ 2) r p)) (pt (σ 13) 0 0) (by decide)) ?_
    refine g_istore C (L' := [(7, .int (iI (iT (σ 2) r p))), (6, .int (iI 0)), (0, .ref bS), (1, .ref (ea E 0)), (2, .ref (ea E 13)), (3, .ref (ea E 21)), (4, .ref (ea E 22)), (5, .int (iI i))]) dL_law_1785 (by decide) rfl (q := 1787) rfl ?_
    refine g_aload_n C dL_law_1787 4 rfl rfl (q := 1788) rfl ?_
    refine g_cV_i C (As := []) (c_X5_thrown l E _) ml_L_157 mf_X5_thrown (o := 13) (ci := 5) rfl rfl rfl rfl ⟨(Nat.le_of_ble_eq_true rfl), (Nat.le_of_ble_eq_true rfl)⟩ rfl rfl rfl (Nat.le_of_ble_eq_true rfl) hkn dL_law_1788 (q := 1791) rfl ?_
    refine g_top (b := 0) rfl ?_
    refine g_iload C dL_law_1791 1 rfl (q := 1793) rfl ?_
    refine g_icmp_eq C dL_law_1793 (by omega) (q2 := 1798) rfl (q := 1796) rfl (fun hb2 => ?_) (fun hb2 => ?_)
    · skip
      refine g_iload C dL_law_1798 1 rfl (q := 1800) rfl ?_
      refine g_if_ne C dL_law_1800 (by omega) (q2 := 1822) rfl (q := 1803) rfl (fun hb3 => ?_) (fun hb3 => ?_)
      · skip
        exfalso; omega
      · skip
        refine g_aload_n C dL_law_1803 5 rfl rfl (q := 1804) rfl ?_
        refine g_iconst C dL_law_1804 (q := 1805) rfl ?_
        refine gl_21 C dL_law_1805 (q := 1806) rfl ?_
        refine g_topl (b := (iT (σ 2) r p)) (show (pt (σ 21) 0 (iT (σ 2) r p)) 0 = (iT (σ 2) r p) from pt_s _ _ _) ?_
        refine g_iload C dL_law_1806 0 rfl (q := 1808) rfl ?_
        refine g_if_eq C dL_law_1808 (by omega) (q2 := 1815) rfl (q := 1811) rfl (fun hb4 => ?_) (fun hb4 => ?_)
        · skip
          refine g_lconst C (y := 0) dL_law_1815 (by decide) (q := 1816) rfl ?_
          refine g_lcmpE C (by omega) dL_law_1816 (q := 1817) rfl ?_
          refine g_if_eq C dL_law_1817 (by omega) (q2 := 1822) rfl (q := 1820) rfl (fun hb5 => ?_) (fun hb5 => ?_)
          · skip
            refine g_goto C dL_law_1822 (q := 2912) rfl ?_
            refine g_sub [2, 3, 4, 5, 6, 7] (L' := [(0, .ref bS), (1, .ref (ea E 0)), (2, .ref (ea E 13)), (3, .ref (ea E 21)), (4, .ref (ea E 22)), (5, .int (iI i))]) rfl ?_
            exact K _ (by exact hI)
          · skip
            exfalso; omega
        · skip
          refine g_lconst C (y := 1) dL_law_1811 (by decide) (q := 1812) rfl ?_
          refine g_goto C dL_law_1812 (q := 1816) rfl ?_
          refine g_lcmpE C (by omega) dL_law_1816 (q := 1817) rfl ?_
          refine g_if_eq C dL_law_1817 (by omega) (q2 := 1822) rfl (q := 1820) rfl (fun hb6 => ?_) (fun hb6 => ?_)
          · skip
            refine g_goto C dL_law_1822 (q := 2912) rfl ?_
            refine g_sub [2, 3, 4, 5, 6, 7] (L' := [(0, .ref bS), (1, .ref (ea E 0)), (2, .ref (ea E 13)), (3, .ref (ea E 21)), (4, .ref (ea E 22)), (5, .int (iI i))]) rfl ?_
            exact K _ (by exact hI)
          · skip
            exfalso; omega
    · skip
      exfalso; omega
  · skip
    refine g_cL C (hh := th_L_isTangled) (As := [.ref (ea E 0), .int (iI r), .int (iI p), .ref (ea E 21)]) (c_L_isTangled_11 l hst E _ r p  (by assumption) (by assumption) (by assumption) (by assumption)) ml_L_228 mf_L_isTangled rfl ⟨(Nat.le_of_ble_eq_true rfl), (Nat.le_of_ble_eq_true rfl)⟩ rfl rfl rfl (Nat.le_of_ble_eq_true rfl) hkn dL_law_1764 (q := 1767) rfl ?_
    refine g_istore C (L' := [(6, .int (iI 1)), (0, .ref bS), (1, .ref (ea E 0)), (2, .ref (ea E 13)), (3, .ref (ea E 21)), (4, .ref (ea E 22)), (5, .int (iI i))]) dL_law_1767 (by decide) rfl (q := 1769) rfl ?_
    refine g_aload_n C dL_law_1769 3 rfl rfl (q := 1770) rfl ?_
    refine g_aload_n C dL_law_1770 1 rfl rfl (q := 1771) rfl ?_
    refine g_iload C dL_law_1771 6 rfl (q := 1773) rfl ?_
    refine g_iconst C dL_law_1773 (q := 1774) rfl ?_
    refine g_iadd C dL_law_1774 (q := 1775) rfl ?_
    refine g_scr C hX (j := i + 1) (by omega) dL_law_1775 (q := 1776) rfl ?_
    refine g_top (b := r) hs_r ?_
    refine g_aload_n C dL_law_1776 1 rfl rfl (q := 1777) rfl ?_
    refine g_iload C dL_law_1777 6 rfl (q := 1779) rfl ?_
    refine g_iconst C dL_law_1779 (q := 1780) rfl ?_
    refine g_iadd C dL_law_1780 (q := 1781) rfl ?_
    refine g_scr C hX (j := i + 2) (by omega) dL_law_1781 (q := 1782) rfl ?_
    refine g_top (b := p) hs_p ?_
    refine g_cV_i C (As := [.int (iI r), .int (iI p)]) (c_X5_isTangled_11 l E _ r p (σ 2) (by assumption) (by omega) (by omega) (by assumption)) ml_L_230 mf_X5_isTangled (o := 13) (ci := 5) rfl rfl rfl rfl ⟨(Nat.le_of_ble_eq_true rfl), (Nat.le_of_ble_eq_true rfl)⟩ rfl rfl rfl (Nat.le_of_ble_eq_true rfl) hkn dL_law_1782 (q := 1785) rfl ?_
    refine g_istore C (L' := [(7, .int (iI 0)), (6, .int (iI 1)), (0, .ref bS), (1, .ref (ea E 0)), (2, .ref (ea E 13)), (3, .ref (ea E 21)), (4, .ref (ea E 22)), (5, .int (iI i))]) dL_law_1785 (by decide) rfl (q := 1787) rfl ?_
    refine g_aload_n C dL_law_1787 4 rfl rfl (q := 1788) rfl ?_
    refine g_cV_i C (As := []) (c_X5_thrown l E _) ml_L_157 mf_X5_thrown (o := 13) (ci := 5) rfl rfl rfl rfl ⟨(Nat.le_of_ble_eq_true rfl), (Nat.le_of_ble_eq_true rfl)⟩ rfl rfl rfl (Nat.le_of_ble_eq_true rfl) hkn dL_law_1788 (q := 1791) rfl ?_
    refine g_top (b := 1) rfl ?_
    refine g_iload C dL_law_1791 1 rfl (q := 1793) rfl ?_
    refine g_icmp_eq C dL_law_1793 (by omega) (q2 := 1798) rfl (q := 1796) rfl (fun hb7 => ?_) (fun hb7 => ?_)
    · skip
      refine g_iload C dL_law_1798 1 rfl (q := 1800) rfl ?_
      refine g_if_ne C dL_law_1800 (by omega) (q2 := 1822) rfl (q := 1803) rfl (fun hb8 => ?_) (fun hb8 => ?_)
      · skip
        refine g_goto C dL_law_1822 (q := 2912) rfl ?_
        refine g_sub [2, 3, 4, 5, 6, 7] (L' := [(0, .ref bS), (1, .ref (ea E 0)), (2, .ref (ea E 13)), (3, .ref (ea E 21)), (4, .ref (ea E 22)), (5, .int (iI i))]) rfl ?_
        exact K _ (by exact hI)
      · skip
        exfalso; omega
    · skip
      exfalso; omega
set_option maxRecDepth 100000 in
set_option maxHeartbeats 4000000 in
theorem lc_23 {p : Program} {l : Launch} {e : Env} {s : State} {m : MethodId} {args : Array Value} {below : List Frame} {meth : Method} {c : Code} {E : EV} {A : Nat → Prop} {Q : State → Prop} {σ : SS} {k n : Nat} {bS N : Nat} {xs : Nat → Int32} (hst : l.stackTraces = false) (C : CX p l e room_1 s m args below meth c RL cL_law 9 E A (some .boolean)) (hX : SX bS N xs s A) (hkn : k + 1 ≤ room_1.cells ∧ n + 6 ≤ room_1.slots) (i : Int) (hi : 0 ≤ i ∧ i + 5 ≤ N) (hI : INV σ) (K : ∀ σ2 : SS, INV σ2 → GG p l e room_1 s m args below meth c Q E A 9 σ2 (k + 1) (n + 6) 2912 [(0, .ref bS), (1, .ref (ea E 0)), (2, .ref (ea E 13)), (3, .ref (ea E 21)), (4, .ref (ea E 22)), (5, .int (iI i))] []) : GG p l e room_1 s m args below meth c Q E A 9 σ k n 1825 [(0, .ref bS), (1, .ref (ea E 0)), (2, .ref (ea E 13)), (3, .ref (ea E 21)), (4, .ref (ea E 22)), (5, .int (iI i))] [] := by
  have hM := hI.1.2
  have hP := hI.1.1
  have hW := hM.1
  have hH := hI.2.2.1.2.1
  have hK5 := hI.2.2.1.1
  have hN9 := hX.2.2.2
  have hkn0 : k ≤ room_1.cells ∧ n ≤ room_1.slots := ⟨Nat.le_of_succ_le hkn.1, Nat.le_trans (Nat.le_add_right n 6) hkn.2⟩
  obtain ⟨r, hs_r⟩ : ∃ v, scr xs (i + 1) = v := ⟨_, rfl⟩
  have hr_r := scr_rg xs (i + 1)
  rw [hs_r] at hr_r
  have hq_0 := fR_c r
  refine g_aload_n C dL_law_1825 1 rfl rfl (q := 1826) rfl ?_
  refine g_aload_n C dL_law_1826 0 rfl rfl (q := 1827) rfl ?_
  refine g_iload C dL_law_1827 5 rfl (q := 1829) rfl ?_
  refine g_iconst C dL_law_1829 (q := 1830) rfl ?_
  refine g_iadd C dL_law_1830 (q := 1831) rfl ?_
  refine g_scr C hX (j := i + 1) (by omega) dL_law_1831 (q := 1832) rfl ?_
  refine g_top (b := r) hs_r ?_
  refine g_aload_n C dL_law_1832 3 rfl rfl (q := 1833) rfl ?_
  rcases (show ((fR r = 0)) ∨ ((fR r = 1)) by omega) with hq0 | hq0
  · skip
    refine g_cL C (hh := th_L_longestRun) (As := [.ref (ea E 0), .int (iI r), .ref (ea E 21)]) (c_L_longestRun l hst E _ r  (by assumption) (by assumption) (by assumption)) ml_L_231 mf_L_longestRun rfl ⟨(Nat.le_of_ble_eq_true rfl), (Nat.le_of_ble_eq_true rfl)⟩ rfl rfl rfl (Nat.le_of_ble_eq_true rfl) hkn dL_law_1833 (q := 1836) rfl ?_
    refine g_istore C (L' := [(6, .int (iI 0)), (0, .ref bS), (1, .ref (ea E 0)), (2, .ref (ea E 13)), (3, .ref (ea E 21)), (4, .ref (ea E 22)), (5, .int (iI i))]) dL_law_1836 (by decide) rfl (q := 1838) rfl ?_
    refine g_aload_n C dL_law_1838 3 rfl rfl (q := 1839) rfl ?_
    refine g_aload_n C dL_law_1839 1 rfl rfl (q := 1840) rfl ?_
    refine g_iload C dL_law_1840 6 rfl (q := 1842) rfl ?_
    refine g_iconst C dL_law_1842 (q := 1843) rfl ?_
    refine g_iadd C dL_law_1843 (q := 1844) rfl ?_
    refine g_scr C hX (j := i + 1) (by omega) dL_law_1844 (q := 1845) rfl ?_
    refine g_top (b := r) hs_r ?_
    refine g_cV_i C (As := [.int (iI r)]) (c_X5_longestRun l E _ r (σ 2) (by show MS (σ 2) (σ 14); assumption) (by omega) (by assumption)) ml_L_233 mf_X5_longestRun (o := 13) (ci := 5) rfl rfl rfl rfl ⟨(Nat.le_of_ble_eq_true rfl), (Nat.le_of_ble_eq_true rfl)⟩ rfl rfl rfl (Nat.le_of_ble_eq_true rfl) hkn dL_law_1845 (q := 1848) rfl ?_
    refine g_st (σ2 := (st (st σ 13 (pt (σ 13) 0 0)) 21 (pt (σ 21) 0 (wr (lrI (tg (σ 2) r) 0 0 0 ((σ 2) (240 + r))))))) (st_cm σ (o := 21) (q := 13) (pt (σ 21) 0 (wr (lrI (tg (σ 2) r) 0 0 0 ((σ 2) (240 + r))))) (pt (σ 13) 0 0) (by decide)) ?_
    refine g_istore C (L' := [(7, .int (iI (lrI (tg (σ 2) r) 0 0 0 ((σ 2) (240 + r))))), (6, .int (iI 0)), (0, .ref bS), (1, .ref (ea E 0)), (2, .ref (ea E 13)), (3, .ref (ea E 21)), (4, .ref (ea E 22)), (5, .int (iI i))]) dL_law_1848 (by decide) rfl (q := 1850) rfl ?_
    refine g_aload_n C dL_law_1850 4 rfl rfl (q := 1851) rfl ?_
    refine g_cV_i C (As := []) (c_X5_thrown l E _) ml_L_157 mf_X5_thrown (o := 13) (ci := 5) rfl rfl rfl rfl ⟨(Nat.le_of_ble_eq_true rfl), (Nat.le_of_ble_eq_true rfl)⟩ rfl rfl rfl (Nat.le_of_ble_eq_true rfl) hkn dL_law_1851 (q := 1854) rfl ?_
    refine g_top (b := 0) rfl ?_
    refine g_iload C dL_law_1854 1 rfl (q := 1856) rfl ?_
    refine g_icmp_eq C dL_law_1856 (by omega) (q2 := 1861) rfl (q := 1859) rfl (fun hb2 => ?_) (fun hb2 => ?_)
    · skip
      refine g_iload C dL_law_1861 1 rfl (q := 1863) rfl ?_
      refine g_if_ne C dL_law_1863 (by omega) (q2 := 1878) rfl (q := 1866) rfl (fun hb3 => ?_) (fun hb3 => ?_)
      · skip
        exfalso; omega
      · skip
        refine g_aload_n C dL_law_1866 5 rfl rfl (q := 1867) rfl ?_
        refine g_iconst C dL_law_1867 (q := 1868) rfl ?_
        refine gl_21 C dL_law_1868 (q := 1869) rfl ?_
        refine g_topl (b := (wr (lrI (tg (σ 2) r) 0 0 0 ((σ 2) (240 + r))))) (show (pt (σ 21) 0 (wr (lrI (tg (σ 2) r) 0 0 0 ((σ 2) (240 + r))))) 0 = (wr (lrI (tg (σ 2) r) 0 0 0 ((σ 2) (240 + r)))) from pt_s _ _ _) ?_
        refine g_iload C dL_law_1869 0 rfl (q := 1871) rfl ?_
        refine g_i2lw C dL_law_1871 (q := 1872) rfl ?_
        refine g_lcmpE C (by rfl) dL_law_1872 (q := 1873) rfl ?_
        refine g_if_eq C dL_law_1873 (by omega) (q2 := 1878) rfl (q := 1876) rfl (fun hb4 => ?_) (fun hb4 => ?_)
        · skip
          refine g_goto C dL_law_1878 (q := 2912) rfl ?_
          refine g_sub [2, 3, 4, 5, 6, 7] (L' := [(0, .ref bS), (1, .ref (ea E 0)), (2, .ref (ea E 13)), (3, .ref (ea E 21)), (4, .ref (ea E 22)), (5, .int (iI i))]) rfl ?_
          exact K _ (by exact hI)
        · skip
          exfalso; omega
    · skip
      exfalso; omega
  · skip
    refine g_cL C (hh := th_L_longestRun) (As := [.ref (ea E 0), .int (iI r), .ref (ea E 21)]) (c_L_longestRun_11 l hst E _ r  (by assumption) (by assumption) (by assumption)) ml_L_231 mf_L_longestRun rfl ⟨(Nat.le_of_ble_eq_true rfl), (Nat.le_of_ble_eq_true rfl)⟩ rfl rfl rfl (Nat.le_of_ble_eq_true rfl) hkn dL_law_1833 (q := 1836) rfl ?_
    refine g_istore C (L' := [(6, .int (iI 1)), (0, .ref bS), (1, .ref (ea E 0)), (2, .ref (ea E 13)), (3, .ref (ea E 21)), (4, .ref (ea E 22)), (5, .int (iI i))]) dL_law_1836 (by decide) rfl (q := 1838) rfl ?_
    refine g_aload_n C dL_law_1838 3 rfl rfl (q := 1839) rfl ?_
    refine g_aload_n C dL_law_1839 1 rfl rfl (q := 1840) rfl ?_
    refine g_iload C dL_law_1840 6 rfl (q := 1842) rfl ?_
    refine g_iconst C dL_law_1842 (q := 1843) rfl ?_
    refine g_iadd C dL_law_1843 (q := 1844) rfl ?_
    refine g_scr C hX (j := i + 1) (by omega) dL_law_1844 (q := 1845) rfl ?_
    refine g_top (b := r) hs_r ?_
    refine g_cV_i C (As := [.int (iI r)]) (c_X5_longestRun_11 l E _ r (σ 2) (by assumption) (by omega) (by assumption)) ml_L_233 mf_X5_longestRun (o := 13) (ci := 5) rfl rfl rfl rfl ⟨(Nat.le_of_ble_eq_true rfl), (Nat.le_of_ble_eq_true rfl)⟩ rfl rfl rfl (Nat.le_of_ble_eq_true rfl) hkn dL_law_1845 (q := 1848) rfl ?_
    refine g_istore C (L' := [(7, .int (iI 0)), (6, .int (iI 1)), (0, .ref bS), (1, .ref (ea E 0)), (2, .ref (ea E 13)), (3, .ref (ea E 21)), (4, .ref (ea E 22)), (5, .int (iI i))]) dL_law_1848 (by decide) rfl (q := 1850) rfl ?_
    refine g_aload_n C dL_law_1850 4 rfl rfl (q := 1851) rfl ?_
    refine g_cV_i C (As := []) (c_X5_thrown l E _) ml_L_157 mf_X5_thrown (o := 13) (ci := 5) rfl rfl rfl rfl ⟨(Nat.le_of_ble_eq_true rfl), (Nat.le_of_ble_eq_true rfl)⟩ rfl rfl rfl (Nat.le_of_ble_eq_true rfl) hkn dL_law_1851 (q := 1854) rfl ?_
    refine g_top (b := 1) rfl ?_
    refine g_iload C dL_law_1854 1 rfl (q := 1856) rfl ?_
    refine g_icmp_eq C dL_law_1856 (by omega) (q2 := 1861) rfl (q := 1859) rfl (fun hb5 => ?_) (fun hb5 => ?_)
    · skip
      refine g_iload C dL_law_1861 1 rfl (q := 1863) rfl ?_
      refine g_if_ne C dL_law_1863 (by omega) (q2 := 1878) rfl (q := 1866) rfl (fun hb6 => ?_) (fun hb6 => ?_)
      · skip
        refine g_goto C dL_law_1878 (q := 2912) rfl ?_
        refine g_sub [2, 3, 4, 5, 6, 7] (L' := [(0, .ref bS), (1, .ref (ea E 0)), (2, .ref (ea E 13)), (3, .ref (ea E 21)), (4, .ref (ea E 22)), (5, .int (iI i))]) rfl ?_
        exact K _ (by exact hI)
      · skip
        exfalso; omega
    · skip
      exfalso; omega
set_option maxRecDepth 100000 in
set_option maxHeartbeats 4000000 in
theorem lc_24 {p : Program} {l : Launch} {e : Env} {s : State} {m : MethodId} {args : Array Value} {below : List Frame} {meth : Method} {c : Code} {E : EV} {A : Nat → Prop} {Q : State → Prop} {σ : SS} {k n : Nat} {bS N : Nat} {xs : Nat → Int32} (hst : l.stackTraces = false) (C : CX p l e room_1 s m args below meth c RL cL_law 9 E A (some .boolean)) (hX : SX bS N xs s A) (hkn : k + 1 ≤ room_1.cells ∧ n + 6 ≤ room_1.slots) (i : Int) (hi : 0 ≤ i ∧ i + 5 ≤ N) (hI : INV σ) (K : ∀ σ2 : SS, INV σ2 → GG p l e room_1 s m args below meth c Q E A 9 σ2 (k + 1) (n + 6) 2912 [(0, .ref bS), (1, .ref (ea E 0)), (2, .ref (ea E 13)), (3, .ref (ea E 21)), (4, .ref (ea E 22)), (5, .int (iI i))] []) : GG p l e room_1 s m args below meth c Q E A 9 σ k n 1881 [(0, .ref bS), (1, .ref (ea E 0)), (2, .ref (ea E 13)), (3, .ref (ea E 21)), (4, .ref (ea E 22)), (5, .int (iI i))] [] := by
  have hM := hI.1.2
  have hP := hI.1.1
  have hW := hM.1
  have hH := hI.2.2.1.2.1
  have hK5 := hI.2.2.1.1
  have hN9 := hX.2.2.2
  have hkn0 : k ≤ room_1.cells ∧ n ≤ room_1.slots := ⟨Nat.le_of_succ_le hkn.1, Nat.le_trans (Nat.le_add_right n 6) hkn.2⟩
  obtain ⟨r, hs_r⟩ : ∃ v, scr xs (i + 1) = v := ⟨_, rfl⟩
  have hr_r := scr_rg xs (i + 1)
  rw [hs_r] at hr_r
  obtain ⟨p, hs_p⟩ : ∃ v, scr xs (i + 2) = v := ⟨_, rfl⟩
  have hr_p := scr_rg xs (i + 2)
  rw [hs_p] at hr_p
  obtain ⟨c, hs_c⟩ : ∃ v, scr xs (i + 3) = v := ⟨_, rfl⟩
  have hr_c := scr_rg xs (i + 3)
  rw [hs_c] at hr_c
  have hq_0 := fP_c (σ 2) r p
  have hq_1 := fC_c c
  refine g_aload_n C dL_law_1881 1 rfl rfl (q := 1882) rfl ?_
  refine g_aload_n C dL_law_1882 0 rfl rfl (q := 1883) rfl ?_
  refine g_iload C dL_law_1883 5 rfl (q := 1885) rfl ?_
  refine g_iconst C dL_law_1885 (q := 1886) rfl ?_
  refine g_iadd C dL_law_1886 (q := 1887) rfl ?_
  refine g_scr C hX (j := i + 1) (by omega) dL_law_1887 (q := 1888) rfl ?_
  refine g_top (b := r) hs_r ?_
  refine g_aload_n C dL_law_1888 0 rfl rfl (q := 1889) rfl ?_
  refine g_iload C dL_law_1889 5 rfl (q := 1891) rfl ?_
  refine g_iconst C dL_law_1891 (q := 1892) rfl ?_
  refine g_iadd C dL_law_1892 (q := 1893) rfl ?_
  refine g_scr C hX (j := i + 2) (by omega) dL_law_1893 (q := 1894) rfl ?_
  refine g_top (b := p) hs_p ?_
  refine g_aload_n C dL_law_1894 0 rfl rfl (q := 1895) rfl ?_
  refine g_iload C dL_law_1895 5 rfl (q := 1897) rfl ?_
  refine g_iconst C dL_law_1897 (q := 1898) rfl ?_
  refine g_iadd C dL_law_1898 (q := 1899) rfl ?_
  refine g_scr C hX (j := i + 3) (by omega) dL_law_1899 (q := 1900) rfl ?_
  refine g_top (b := c) hs_c ?_
  refine g_aload_n C dL_law_1900 3 rfl rfl (q := 1901) rfl ?_
  rcases (show ((fP (σ 2) r p = 0) ∧ (fC c = 0) ∧ (fI (coP (σ 2) r c) p ((σ 2) (240 + r)) ≠ -1)) ∨ ((fP (σ 2) r p = 1)) ∨ ((fP (σ 2) r p = 0) ∧ (fC c = 2)) ∨ ((fP (σ 2) r p = 0) ∧ (fC c = 0) ∧ (fI (coP (σ 2) r c) p ((σ 2) (240 + r)) = -1)) by omega) with ⟨hq0, hq1, hq2⟩ | hq0 | ⟨hq0, hq1⟩ | ⟨hq0, hq1, hq2⟩
  · skip
    refine g_cL C (hh := th_L_nextOfColour) (As := [.ref (ea E 0), .int (iI r), .int (iI p), .int (iI c), .ref (ea E 21)]) (c_L_nextOfColour l hst E _ r p c  (by assumption) (by assumption) (by assumption) (by assumption) (by assumption) (by assumption) (by assumption)) ml_L_234 mf_L_nextOfColour rfl ⟨(Nat.le_of_ble_eq_true rfl), (Nat.le_of_ble_eq_true rfl)⟩ rfl rfl rfl (Nat.le_of_ble_eq_true rfl) hkn dL_law_1901 (q := 1904) rfl ?_
    refine g_istore C (L' := [(6, .int (iI 0)), (0, .ref bS), (1, .ref (ea E 0)), (2, .ref (ea E 13)), (3, .ref (ea E 21)), (4, .ref (ea E 22)), (5, .int (iI i))]) dL_law_1904 (by decide) rfl (q := 1906) rfl ?_
    refine g_aload_n C dL_law_1906 3 rfl rfl (q := 1907) rfl ?_
    refine g_aload_n C dL_law_1907 1 rfl rfl (q := 1908) rfl ?_
    refine g_iload C dL_law_1908 6 rfl (q := 1910) rfl ?_
    refine g_iconst C dL_law_1910 (q := 1911) rfl ?_
    refine g_iadd C dL_law_1911 (q := 1912) rfl ?_
    refine g_scr C hX (j := i + 1) (by omega) dL_law_1912 (q := 1913) rfl ?_
    refine g_top (b := r) hs_r ?_
    refine g_aload_n C dL_law_1913 1 rfl rfl (q := 1914) rfl ?_
    refine g_iload C dL_law_1914 6 rfl (q := 1916) rfl ?_
    refine g_iconst C dL_law_1916 (q := 1917) rfl ?_
    refine g_iadd C dL_law_1917 (q := 1918) rfl ?_
    refine g_scr C hX (j := i + 2) (by omega) dL_law_1918 (q := 1919) rfl ?_
    refine g_top (b := p) hs_p ?_
    refine g_aload_n C dL_law_1919 1 rfl rfl (q := 1920) rfl ?_
    refine g_iload C dL_law_1920 6 rfl (q := 1922) rfl ?_
    refine g_iconst C dL_law_1922 (q := 1923) rfl ?_
    refine g_iadd C dL_law_1923 (q := 1924) rfl ?_
    refine g_scr C hX (j := i + 3) (by omega) dL_law_1924 (q := 1925) rfl ?_
    refine g_top (b := c) hs_c ?_
    refine g_cV_i C (As := [.int (iI r), .int (iI p), .int (iI c)]) (c_X5_nextOfColour l E _ r p c (σ 2) (by show MS (σ 2) (σ 14); assumption) (by omega) (by omega) (by omega) (by assumption) (by assumption) (by assumption)) ml_L_236 mf_X5_nextOfColour (o := 13) (ci := 5) rfl rfl rfl rfl ⟨(Nat.le_of_ble_eq_true rfl), (Nat.le_of_ble_eq_true rfl)⟩ rfl rfl rfl (Nat.le_of_ble_eq_true rfl) hkn dL_law_1925 (q := 1928) rfl ?_
    refine g_st (σ2 := (st (st σ 13 (pt (σ 13) 0 0)) 21 (pt (σ 21) 0 (wr (fI (coP (σ 2) r c) p ((σ 2) (240 + r))))))) (st_cm σ (o := 21) (q := 13) (pt (σ 21) 0 (wr (fI (coP (σ 2) r c) p ((σ 2) (240 + r))))) (pt (σ 13) 0 0) (by decide)) ?_
    refine g_istore C (L' := [(7, .int (iI (fI (coP (σ 2) r c) p ((σ 2) (240 + r))))), (6, .int (iI 0)), (0, .ref bS), (1, .ref (ea E 0)), (2, .ref (ea E 13)), (3, .ref (ea E 21)), (4, .ref (ea E 22)), (5, .int (iI i))]) dL_law_1928 (by decide) rfl (q := 1930) rfl ?_
    refine g_aload_n C dL_law_1930 4 rfl rfl (q := 1931) rfl ?_
    refine g_cV_i C (As := []) (c_X5_thrown l E _) ml_L_157 mf_X5_thrown (o := 13) (ci := 5) rfl rfl rfl rfl ⟨(Nat.le_of_ble_eq_true rfl), (Nat.le_of_ble_eq_true rfl)⟩ rfl rfl rfl (Nat.le_of_ble_eq_true rfl) hkn dL_law_1931 (q := 1934) rfl ?_
    refine g_top (b := 0) rfl ?_
    refine g_iload C dL_law_1934 1 rfl (q := 1936) rfl ?_
    refine g_icmp_eq C dL_law_1936 (by omega) (q2 := 1941) rfl (q := 1939) rfl (fun hb2 => ?_) (fun hb2 => ?_)
    · skip
      refine g_iload C dL_law_1941 1 rfl (q := 1943) rfl ?_
      refine g_if_ne C dL_law_1943 (by omega) (q2 := 1958) rfl (q := 1946) rfl (fun hb3 => ?_) (fun hb3 => ?_)
      · skip
        exfalso; omega
      · skip
        refine g_aload_n C dL_law_1946 5 rfl rfl (q := 1947) rfl ?_
        refine g_iconst C dL_law_1947 (q := 1948) rfl ?_
        refine gl_21 C dL_law_1948 (q := 1949) rfl ?_
        refine g_topl (b := (wr (fI (coP (σ 2) r c) p ((σ 2) (240 + r))))) (show (pt (σ 21) 0 (wr (fI (coP (σ 2) r c) p ((σ 2) (240 + r))))) 0 = (wr (fI (coP (σ 2) r c) p ((σ 2) (240 + r)))) from pt_s _ _ _) ?_
        refine g_iload C dL_law_1949 0 rfl (q := 1951) rfl ?_
        refine g_i2lw C dL_law_1951 (q := 1952) rfl ?_
        refine g_lcmpE C (by rfl) dL_law_1952 (q := 1953) rfl ?_
        refine g_if_eq C dL_law_1953 (by omega) (q2 := 1958) rfl (q := 1956) rfl (fun hb4 => ?_) (fun hb4 => ?_)
        · skip
          refine g_goto C dL_law_1958 (q := 2912) rfl ?_
          refine g_sub [2, 3, 4, 5, 6, 7] (L' := [(0, .ref bS), (1, .ref (ea E 0)), (2, .ref (ea E 13)), (3, .ref (ea E 21)), (4, .ref (ea E 22)), (5, .int (iI i))]) rfl ?_
          exact K _ (by exact hI)
        · skip
          exfalso; omega
    · skip
      exfalso; omega
  · skip
    refine g_cL C (hh := th_L_nextOfColour) (As := [.ref (ea E 0), .int (iI r), .int (iI p), .int (iI c), .ref (ea E 21)]) (c_L_nextOfColour_11 l hst E _ r p c  (by assumption) (by assumption) (by assumption) (by assumption) (by assumption)) ml_L_234 mf_L_nextOfColour rfl ⟨(Nat.le_of_ble_eq_true rfl), (Nat.le_of_ble_eq_true rfl)⟩ rfl rfl rfl (Nat.le_of_ble_eq_true rfl) hkn dL_law_1901 (q := 1904) rfl ?_
    refine g_istore C (L' := [(6, .int (iI 1)), (0, .ref bS), (1, .ref (ea E 0)), (2, .ref (ea E 13)), (3, .ref (ea E 21)), (4, .ref (ea E 22)), (5, .int (iI i))]) dL_law_1904 (by decide) rfl (q := 1906) rfl ?_
    refine g_aload_n C dL_law_1906 3 rfl rfl (q := 1907) rfl ?_
    refine g_aload_n C dL_law_1907 1 rfl rfl (q := 1908) rfl ?_
    refine g_iload C dL_law_1908 6 rfl (q := 1910) rfl ?_
    refine g_iconst C dL_law_1910 (q := 1911) rfl ?_
    refine g_iadd C dL_law_1911 (q := 1912) rfl ?_
    refine g_scr C hX (j := i + 1) (by omega) dL_law_1912 (q := 1913) rfl ?_
    refine g_top (b := r) hs_r ?_
    refine g_aload_n C dL_law_1913 1 rfl rfl (q := 1914) rfl ?_
    refine g_iload C dL_law_1914 6 rfl (q := 1916) rfl ?_
    refine g_iconst C dL_law_1916 (q := 1917) rfl ?_
    refine g_iadd C dL_law_1917 (q := 1918) rfl ?_
    refine g_scr C hX (j := i + 2) (by omega) dL_law_1918 (q := 1919) rfl ?_
    refine g_top (b := p) hs_p ?_
    refine g_aload_n C dL_law_1919 1 rfl rfl (q := 1920) rfl ?_
    refine g_iload C dL_law_1920 6 rfl (q := 1922) rfl ?_
    refine g_iconst C dL_law_1922 (q := 1923) rfl ?_
    refine g_iadd C dL_law_1923 (q := 1924) rfl ?_
    refine g_scr C hX (j := i + 3) (by omega) dL_law_1924 (q := 1925) rfl ?_
    refine g_top (b := c) hs_c ?_
    refine g_cV_i C (As := [.int (iI r), .int (iI p), .int (iI c)]) (c_X5_nextOfColour_11 l E _ r p c (σ 2) (by assumption) (by omega) (by omega) (by omega) (by assumption)) ml_L_236 mf_X5_nextOfColour (o := 13) (ci := 5) rfl rfl rfl rfl ⟨(Nat.le_of_ble_eq_true rfl), (Nat.le_of_ble_eq_true rfl)⟩ rfl rfl rfl (Nat.le_of_ble_eq_true rfl) hkn dL_law_1925 (q := 1928) rfl ?_
    refine g_istore C (L' := [(7, .int (iI 0)), (6, .int (iI 1)), (0, .ref bS), (1, .ref (ea E 0)), (2, .ref (ea E 13)), (3, .ref (ea E 21)), (4, .ref (ea E 22)), (5, .int (iI i))]) dL_law_1928 (by decide) rfl (q := 1930) rfl ?_
    refine g_aload_n C dL_law_1930 4 rfl rfl (q := 1931) rfl ?_
    refine g_cV_i C (As := []) (c_X5_thrown l E _) ml_L_157 mf_X5_thrown (o := 13) (ci := 5) rfl rfl rfl rfl ⟨(Nat.le_of_ble_eq_true rfl), (Nat.le_of_ble_eq_true rfl)⟩ rfl rfl rfl (Nat.le_of_ble_eq_true rfl) hkn dL_law_1931 (q := 1934) rfl ?_
    refine g_top (b := 1) rfl ?_
    refine g_iload C dL_law_1934 1 rfl (q := 1936) rfl ?_
    refine g_icmp_eq C dL_law_1936 (by omega) (q2 := 1941) rfl (q := 1939) rfl (fun hb5 => ?_) (fun hb5 => ?_)
    · skip
      refine g_iload C dL_law_1941 1 rfl (q := 1943) rfl ?_
      refine g_if_ne C dL_law_1943 (by omega) (q2 := 1958) rfl (q := 1946) rfl (fun hb6 => ?_) (fun hb6 => ?_)
      · skip
        refine g_goto C dL_law_1958 (q := 2912) rfl ?_
        refine g_sub [2, 3, 4, 5, 6, 7] (L' := [(0, .ref bS), (1, .ref (ea E 0)), (2, .ref (ea E 13)), (3, .ref (ea E 21)), (4, .ref (ea E 22)), (5, .int (iI i))]) rfl ?_
        exact K _ (by exact hI)
      · skip
        exfalso; omega
    · skip
      exfalso; omega
  · skip
    refine g_cL C (hh := th_L_nextOfColour) (As := [.ref (ea E 0), .int (iI r), .int (iI p), .int (iI c), .ref (ea E 21)]) (c_L_nextOfColour_22 l hst E _ r p c  (by assumption) (by assumption) (by assumption) (by assumption) (by assumption) (by assumption)) ml_L_234 mf_L_nextOfColour rfl ⟨(Nat.le_of_ble_eq_true rfl), (Nat.le_of_ble_eq_true rfl)⟩ rfl rfl rfl (Nat.le_of_ble_eq_true rfl) hkn dL_law_1901 (q := 1904) rfl ?_
    refine g_istore C (L' := [(6, .int (iI 2)), (0, .ref bS), (1, .ref (ea E 0)), (2, .ref (ea E 13)), (3, .ref (ea E 21)), (4, .ref (ea E 22)), (5, .int (iI i))]) dL_law_1904 (by decide) rfl (q := 1906) rfl ?_
    refine g_aload_n C dL_law_1906 3 rfl rfl (q := 1907) rfl ?_
    refine g_aload_n C dL_law_1907 1 rfl rfl (q := 1908) rfl ?_
    refine g_iload C dL_law_1908 6 rfl (q := 1910) rfl ?_
    refine g_iconst C dL_law_1910 (q := 1911) rfl ?_
    refine g_iadd C dL_law_1911 (q := 1912) rfl ?_
    refine g_scr C hX (j := i + 1) (by omega) dL_law_1912 (q := 1913) rfl ?_
    refine g_top (b := r) hs_r ?_
    refine g_aload_n C dL_law_1913 1 rfl rfl (q := 1914) rfl ?_
    refine g_iload C dL_law_1914 6 rfl (q := 1916) rfl ?_
    refine g_iconst C dL_law_1916 (q := 1917) rfl ?_
    refine g_iadd C dL_law_1917 (q := 1918) rfl ?_
    refine g_scr C hX (j := i + 2) (by omega) dL_law_1918 (q := 1919) rfl ?_
    refine g_top (b := p) hs_p ?_
    refine g_aload_n C dL_law_1919 1 rfl rfl (q := 1920) rfl ?_
    refine g_iload C dL_law_1920 6 rfl (q := 1922) rfl ?_
    refine g_iconst C dL_law_1922 (q := 1923) rfl ?_
    refine g_iadd C dL_law_1923 (q := 1924) rfl ?_
    refine g_scr C hX (j := i + 3) (by omega) dL_law_1924 (q := 1925) rfl ?_
    refine g_top (b := c) hs_c ?_
    refine g_cV_i C (As := [.int (iI r), .int (iI p), .int (iI c)]) (c_X5_nextOfColour_22 l E _ r p c (σ 2) (by assumption) (by omega) (by omega) (by omega) (by assumption) (by assumption)) ml_L_236 mf_X5_nextOfColour (o := 13) (ci := 5) rfl rfl rfl rfl ⟨(Nat.le_of_ble_eq_true rfl), (Nat.le_of_ble_eq_true rfl)⟩ rfl rfl rfl (Nat.le_of_ble_eq_true rfl) hkn dL_law_1925 (q := 1928) rfl ?_
    refine g_istore C (L' := [(7, .int (iI 0)), (6, .int (iI 2)), (0, .ref bS), (1, .ref (ea E 0)), (2, .ref (ea E 13)), (3, .ref (ea E 21)), (4, .ref (ea E 22)), (5, .int (iI i))]) dL_law_1928 (by decide) rfl (q := 1930) rfl ?_
    refine g_aload_n C dL_law_1930 4 rfl rfl (q := 1931) rfl ?_
    refine g_cV_i C (As := []) (c_X5_thrown l E _) ml_L_157 mf_X5_thrown (o := 13) (ci := 5) rfl rfl rfl rfl ⟨(Nat.le_of_ble_eq_true rfl), (Nat.le_of_ble_eq_true rfl)⟩ rfl rfl rfl (Nat.le_of_ble_eq_true rfl) hkn dL_law_1931 (q := 1934) rfl ?_
    refine g_top (b := 2) rfl ?_
    refine g_iload C dL_law_1934 1 rfl (q := 1936) rfl ?_
    refine g_icmp_eq C dL_law_1936 (by omega) (q2 := 1941) rfl (q := 1939) rfl (fun hb7 => ?_) (fun hb7 => ?_)
    · skip
      refine g_iload C dL_law_1941 1 rfl (q := 1943) rfl ?_
      refine g_if_ne C dL_law_1943 (by omega) (q2 := 1958) rfl (q := 1946) rfl (fun hb8 => ?_) (fun hb8 => ?_)
      · skip
        refine g_goto C dL_law_1958 (q := 2912) rfl ?_
        refine g_sub [2, 3, 4, 5, 6, 7] (L' := [(0, .ref bS), (1, .ref (ea E 0)), (2, .ref (ea E 13)), (3, .ref (ea E 21)), (4, .ref (ea E 22)), (5, .int (iI i))]) rfl ?_
        exact K _ (by exact hI)
      · skip
        exfalso; omega
    · skip
      exfalso; omega
  · skip
    refine g_cL C (hh := th_L_nextOfColour) (As := [.ref (ea E 0), .int (iI r), .int (iI p), .int (iI c), .ref (ea E 21)]) (c_L_nextOfColour_n l hst E _ r p c  (by assumption) (by assumption) (by assumption) (by assumption) (by assumption) (by assumption) (by assumption)) ml_L_234 mf_L_nextOfColour rfl ⟨(Nat.le_of_ble_eq_true rfl), (Nat.le_of_ble_eq_true rfl)⟩ rfl rfl rfl (Nat.le_of_ble_eq_true rfl) hkn dL_law_1901 (q := 1904) rfl ?_
    refine g_istore C (L' := [(6, .int (iI 3)), (0, .ref bS), (1, .ref (ea E 0)), (2, .ref (ea E 13)), (3, .ref (ea E 21)), (4, .ref (ea E 22)), (5, .int (iI i))]) dL_law_1904 (by decide) rfl (q := 1906) rfl ?_
    refine g_aload_n C dL_law_1906 3 rfl rfl (q := 1907) rfl ?_
    refine g_aload_n C dL_law_1907 1 rfl rfl (q := 1908) rfl ?_
    refine g_iload C dL_law_1908 6 rfl (q := 1910) rfl ?_
    refine g_iconst C dL_law_1910 (q := 1911) rfl ?_
    refine g_iadd C dL_law_1911 (q := 1912) rfl ?_
    refine g_scr C hX (j := i + 1) (by omega) dL_law_1912 (q := 1913) rfl ?_
    refine g_top (b := r) hs_r ?_
    refine g_aload_n C dL_law_1913 1 rfl rfl (q := 1914) rfl ?_
    refine g_iload C dL_law_1914 6 rfl (q := 1916) rfl ?_
    refine g_iconst C dL_law_1916 (q := 1917) rfl ?_
    refine g_iadd C dL_law_1917 (q := 1918) rfl ?_
    refine g_scr C hX (j := i + 2) (by omega) dL_law_1918 (q := 1919) rfl ?_
    refine g_top (b := p) hs_p ?_
    refine g_aload_n C dL_law_1919 1 rfl rfl (q := 1920) rfl ?_
    refine g_iload C dL_law_1920 6 rfl (q := 1922) rfl ?_
    refine g_iconst C dL_law_1922 (q := 1923) rfl ?_
    refine g_iadd C dL_law_1923 (q := 1924) rfl ?_
    refine g_scr C hX (j := i + 3) (by omega) dL_law_1924 (q := 1925) rfl ?_
    refine g_top (b := c) hs_c ?_
    refine g_cV_i C (As := [.int (iI r), .int (iI p), .int (iI c)]) (c_X5_nextOfColour_n l E _ r p c (σ 2) (by assumption) (by omega) (by omega) (by omega) (by assumption) (by assumption) (by assumption)) ml_L_236 mf_X5_nextOfColour (o := 13) (ci := 5) rfl rfl rfl rfl ⟨(Nat.le_of_ble_eq_true rfl), (Nat.le_of_ble_eq_true rfl)⟩ rfl rfl rfl (Nat.le_of_ble_eq_true rfl) hkn dL_law_1925 (q := 1928) rfl ?_
    refine g_istore C (L' := [(7, .int (iI 0)), (6, .int (iI 3)), (0, .ref bS), (1, .ref (ea E 0)), (2, .ref (ea E 13)), (3, .ref (ea E 21)), (4, .ref (ea E 22)), (5, .int (iI i))]) dL_law_1928 (by decide) rfl (q := 1930) rfl ?_
    refine g_aload_n C dL_law_1930 4 rfl rfl (q := 1931) rfl ?_
    refine g_cV_i C (As := []) (c_X5_thrown l E _) ml_L_157 mf_X5_thrown (o := 13) (ci := 5) rfl rfl rfl rfl ⟨(Nat.le_of_ble_eq_true rfl), (Nat.le_of_ble_eq_true rfl)⟩ rfl rfl rfl (Nat.le_of_ble_eq_true rfl) hkn dL_law_1931 (q := 1934) rfl ?_
    refine g_top (b := 3) rfl ?_
    refine g_iload C dL_law_1934 1 rfl (q := 1936) rfl ?_
    refine g_icmp_eq C dL_law_1936 (by omega) (q2 := 1941) rfl (q := 1939) rfl (fun hb9 => ?_) (fun hb9 => ?_)
    · skip
      refine g_iload C dL_law_1941 1 rfl (q := 1943) rfl ?_
      refine g_if_ne C dL_law_1943 (by omega) (q2 := 1958) rfl (q := 1946) rfl (fun hb10 => ?_) (fun hb10 => ?_)
      · skip
        refine g_goto C dL_law_1958 (q := 2912) rfl ?_
        refine g_sub [2, 3, 4, 5, 6, 7] (L' := [(0, .ref bS), (1, .ref (ea E 0)), (2, .ref (ea E 13)), (3, .ref (ea E 21)), (4, .ref (ea E 22)), (5, .int (iI i))]) rfl ?_
        exact K _ (by exact hI)
      · skip
        exfalso; omega
    · skip
      exfalso; omega
set_option maxRecDepth 100000 in
set_option maxHeartbeats 4000000 in
theorem lc_25 {p : Program} {l : Launch} {e : Env} {s : State} {m : MethodId} {args : Array Value} {below : List Frame} {meth : Method} {c : Code} {E : EV} {A : Nat → Prop} {Q : State → Prop} {σ : SS} {k n : Nat} {bS N : Nat} {xs : Nat → Int32} (hst : l.stackTraces = false) (C : CX p l e room_1 s m args below meth c RL cL_law 9 E A (some .boolean)) (hX : SX bS N xs s A) (hkn : k + 1 ≤ room_1.cells ∧ n + 6 ≤ room_1.slots) (i : Int) (hi : 0 ≤ i ∧ i + 5 ≤ N) (hI : INV σ) (K : ∀ σ2 : SS, INV σ2 → GG p l e room_1 s m args below meth c Q E A 9 σ2 (k + 1) (n + 6) 2912 [(0, .ref bS), (1, .ref (ea E 0)), (2, .ref (ea E 13)), (3, .ref (ea E 21)), (4, .ref (ea E 22)), (5, .int (iI i))] []) : GG p l e room_1 s m args below meth c Q E A 9 σ k n 1961 [(0, .ref bS), (1, .ref (ea E 0)), (2, .ref (ea E 13)), (3, .ref (ea E 21)), (4, .ref (ea E 22)), (5, .int (iI i))] [] := by
  have hM := hI.1.2
  have hP := hI.1.1
  have hW := hM.1
  have hH := hI.2.2.1.2.1
  have hK5 := hI.2.2.1.1
  have hN9 := hX.2.2.2
  have hkn0 : k ≤ room_1.cells ∧ n ≤ room_1.slots := ⟨Nat.le_of_succ_le hkn.1, Nat.le_trans (Nat.le_add_right n 6) hkn.2⟩
  obtain ⟨r, hs_r⟩ : ∃ v, scr xs (i + 1) = v := ⟨_, rfl⟩
  have hr_r := scr_rg xs (i + 1)
  rw [hs_r] at hr_r
  obtain ⟨c, hs_c⟩ : ∃ v, scr xs (i + 2) = v := ⟨_, rfl⟩
  have hr_c := scr_rg xs (i + 2)
  rw [hs_c] at hr_c
  have hq_0 := fR_c r
  have hq_1 := fC_c c
  refine g_aload_n C dL_law_1961 1 rfl rfl (q := 1962) rfl ?_
  refine g_aload_n C dL_law_1962 0 rfl rfl (q := 1963) rfl ?_
  refine g_iload C dL_law_1963 5 rfl (q := 1965) rfl ?_
  refine g_iconst C dL_law_1965 (q := 1966) rfl ?_
  refine g_iadd C dL_law_1966 (q := 1967) rfl ?_
  refine g_scr C hX (j := i + 1) (by omega) dL_law_1967 (q := 1968) rfl ?_
  refine g_top (b := r) hs_r ?_
  refine g_aload_n C dL_law_1968 0 rfl rfl (q := 1969) rfl ?_
  refine g_iload C dL_law_1969 5 rfl (q := 1971) rfl ?_
  refine g_iconst C dL_law_1971 (q := 1972) rfl ?_
  refine g_iadd C dL_law_1972 (q := 1973) rfl ?_
  refine g_scr C hX (j := i + 2) (by omega) dL_law_1973 (q := 1974) rfl ?_
  refine g_top (b := c) hs_c ?_
  refine g_aload_n C dL_law_1974 3 rfl rfl (q := 1975) rfl ?_
  rcases (show ((fR r = 0) ∧ (fC c = 0)) ∨ ((fR r = 1)) ∨ ((fR r = 0) ∧ (fC c = 2)) by omega) with ⟨hq0, hq1⟩ | hq0 | ⟨hq0, hq1⟩
  · skip
    refine g_cL C (hh := th_L_colourLength) (As := [.ref (ea E 0), .int (iI r), .int (iI c), .ref (ea E 21)]) (c_L_colourLength l hst E _ r c  (by assumption) (by assumption) (by assumption) (by assumption) (by assumption)) ml_L_237 mf_L_colourLength rfl ⟨(Nat.le_of_ble_eq_true rfl), (Nat.le_of_ble_eq_true rfl)⟩ rfl rfl rfl (Nat.le_of_ble_eq_true rfl) hkn dL_law_1975 (q := 1978) rfl ?_
    refine g_istore C (L' := [(6, .int (iI 0)), (0, .ref bS), (1, .ref (ea E 0)), (2, .ref (ea E 13)), (3, .ref (ea E 21)), (4, .ref (ea E 22)), (5, .int (iI i))]) dL_law_1978 (by decide) rfl (q := 1980) rfl ?_
    refine g_aload_n C dL_law_1980 3 rfl rfl (q := 1981) rfl ?_
    refine g_aload_n C dL_law_1981 1 rfl rfl (q := 1982) rfl ?_
    refine g_iload C dL_law_1982 6 rfl (q := 1984) rfl ?_
    refine g_iconst C dL_law_1984 (q := 1985) rfl ?_
    refine g_iadd C dL_law_1985 (q := 1986) rfl ?_
    refine g_scr C hX (j := i + 1) (by omega) dL_law_1986 (q := 1987) rfl ?_
    refine g_top (b := r) hs_r ?_
    refine g_aload_n C dL_law_1987 1 rfl rfl (q := 1988) rfl ?_
    refine g_iload C dL_law_1988 6 rfl (q := 1990) rfl ?_
    refine g_iconst C dL_law_1990 (q := 1991) rfl ?_
    refine g_iadd C dL_law_1991 (q := 1992) rfl ?_
    refine g_scr C hX (j := i + 2) (by omega) dL_law_1992 (q := 1993) rfl ?_
    refine g_top (b := c) hs_c ?_
    refine g_cV_i C (As := [.int (iI r), .int (iI c)]) (c_X5_colourLength l E _ r c (σ 2) (by show MS (σ 2) (σ 14); assumption) (by omega) (by omega) (by assumption) (by assumption)) ml_L_239 mf_X5_colourLength (o := 13) (ci := 5) rfl rfl rfl rfl ⟨(Nat.le_of_ble_eq_true rfl), (Nat.le_of_ble_eq_true rfl)⟩ rfl rfl rfl (Nat.le_of_ble_eq_true rfl) hkn dL_law_1993 (q := 1996) rfl ?_
    refine g_st (σ2 := (st (st σ 13 (pt (σ 13) 0 0)) 21 (pt (σ 21) 0 (wr (sc (σ 2) r c))))) (st_cm σ (o := 21) (q := 13) (pt (σ 21) 0 (wr (sc (σ 2) r c))) (pt (σ 13) 0 0) (by decide)) ?_
    refine g_istore C (L' := [(7, .int (iI (sc (σ 2) r c))), (6, .int (iI 0)), (0, .ref bS), (1, .ref (ea E 0)), (2, .ref (ea E 13)), (3, .ref (ea E 21)), (4, .ref (ea E 22)), (5, .int (iI i))]) dL_law_1996 (by decide) rfl (q := 1998) rfl ?_
    refine g_aload_n C dL_law_1998 4 rfl rfl (q := 1999) rfl ?_
    refine g_cV_i C (As := []) (c_X5_thrown l E _) ml_L_157 mf_X5_thrown (o := 13) (ci := 5) rfl rfl rfl rfl ⟨(Nat.le_of_ble_eq_true rfl), (Nat.le_of_ble_eq_true rfl)⟩ rfl rfl rfl (Nat.le_of_ble_eq_true rfl) hkn dL_law_1999 (q := 2002) rfl ?_
    refine g_top (b := 0) rfl ?_
    refine g_iload C dL_law_2002 1 rfl (q := 2004) rfl ?_
    refine g_icmp_eq C dL_law_2004 (by omega) (q2 := 2009) rfl (q := 2007) rfl (fun hb2 => ?_) (fun hb2 => ?_)
    · skip
      refine g_iload C dL_law_2009 1 rfl (q := 2011) rfl ?_
      refine g_if_ne C dL_law_2011 (by omega) (q2 := 2026) rfl (q := 2014) rfl (fun hb3 => ?_) (fun hb3 => ?_)
      · skip
        exfalso; omega
      · skip
        refine g_aload_n C dL_law_2014 5 rfl rfl (q := 2015) rfl ?_
        refine g_iconst C dL_law_2015 (q := 2016) rfl ?_
        refine gl_21 C dL_law_2016 (q := 2017) rfl ?_
        refine g_topl (b := (wr (sc (σ 2) r c))) (show (pt (σ 21) 0 (wr (sc (σ 2) r c))) 0 = (wr (sc (σ 2) r c)) from pt_s _ _ _) ?_
        refine g_iload C dL_law_2017 0 rfl (q := 2019) rfl ?_
        refine g_i2lw C dL_law_2019 (q := 2020) rfl ?_
        refine g_lcmpE C (by rfl) dL_law_2020 (q := 2021) rfl ?_
        refine g_if_eq C dL_law_2021 (by omega) (q2 := 2026) rfl (q := 2024) rfl (fun hb4 => ?_) (fun hb4 => ?_)
        · skip
          refine g_goto C dL_law_2026 (q := 2912) rfl ?_
          refine g_sub [2, 3, 4, 5, 6, 7] (L' := [(0, .ref bS), (1, .ref (ea E 0)), (2, .ref (ea E 13)), (3, .ref (ea E 21)), (4, .ref (ea E 22)), (5, .int (iI i))]) rfl ?_
          exact K _ (by exact hI)
        · skip
          exfalso; omega
    · skip
      exfalso; omega
  · skip
    refine g_cL C (hh := th_L_colourLength) (As := [.ref (ea E 0), .int (iI r), .int (iI c), .ref (ea E 21)]) (c_L_colourLength_11 l hst E _ r c  (by assumption) (by assumption) (by assumption) (by assumption)) ml_L_237 mf_L_colourLength rfl ⟨(Nat.le_of_ble_eq_true rfl), (Nat.le_of_ble_eq_true rfl)⟩ rfl rfl rfl (Nat.le_of_ble_eq_true rfl) hkn dL_law_1975 (q := 1978) rfl ?_
    refine g_istore C (L' := [(6, .int (iI 1)), (0, .ref bS), (1, .ref (ea E 0)), (2, .ref (ea E 13)), (3, .ref (ea E 21)), (4, .ref (ea E 22)), (5, .int (iI i))]) dL_law_1978 (by decide) rfl (q := 1980) rfl ?_
    refine g_aload_n C dL_law_1980 3 rfl rfl (q := 1981) rfl ?_
    refine g_aload_n C dL_law_1981 1 rfl rfl (q := 1982) rfl ?_
    refine g_iload C dL_law_1982 6 rfl (q := 1984) rfl ?_
    refine g_iconst C dL_law_1984 (q := 1985) rfl ?_
    refine g_iadd C dL_law_1985 (q := 1986) rfl ?_
    refine g_scr C hX (j := i + 1) (by omega) dL_law_1986 (q := 1987) rfl ?_
    refine g_top (b := r) hs_r ?_
    refine g_aload_n C dL_law_1987 1 rfl rfl (q := 1988) rfl ?_
    refine g_iload C dL_law_1988 6 rfl (q := 1990) rfl ?_
    refine g_iconst C dL_law_1990 (q := 1991) rfl ?_
    refine g_iadd C dL_law_1991 (q := 1992) rfl ?_
    refine g_scr C hX (j := i + 2) (by omega) dL_law_1992 (q := 1993) rfl ?_
    refine g_top (b := c) hs_c ?_
    refine g_cV_i C (As := [.int (iI r), .int (iI c)]) (c_X5_colourLength_11 l E _ r c (σ 2) (by assumption) (by omega) (by omega) (by assumption)) ml_L_239 mf_X5_colourLength (o := 13) (ci := 5) rfl rfl rfl rfl ⟨(Nat.le_of_ble_eq_true rfl), (Nat.le_of_ble_eq_true rfl)⟩ rfl rfl rfl (Nat.le_of_ble_eq_true rfl) hkn dL_law_1993 (q := 1996) rfl ?_
    refine g_istore C (L' := [(7, .int (iI 0)), (6, .int (iI 1)), (0, .ref bS), (1, .ref (ea E 0)), (2, .ref (ea E 13)), (3, .ref (ea E 21)), (4, .ref (ea E 22)), (5, .int (iI i))]) dL_law_1996 (by decide) rfl (q := 1998) rfl ?_
    refine g_aload_n C dL_law_1998 4 rfl rfl (q := 1999) rfl ?_
    refine g_cV_i C (As := []) (c_X5_thrown l E _) ml_L_157 mf_X5_thrown (o := 13) (ci := 5) rfl rfl rfl rfl ⟨(Nat.le_of_ble_eq_true rfl), (Nat.le_of_ble_eq_true rfl)⟩ rfl rfl rfl (Nat.le_of_ble_eq_true rfl) hkn dL_law_1999 (q := 2002) rfl ?_
    refine g_top (b := 1) rfl ?_
    refine g_iload C dL_law_2002 1 rfl (q := 2004) rfl ?_
    refine g_icmp_eq C dL_law_2004 (by omega) (q2 := 2009) rfl (q := 2007) rfl (fun hb5 => ?_) (fun hb5 => ?_)
    · skip
      refine g_iload C dL_law_2009 1 rfl (q := 2011) rfl ?_
      refine g_if_ne C dL_law_2011 (by omega) (q2 := 2026) rfl (q := 2014) rfl (fun hb6 => ?_) (fun hb6 => ?_)
      · skip
        refine g_goto C dL_law_2026 (q := 2912) rfl ?_
        refine g_sub [2, 3, 4, 5, 6, 7] (L' := [(0, .ref bS), (1, .ref (ea E 0)), (2, .ref (ea E 13)), (3, .ref (ea E 21)), (4, .ref (ea E 22)), (5, .int (iI i))]) rfl ?_
        exact K _ (by exact hI)
      · skip
        exfalso; omega
    · skip
      exfalso; omega
  · skip
    refine g_cL C (hh := th_L_colourLength) (As := [.ref (ea E 0), .int (iI r), .int (iI c), .ref (ea E 21)]) (c_L_colourLength_22 l hst E _ r c  (by assumption) (by assumption) (by assumption) (by assumption) (by assumption)) ml_L_237 mf_L_colourLength rfl ⟨(Nat.le_of_ble_eq_true rfl), (Nat.le_of_ble_eq_true rfl)⟩ rfl rfl rfl (Nat.le_of_ble_eq_true rfl) hkn dL_law_1975 (q := 1978) rfl ?_
    refine g_istore C (L' := [(6, .int (iI 2)), (0, .ref bS), (1, .ref (ea E 0)), (2, .ref (ea E 13)), (3, .ref (ea E 21)), (4, .ref (ea E 22)), (5, .int (iI i))]) dL_law_1978 (by decide) rfl (q := 1980) rfl ?_
    refine g_aload_n C dL_law_1980 3 rfl rfl (q := 1981) rfl ?_
    refine g_aload_n C dL_law_1981 1 rfl rfl (q := 1982) rfl ?_
    refine g_iload C dL_law_1982 6 rfl (q := 1984) rfl ?_
    refine g_iconst C dL_law_1984 (q := 1985) rfl ?_
    refine g_iadd C dL_law_1985 (q := 1986) rfl ?_
    refine g_scr C hX (j := i + 1) (by omega) dL_law_1986 (q := 1987) rfl ?_
    refine g_top (b := r) hs_r ?_
    refine g_aload_n C dL_law_1987 1 rfl rfl (q := 1988) rfl ?_
    refine g_iload C dL_law_1988 6 rfl (q := 1990) rfl ?_
    refine g_iconst C dL_law_1990 (q := 1991) rfl ?_
    refine g_iadd C dL_law_1991 (q := 1992) rfl ?_
    refine g_scr C hX (j := i + 2) (by omega) dL_law_1992 (q := 1993) rfl ?_
    refine g_top (b := c) hs_c ?_
    refine g_cV_i C (As := [.int (iI r), .int (iI c)]) (c_X5_colourLength_22 l E _ r c (σ 2) (by assumption) (by omega) (by omega) (by assumption) (by assumption)) ml_L_239 mf_X5_colourLength (o := 13) (ci := 5) rfl rfl rfl rfl ⟨(Nat.le_of_ble_eq_true rfl), (Nat.le_of_ble_eq_true rfl)⟩ rfl rfl rfl (Nat.le_of_ble_eq_true rfl) hkn dL_law_1993 (q := 1996) rfl ?_
    refine g_istore C (L' := [(7, .int (iI 0)), (6, .int (iI 2)), (0, .ref bS), (1, .ref (ea E 0)), (2, .ref (ea E 13)), (3, .ref (ea E 21)), (4, .ref (ea E 22)), (5, .int (iI i))]) dL_law_1996 (by decide) rfl (q := 1998) rfl ?_
    refine g_aload_n C dL_law_1998 4 rfl rfl (q := 1999) rfl ?_
    refine g_cV_i C (As := []) (c_X5_thrown l E _) ml_L_157 mf_X5_thrown (o := 13) (ci := 5) rfl rfl rfl rfl ⟨(Nat.le_of_ble_eq_true rfl), (Nat.le_of_ble_eq_true rfl)⟩ rfl rfl rfl (Nat.le_of_ble_eq_true rfl) hkn dL_law_1999 (q := 2002) rfl ?_
    refine g_top (b := 2) rfl ?_
    refine g_iload C dL_law_2002 1 rfl (q := 2004) rfl ?_
    refine g_icmp_eq C dL_law_2004 (by omega) (q2 := 2009) rfl (q := 2007) rfl (fun hb7 => ?_) (fun hb7 => ?_)
    · skip
      refine g_iload C dL_law_2009 1 rfl (q := 2011) rfl ?_
      refine g_if_ne C dL_law_2011 (by omega) (q2 := 2026) rfl (q := 2014) rfl (fun hb8 => ?_) (fun hb8 => ?_)
      · skip
        refine g_goto C dL_law_2026 (q := 2912) rfl ?_
        refine g_sub [2, 3, 4, 5, 6, 7] (L' := [(0, .ref bS), (1, .ref (ea E 0)), (2, .ref (ea E 13)), (3, .ref (ea E 21)), (4, .ref (ea E 22)), (5, .int (iI i))]) rfl ?_
        exact K _ (by exact hI)
      · skip
        exfalso; omega
    · skip
      exfalso; omega
set_option maxRecDepth 100000 in
set_option maxHeartbeats 4000000 in
theorem lc_26 {p : Program} {l : Launch} {e : Env} {s : State} {m : MethodId} {args : Array Value} {below : List Frame} {meth : Method} {c : Code} {E : EV} {A : Nat → Prop} {Q : State → Prop} {σ : SS} {k n : Nat} {bS N : Nat} {xs : Nat → Int32} (hst : l.stackTraces = false) (C : CX p l e room_1 s m args below meth c RL cL_law 9 E A (some .boolean)) (hX : SX bS N xs s A) (hkn : k + 1 ≤ room_1.cells ∧ n + 6 ≤ room_1.slots) (i : Int) (hi : 0 ≤ i ∧ i + 5 ≤ N) (hI : INV σ) (K : ∀ σ2 : SS, INV σ2 → GG p l e room_1 s m args below meth c Q E A 9 σ2 (k + 1) (n + 6) 2912 [(0, .ref bS), (1, .ref (ea E 0)), (2, .ref (ea E 13)), (3, .ref (ea E 21)), (4, .ref (ea E 22)), (5, .int (iI i))] []) : GG p l e room_1 s m args below meth c Q E A 9 σ k n 2029 [(0, .ref bS), (1, .ref (ea E 0)), (2, .ref (ea E 13)), (3, .ref (ea E 21)), (4, .ref (ea E 22)), (5, .int (iI i))] [] := by
  have hM := hI.1.2
  have hP := hI.1.1
  have hW := hM.1
  have hH := hI.2.2.1.2.1
  have hK5 := hI.2.2.1.1
  have hN9 := hX.2.2.2
  have hkn0 : k ≤ room_1.cells ∧ n ≤ room_1.slots := ⟨Nat.le_of_succ_le hkn.1, Nat.le_trans (Nat.le_add_right n 6) hkn.2⟩
  obtain ⟨r, hs_r⟩ : ∃ v, scr xs (i + 1) = v := ⟨_, rfl⟩
  have hr_r := scr_rg xs (i + 1)
  rw [hs_r] at hr_r
  obtain ⟨p, hs_p⟩ : ∃ v, scr xs (i + 2) = v := ⟨_, rfl⟩
  have hr_p := scr_rg xs (i + 2)
  rw [hs_p] at hr_p
  have hq_0 := fR_c r
  refine g_aload_n C dL_law_2029 1 rfl rfl (q := 2030) rfl ?_
  refine g_aload_n C dL_law_2030 0 rfl rfl (q := 2031) rfl ?_
  refine g_iload C dL_law_2031 5 rfl (q := 2033) rfl ?_
  refine g_iconst C dL_law_2033 (q := 2034) rfl ?_
  refine g_iadd C dL_law_2034 (q := 2035) rfl ?_
  refine g_scr C hX (j := i + 1) (by omega) dL_law_2035 (q := 2036) rfl ?_
  refine g_top (b := r) hs_r ?_
  refine g_aload_n C dL_law_2036 0 rfl rfl (q := 2037) rfl ?_
  refine g_iload C dL_law_2037 5 rfl (q := 2039) rfl ?_
  refine g_iconst C dL_law_2039 (q := 2040) rfl ?_
  refine g_iadd C dL_law_2040 (q := 2041) rfl ?_
  refine g_scr C hX (j := i + 2) (by omega) dL_law_2041 (q := 2042) rfl ?_
  refine g_top (b := p) hs_p ?_
  refine g_aload_n C dL_law_2042 3 rfl rfl (q := 2043) rfl ?_
  rcases (show ((fR r = 0) ∧ (fI (rcP (σ 2) r p) 0 8 ≠ -1)) ∨ ((fR r = 1)) ∨ ((fR r = 0) ∧ (fI (rcP (σ 2) r p) 0 8 = -1)) by omega) with ⟨hq0, hq1⟩ | hq0 | ⟨hq0, hq1⟩
  · skip
    refine g_cL C (hh := th_L_colourAtRank) (As := [.ref (ea E 0), .int (iI r), .int (iI p), .ref (ea E 21)]) (c_L_colourAtRank l hst E _ r p  (by assumption) (by assumption) (by assumption) (by assumption) (by assumption)) ml_L_240 mf_L_colourAtRank rfl ⟨(Nat.le_of_ble_eq_true rfl), (Nat.le_of_ble_eq_true rfl)⟩ rfl rfl rfl (Nat.le_of_ble_eq_true rfl) hkn dL_law_2043 (q := 2046) rfl ?_
    refine g_istore C (L' := [(6, .int (iI 0)), (0, .ref bS), (1, .ref (ea E 0)), (2, .ref (ea E 13)), (3, .ref (ea E 21)), (4, .ref (ea E 22)), (5, .int (iI i))]) dL_law_2046 (by decide) rfl (q := 2048) rfl ?_
    refine g_aload_n C dL_law_2048 3 rfl rfl (q := 2049) rfl ?_
    refine g_aload_n C dL_law_2049 1 rfl rfl (q := 2050) rfl ?_
    refine g_iload C dL_law_2050 6 rfl (q := 2052) rfl ?_
    refine g_iconst C dL_law_2052 (q := 2053) rfl ?_
    refine g_iadd C dL_law_2053 (q := 2054) rfl ?_
    refine g_scr C hX (j := i + 1) (by omega) dL_law_2054 (q := 2055) rfl ?_
    refine g_top (b := r) hs_r ?_
    refine g_aload_n C dL_law_2055 1 rfl rfl (q := 2056) rfl ?_
    refine g_iload C dL_law_2056 6 rfl (q := 2058) rfl ?_
    refine g_iconst C dL_law_2058 (q := 2059) rfl ?_
    refine g_iadd C dL_law_2059 (q := 2060) rfl ?_
    refine g_scr C hX (j := i + 2) (by omega) dL_law_2060 (q := 2061) rfl ?_
    refine g_top (b := p) hs_p ?_
    refine g_cV_i C (As := [.int (iI r), .int (iI p)]) (c_X5_colourAtRank l E _ r p (σ 2) (by show MS (σ 2) (σ 14); assumption) (by omega) (by omega) (by assumption) (by assumption)) ml_L_242 mf_X5_colourAtRank (o := 13) (ci := 5) rfl rfl rfl rfl ⟨(Nat.le_of_ble_eq_true rfl), (Nat.le_of_ble_eq_true rfl)⟩ rfl rfl rfl (Nat.le_of_ble_eq_true rfl) hkn dL_law_2061 (q := 2064) rfl ?_
    refine g_st (σ2 := (st (st σ 13 (pt (σ 13) 0 0)) 21 (pt (σ 21) 0 (wr (fI (rcP (σ 2) r p) 0 8))))) (st_cm σ (o := 21) (q := 13) (pt (σ 21) 0 (wr (fI (rcP (σ 2) r p) 0 8))) (pt (σ 13) 0 0) (by decide)) ?_
    refine g_istore C (L' := [(7, .int (iI (fI (rcP (σ 2) r p) 0 8))), (6, .int (iI 0)), (0, .ref bS), (1, .ref (ea E 0)), (2, .ref (ea E 13)), (3, .ref (ea E 21)), (4, .ref (ea E 22)), (5, .int (iI i))]) dL_law_2064 (by decide) rfl (q := 2066) rfl ?_
    refine g_aload_n C dL_law_2066 4 rfl rfl (q := 2067) rfl ?_
    refine g_cV_i C (As := []) (c_X5_thrown l E _) ml_L_157 mf_X5_thrown (o := 13) (ci := 5) rfl rfl rfl rfl ⟨(Nat.le_of_ble_eq_true rfl), (Nat.le_of_ble_eq_true rfl)⟩ rfl rfl rfl (Nat.le_of_ble_eq_true rfl) hkn dL_law_2067 (q := 2070) rfl ?_
    refine g_top (b := 0) rfl ?_
    refine g_iload C dL_law_2070 1 rfl (q := 2072) rfl ?_
    refine g_icmp_eq C dL_law_2072 (by omega) (q2 := 2077) rfl (q := 2075) rfl (fun hb2 => ?_) (fun hb2 => ?_)
    · skip
      refine g_iload C dL_law_2077 1 rfl (q := 2079) rfl ?_
      refine g_if_ne C dL_law_2079 (by omega) (q2 := 2094) rfl (q := 2082) rfl (fun hb3 => ?_) (fun hb3 => ?_)
      · skip
        exfalso; omega
      · skip
        refine g_aload_n C dL_law_2082 5 rfl rfl (q := 2083) rfl ?_
        refine g_iconst C dL_law_2083 (q := 2084) rfl ?_
        refine gl_21 C dL_law_2084 (q := 2085) rfl ?_
        refine g_topl (b := (wr (fI (rcP (σ 2) r p) 0 8))) (show (pt (σ 21) 0 (wr (fI (rcP (σ 2) r p) 0 8))) 0 = (wr (fI (rcP (σ 2) r p) 0 8)) from pt_s _ _ _) ?_
        refine g_iload C dL_law_2085 0 rfl (q := 2087) rfl ?_
        refine g_i2lw C dL_law_2087 (q := 2088) rfl ?_
        refine g_lcmpE C (by rfl) dL_law_2088 (q := 2089) rfl ?_
        refine g_if_eq C dL_law_2089 (by omega) (q2 := 2094) rfl (q := 2092) rfl (fun hb4 => ?_) (fun hb4 => ?_)
        · skip
          refine g_goto C dL_law_2094 (q := 2912) rfl ?_
          refine g_sub [2, 3, 4, 5, 6, 7] (L' := [(0, .ref bS), (1, .ref (ea E 0)), (2, .ref (ea E 13)), (3, .ref (ea E 21)), (4, .ref (ea E 22)), (5, .int (iI i))]) rfl ?_
          exact K _ (by exact hI)
        · skip
          exfalso; omega
    · skip
      exfalso; omega
  · skip
    refine g_cL C (hh := th_L_colourAtRank) (As := [.ref (ea E 0), .int (iI r), .int (iI p), .ref (ea E 21)]) (c_L_colourAtRank_11 l hst E _ r p  (by assumption) (by assumption) (by assumption) (by assumption)) ml_L_240 mf_L_colourAtRank rfl ⟨(Nat.le_of_ble_eq_true rfl), (Nat.le_of_ble_eq_true rfl)⟩ rfl rfl rfl (Nat.le_of_ble_eq_true rfl) hkn dL_law_2043 (q := 2046) rfl ?_
    refine g_istore C (L' := [(6, .int (iI 1)), (0, .ref bS), (1, .ref (ea E 0)), (2, .ref (ea E 13)), (3, .ref (ea E 21)), (4, .ref (ea E 22)), (5, .int (iI i))]) dL_law_2046 (by decide) rfl (q := 2048) rfl ?_
    refine g_aload_n C dL_law_2048 3 rfl rfl (q := 2049) rfl ?_
    refine g_aload_n C dL_law_2049 1 rfl rfl (q := 2050) rfl ?_
    refine g_iload C dL_law_2050 6 rfl (q := 2052) rfl ?_
    refine g_iconst C dL_law_2052 (q := 2053) rfl ?_
    refine g_iadd C dL_law_2053 (q := 2054) rfl ?_
    refine g_scr C hX (j := i + 1) (by omega) dL_law_2054 (q := 2055) rfl ?_
    refine g_top (b := r) hs_r ?_
    refine g_aload_n C dL_law_2055 1 rfl rfl (q := 2056) rfl ?_
    refine g_iload C dL_law_2056 6 rfl (q := 2058) rfl ?_
    refine g_iconst C dL_law_2058 (q := 2059) rfl ?_
    refine g_iadd C dL_law_2059 (q := 2060) rfl ?_
    refine g_scr C hX (j := i + 2) (by omega) dL_law_2060 (q := 2061) rfl ?_
    refine g_top (b := p) hs_p ?_
    refine g_cV_i C (As := [.int (iI r), .int (iI p)]) (c_X5_colourAtRank_11 l E _ r p (σ 2) (by assumption) (by omega) (by omega) (by assumption)) ml_L_242 mf_X5_colourAtRank (o := 13) (ci := 5) rfl rfl rfl rfl ⟨(Nat.le_of_ble_eq_true rfl), (Nat.le_of_ble_eq_true rfl)⟩ rfl rfl rfl (Nat.le_of_ble_eq_true rfl) hkn dL_law_2061 (q := 2064) rfl ?_
    refine g_istore C (L' := [(7, .int (iI 0)), (6, .int (iI 1)), (0, .ref bS), (1, .ref (ea E 0)), (2, .ref (ea E 13)), (3, .ref (ea E 21)), (4, .ref (ea E 22)), (5, .int (iI i))]) dL_law_2064 (by decide) rfl (q := 2066) rfl ?_
    refine g_aload_n C dL_law_2066 4 rfl rfl (q := 2067) rfl ?_
    refine g_cV_i C (As := []) (c_X5_thrown l E _) ml_L_157 mf_X5_thrown (o := 13) (ci := 5) rfl rfl rfl rfl ⟨(Nat.le_of_ble_eq_true rfl), (Nat.le_of_ble_eq_true rfl)⟩ rfl rfl rfl (Nat.le_of_ble_eq_true rfl) hkn dL_law_2067 (q := 2070) rfl ?_
    refine g_top (b := 1) rfl ?_
    refine g_iload C dL_law_2070 1 rfl (q := 2072) rfl ?_
    refine g_icmp_eq C dL_law_2072 (by omega) (q2 := 2077) rfl (q := 2075) rfl (fun hb5 => ?_) (fun hb5 => ?_)
    · skip
      refine g_iload C dL_law_2077 1 rfl (q := 2079) rfl ?_
      refine g_if_ne C dL_law_2079 (by omega) (q2 := 2094) rfl (q := 2082) rfl (fun hb6 => ?_) (fun hb6 => ?_)
      · skip
        refine g_goto C dL_law_2094 (q := 2912) rfl ?_
        refine g_sub [2, 3, 4, 5, 6, 7] (L' := [(0, .ref bS), (1, .ref (ea E 0)), (2, .ref (ea E 13)), (3, .ref (ea E 21)), (4, .ref (ea E 22)), (5, .int (iI i))]) rfl ?_
        exact K _ (by exact hI)
      · skip
        exfalso; omega
    · skip
      exfalso; omega
  · skip
    refine g_cL C (hh := th_L_colourAtRank) (As := [.ref (ea E 0), .int (iI r), .int (iI p), .ref (ea E 21)]) (c_L_colourAtRank_n l hst E _ r p  (by assumption) (by assumption) (by assumption) (by assumption) (by assumption)) ml_L_240 mf_L_colourAtRank rfl ⟨(Nat.le_of_ble_eq_true rfl), (Nat.le_of_ble_eq_true rfl)⟩ rfl rfl rfl (Nat.le_of_ble_eq_true rfl) hkn dL_law_2043 (q := 2046) rfl ?_
    refine g_istore C (L' := [(6, .int (iI 2)), (0, .ref bS), (1, .ref (ea E 0)), (2, .ref (ea E 13)), (3, .ref (ea E 21)), (4, .ref (ea E 22)), (5, .int (iI i))]) dL_law_2046 (by decide) rfl (q := 2048) rfl ?_
    refine g_aload_n C dL_law_2048 3 rfl rfl (q := 2049) rfl ?_
    refine g_aload_n C dL_law_2049 1 rfl rfl (q := 2050) rfl ?_
    refine g_iload C dL_law_2050 6 rfl (q := 2052) rfl ?_
    refine g_iconst C dL_law_2052 (q := 2053) rfl ?_
    refine g_iadd C dL_law_2053 (q := 2054) rfl ?_
    refine g_scr C hX (j := i + 1) (by omega) dL_law_2054 (q := 2055) rfl ?_
    refine g_top (b := r) hs_r ?_
    refine g_aload_n C dL_law_2055 1 rfl rfl (q := 2056) rfl ?_
    refine g_iload C dL_law_2056 6 rfl (q := 2058) rfl ?_
    refine g_iconst C dL_law_2058 (q := 2059) rfl ?_
    refine g_iadd C dL_law_2059 (q := 2060) rfl ?_
    refine g_scr C hX (j := i + 2) (by omega) dL_law_2060 (q := 2061) rfl ?_
    refine g_top (b := p) hs_p ?_
    refine g_cV_i C (As := [.int (iI r), .int (iI p)]) (c_X5_colourAtRank_n l E _ r p (σ 2) (by assumption) (by omega) (by omega) (by assumption) (by assumption)) ml_L_242 mf_X5_colourAtRank (o := 13) (ci := 5) rfl rfl rfl rfl ⟨(Nat.le_of_ble_eq_true rfl), (Nat.le_of_ble_eq_true rfl)⟩ rfl rfl rfl (Nat.le_of_ble_eq_true rfl) hkn dL_law_2061 (q := 2064) rfl ?_
    refine g_istore C (L' := [(7, .int (iI 0)), (6, .int (iI 2)), (0, .ref bS), (1, .ref (ea E 0)), (2, .ref (ea E 13)), (3, .ref (ea E 21)), (4, .ref (ea E 22)), (5, .int (iI i))]) dL_law_2064 (by decide) rfl (q := 2066) rfl ?_
    refine g_aload_n C dL_law_2066 4 rfl rfl (q := 2067) rfl ?_
    refine g_cV_i C (As := []) (c_X5_thrown l E _) ml_L_157 mf_X5_thrown (o := 13) (ci := 5) rfl rfl rfl rfl ⟨(Nat.le_of_ble_eq_true rfl), (Nat.le_of_ble_eq_true rfl)⟩ rfl rfl rfl (Nat.le_of_ble_eq_true rfl) hkn dL_law_2067 (q := 2070) rfl ?_
    refine g_top (b := 2) rfl ?_
    refine g_iload C dL_law_2070 1 rfl (q := 2072) rfl ?_
    refine g_icmp_eq C dL_law_2072 (by omega) (q2 := 2077) rfl (q := 2075) rfl (fun hb7 => ?_) (fun hb7 => ?_)
    · skip
      refine g_iload C dL_law_2077 1 rfl (q := 2079) rfl ?_
      refine g_if_ne C dL_law_2079 (by omega) (q2 := 2094) rfl (q := 2082) rfl (fun hb8 => ?_) (fun hb8 => ?_)
      · skip
        refine g_goto C dL_law_2094 (q := 2912) rfl ?_
        refine g_sub [2, 3, 4, 5, 6, 7] (L' := [(0, .ref bS), (1, .ref (ea E 0)), (2, .ref (ea E 13)), (3, .ref (ea E 21)), (4, .ref (ea E 22)), (5, .int (iI i))]) rfl ?_
        exact K _ (by exact hI)
      · skip
        exfalso; omega
    · skip
      exfalso; omega
set_option maxRecDepth 100000 in
set_option maxHeartbeats 4000000 in
theorem lc_27 {p : Program} {l : Launch} {e : Env} {s : State} {m : MethodId} {args : Array Value} {below : List Frame} {meth : Method} {c : Code} {E : EV} {A : Nat → Prop} {Q : State → Prop} {σ : SS} {k n : Nat} {bS N : Nat} {xs : Nat → Int32} (hst : l.stackTraces = false) (C : CX p l e room_1 s m args below meth c RL cL_law 9 E A (some .boolean)) (hX : SX bS N xs s A) (hkn : k + 1 ≤ room_1.cells ∧ n + 6 ≤ room_1.slots) (i : Int) (hi : 0 ≤ i ∧ i + 5 ≤ N) (hI : INV σ) (K : ∀ σ2 : SS, INV σ2 → GG p l e room_1 s m args below meth c Q E A 9 σ2 (k + 1) (n + 6) 2912 [(0, .ref bS), (1, .ref (ea E 0)), (2, .ref (ea E 13)), (3, .ref (ea E 21)), (4, .ref (ea E 22)), (5, .int (iI i))] []) : GG p l e room_1 s m args below meth c Q E A 9 σ k n 2097 [(0, .ref bS), (1, .ref (ea E 0)), (2, .ref (ea E 13)), (3, .ref (ea E 21)), (4, .ref (ea E 22)), (5, .int (iI i))] [] := by
  have hM := hI.1.2
  have hP := hI.1.1
  have hW := hM.1
  have hH := hI.2.2.1.2.1
  have hK5 := hI.2.2.1.1
  have hN9 := hX.2.2.2
  have hkn0 : k ≤ room_1.cells ∧ n ≤ room_1.slots := ⟨Nat.le_of_succ_le hkn.1, Nat.le_trans (Nat.le_add_right n 6) hkn.2⟩
  obtain ⟨r, hs_r⟩ : ∃ v, scr xs (i + 1) = v := ⟨_, rfl⟩
  have hr_r := scr_rg xs (i + 1)
  rw [hs_r] at hr_r
  have hq_0 := fR_c r
  have hb9 := bk_01 (σ 2) r
  refine g_aload_n C dL_law_2097 1 rfl rfl (q := 2098) rfl ?_
  refine g_aload_n C dL_law_2098 0 rfl rfl (q := 2099) rfl ?_
  refine g_iload C dL_law_2099 5 rfl (q := 2101) rfl ?_
  refine g_iconst C dL_law_2101 (q := 2102) rfl ?_
  refine g_iadd C dL_law_2102 (q := 2103) rfl ?_
  refine g_scr C hX (j := i + 1) (by omega) dL_law_2103 (q := 2104) rfl ?_
  refine g_top (b := r) hs_r ?_
  refine g_aload_n C dL_law_2104 3 rfl rfl (q := 2105) rfl ?_
  rcases (show ((fR r = 0)) ∨ ((fR r = 1)) by omega) with hq0 | hq0
  · skip
    refine g_cL C (hh := th_L_isSymmetric) (As := [.ref (ea E 0), .int (iI r), .ref (ea E 21)]) (c_L_isSymmetric l hst E _ r  (by assumption) (by assumption) (by assumption)) ml_L_243 mf_L_isSymmetric rfl ⟨(Nat.le_of_ble_eq_true rfl), (Nat.le_of_ble_eq_true rfl)⟩ rfl rfl rfl (Nat.le_of_ble_eq_true rfl) hkn dL_law_2105 (q := 2108) rfl ?_
    refine g_istore C (L' := [(6, .int (iI 0)), (0, .ref bS), (1, .ref (ea E 0)), (2, .ref (ea E 13)), (3, .ref (ea E 21)), (4, .ref (ea E 22)), (5, .int (iI i))]) dL_law_2108 (by decide) rfl (q := 2110) rfl ?_
    refine g_aload_n C dL_law_2110 3 rfl rfl (q := 2111) rfl ?_
    refine g_aload_n C dL_law_2111 1 rfl rfl (q := 2112) rfl ?_
    refine g_iload C dL_law_2112 6 rfl (q := 2114) rfl ?_
    refine g_iconst C dL_law_2114 (q := 2115) rfl ?_
    refine g_iadd C dL_law_2115 (q := 2116) rfl ?_
    refine g_scr C hX (j := i + 1) (by omega) dL_law_2116 (q := 2117) rfl ?_
    refine g_top (b := r) hs_r ?_
    refine g_cV_i C (As := [.int (iI r)]) (c_X5_isSymmetric l E _ r (σ 2) (by show MS (σ 2) (σ 14); assumption) (by omega) (by assumption)) ml_L_245 mf_X5_isSymmetric (o := 13) (ci := 5) rfl rfl rfl rfl ⟨(Nat.le_of_ble_eq_true rfl), (Nat.le_of_ble_eq_true rfl)⟩ rfl rfl rfl (Nat.le_of_ble_eq_true rfl) hkn dL_law_2117 (q := 2120) rfl ?_
    refine g_st (σ2 := (st (st σ 13 (pt (σ 13) 0 0)) 21 (pt (σ 21) 0 (bk (σ 2) r)))) (st_cm σ (o := 21) (q := 13) (pt (σ 21) 0 (bk (σ 2) r)) (pt (σ 13) 0 0) (by decide)) ?_
    refine g_istore C (L' := [(7, .int (iI (bk (σ 2) r))), (6, .int (iI 0)), (0, .ref bS), (1, .ref (ea E 0)), (2, .ref (ea E 13)), (3, .ref (ea E 21)), (4, .ref (ea E 22)), (5, .int (iI i))]) dL_law_2120 (by decide) rfl (q := 2122) rfl ?_
    refine g_aload_n C dL_law_2122 4 rfl rfl (q := 2123) rfl ?_
    refine g_cV_i C (As := []) (c_X5_thrown l E _) ml_L_157 mf_X5_thrown (o := 13) (ci := 5) rfl rfl rfl rfl ⟨(Nat.le_of_ble_eq_true rfl), (Nat.le_of_ble_eq_true rfl)⟩ rfl rfl rfl (Nat.le_of_ble_eq_true rfl) hkn dL_law_2123 (q := 2126) rfl ?_
    refine g_top (b := 0) rfl ?_
    refine g_iload C dL_law_2126 1 rfl (q := 2128) rfl ?_
    refine g_icmp_eq C dL_law_2128 (by omega) (q2 := 2133) rfl (q := 2131) rfl (fun hb2 => ?_) (fun hb2 => ?_)
    · skip
      refine g_iload C dL_law_2133 1 rfl (q := 2135) rfl ?_
      refine g_if_ne C dL_law_2135 (by omega) (q2 := 2157) rfl (q := 2138) rfl (fun hb3 => ?_) (fun hb3 => ?_)
      · skip
        exfalso; omega
      · skip
        refine g_aload_n C dL_law_2138 5 rfl rfl (q := 2139) rfl ?_
        refine g_iconst C dL_law_2139 (q := 2140) rfl ?_
        refine gl_21 C dL_law_2140 (q := 2141) rfl ?_
        refine g_topl (b := (bk (σ 2) r)) (show (pt (σ 21) 0 (bk (σ 2) r)) 0 = (bk (σ 2) r) from pt_s _ _ _) ?_
        refine g_iload C dL_law_2141 0 rfl (q := 2143) rfl ?_
        refine g_if_eq C dL_law_2143 (by omega) (q2 := 2150) rfl (q := 2146) rfl (fun hb4 => ?_) (fun hb4 => ?_)
        · skip
          refine g_lconst C (y := 0) dL_law_2150 (by decide) (q := 2151) rfl ?_
          refine g_lcmpE C (by omega) dL_law_2151 (q := 2152) rfl ?_
          refine g_if_eq C dL_law_2152 (by omega) (q2 := 2157) rfl (q := 2155) rfl (fun hb5 => ?_) (fun hb5 => ?_)
          · skip
            refine g_goto C dL_law_2157 (q := 2912) rfl ?_
            refine g_sub [2, 3, 4, 5, 6, 7] (L' := [(0, .ref bS), (1, .ref (ea E 0)), (2, .ref (ea E 13)), (3, .ref (ea E 21)), (4, .ref (ea E 22)), (5, .int (iI i))]) rfl ?_
            exact K _ (by exact hI)
          · skip
            exfalso; omega
        · skip
          refine g_lconst C (y := 1) dL_law_2146 (by decide) (q := 2147) rfl ?_
          refine g_goto C dL_law_2147 (q := 2151) rfl ?_
          refine g_lcmpE C (by omega) dL_law_2151 (q := 2152) rfl ?_
          refine g_if_eq C dL_law_2152 (by omega) (q2 := 2157) rfl (q := 2155) rfl (fun hb6 => ?_) (fun hb6 => ?_)
          · skip
            refine g_goto C dL_law_2157 (q := 2912) rfl ?_
            refine g_sub [2, 3, 4, 5, 6, 7] (L' := [(0, .ref bS), (1, .ref (ea E 0)), (2, .ref (ea E 13)), (3, .ref (ea E 21)), (4, .ref (ea E 22)), (5, .int (iI i))]) rfl ?_
            exact K _ (by exact hI)
          · skip
            exfalso; omega
    · skip
      exfalso; omega
  · skip
    refine g_cL C (hh := th_L_isSymmetric) (As := [.ref (ea E 0), .int (iI r), .ref (ea E 21)]) (c_L_isSymmetric_11 l hst E _ r  (by assumption) (by assumption) (by assumption)) ml_L_243 mf_L_isSymmetric rfl ⟨(Nat.le_of_ble_eq_true rfl), (Nat.le_of_ble_eq_true rfl)⟩ rfl rfl rfl (Nat.le_of_ble_eq_true rfl) hkn dL_law_2105 (q := 2108) rfl ?_
    refine g_istore C (L' := [(6, .int (iI 1)), (0, .ref bS), (1, .ref (ea E 0)), (2, .ref (ea E 13)), (3, .ref (ea E 21)), (4, .ref (ea E 22)), (5, .int (iI i))]) dL_law_2108 (by decide) rfl (q := 2110) rfl ?_
    refine g_aload_n C dL_law_2110 3 rfl rfl (q := 2111) rfl ?_
    refine g_aload_n C dL_law_2111 1 rfl rfl (q := 2112) rfl ?_
    refine g_iload C dL_law_2112 6 rfl (q := 2114) rfl ?_
    refine g_iconst C dL_law_2114 (q := 2115) rfl ?_
    refine g_iadd C dL_law_2115 (q := 2116) rfl ?_
    refine g_scr C hX (j := i + 1) (by omega) dL_law_2116 (q := 2117) rfl ?_
    refine g_top (b := r) hs_r ?_
    refine g_cV_i C (As := [.int (iI r)]) (c_X5_isSymmetric_11 l E _ r (σ 2) (by assumption) (by omega) (by assumption)) ml_L_245 mf_X5_isSymmetric (o := 13) (ci := 5) rfl rfl rfl rfl ⟨(Nat.le_of_ble_eq_true rfl), (Nat.le_of_ble_eq_true rfl)⟩ rfl rfl rfl (Nat.le_of_ble_eq_true rfl) hkn dL_law_2117 (q := 2120) rfl ?_
    refine g_istore C (L' := [(7, .int (iI 0)), (6, .int (iI 1)), (0, .ref bS), (1, .ref (ea E 0)), (2, .ref (ea E 13)), (3, .ref (ea E 21)), (4, .ref (ea E 22)), (5, .int (iI i))]) dL_law_2120 (by decide) rfl (q := 2122) rfl ?_
    refine g_aload_n C dL_law_2122 4 rfl rfl (q := 2123) rfl ?_
    refine g_cV_i C (As := []) (c_X5_thrown l E _) ml_L_157 mf_X5_thrown (o := 13) (ci := 5) rfl rfl rfl rfl ⟨(Nat.le_of_ble_eq_true rfl), (Nat.le_of_ble_eq_true rfl)⟩ rfl rfl rfl (Nat.le_of_ble_eq_true rfl) hkn dL_law_2123 (q := 2126) rfl ?_
    refine g_top (b := 1) rfl ?_
    refine g_iload C dL_law_2126 1 rfl (q := 2128) rfl ?_
    refine g_icmp_eq C dL_law_2128 (by omega) (q2 := 2133) rfl (q := 2131) rfl (fun hb7 => ?_) (fun hb7 => ?_)
    · skip
      refine g_iload C dL_law_2133 1 rfl (q := 2135) rfl ?_
      refine g_if_ne C dL_law_2135 (by omega) (q2 := 2157) rfl (q := 2138) rfl (fun hb8 => ?_) (fun hb8 => ?_)
      · skip
        refine g_goto C dL_law_2157 (q := 2912) rfl ?_
        refine g_sub [2, 3, 4, 5, 6, 7] (L' := [(0, .ref bS), (1, .ref (ea E 0)), (2, .ref (ea E 13)), (3, .ref (ea E 21)), (4, .ref (ea E 22)), (5, .int (iI i))]) rfl ?_
        exact K _ (by exact hI)
      · skip
        exfalso; omega
    · skip
      exfalso; omega
set_option maxRecDepth 100000 in
set_option maxHeartbeats 4000000 in
theorem lc_28 {p : Program} {l : Launch} {e : Env} {s : State} {m : MethodId} {args : Array Value} {below : List Frame} {meth : Method} {c : Code} {E : EV} {A : Nat → Prop} {Q : State → Prop} {σ : SS} {k n : Nat} {bS N : Nat} {xs : Nat → Int32} (hst : l.stackTraces = false) (C : CX p l e room_1 s m args below meth c RL cL_law 9 E A (some .boolean)) (hX : SX bS N xs s A) (hkn : k + 1 ≤ room_1.cells ∧ n + 6 ≤ room_1.slots) (i : Int) (hi : 0 ≤ i ∧ i + 5 ≤ N) (hI : INV σ) (K : ∀ σ2 : SS, INV σ2 → GG p l e room_1 s m args below meth c Q E A 9 σ2 (k + 1) (n + 6) 2912 [(0, .ref bS), (1, .ref (ea E 0)), (2, .ref (ea E 13)), (3, .ref (ea E 21)), (4, .ref (ea E 22)), (5, .int (iI i))] []) : GG p l e room_1 s m args below meth c Q E A 9 σ k n 2160 [(0, .ref bS), (1, .ref (ea E 0)), (2, .ref (ea E 13)), (3, .ref (ea E 21)), (4, .ref (ea E 22)), (5, .int (iI i))] [] := by
  have hM := hI.1.2
  have hP := hI.1.1
  have hW := hM.1
  have hH := hI.2.2.1.2.1
  have hK5 := hI.2.2.1.1
  have hN9 := hX.2.2.2
  have hkn0 : k ≤ room_1.cells ∧ n ≤ room_1.slots := ⟨Nat.le_of_succ_le hkn.1, Nat.le_trans (Nat.le_add_right n 6) hkn.2⟩
  obtain ⟨r, hs_r⟩ : ∃ v, scr xs (i + 1) = v := ⟨_, rfl⟩
  have hr_r := scr_rg xs (i + 1)
  rw [hs_r] at hr_r
  obtain ⟨o, hs_o⟩ : ∃ v, scr xs (i + 2) = v := ⟨_, rfl⟩
  have hr_o := scr_rg xs (i + 2)
  rw [hs_o] at hr_o
  have hq_0 := fRR_c r o
  refine g_aload_n C dL_law_2160 1 rfl rfl (q := 2161) rfl ?_
  refine g_aload_n C dL_law_2161 0 rfl rfl (q := 2162) rfl ?_
  refine g_iload C dL_law_2162 5 rfl (q := 2164) rfl ?_
  refine g_iconst C dL_law_2164 (q := 2165) rfl ?_
  refine g_iadd C dL_law_2165 (q := 2166) rfl ?_
  refine g_scr C hX (j := i + 1) (by omega) dL_law_2166 (q := 2167) rfl ?_
  refine g_top (b := r) hs_r ?_
  refine g_aload_n C dL_law_2167 0 rfl rfl (q := 2168) rfl ?_
  refine g_iload C dL_law_2168 5 rfl (q := 2170) rfl ?_
  refine g_iconst C dL_law_2170 (q := 2171) rfl ?_
  refine g_iadd C dL_law_2171 (q := 2172) rfl ?_
  refine g_scr C hX (j := i + 2) (by omega) dL_law_2172 (q := 2173) rfl ?_
  refine g_top (b := o) hs_o ?_
  refine g_aload_n C dL_law_2173 3 rfl rfl (q := 2174) rfl ?_
  rcases (show ((fRR r o = 0)) ∨ ((fRR r o = 1)) by omega) with hq0 | hq0
  · skip
    refine g_cL C (hh := th_L_commonBeginning) (As := [.ref (ea E 0), .int (iI r), .int (iI o), .ref (ea E 21)]) (c_L_commonBeginning l hst E _ r o  (by assumption) (by assumption) (by assumption) (by assumption)) ml_L_246 mf_L_commonBeginning rfl ⟨(Nat.le_of_ble_eq_true rfl), (Nat.le_of_ble_eq_true rfl)⟩ rfl rfl rfl (Nat.le_of_ble_eq_true rfl) hkn dL_law_2174 (q := 2177) rfl ?_
    refine g_istore C (L' := [(6, .int (iI 0)), (0, .ref bS), (1, .ref (ea E 0)), (2, .ref (ea E 13)), (3, .ref (ea E 21)), (4, .ref (ea E 22)), (5, .int (iI i))]) dL_law_2177 (by decide) rfl (q := 2179) rfl ?_
    refine g_aload_n C dL_law_2179 3 rfl rfl (q := 2180) rfl ?_
    refine g_aload_n C dL_law_2180 1 rfl rfl (q := 2181) rfl ?_
    refine g_iload C dL_law_2181 6 rfl (q := 2183) rfl ?_
    refine g_iconst C dL_law_2183 (q := 2184) rfl ?_
    refine g_iadd C dL_law_2184 (q := 2185) rfl ?_
    refine g_scr C hX (j := i + 1) (by omega) dL_law_2185 (q := 2186) rfl ?_
    refine g_top (b := r) hs_r ?_
    refine g_aload_n C dL_law_2186 1 rfl rfl (q := 2187) rfl ?_
    refine g_iload C dL_law_2187 6 rfl (q := 2189) rfl ?_
    refine g_iconst C dL_law_2189 (q := 2190) rfl ?_
    refine g_iadd C dL_law_2190 (q := 2191) rfl ?_
    refine g_scr C hX (j := i + 2) (by omega) dL_law_2191 (q := 2192) rfl ?_
    refine g_top (b := o) hs_o ?_
    refine g_cV_i C (As := [.int (iI r), .int (iI o)]) (c_X5_commonBeginning l E _ r o (σ 2) (by show MS (σ 2) (σ 14); assumption) (by omega) (by omega) (by assumption)) ml_L_248 mf_X5_commonBeginning (o := 13) (ci := 5) rfl rfl rfl rfl ⟨(Nat.le_of_ble_eq_true rfl), (Nat.le_of_ble_eq_true rfl)⟩ rfl rfl rfl (Nat.le_of_ble_eq_true rfl) hkn dL_law_2192 (q := 2195) rfl ?_
    refine g_st (σ2 := (st (st σ 13 (pt (σ 13) 0 0)) 21 (pt (σ 21) 0 (wr (sh (σ 2) r o))))) (st_cm σ (o := 21) (q := 13) (pt (σ 21) 0 (wr (sh (σ 2) r o))) (pt (σ 13) 0 0) (by decide)) ?_
    refine g_istore C (L' := [(7, .int (iI (sh (σ 2) r o))), (6, .int (iI 0)), (0, .ref bS), (1, .ref (ea E 0)), (2, .ref (ea E 13)), (3, .ref (ea E 21)), (4, .ref (ea E 22)), (5, .int (iI i))]) dL_law_2195 (by decide) rfl (q := 2197) rfl ?_
    refine g_aload_n C dL_law_2197 4 rfl rfl (q := 2198) rfl ?_
    refine g_cV_i C (As := []) (c_X5_thrown l E _) ml_L_157 mf_X5_thrown (o := 13) (ci := 5) rfl rfl rfl rfl ⟨(Nat.le_of_ble_eq_true rfl), (Nat.le_of_ble_eq_true rfl)⟩ rfl rfl rfl (Nat.le_of_ble_eq_true rfl) hkn dL_law_2198 (q := 2201) rfl ?_
    refine g_top (b := 0) rfl ?_
    refine g_iload C dL_law_2201 1 rfl (q := 2203) rfl ?_
    refine g_icmp_eq C dL_law_2203 (by omega) (q2 := 2208) rfl (q := 2206) rfl (fun hb2 => ?_) (fun hb2 => ?_)
    · skip
      refine g_iload C dL_law_2208 1 rfl (q := 2210) rfl ?_
      refine g_if_ne C dL_law_2210 (by omega) (q2 := 2225) rfl (q := 2213) rfl (fun hb3 => ?_) (fun hb3 => ?_)
      · skip
        exfalso; omega
      · skip
        refine g_aload_n C dL_law_2213 5 rfl rfl (q := 2214) rfl ?_
        refine g_iconst C dL_law_2214 (q := 2215) rfl ?_
        refine gl_21 C dL_law_2215 (q := 2216) rfl ?_
        refine g_topl (b := (wr (sh (σ 2) r o))) (show (pt (σ 21) 0 (wr (sh (σ 2) r o))) 0 = (wr (sh (σ 2) r o)) from pt_s _ _ _) ?_
        refine g_iload C dL_law_2216 0 rfl (q := 2218) rfl ?_
        refine g_i2lw C dL_law_2218 (q := 2219) rfl ?_
        refine g_lcmpE C (by rfl) dL_law_2219 (q := 2220) rfl ?_
        refine g_if_eq C dL_law_2220 (by omega) (q2 := 2225) rfl (q := 2223) rfl (fun hb4 => ?_) (fun hb4 => ?_)
        · skip
          refine g_goto C dL_law_2225 (q := 2912) rfl ?_
          refine g_sub [2, 3, 4, 5, 6, 7] (L' := [(0, .ref bS), (1, .ref (ea E 0)), (2, .ref (ea E 13)), (3, .ref (ea E 21)), (4, .ref (ea E 22)), (5, .int (iI i))]) rfl ?_
          exact K _ (by exact hI)
        · skip
          exfalso; omega
    · skip
      exfalso; omega
  · skip
    refine g_cL C (hh := th_L_commonBeginning) (As := [.ref (ea E 0), .int (iI r), .int (iI o), .ref (ea E 21)]) (c_L_commonBeginning_11 l hst E _ r o  (by assumption) (by assumption) (by assumption) (by assumption)) ml_L_246 mf_L_commonBeginning rfl ⟨(Nat.le_of_ble_eq_true rfl), (Nat.le_of_ble_eq_true rfl)⟩ rfl rfl rfl (Nat.le_of_ble_eq_true rfl) hkn dL_law_2174 (q := 2177) rfl ?_
    refine g_istore C (L' := [(6, .int (iI 1)), (0, .ref bS), (1, .ref (ea E 0)), (2, .ref (ea E 13)), (3, .ref (ea E 21)), (4, .ref (ea E 22)), (5, .int (iI i))]) dL_law_2177 (by decide) rfl (q := 2179) rfl ?_
    refine g_aload_n C dL_law_2179 3 rfl rfl (q := 2180) rfl ?_
    refine g_aload_n C dL_law_2180 1 rfl rfl (q := 2181) rfl ?_
    refine g_iload C dL_law_2181 6 rfl (q := 2183) rfl ?_
    refine g_iconst C dL_law_2183 (q := 2184) rfl ?_
    refine g_iadd C dL_law_2184 (q := 2185) rfl ?_
    refine g_scr C hX (j := i + 1) (by omega) dL_law_2185 (q := 2186) rfl ?_
    refine g_top (b := r) hs_r ?_
    refine g_aload_n C dL_law_2186 1 rfl rfl (q := 2187) rfl ?_
    refine g_iload C dL_law_2187 6 rfl (q := 2189) rfl ?_
    refine g_iconst C dL_law_2189 (q := 2190) rfl ?_
    refine g_iadd C dL_law_2190 (q := 2191) rfl ?_
    refine g_scr C hX (j := i + 2) (by omega) dL_law_2191 (q := 2192) rfl ?_
    refine g_top (b := o) hs_o ?_
    refine g_cV_i C (As := [.int (iI r), .int (iI o)]) (c_X5_commonBeginning_11 l E _ r o (σ 2) (by assumption) (by omega) (by omega) (by assumption)) ml_L_248 mf_X5_commonBeginning (o := 13) (ci := 5) rfl rfl rfl rfl ⟨(Nat.le_of_ble_eq_true rfl), (Nat.le_of_ble_eq_true rfl)⟩ rfl rfl rfl (Nat.le_of_ble_eq_true rfl) hkn dL_law_2192 (q := 2195) rfl ?_
    refine g_istore C (L' := [(7, .int (iI 0)), (6, .int (iI 1)), (0, .ref bS), (1, .ref (ea E 0)), (2, .ref (ea E 13)), (3, .ref (ea E 21)), (4, .ref (ea E 22)), (5, .int (iI i))]) dL_law_2195 (by decide) rfl (q := 2197) rfl ?_
    refine g_aload_n C dL_law_2197 4 rfl rfl (q := 2198) rfl ?_
    refine g_cV_i C (As := []) (c_X5_thrown l E _) ml_L_157 mf_X5_thrown (o := 13) (ci := 5) rfl rfl rfl rfl ⟨(Nat.le_of_ble_eq_true rfl), (Nat.le_of_ble_eq_true rfl)⟩ rfl rfl rfl (Nat.le_of_ble_eq_true rfl) hkn dL_law_2198 (q := 2201) rfl ?_
    refine g_top (b := 1) rfl ?_
    refine g_iload C dL_law_2201 1 rfl (q := 2203) rfl ?_
    refine g_icmp_eq C dL_law_2203 (by omega) (q2 := 2208) rfl (q := 2206) rfl (fun hb5 => ?_) (fun hb5 => ?_)
    · skip
      refine g_iload C dL_law_2208 1 rfl (q := 2210) rfl ?_
      refine g_if_ne C dL_law_2210 (by omega) (q2 := 2225) rfl (q := 2213) rfl (fun hb6 => ?_) (fun hb6 => ?_)
      · skip
        refine g_goto C dL_law_2225 (q := 2912) rfl ?_
        refine g_sub [2, 3, 4, 5, 6, 7] (L' := [(0, .ref bS), (1, .ref (ea E 0)), (2, .ref (ea E 13)), (3, .ref (ea E 21)), (4, .ref (ea E 22)), (5, .int (iI i))]) rfl ?_
        exact K _ (by exact hI)
      · skip
        exfalso; omega
    · skip
      exfalso; omega
set_option maxRecDepth 100000 in
set_option maxHeartbeats 4000000 in
theorem lc_29 {p : Program} {l : Launch} {e : Env} {s : State} {m : MethodId} {args : Array Value} {below : List Frame} {meth : Method} {c : Code} {E : EV} {A : Nat → Prop} {Q : State → Prop} {σ : SS} {k n : Nat} {bS N : Nat} {xs : Nat → Int32} (hst : l.stackTraces = false) (C : CX p l e room_1 s m args below meth c RL cL_law 9 E A (some .boolean)) (hX : SX bS N xs s A) (hkn : k + 1 ≤ room_1.cells ∧ n + 6 ≤ room_1.slots) (i : Int) (hi : 0 ≤ i ∧ i + 5 ≤ N) (hI : INV σ) (K : ∀ σ2 : SS, INV σ2 → GG p l e room_1 s m args below meth c Q E A 9 σ2 (k + 1) (n + 6) 2912 [(0, .ref bS), (1, .ref (ea E 0)), (2, .ref (ea E 13)), (3, .ref (ea E 21)), (4, .ref (ea E 22)), (5, .int (iI i))] []) : GG p l e room_1 s m args below meth c Q E A 9 σ k n 2228 [(0, .ref bS), (1, .ref (ea E 0)), (2, .ref (ea E 13)), (3, .ref (ea E 21)), (4, .ref (ea E 22)), (5, .int (iI i))] [] := by
  have hM := hI.1.2
  have hP := hI.1.1
  have hW := hM.1
  have hH := hI.2.2.1.2.1
  have hK5 := hI.2.2.1.1
  have hN9 := hX.2.2.2
  have hkn0 : k ≤ room_1.cells ∧ n ≤ room_1.slots := ⟨Nat.le_of_succ_le hkn.1, Nat.le_trans (Nat.le_add_right n 6) hkn.2⟩
  obtain ⟨r, hs_r⟩ : ∃ v, scr xs (i + 1) = v := ⟨_, rfl⟩
  have hr_r := scr_rg xs (i + 1)
  rw [hs_r] at hr_r
  obtain ⟨o, hs_o⟩ : ∃ v, scr xs (i + 2) = v := ⟨_, rfl⟩
  have hr_o := scr_rg xs (i + 2)
  rw [hs_o] at hr_o
  have hq_0 := fRR_c r o
  have hb9 := eqR_01 (σ 2) r o
  refine g_aload_n C dL_law_2228 1 rfl rfl (q := 2229) rfl ?_
  refine g_aload_n C dL_law_2229 0 rfl rfl (q := 2230) rfl ?_
  refine g_iload C dL_law_2230 5 rfl (q := 2232) rfl ?_
  refine g_iconst C dL_law_2232 (q := 2233) rfl ?_
  refine g_iadd C dL_law_2233 (q := 2234) rfl ?_
  refine g_scr C hX (j := i + 1) (by omega) dL_law_2234 (q := 2235) rfl ?_
  refine g_top (b := r) hs_r ?_
  refine g_aload_n C dL_law_2235 0 rfl rfl (q := 2236) rfl ?_
  refine g_iload C dL_law_2236 5 rfl (q := 2238) rfl ?_
  refine g_iconst C dL_law_2238 (q := 2239) rfl ?_
  refine g_iadd C dL_law_2239 (q := 2240) rfl ?_
  refine g_scr C hX (j := i + 2) (by omega) dL_law_2240 (q := 2241) rfl ?_
  refine g_top (b := o) hs_o ?_
  refine g_aload_n C dL_law_2241 3 rfl rfl (q := 2242) rfl ?_
  rcases (show ((fRR r o = 0)) ∨ ((fRR r o = 1)) by omega) with hq0 | hq0
  · skip
    refine g_cL C (hh := th_L_areEqual) (As := [.ref (ea E 0), .int (iI r), .int (iI o), .ref (ea E 21)]) (c_L_areEqual l hst E _ r o  (by assumption) (by assumption) (by assumption) (by assumption)) ml_L_249 mf_L_areEqual rfl ⟨(Nat.le_of_ble_eq_true rfl), (Nat.le_of_ble_eq_true rfl)⟩ rfl rfl rfl (Nat.le_of_ble_eq_true rfl) hkn dL_law_2242 (q := 2245) rfl ?_
    refine g_istore C (L' := [(6, .int (iI 0)), (0, .ref bS), (1, .ref (ea E 0)), (2, .ref (ea E 13)), (3, .ref (ea E 21)), (4, .ref (ea E 22)), (5, .int (iI i))]) dL_law_2245 (by decide) rfl (q := 2247) rfl ?_
    refine g_aload_n C dL_law_2247 3 rfl rfl (q := 2248) rfl ?_
    refine g_aload_n C dL_law_2248 1 rfl rfl (q := 2249) rfl ?_
    refine g_iload C dL_law_2249 6 rfl (q := 2251) rfl ?_
    refine g_iconst C dL_law_2251 (q := 2252) rfl ?_
    refine g_iadd C dL_law_2252 (q := 2253) rfl ?_
    refine g_scr C hX (j := i + 1) (by omega) dL_law_2253 (q := 2254) rfl ?_
    refine g_top (b := r) hs_r ?_
    refine g_aload_n C dL_law_2254 1 rfl rfl (q := 2255) rfl ?_
    refine g_iload C dL_law_2255 6 rfl (q := 2257) rfl ?_
    refine g_iconst C dL_law_2257 (q := 2258) rfl ?_
    refine g_iadd C dL_law_2258 (q := 2259) rfl ?_
    refine g_scr C hX (j := i + 2) (by omega) dL_law_2259 (q := 2260) rfl ?_
    refine g_top (b := o) hs_o ?_
    refine g_cV_i C (As := [.int (iI r), .int (iI o)]) (c_X5_areEqual l E _ r o (σ 2) (by show MS (σ 2) (σ 14); assumption) (by omega) (by omega) (by assumption)) ml_L_251 mf_X5_areEqual (o := 13) (ci := 5) rfl rfl rfl rfl ⟨(Nat.le_of_ble_eq_true rfl), (Nat.le_of_ble_eq_true rfl)⟩ rfl rfl rfl (Nat.le_of_ble_eq_true rfl) hkn dL_law_2260 (q := 2263) rfl ?_
    refine g_st (σ2 := (st (st σ 13 (pt (σ 13) 0 0)) 21 (pt (σ 21) 0 (eqR (σ 2) r o)))) (st_cm σ (o := 21) (q := 13) (pt (σ 21) 0 (eqR (σ 2) r o)) (pt (σ 13) 0 0) (by decide)) ?_
    refine g_istore C (L' := [(7, .int (iI (eqR (σ 2) r o))), (6, .int (iI 0)), (0, .ref bS), (1, .ref (ea E 0)), (2, .ref (ea E 13)), (3, .ref (ea E 21)), (4, .ref (ea E 22)), (5, .int (iI i))]) dL_law_2263 (by decide) rfl (q := 2265) rfl ?_
    refine g_aload_n C dL_law_2265 4 rfl rfl (q := 2266) rfl ?_
    refine g_cV_i C (As := []) (c_X5_thrown l E _) ml_L_157 mf_X5_thrown (o := 13) (ci := 5) rfl rfl rfl rfl ⟨(Nat.le_of_ble_eq_true rfl), (Nat.le_of_ble_eq_true rfl)⟩ rfl rfl rfl (Nat.le_of_ble_eq_true rfl) hkn dL_law_2266 (q := 2269) rfl ?_
    refine g_top (b := 0) rfl ?_
    refine g_iload C dL_law_2269 1 rfl (q := 2271) rfl ?_
    refine g_icmp_eq C dL_law_2271 (by omega) (q2 := 2276) rfl (q := 2274) rfl (fun hb2 => ?_) (fun hb2 => ?_)
    · skip
      refine g_iload C dL_law_2276 1 rfl (q := 2278) rfl ?_
      refine g_if_ne C dL_law_2278 (by omega) (q2 := 2300) rfl (q := 2281) rfl (fun hb3 => ?_) (fun hb3 => ?_)
      · skip
        exfalso; omega
      · skip
        refine g_aload_n C dL_law_2281 5 rfl rfl (q := 2282) rfl ?_
        refine g_iconst C dL_law_2282 (q := 2283) rfl ?_
        refine gl_21 C dL_law_2283 (q := 2284) rfl ?_
        refine g_topl (b := (eqR (σ 2) r o)) (show (pt (σ 21) 0 (eqR (σ 2) r o)) 0 = (eqR (σ 2) r o) from pt_s _ _ _) ?_
        refine g_iload C dL_law_2284 0 rfl (q := 2286) rfl ?_
        refine g_if_eq C dL_law_2286 (by omega) (q2 := 2293) rfl (q := 2289) rfl (fun hb4 => ?_) (fun hb4 => ?_)
        · skip
          refine g_lconst C (y := 0) dL_law_2293 (by decide) (q := 2294) rfl ?_
          refine g_lcmpE C (by omega) dL_law_2294 (q := 2295) rfl ?_
          refine g_if_eq C dL_law_2295 (by omega) (q2 := 2300) rfl (q := 2298) rfl (fun hb5 => ?_) (fun hb5 => ?_)
          · skip
            refine g_goto C dL_law_2300 (q := 2912) rfl ?_
            refine g_sub [2, 3, 4, 5, 6, 7] (L' := [(0, .ref bS), (1, .ref (ea E 0)), (2, .ref (ea E 13)), (3, .ref (ea E 21)), (4, .ref (ea E 22)), (5, .int (iI i))]) rfl ?_
            exact K _ (by exact hI)
          · skip
            exfalso; omega
        · skip
          refine g_lconst C (y := 1) dL_law_2289 (by decide) (q := 2290) rfl ?_
          refine g_goto C dL_law_2290 (q := 2294) rfl ?_
          refine g_lcmpE C (by omega) dL_law_2294 (q := 2295) rfl ?_
          refine g_if_eq C dL_law_2295 (by omega) (q2 := 2300) rfl (q := 2298) rfl (fun hb6 => ?_) (fun hb6 => ?_)
          · skip
            refine g_goto C dL_law_2300 (q := 2912) rfl ?_
            refine g_sub [2, 3, 4, 5, 6, 7] (L' := [(0, .ref bS), (1, .ref (ea E 0)), (2, .ref (ea E 13)), (3, .ref (ea E 21)), (4, .ref (ea E 22)), (5, .int (iI i))]) rfl ?_
            exact K _ (by exact hI)
          · skip
            exfalso; omega
    · skip
      exfalso; omega
  · skip
    refine g_cL C (hh := th_L_areEqual) (As := [.ref (ea E 0), .int (iI r), .int (iI o), .ref (ea E 21)]) (c_L_areEqual_11 l hst E _ r o  (by assumption) (by assumption) (by assumption) (by assumption)) ml_L_249 mf_L_areEqual rfl ⟨(Nat.le_of_ble_eq_true rfl), (Nat.le_of_ble_eq_true rfl)⟩ rfl rfl rfl (Nat.le_of_ble_eq_true rfl) hkn dL_law_2242 (q := 2245) rfl ?_
    refine g_istore C (L' := [(6, .int (iI 1)), (0, .ref bS), (1, .ref (ea E 0)), (2, .ref (ea E 13)), (3, .ref (ea E 21)), (4, .ref (ea E 22)), (5, .int (iI i))]) dL_law_2245 (by decide) rfl (q := 2247) rfl ?_
    refine g_aload_n C dL_law_2247 3 rfl rfl (q := 2248) rfl ?_
    refine g_aload_n C dL_law_2248 1 rfl rfl (q := 2249) rfl ?_
    refine g_iload C dL_law_2249 6 rfl (q := 2251) rfl ?_
    refine g_iconst C dL_law_2251 (q := 2252) rfl ?_
    refine g_iadd C dL_law_2252 (q := 2253) rfl ?_
    refine g_scr C hX (j := i + 1) (by omega) dL_law_2253 (q := 2254) rfl ?_
    refine g_top (b := r) hs_r ?_
    refine g_aload_n C dL_law_2254 1 rfl rfl (q := 2255) rfl ?_
    refine g_iload C dL_law_2255 6 rfl (q := 2257) rfl ?_
    refine g_iconst C dL_law_2257 (q := 2258) rfl ?_
    refine g_iadd C dL_law_2258 (q := 2259) rfl ?_
    refine g_scr C hX (j := i + 2) (by omega) dL_law_2259 (q := 2260) rfl ?_
    refine g_top (b := o) hs_o ?_
    refine g_cV_i C (As := [.int (iI r), .int (iI o)]) (c_X5_areEqual_11 l E _ r o (σ 2) (by assumption) (by omega) (by omega) (by assumption)) ml_L_251 mf_X5_areEqual (o := 13) (ci := 5) rfl rfl rfl rfl ⟨(Nat.le_of_ble_eq_true rfl), (Nat.le_of_ble_eq_true rfl)⟩ rfl rfl rfl (Nat.le_of_ble_eq_true rfl) hkn dL_law_2260 (q := 2263) rfl ?_
    refine g_istore C (L' := [(7, .int (iI 0)), (6, .int (iI 1)), (0, .ref bS), (1, .ref (ea E 0)), (2, .ref (ea E 13)), (3, .ref (ea E 21)), (4, .ref (ea E 22)), (5, .int (iI i))]) dL_law_2263 (by decide) rfl (q := 2265) rfl ?_
    refine g_aload_n C dL_law_2265 4 rfl rfl (q := 2266) rfl ?_
    refine g_cV_i C (As := []) (c_X5_thrown l E _) ml_L_157 mf_X5_thrown (o := 13) (ci := 5) rfl rfl rfl rfl ⟨(Nat.le_of_ble_eq_true rfl), (Nat.le_of_ble_eq_true rfl)⟩ rfl rfl rfl (Nat.le_of_ble_eq_true rfl) hkn dL_law_2266 (q := 2269) rfl ?_
    refine g_top (b := 1) rfl ?_
    refine g_iload C dL_law_2269 1 rfl (q := 2271) rfl ?_
    refine g_icmp_eq C dL_law_2271 (by omega) (q2 := 2276) rfl (q := 2274) rfl (fun hb7 => ?_) (fun hb7 => ?_)
    · skip
      refine g_iload C dL_law_2276 1 rfl (q := 2278) rfl ?_
      refine g_if_ne C dL_law_2278 (by omega) (q2 := 2300) rfl (q := 2281) rfl (fun hb8 => ?_) (fun hb8 => ?_)
      · skip
        refine g_goto C dL_law_2300 (q := 2912) rfl ?_
        refine g_sub [2, 3, 4, 5, 6, 7] (L' := [(0, .ref bS), (1, .ref (ea E 0)), (2, .ref (ea E 13)), (3, .ref (ea E 21)), (4, .ref (ea E 22)), (5, .int (iI i))]) rfl ?_
        exact K _ (by exact hI)
      · skip
        exfalso; omega
    · skip
      exfalso; omega
