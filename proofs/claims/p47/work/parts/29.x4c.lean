abbrev rm_X4_raise : Room := { frames := 0, cells := 0, slots := 0, locals := 0 }
set_option maxRecDepth 100000 in
set_option maxHeartbeats 4000000 in
theorem c_X4_raise (l : Launch) (E : EV) (σ : SS) (f : Int) (h : f = 0) : Kv l yX4_raise (cw yX4_raise cX4_raise 1 none) rm_X4_raise E [.int (iI f)] σ σ := by
  refine Kv_of (rm := rm_X4_raise) (mL := 1) (b := cX4_raise) RX4 rfl (by decide +kernel) rfl rfl [(0, .int (iI f))] rfl (Nat.le_of_ble_eq_true rfl) (fun p_ e_ s_ m_ a_ b_ h_ c_ Q A C hret => ?_)
  refine g_iload_n C dX4_raise_0 0 rfl rfl (q := 1) rfl ?_
  rcases (show (f < 1 ∨ 3 < f) by omega) with hb1
  · skip
    refine g_tabO C dX4_raise_1 (by omega) hb1 (q := 58) rfl ?_
    exact hret _ _ dX4_raise_58
abbrev rmx_X4_raise : Room := { frames := 6, cells := 1, slots := 6, locals := 82 }
set_option maxRecDepth 100000 in
set_option maxHeartbeats 4000000 in
theorem x_X4_raise_1 (l : Launch) (hst : l.stackTraces = false) (E : EV) (σ : SS) (f : Int) (h : f = 1) : Kx l yX4_raise (cw yX4_raise cX4_raise 1 none) rmx_X4_raise E [.int (iI f)] σ xIOOBE σ := by
  refine Kx_of (rm := rmx_X4_raise) (mL := 1) (b := cX4_raise) RX4 rfl (by decide +kernel) [(0, .int (iI f))] rfl (Nat.le_of_ble_eq_true rfl) (fun p_ e_ s_ m_ a_ b_ h_ c_ Q A C hne hQ => ?_)
  refine g_iload_n C dX4_raise_0 0 rfl rfl (q := 1) rfl ?_
  rcases (show f = 1 by omega) with hb1
  · skip
    refine g_top (b := 1) hb1 ?_
    refine g_tabI C dX4_raise_1 (by omega) (by decide) (by decide) (off := 27) rfl (q := 28) rfl ?_
    exact g_thr C hst hne tf_IOOBE (List.mem_of_getElem? (i := 0) rfl) ⟨(Nat.le_of_ble_eq_true rfl), (Nat.le_of_ble_eq_true rfl), (Nat.le_of_ble_eq_true rfl), (Nat.le_of_ble_eq_true rfl)⟩ dX4_raise_28 dX4_raise_31 dX4_raise_32 dX4_raise_34 dX4_raise_37 hQ
set_option maxRecDepth 100000 in
set_option maxHeartbeats 4000000 in
theorem x_X4_raise_2 (l : Launch) (hst : l.stackTraces = false) (E : EV) (σ : SS) (f : Int) (h : f = 2) : Kx l yX4_raise (cw yX4_raise cX4_raise 1 none) rmx_X4_raise E [.int (iI f)] σ xIAE σ := by
  refine Kx_of (rm := rmx_X4_raise) (mL := 1) (b := cX4_raise) RX4 rfl (by decide +kernel) [(0, .int (iI f))] rfl (Nat.le_of_ble_eq_true rfl) (fun p_ e_ s_ m_ a_ b_ h_ c_ Q A C hne hQ => ?_)
  refine g_iload_n C dX4_raise_0 0 rfl rfl (q := 1) rfl ?_
  rcases (show f = 2 by omega) with hb1
  · skip
    refine g_top (b := 2) hb1 ?_
    refine g_tabI C dX4_raise_1 (by omega) (by decide) (by decide) (off := 37) rfl (q := 38) rfl ?_
    exact g_thr C hst hne tf_IAE (List.mem_of_getElem? (i := 1) rfl) ⟨(Nat.le_of_ble_eq_true rfl), (Nat.le_of_ble_eq_true rfl), (Nat.le_of_ble_eq_true rfl), (Nat.le_of_ble_eq_true rfl)⟩ dX4_raise_38 dX4_raise_41 dX4_raise_42 dX4_raise_44 dX4_raise_47 hQ
set_option maxRecDepth 100000 in
set_option maxHeartbeats 4000000 in
theorem x_X4_raise_3 (l : Launch) (hst : l.stackTraces = false) (E : EV) (σ : SS) (f : Int) (h : f = 3) : Kx l yX4_raise (cw yX4_raise cX4_raise 1 none) rmx_X4_raise E [.int (iI f)] σ xISE σ := by
  refine Kx_of (rm := rmx_X4_raise) (mL := 1) (b := cX4_raise) RX4 rfl (by decide +kernel) [(0, .int (iI f))] rfl (Nat.le_of_ble_eq_true rfl) (fun p_ e_ s_ m_ a_ b_ h_ c_ Q A C hne hQ => ?_)
  refine g_iload_n C dX4_raise_0 0 rfl rfl (q := 1) rfl ?_
  rcases (show f = 3 by omega) with hb1
  · skip
    refine g_top (b := 3) hb1 ?_
    refine g_tabI C dX4_raise_1 (by omega) (by decide) (by decide) (off := 47) rfl (q := 48) rfl ?_
    exact g_thr C hst hne tf_ISE (List.mem_of_getElem? (i := 2) rfl) ⟨(Nat.le_of_ble_eq_true rfl), (Nat.le_of_ble_eq_true rfl), (Nat.le_of_ble_eq_true rfl), (Nat.le_of_ble_eq_true rfl)⟩ dX4_raise_48 dX4_raise_51 dX4_raise_52 dX4_raise_54 dX4_raise_57 hQ
abbrev rm_X4_found : Room := { frames := 0, cells := 0, slots := 0, locals := 0 }
set_option maxRecDepth 100000 in
set_option maxHeartbeats 4000000 in
theorem c_X4_found (l : Launch) (E : EV) (σ : SS) (a : Int) (h : -2147483648 ≤ a ∧ a ≤ 2147483647) (hn : a ≠ -1) : Ki l yX4_found (cw yX4_found cX4_found 1 (some .int)) rm_X4_found E [.int (iI a)] σ a σ := by
  refine Ki_of (rm := rm_X4_found) (mL := 1) (b := cX4_found) RX4 rfl (by decide +kernel) rfl rfl [(0, .int (iI a))] rfl (Nat.le_of_ble_eq_true rfl) (fun p_ e_ s_ m_ a_ b_ h_ c_ Q A C hret => ?_)
  refine g_iload_n C dX4_found_0 0 rfl rfl (q := 1) rfl ?_
  refine g_iconst C dX4_found_1 (q := 2) rfl ?_
  refine g_icmp_ne C dX4_found_2 (by omega) (q2 := 15) rfl (q := 5) rfl (fun hb1 => ?_) (fun hb1 => ?_)
  · skip
    refine g_iload_n C dX4_found_15 0 rfl rfl (q := 16) rfl ?_
    exact hret _ _ _ dX4_found_16 rfl
  · skip
    exfalso; omega
abbrev rmx_X4_found : Room := { frames := 6, cells := 1, slots := 6, locals := 82 }
set_option maxRecDepth 100000 in
set_option maxHeartbeats 4000000 in
theorem x_X4_found_n (l : Launch) (hst : l.stackTraces = false) (E : EV) (σ : SS) (a : Int) (h : a = -1) : Kx l yX4_found (cw yX4_found cX4_found 1 (some .int)) rmx_X4_found E [.int (iI a)] σ xNSEE σ := by
  refine Kx_of (rm := rmx_X4_found) (mL := 1) (b := cX4_found) RX4 rfl (by decide +kernel) [(0, .int (iI a))] rfl (Nat.le_of_ble_eq_true rfl) (fun p_ e_ s_ m_ a_ b_ h_ c_ Q A C hne hQ => ?_)
  refine g_iload_n C dX4_found_0 0 rfl rfl (q := 1) rfl ?_
  refine g_iconst C dX4_found_1 (q := 2) rfl ?_
  refine g_icmp_ne C dX4_found_2 (by omega) (q2 := 15) rfl (q := 5) rfl (fun hb1 => ?_) (fun hb1 => ?_)
  · skip
    exfalso; omega
  · skip
    exact g_thr C hst hne tf_NSEE (List.mem_of_getElem? (i := 27) rfl) ⟨(Nat.le_of_ble_eq_true rfl), (Nat.le_of_ble_eq_true rfl), (Nat.le_of_ble_eq_true rfl), (Nat.le_of_ble_eq_true rfl)⟩ dX4_found_5 dX4_found_8 dX4_found_9 dX4_found_11 dX4_found_14 hQ
abbrev rm_X4_change : Room := { frames := 6, cells := 0, slots := 0, locals := 140 }
set_option maxRecDepth 100000 in
set_option maxHeartbeats 4000000 in
theorem c_X4_change (l : Launch) (E : EV) (σ : SS) (k r b c d : Int) (hk : 0 ≤ k ∧ k ≤ 8) (hr_r : -2147483648 ≤ r ∧ r ≤ 2147483647) (hr_b : -2147483648 ≤ b ∧ b ≤ 2147483647) (hr_c : -2147483648 ≤ c ∧ c ≤ 2147483647) (hr_d : -2147483648 ≤ d ∧ d ≤ 2147483647) (hW : CW (σ 2)) (hh : 0 ≤ (σ 5 1) ∧ (σ 5 1) < 8 ∧ 0 ≤ (σ 5 2) ∧ (σ 5 2) ≤ 8) (hF : FK (σ 2) k r b c d = 0) : Ki l yX4_change (cw yX4_change cX4_change 7 (some .int)) rm_X4_change E [.ref (ea E 0), .int (iI k), .int (iI r), .int (iI b), .int (iI c), .int (iI d)] σ (opR (σ 2) k r b c d) (st (st (st (st σ 2 (refF (opF (σ 2) k r b c d))) 3 (cpf (σ 2) (σ 3) 0 0 310)) 5 (pt (pt (σ 5) 1 (nx8 (σ 5 1))) 2 (min ((σ 5 2) + 1) 8))) 6 (cpf (cpf (σ 2) (σ 3) 0 0 310) (σ 6) 0 ((σ 5 1) * 310) 310)) := by
  refine Ki_of (rm := rm_X4_change) (mL := 7) (b := cX4_change) RX4 rfl (by decide +kernel) rfl rfl [(0, .ref (ea E 0)), (1, .int (iI k)), (2, .int (iI r)), (3, .int (iI b)), (4, .int (iI c)), (5, .int (iI d))] rfl (Nat.le_of_ble_eq_true rfl) (fun p_ e_ s_ m_ a_ b_ h_ c_ Q A C hret => ?_)
  have hN := CW_N hW
  refine g_aload_n C dX4_change_0 0 rfl rfl (q := 1) rfl ?_
  refine g_iload_n C dX4_change_1 1 rfl rfl (q := 2) rfl ?_
  refine g_iload_n C dX4_change_2 2 rfl rfl (q := 3) rfl ?_
  refine g_iload_n C dX4_change_3 3 rfl rfl (q := 4) rfl ?_
  refine g_iload C dX4_change_4 4 rfl (q := 6) rfl ?_
  refine g_iload C dX4_change_6 5 rfl (q := 8) rfl ?_
  refine g_cV_i C (As := [.int (iI k), .int (iI r), .int (iI b), .int (iI c), .int (iI d)]) (c_X4_faultOf l E _ k r b c d  (by omega) (by omega) (by omega) (by omega) (by omega) (by assumption)) ml_X4_268 mf_X4_faultOf (o := 0) (ci := 4) rfl rfl rfl rfl ⟨(Nat.le_of_ble_eq_true rfl), (Nat.le_of_ble_eq_true rfl)⟩ rfl rfl rfl (Nat.le_of_ble_eq_true rfl) ⟨(Nat.le_of_ble_eq_true rfl), (Nat.le_of_ble_eq_true rfl)⟩ dX4_change_8 (q := 11) rfl ?_
  refine g_cS_v C (As := [.int (iI (FK (σ 2) k r b c d))]) (c_X4_raise l E _ (FK (σ 2) k r b c d)  (by assumption)) ml_X4_63 mf_X4_raise rfl rfl ⟨(Nat.le_of_ble_eq_true rfl), (Nat.le_of_ble_eq_true rfl)⟩ rfl rfl rfl (Nat.le_of_ble_eq_true rfl) ⟨(Nat.le_of_ble_eq_true rfl), (Nat.le_of_ble_eq_true rfl)⟩ dX4_change_11 (q := 14) rfl ?_
  refine g_aload_n C dX4_change_14 0 rfl rfl (q := 15) rfl ?_
  refine gf_X4_12 C dX4_change_15 (q := 18) rfl ?_
  refine g_aload_n C dX4_change_18 0 rfl rfl (q := 19) rfl ?_
  refine gf_X4_16 C dX4_change_19 (q := 22) rfl ?_
  refine g_iconst C dX4_change_22 (q := 23) rfl ?_
  refine g_cVN_v C (As := [.ref (ea E 3), .int (iI 0)]) (c_X3_copyTo_3 l E _ 0  (by omega)) mn_X4_175 mf_X3_copyTo (o := 1) (ci := 3) rfl rfl rfl rfl ⟨(Nat.le_of_ble_eq_true rfl), (Nat.le_of_ble_eq_true rfl)⟩ rfl rfl rfl (Nat.le_of_ble_eq_true rfl) ⟨(Nat.le_of_ble_eq_true rfl), (Nat.le_of_ble_eq_true rfl)⟩ dX4_change_23 (q := 26) rfl ?_
  refine g_aload_n C dX4_change_26 0 rfl rfl (q := 27) rfl ?_
  refine gf_X4_30 C dX4_change_27 (q := 30) rfl ?_
  refine g_aload_n C dX4_change_30 0 rfl rfl (q := 31) rfl ?_
  refine gf_X4_16 C dX4_change_31 (q := 34) rfl ?_
  refine g_cVN_v C (As := [.ref (ea E 3)]) (c_X1_keep l E _   (by show 0 ≤ (σ 5 1) ∧ (σ 5 1) < 8 ∧ 0 ≤ (σ 5 2) ∧ (σ 5 2) ≤ 8; omega)) mn_X4_187 mf_X1_keep (o := 5) (ci := 1) rfl rfl rfl rfl ⟨(Nat.le_of_ble_eq_true rfl), (Nat.le_of_ble_eq_true rfl)⟩ rfl rfl rfl (Nat.le_of_ble_eq_true rfl) ⟨(Nat.le_of_ble_eq_true rfl), (Nat.le_of_ble_eq_true rfl)⟩ dX4_change_34 (q := 37) rfl ?_
  refine g_st (σ2 := (st (st (st σ 3 (cpf (σ 2) (σ 3) 0 0 310)) 5 (pt (pt (σ 5) 1 (nx8 (σ 5 1))) 2 (min ((σ 5 2) + 1) 8))) 6 (cpf (cpf (σ 2) (σ 3) 0 0 310) (σ 6) 0 ((σ 5 1) * 310) 310))) rfl ?_
  refine g_aload_n C dX4_change_37 0 rfl rfl (q := 38) rfl ?_
  refine g_iload_n C dX4_change_38 1 rfl rfl (q := 39) rfl ?_
  refine g_iload_n C dX4_change_39 2 rfl rfl (q := 40) rfl ?_
  refine g_iload_n C dX4_change_40 3 rfl rfl (q := 41) rfl ?_
  refine g_iload C dX4_change_41 4 rfl (q := 43) rfl ?_
  refine g_iload C dX4_change_43 5 rfl (q := 45) rfl ?_
  refine g_cV_i C (As := [.int (iI k), .int (iI r), .int (iI b), .int (iI c), .int (iI d)]) (c_X4_carryOut l E _ k r b c d  (by omega) (by show CW (σ 2); assumption) (by show FK (σ 2) k r b c d = 0; assumption)) ml_X4_271 mf_X4_carryOut (o := 0) (ci := 4) rfl rfl rfl rfl ⟨(Nat.le_of_ble_eq_true rfl), (Nat.le_of_ble_eq_true rfl)⟩ rfl rfl rfl (Nat.le_of_ble_eq_true rfl) ⟨(Nat.le_of_ble_eq_true rfl), (Nat.le_of_ble_eq_true rfl)⟩ dX4_change_45 (q := 48) rfl ?_
  refine g_top (b := opR (σ 2) k r b c d) rfl ?_
  refine g_st (σ2 := (st (st (st (st σ 2 (opF (σ 2) k r b c d)) 3 (cpf (σ 2) (σ 3) 0 0 310)) 5 (pt (pt (σ 5) 1 (nx8 (σ 5 1))) 2 (min ((σ 5 2) + 1) 8))) 6 (cpf (cpf (σ 2) (σ 3) 0 0 310) (σ 6) 0 ((σ 5 1) * 310) 310))) ((st_cm (st (st σ 3 (cpf (σ 2) (σ 3) 0 0 310)) 5 (pt (pt (σ 5) 1 (nx8 (σ 5 1))) 2 (min ((σ 5 2) + 1) 8))) (o := 6) (q := 2) (cpf (cpf (σ 2) (σ 3) 0 0 310) (σ 6) 0 ((σ 5 1) * 310) 310) (opF (σ 2) k r b c d) (by decide)).trans (congrArg (fun g9 => st g9 6 (cpf (cpf (σ 2) (σ 3) 0 0 310) (σ 6) 0 ((σ 5 1) * 310) 310)) ((st_cm (st σ 3 (cpf (σ 2) (σ 3) 0 0 310)) (o := 5) (q := 2) (pt (pt (σ 5) 1 (nx8 (σ 5 1))) 2 (min ((σ 5 2) + 1) 8)) (opF (σ 2) k r b c d) (by decide)).trans (congrArg (fun g9 => st g9 5 (pt (pt (σ 5) 1 (nx8 (σ 5 1))) 2 (min ((σ 5 2) + 1) 8))) (st_cm σ (o := 3) (q := 2) (cpf (σ 2) (σ 3) 0 0 310) (opF (σ 2) k r b c d) (by decide)))))) ?_
  refine g_istore C (L' := [(6, .int (iI (opR (σ 2) k r b c d))), (0, .ref (ea E 0)), (1, .int (iI k)), (2, .int (iI r)), (3, .int (iI b)), (4, .int (iI c)), (5, .int (iI d))]) dX4_change_48 (by decide) rfl (q := 50) rfl ?_
  refine g_aload_n C dX4_change_50 1 rfl rfl (q := 51) rfl ?_
  refine gf_X4_12 C dX4_change_51 (q := 54) rfl ?_
  refine g_cVN_v C (As := []) (c_X3_refreshParts l E _   (by exact CW_op hW hk hF)) mn_X4_191 mf_X3_refreshParts (o := 1) (ci := 3) rfl rfl rfl rfl ⟨(Nat.le_of_ble_eq_true rfl), (Nat.le_of_ble_eq_true rfl)⟩ rfl rfl rfl (Nat.le_of_ble_eq_true rfl) ⟨(Nat.le_of_ble_eq_true rfl), (Nat.le_of_ble_eq_true rfl)⟩ dX4_change_54 (q := 57) rfl ?_
  refine g_st (σ2 := (st (st (st (st σ 2 (refU (opF (σ 2) k r b c d) 32)) 3 (cpf (σ 2) (σ 3) 0 0 310)) 5 (pt (pt (σ 5) 1 (nx8 (σ 5 1))) 2 (min ((σ 5 2) + 1) 8))) 6 (cpf (cpf (σ 2) (σ 3) 0 0 310) (σ 6) 0 ((σ 5 1) * 310) 310))) ((st_cm (st (st (st σ 2 (opF (σ 2) k r b c d)) 3 (cpf (σ 2) (σ 3) 0 0 310)) 5 (pt (pt (σ 5) 1 (nx8 (σ 5 1))) 2 (min ((σ 5 2) + 1) 8))) (o := 6) (q := 2) (cpf (cpf (σ 2) (σ 3) 0 0 310) (σ 6) 0 ((σ 5 1) * 310) 310) (refU (opF (σ 2) k r b c d) 32) (by decide)).trans (congrArg (fun g9 => st g9 6 (cpf (cpf (σ 2) (σ 3) 0 0 310) (σ 6) 0 ((σ 5 1) * 310) 310)) ((st_cm (st (st σ 2 (opF (σ 2) k r b c d)) 3 (cpf (σ 2) (σ 3) 0 0 310)) (o := 5) (q := 2) (pt (pt (σ 5) 1 (nx8 (σ 5 1))) 2 (min ((σ 5 2) + 1) 8)) (refU (opF (σ 2) k r b c d) 32) (by decide)).trans (congrArg (fun g9 => st g9 5 (pt (pt (σ 5) 1 (nx8 (σ 5 1))) 2 (min ((σ 5 2) + 1) 8))) ((st_cm (st σ 2 (opF (σ 2) k r b c d)) (o := 3) (q := 2) (cpf (σ 2) (σ 3) 0 0 310) (refU (opF (σ 2) k r b c d) 32) (by decide)).trans (congrArg (fun g9 => st g9 3 (cpf (σ 2) (σ 3) 0 0 310)) (st_st _ _ _ _))))))) ?_
  refine g_iload C dX4_change_57 0 rfl (q := 59) rfl ?_
  refine g_st (σ2 := (st (st (st (st σ 2 (refF (opF (σ 2) k r b c d))) 3 (cpf (σ 2) (σ 3) 0 0 310)) 5 (pt (pt (σ 5) 1 (nx8 (σ 5 1))) 2 (min ((σ 5 2) + 1) 8))) 6 (cpf (cpf (σ 2) (σ 3) 0 0 310) (σ 6) 0 ((σ 5 1) * 310) 310))) (by first | rfl | (funext q9; simp only [st]; (repeat' split) <;> first | rfl | omega | (funext j9; simp only [pt]; (repeat' split) <;> first | rfl | omega))) ?_
  exact hret _ _ _ dX4_change_59 rfl
abbrev rmx_X4_change : Room := { frames := 7, cells := 1, slots := 6, locals := 137 }
set_option maxRecDepth 100000 in
set_option maxHeartbeats 4000000 in
theorem x_X4_change_1 (l : Launch) (hst : l.stackTraces = false) (E : EV) (σ : SS) (k r b c d : Int) (hk : 0 ≤ k ∧ k ≤ 8) (hr_r : -2147483648 ≤ r ∧ r ≤ 2147483647) (hr_b : -2147483648 ≤ b ∧ b ≤ 2147483647) (hr_c : -2147483648 ≤ c ∧ c ≤ 2147483647) (hr_d : -2147483648 ≤ d ∧ d ≤ 2147483647) (hW : CW (σ 2)) (hF : FK (σ 2) k r b c d = 1) : Kx l yX4_change (cw yX4_change cX4_change 7 (some .int)) rmx_X4_change E [.ref (ea E 0), .int (iI k), .int (iI r), .int (iI b), .int (iI c), .int (iI d)] σ xIOOBE σ := by
  refine Kx_of (rm := rmx_X4_change) (mL := 7) (b := cX4_change) RX4 rfl (by decide +kernel) [(0, .ref (ea E 0)), (1, .int (iI k)), (2, .int (iI r)), (3, .int (iI b)), (4, .int (iI c)), (5, .int (iI d))] rfl (Nat.le_of_ble_eq_true rfl) (fun p_ e_ s_ m_ a_ b_ h_ c_ Q A C hne hQ => ?_)
  have hN := CW_N hW
  refine g_aload_n C dX4_change_0 0 rfl rfl (q := 1) rfl ?_
  refine g_iload_n C dX4_change_1 1 rfl rfl (q := 2) rfl ?_
  refine g_iload_n C dX4_change_2 2 rfl rfl (q := 3) rfl ?_
  refine g_iload_n C dX4_change_3 3 rfl rfl (q := 4) rfl ?_
  refine g_iload C dX4_change_4 4 rfl (q := 6) rfl ?_
  refine g_iload C dX4_change_6 5 rfl (q := 8) rfl ?_
  refine g_cV_i C (As := [.int (iI k), .int (iI r), .int (iI b), .int (iI c), .int (iI d)]) (c_X4_faultOf l E _ k r b c d  (by omega) (by omega) (by omega) (by omega) (by omega) (by assumption)) ml_X4_268 mf_X4_faultOf (o := 0) (ci := 4) rfl rfl rfl rfl ⟨(Nat.le_of_ble_eq_true rfl), (Nat.le_of_ble_eq_true rfl)⟩ rfl rfl rfl (Nat.le_of_ble_eq_true rfl) ⟨(Nat.le_of_ble_eq_true rfl), (Nat.le_of_ble_eq_true rfl)⟩ dX4_change_8 (q := 11) rfl ?_
  exact g_xS C hne (As := [.int (iI (FK (σ 2) k r b c d))]) (x_X4_raise_1 l hst E _ (FK (σ 2) k r b c d)  (by assumption)) ml_X4_63 mf_X4_raise rfl rfl ⟨(Nat.le_of_ble_eq_true rfl), (Nat.le_of_ble_eq_true rfl)⟩ rfl rfl rfl (Nat.le_of_ble_eq_true rfl) ⟨(Nat.le_of_ble_eq_true rfl), (Nat.le_of_ble_eq_true rfl)⟩ dX4_change_11 hQ
set_option maxRecDepth 100000 in
set_option maxHeartbeats 4000000 in
theorem x_X4_change_2 (l : Launch) (hst : l.stackTraces = false) (E : EV) (σ : SS) (k r b c d : Int) (hk : 0 ≤ k ∧ k ≤ 8) (hr_r : -2147483648 ≤ r ∧ r ≤ 2147483647) (hr_b : -2147483648 ≤ b ∧ b ≤ 2147483647) (hr_c : -2147483648 ≤ c ∧ c ≤ 2147483647) (hr_d : -2147483648 ≤ d ∧ d ≤ 2147483647) (hW : CW (σ 2)) (hF : FK (σ 2) k r b c d = 2) : Kx l yX4_change (cw yX4_change cX4_change 7 (some .int)) rmx_X4_change E [.ref (ea E 0), .int (iI k), .int (iI r), .int (iI b), .int (iI c), .int (iI d)] σ xIAE σ := by
  refine Kx_of (rm := rmx_X4_change) (mL := 7) (b := cX4_change) RX4 rfl (by decide +kernel) [(0, .ref (ea E 0)), (1, .int (iI k)), (2, .int (iI r)), (3, .int (iI b)), (4, .int (iI c)), (5, .int (iI d))] rfl (Nat.le_of_ble_eq_true rfl) (fun p_ e_ s_ m_ a_ b_ h_ c_ Q A C hne hQ => ?_)
  have hN := CW_N hW
  refine g_aload_n C dX4_change_0 0 rfl rfl (q := 1) rfl ?_
  refine g_iload_n C dX4_change_1 1 rfl rfl (q := 2) rfl ?_
  refine g_iload_n C dX4_change_2 2 rfl rfl (q := 3) rfl ?_
  refine g_iload_n C dX4_change_3 3 rfl rfl (q := 4) rfl ?_
  refine g_iload C dX4_change_4 4 rfl (q := 6) rfl ?_
  refine g_iload C dX4_change_6 5 rfl (q := 8) rfl ?_
  refine g_cV_i C (As := [.int (iI k), .int (iI r), .int (iI b), .int (iI c), .int (iI d)]) (c_X4_faultOf l E _ k r b c d  (by omega) (by omega) (by omega) (by omega) (by omega) (by assumption)) ml_X4_268 mf_X4_faultOf (o := 0) (ci := 4) rfl rfl rfl rfl ⟨(Nat.le_of_ble_eq_true rfl), (Nat.le_of_ble_eq_true rfl)⟩ rfl rfl rfl (Nat.le_of_ble_eq_true rfl) ⟨(Nat.le_of_ble_eq_true rfl), (Nat.le_of_ble_eq_true rfl)⟩ dX4_change_8 (q := 11) rfl ?_
  exact g_xS C hne (As := [.int (iI (FK (σ 2) k r b c d))]) (x_X4_raise_2 l hst E _ (FK (σ 2) k r b c d)  (by assumption)) ml_X4_63 mf_X4_raise rfl rfl ⟨(Nat.le_of_ble_eq_true rfl), (Nat.le_of_ble_eq_true rfl)⟩ rfl rfl rfl (Nat.le_of_ble_eq_true rfl) ⟨(Nat.le_of_ble_eq_true rfl), (Nat.le_of_ble_eq_true rfl)⟩ dX4_change_11 hQ
set_option maxRecDepth 100000 in
set_option maxHeartbeats 4000000 in
theorem x_X4_change_3 (l : Launch) (hst : l.stackTraces = false) (E : EV) (σ : SS) (k r b c d : Int) (hk : 0 ≤ k ∧ k ≤ 8) (hr_r : -2147483648 ≤ r ∧ r ≤ 2147483647) (hr_b : -2147483648 ≤ b ∧ b ≤ 2147483647) (hr_c : -2147483648 ≤ c ∧ c ≤ 2147483647) (hr_d : -2147483648 ≤ d ∧ d ≤ 2147483647) (hW : CW (σ 2)) (hF : FK (σ 2) k r b c d = 3) : Kx l yX4_change (cw yX4_change cX4_change 7 (some .int)) rmx_X4_change E [.ref (ea E 0), .int (iI k), .int (iI r), .int (iI b), .int (iI c), .int (iI d)] σ xISE σ := by
  refine Kx_of (rm := rmx_X4_change) (mL := 7) (b := cX4_change) RX4 rfl (by decide +kernel) [(0, .ref (ea E 0)), (1, .int (iI k)), (2, .int (iI r)), (3, .int (iI b)), (4, .int (iI c)), (5, .int (iI d))] rfl (Nat.le_of_ble_eq_true rfl) (fun p_ e_ s_ m_ a_ b_ h_ c_ Q A C hne hQ => ?_)
  have hN := CW_N hW
  refine g_aload_n C dX4_change_0 0 rfl rfl (q := 1) rfl ?_
  refine g_iload_n C dX4_change_1 1 rfl rfl (q := 2) rfl ?_
  refine g_iload_n C dX4_change_2 2 rfl rfl (q := 3) rfl ?_
  refine g_iload_n C dX4_change_3 3 rfl rfl (q := 4) rfl ?_
  refine g_iload C dX4_change_4 4 rfl (q := 6) rfl ?_
  refine g_iload C dX4_change_6 5 rfl (q := 8) rfl ?_
  refine g_cV_i C (As := [.int (iI k), .int (iI r), .int (iI b), .int (iI c), .int (iI d)]) (c_X4_faultOf l E _ k r b c d  (by omega) (by omega) (by omega) (by omega) (by omega) (by assumption)) ml_X4_268 mf_X4_faultOf (o := 0) (ci := 4) rfl rfl rfl rfl ⟨(Nat.le_of_ble_eq_true rfl), (Nat.le_of_ble_eq_true rfl)⟩ rfl rfl rfl (Nat.le_of_ble_eq_true rfl) ⟨(Nat.le_of_ble_eq_true rfl), (Nat.le_of_ble_eq_true rfl)⟩ dX4_change_8 (q := 11) rfl ?_
  exact g_xS C hne (As := [.int (iI (FK (σ 2) k r b c d))]) (x_X4_raise_3 l hst E _ (FK (σ 2) k r b c d)  (by assumption)) ml_X4_63 mf_X4_raise rfl rfl ⟨(Nat.le_of_ble_eq_true rfl), (Nat.le_of_ble_eq_true rfl)⟩ rfl rfl rfl (Nat.le_of_ble_eq_true rfl) ⟨(Nat.le_of_ble_eq_true rfl), (Nat.le_of_ble_eq_true rfl)⟩ dX4_change_11 hQ
abbrev rm_X4_append : Room := { frames := 7, cells := 0, slots := 0, locals := 166 }
set_option maxRecDepth 100000 in
set_option maxHeartbeats 4000000 in
theorem c_X4_append (l : Launch) (E : EV) (σ : SS) (r b c : Int) (hr_r : -2147483648 ≤ r ∧ r ≤ 2147483647) (hr_b : -2147483648 ≤ b ∧ b ≤ 2147483647) (hr_c : -2147483648 ≤ c ∧ c ≤ 2147483647) (hW : CW (σ 2)) (hh : 0 ≤ (σ 5 1) ∧ (σ 5 1) < 8 ∧ 0 ≤ (σ 5 2) ∧ (σ 5 2) ≤ 8) (hF : FK (σ 2) 0 r b c 0 = 0) : Ki l yX4_append (cw yX4_append cX4_append 4 (some .int)) rm_X4_append E [.ref (ea E 0), .int (iI r), .int (iI b), .int (iI c)] σ (opR (σ 2) 0 r b c 0) (st (st (st (st σ 2 (refF (opF (σ 2) 0 r b c 0))) 3 (cpf (σ 2) (σ 3) 0 0 310)) 5 (pt (pt (σ 5) 1 (nx8 (σ 5 1))) 2 (min ((σ 5 2) + 1) 8))) 6 (cpf (cpf (σ 2) (σ 3) 0 0 310) (σ 6) 0 ((σ 5 1) * 310) 310)) := by
  refine Ki_of (rm := rm_X4_append) (mL := 4) (b := cX4_append) RX4 rfl (by decide +kernel) rfl rfl [(0, .ref (ea E 0)), (1, .int (iI r)), (2, .int (iI b)), (3, .int (iI c))] rfl (Nat.le_of_ble_eq_true rfl) (fun p_ e_ s_ m_ a_ b_ h_ c_ Q A C hret => ?_)
  refine g_aload_n C dX4_append_0 0 rfl rfl (q := 1) rfl ?_
  refine g_iconst C dX4_append_1 (q := 2) rfl ?_
  refine g_iload_n C dX4_append_2 1 rfl rfl (q := 3) rfl ?_
  refine g_iload_n C dX4_append_3 2 rfl rfl (q := 4) rfl ?_
  refine g_iload_n C dX4_append_4 3 rfl rfl (q := 5) rfl ?_
  refine g_iconst C dX4_append_5 (q := 6) rfl ?_
  refine g_cV_i C (As := [.int (iI 0), .int (iI r), .int (iI b), .int (iI c), .int (iI 0)]) (c_X4_change l E _ 0 r b c 0  (by omega) (by omega) (by omega) (by omega) (by omega) (by assumption) (by omega) (by assumption)) ml_X4_55 mf_X4_change (o := 0) (ci := 4) rfl rfl rfl rfl ⟨(Nat.le_of_ble_eq_true rfl), (Nat.le_of_ble_eq_true rfl)⟩ rfl rfl rfl (Nat.le_of_ble_eq_true rfl) ⟨(Nat.le_of_ble_eq_true rfl), (Nat.le_of_ble_eq_true rfl)⟩ dX4_append_6 (q := 9) rfl ?_
  exact hret _ _ _ dX4_append_9 rfl
abbrev rmx_X4_append : Room := { frames := 8, cells := 1, slots := 6, locals := 163 }
set_option maxRecDepth 100000 in
set_option maxHeartbeats 4000000 in
theorem x_X4_append_1 (l : Launch) (hst : l.stackTraces = false) (E : EV) (σ : SS) (r b c : Int) (hr_r : -2147483648 ≤ r ∧ r ≤ 2147483647) (hr_b : -2147483648 ≤ b ∧ b ≤ 2147483647) (hr_c : -2147483648 ≤ c ∧ c ≤ 2147483647) (hW : CW (σ 2)) (hF : FK (σ 2) 0 r b c 0 = 1) : Kx l yX4_append (cw yX4_append cX4_append 4 (some .int)) rmx_X4_append E [.ref (ea E 0), .int (iI r), .int (iI b), .int (iI c)] σ xIOOBE σ := by
  refine Kx_of (rm := rmx_X4_append) (mL := 4) (b := cX4_append) RX4 rfl (by decide +kernel) [(0, .ref (ea E 0)), (1, .int (iI r)), (2, .int (iI b)), (3, .int (iI c))] rfl (Nat.le_of_ble_eq_true rfl) (fun p_ e_ s_ m_ a_ b_ h_ c_ Q A C hne hQ => ?_)
  refine g_aload_n C dX4_append_0 0 rfl rfl (q := 1) rfl ?_
  refine g_iconst C dX4_append_1 (q := 2) rfl ?_
  refine g_iload_n C dX4_append_2 1 rfl rfl (q := 3) rfl ?_
  refine g_iload_n C dX4_append_3 2 rfl rfl (q := 4) rfl ?_
  refine g_iload_n C dX4_append_4 3 rfl rfl (q := 5) rfl ?_
  refine g_iconst C dX4_append_5 (q := 6) rfl ?_
  exact g_xV C hne (As := [.int (iI 0), .int (iI r), .int (iI b), .int (iI c), .int (iI 0)]) (x_X4_change_1 l hst E _ 0 r b c 0  (by omega) (by omega) (by omega) (by omega) (by omega) (by assumption) (by assumption)) ml_X4_55 mf_X4_change (o := 0) (ci := 4) rfl rfl rfl rfl ⟨(Nat.le_of_ble_eq_true rfl), (Nat.le_of_ble_eq_true rfl)⟩ rfl rfl rfl (Nat.le_of_ble_eq_true rfl) ⟨(Nat.le_of_ble_eq_true rfl), (Nat.le_of_ble_eq_true rfl)⟩ dX4_append_6 hQ
set_option maxRecDepth 100000 in
set_option maxHeartbeats 4000000 in
theorem x_X4_append_2 (l : Launch) (hst : l.stackTraces = false) (E : EV) (σ : SS) (r b c : Int) (hr_r : -2147483648 ≤ r ∧ r ≤ 2147483647) (hr_b : -2147483648 ≤ b ∧ b ≤ 2147483647) (hr_c : -2147483648 ≤ c ∧ c ≤ 2147483647) (hW : CW (σ 2)) (hF : FK (σ 2) 0 r b c 0 = 2) : Kx l yX4_append (cw yX4_append cX4_append 4 (some .int)) rmx_X4_append E [.ref (ea E 0), .int (iI r), .int (iI b), .int (iI c)] σ xIAE σ := by
  refine Kx_of (rm := rmx_X4_append) (mL := 4) (b := cX4_append) RX4 rfl (by decide +kernel) [(0, .ref (ea E 0)), (1, .int (iI r)), (2, .int (iI b)), (3, .int (iI c))] rfl (Nat.le_of_ble_eq_true rfl) (fun p_ e_ s_ m_ a_ b_ h_ c_ Q A C hne hQ => ?_)
  refine g_aload_n C dX4_append_0 0 rfl rfl (q := 1) rfl ?_
  refine g_iconst C dX4_append_1 (q := 2) rfl ?_
  refine g_iload_n C dX4_append_2 1 rfl rfl (q := 3) rfl ?_
  refine g_iload_n C dX4_append_3 2 rfl rfl (q := 4) rfl ?_
  refine g_iload_n C dX4_append_4 3 rfl rfl (q := 5) rfl ?_
  refine g_iconst C dX4_append_5 (q := 6) rfl ?_
  exact g_xV C hne (As := [.int (iI 0), .int (iI r), .int (iI b), .int (iI c), .int (iI 0)]) (x_X4_change_2 l hst E _ 0 r b c 0  (by omega) (by omega) (by omega) (by omega) (by omega) (by assumption) (by assumption)) ml_X4_55 mf_X4_change (o := 0) (ci := 4) rfl rfl rfl rfl ⟨(Nat.le_of_ble_eq_true rfl), (Nat.le_of_ble_eq_true rfl)⟩ rfl rfl rfl (Nat.le_of_ble_eq_true rfl) ⟨(Nat.le_of_ble_eq_true rfl), (Nat.le_of_ble_eq_true rfl)⟩ dX4_append_6 hQ
set_option maxRecDepth 100000 in
set_option maxHeartbeats 4000000 in
theorem x_X4_append_3 (l : Launch) (hst : l.stackTraces = false) (E : EV) (σ : SS) (r b c : Int) (hr_r : -2147483648 ≤ r ∧ r ≤ 2147483647) (hr_b : -2147483648 ≤ b ∧ b ≤ 2147483647) (hr_c : -2147483648 ≤ c ∧ c ≤ 2147483647) (hW : CW (σ 2)) (hF : FK (σ 2) 0 r b c 0 = 3) : Kx l yX4_append (cw yX4_append cX4_append 4 (some .int)) rmx_X4_append E [.ref (ea E 0), .int (iI r), .int (iI b), .int (iI c)] σ xISE σ := by
  refine Kx_of (rm := rmx_X4_append) (mL := 4) (b := cX4_append) RX4 rfl (by decide +kernel) [(0, .ref (ea E 0)), (1, .int (iI r)), (2, .int (iI b)), (3, .int (iI c))] rfl (Nat.le_of_ble_eq_true rfl) (fun p_ e_ s_ m_ a_ b_ h_ c_ Q A C hne hQ => ?_)
  refine g_aload_n C dX4_append_0 0 rfl rfl (q := 1) rfl ?_
  refine g_iconst C dX4_append_1 (q := 2) rfl ?_
  refine g_iload_n C dX4_append_2 1 rfl rfl (q := 3) rfl ?_
  refine g_iload_n C dX4_append_3 2 rfl rfl (q := 4) rfl ?_
  refine g_iload_n C dX4_append_4 3 rfl rfl (q := 5) rfl ?_
  refine g_iconst C dX4_append_5 (q := 6) rfl ?_
  exact g_xV C hne (As := [.int (iI 0), .int (iI r), .int (iI b), .int (iI c), .int (iI 0)]) (x_X4_change_3 l hst E _ 0 r b c 0  (by omega) (by omega) (by omega) (by omega) (by omega) (by assumption) (by assumption)) ml_X4_55 mf_X4_change (o := 0) (ci := 4) rfl rfl rfl rfl ⟨(Nat.le_of_ble_eq_true rfl), (Nat.le_of_ble_eq_true rfl)⟩ rfl rfl rfl (Nat.le_of_ble_eq_true rfl) ⟨(Nat.le_of_ble_eq_true rfl), (Nat.le_of_ble_eq_true rfl)⟩ dX4_append_6 hQ
abbrev rm_X4_insert : Room := { frames := 7, cells := 0, slots := 0, locals := 166 }
set_option maxRecDepth 100000 in
set_option maxHeartbeats 4000000 in
theorem c_X4_insert (l : Launch) (E : EV) (σ : SS) (r b c d : Int) (hr_r : -2147483648 ≤ r ∧ r ≤ 2147483647) (hr_b : -2147483648 ≤ b ∧ b ≤ 2147483647) (hr_c : -2147483648 ≤ c ∧ c ≤ 2147483647) (hr_d : -2147483648 ≤ d ∧ d ≤ 2147483647) (hW : CW (σ 2)) (hh : 0 ≤ (σ 5 1) ∧ (σ 5 1) < 8 ∧ 0 ≤ (σ 5 2) ∧ (σ 5 2) ≤ 8) (hF : FK (σ 2) 1 r b c d = 0) : Ki l yX4_insert (cw yX4_insert cX4_insert 5 (some .int)) rm_X4_insert E [.ref (ea E 0), .int (iI r), .int (iI b), .int (iI c), .int (iI d)] σ (opR (σ 2) 1 r b c d) (st (st (st (st σ 2 (refF (opF (σ 2) 1 r b c d))) 3 (cpf (σ 2) (σ 3) 0 0 310)) 5 (pt (pt (σ 5) 1 (nx8 (σ 5 1))) 2 (min ((σ 5 2) + 1) 8))) 6 (cpf (cpf (σ 2) (σ 3) 0 0 310) (σ 6) 0 ((σ 5 1) * 310) 310)) := by
  refine Ki_of (rm := rm_X4_insert) (mL := 5) (b := cX4_insert) RX4 rfl (by decide +kernel) rfl rfl [(0, .ref (ea E 0)), (1, .int (iI r)), (2, .int (iI b)), (3, .int (iI c)), (4, .int (iI d))] rfl (Nat.le_of_ble_eq_true rfl) (fun p_ e_ s_ m_ a_ b_ h_ c_ Q A C hret => ?_)
  refine g_aload_n C dX4_insert_0 0 rfl rfl (q := 1) rfl ?_
  refine g_iconst C dX4_insert_1 (q := 2) rfl ?_
  refine g_iload_n C dX4_insert_2 1 rfl rfl (q := 3) rfl ?_
  refine g_iload_n C dX4_insert_3 2 rfl rfl (q := 4) rfl ?_
  refine g_iload_n C dX4_insert_4 3 rfl rfl (q := 5) rfl ?_
  refine g_iload C dX4_insert_5 4 rfl (q := 7) rfl ?_
  refine g_cV_i C (As := [.int (iI 1), .int (iI r), .int (iI b), .int (iI c), .int (iI d)]) (c_X4_change l E _ 1 r b c d  (by omega) (by omega) (by omega) (by omega) (by omega) (by assumption) (by omega) (by assumption)) ml_X4_55 mf_X4_change (o := 0) (ci := 4) rfl rfl rfl rfl ⟨(Nat.le_of_ble_eq_true rfl), (Nat.le_of_ble_eq_true rfl)⟩ rfl rfl rfl (Nat.le_of_ble_eq_true rfl) ⟨(Nat.le_of_ble_eq_true rfl), (Nat.le_of_ble_eq_true rfl)⟩ dX4_insert_7 (q := 10) rfl ?_
  exact hret _ _ _ dX4_insert_10 rfl
abbrev rmx_X4_insert : Room := { frames := 8, cells := 1, slots := 6, locals := 163 }
set_option maxRecDepth 100000 in
set_option maxHeartbeats 4000000 in
theorem x_X4_insert_1 (l : Launch) (hst : l.stackTraces = false) (E : EV) (σ : SS) (r b c d : Int) (hr_r : -2147483648 ≤ r ∧ r ≤ 2147483647) (hr_b : -2147483648 ≤ b ∧ b ≤ 2147483647) (hr_c : -2147483648 ≤ c ∧ c ≤ 2147483647) (hr_d : -2147483648 ≤ d ∧ d ≤ 2147483647) (hW : CW (σ 2)) (hF : FK (σ 2) 1 r b c d = 1) : Kx l yX4_insert (cw yX4_insert cX4_insert 5 (some .int)) rmx_X4_insert E [.ref (ea E 0), .int (iI r), .int (iI b), .int (iI c), .int (iI d)] σ xIOOBE σ := by
  refine Kx_of (rm := rmx_X4_insert) (mL := 5) (b := cX4_insert) RX4 rfl (by decide +kernel) [(0, .ref (ea E 0)), (1, .int (iI r)), (2, .int (iI b)), (3, .int (iI c)), (4, .int (iI d))] rfl (Nat.le_of_ble_eq_true rfl) (fun p_ e_ s_ m_ a_ b_ h_ c_ Q A C hne hQ => ?_)
  refine g_aload_n C dX4_insert_0 0 rfl rfl (q := 1) rfl ?_
  refine g_iconst C dX4_insert_1 (q := 2) rfl ?_
  refine g_iload_n C dX4_insert_2 1 rfl rfl (q := 3) rfl ?_
  refine g_iload_n C dX4_insert_3 2 rfl rfl (q := 4) rfl ?_
  refine g_iload_n C dX4_insert_4 3 rfl rfl (q := 5) rfl ?_
  refine g_iload C dX4_insert_5 4 rfl (q := 7) rfl ?_
  exact g_xV C hne (As := [.int (iI 1), .int (iI r), .int (iI b), .int (iI c), .int (iI d)]) (x_X4_change_1 l hst E _ 1 r b c d  (by omega) (by omega) (by omega) (by omega) (by omega) (by assumption) (by assumption)) ml_X4_55 mf_X4_change (o := 0) (ci := 4) rfl rfl rfl rfl ⟨(Nat.le_of_ble_eq_true rfl), (Nat.le_of_ble_eq_true rfl)⟩ rfl rfl rfl (Nat.le_of_ble_eq_true rfl) ⟨(Nat.le_of_ble_eq_true rfl), (Nat.le_of_ble_eq_true rfl)⟩ dX4_insert_7 hQ
set_option maxRecDepth 100000 in
set_option maxHeartbeats 4000000 in
theorem x_X4_insert_2 (l : Launch) (hst : l.stackTraces = false) (E : EV) (σ : SS) (r b c d : Int) (hr_r : -2147483648 ≤ r ∧ r ≤ 2147483647) (hr_b : -2147483648 ≤ b ∧ b ≤ 2147483647) (hr_c : -2147483648 ≤ c ∧ c ≤ 2147483647) (hr_d : -2147483648 ≤ d ∧ d ≤ 2147483647) (hW : CW (σ 2)) (hF : FK (σ 2) 1 r b c d = 2) : Kx l yX4_insert (cw yX4_insert cX4_insert 5 (some .int)) rmx_X4_insert E [.ref (ea E 0), .int (iI r), .int (iI b), .int (iI c), .int (iI d)] σ xIAE σ := by
  refine Kx_of (rm := rmx_X4_insert) (mL := 5) (b := cX4_insert) RX4 rfl (by decide +kernel) [(0, .ref (ea E 0)), (1, .int (iI r)), (2, .int (iI b)), (3, .int (iI c)), (4, .int (iI d))] rfl (Nat.le_of_ble_eq_true rfl) (fun p_ e_ s_ m_ a_ b_ h_ c_ Q A C hne hQ => ?_)
  refine g_aload_n C dX4_insert_0 0 rfl rfl (q := 1) rfl ?_
  refine g_iconst C dX4_insert_1 (q := 2) rfl ?_
  refine g_iload_n C dX4_insert_2 1 rfl rfl (q := 3) rfl ?_
  refine g_iload_n C dX4_insert_3 2 rfl rfl (q := 4) rfl ?_
  refine g_iload_n C dX4_insert_4 3 rfl rfl (q := 5) rfl ?_
  refine g_iload C dX4_insert_5 4 rfl (q := 7) rfl ?_
  exact g_xV C hne (As := [.int (iI 1), .int (iI r), .int (iI b), .int (iI c), .int (iI d)]) (x_X4_change_2 l hst E _ 1 r b c d  (by omega) (by omega) (by omega) (by omega) (by omega) (by assumption) (by assumption)) ml_X4_55 mf_X4_change (o := 0) (ci := 4) rfl rfl rfl rfl ⟨(Nat.le_of_ble_eq_true rfl), (Nat.le_of_ble_eq_true rfl)⟩ rfl rfl rfl (Nat.le_of_ble_eq_true rfl) ⟨(Nat.le_of_ble_eq_true rfl), (Nat.le_of_ble_eq_true rfl)⟩ dX4_insert_7 hQ
set_option maxRecDepth 100000 in
set_option maxHeartbeats 4000000 in
theorem x_X4_insert_3 (l : Launch) (hst : l.stackTraces = false) (E : EV) (σ : SS) (r b c d : Int) (hr_r : -2147483648 ≤ r ∧ r ≤ 2147483647) (hr_b : -2147483648 ≤ b ∧ b ≤ 2147483647) (hr_c : -2147483648 ≤ c ∧ c ≤ 2147483647) (hr_d : -2147483648 ≤ d ∧ d ≤ 2147483647) (hW : CW (σ 2)) (hF : FK (σ 2) 1 r b c d = 3) : Kx l yX4_insert (cw yX4_insert cX4_insert 5 (some .int)) rmx_X4_insert E [.ref (ea E 0), .int (iI r), .int (iI b), .int (iI c), .int (iI d)] σ xISE σ := by
  refine Kx_of (rm := rmx_X4_insert) (mL := 5) (b := cX4_insert) RX4 rfl (by decide +kernel) [(0, .ref (ea E 0)), (1, .int (iI r)), (2, .int (iI b)), (3, .int (iI c)), (4, .int (iI d))] rfl (Nat.le_of_ble_eq_true rfl) (fun p_ e_ s_ m_ a_ b_ h_ c_ Q A C hne hQ => ?_)
  refine g_aload_n C dX4_insert_0 0 rfl rfl (q := 1) rfl ?_
  refine g_iconst C dX4_insert_1 (q := 2) rfl ?_
  refine g_iload_n C dX4_insert_2 1 rfl rfl (q := 3) rfl ?_
  refine g_iload_n C dX4_insert_3 2 rfl rfl (q := 4) rfl ?_
  refine g_iload_n C dX4_insert_4 3 rfl rfl (q := 5) rfl ?_
  refine g_iload C dX4_insert_5 4 rfl (q := 7) rfl ?_
  exact g_xV C hne (As := [.int (iI 1), .int (iI r), .int (iI b), .int (iI c), .int (iI d)]) (x_X4_change_3 l hst E _ 1 r b c d  (by omega) (by omega) (by omega) (by omega) (by omega) (by assumption) (by assumption)) ml_X4_55 mf_X4_change (o := 0) (ci := 4) rfl rfl rfl rfl ⟨(Nat.le_of_ble_eq_true rfl), (Nat.le_of_ble_eq_true rfl)⟩ rfl rfl rfl (Nat.le_of_ble_eq_true rfl) ⟨(Nat.le_of_ble_eq_true rfl), (Nat.le_of_ble_eq_true rfl)⟩ dX4_insert_7 hQ
abbrev rm_X4_remove : Room := { frames := 7, cells := 0, slots := 0, locals := 166 }
set_option maxRecDepth 100000 in
set_option maxHeartbeats 4000000 in
theorem c_X4_remove (l : Launch) (E : EV) (σ : SS) (r b : Int) (hr_r : -2147483648 ≤ r ∧ r ≤ 2147483647) (hr_b : -2147483648 ≤ b ∧ b ≤ 2147483647) (hW : CW (σ 2)) (hh : 0 ≤ (σ 5 1) ∧ (σ 5 1) < 8 ∧ 0 ≤ (σ 5 2) ∧ (σ 5 2) ≤ 8) (hF : FK (σ 2) 2 r b 0 0 = 0) : Ki l yX4_remove (cw yX4_remove cX4_remove 3 (some .int)) rm_X4_remove E [.ref (ea E 0), .int (iI r), .int (iI b)] σ (opR (σ 2) 2 r b 0 0) (st (st (st (st σ 2 (refF (opF (σ 2) 2 r b 0 0))) 3 (cpf (σ 2) (σ 3) 0 0 310)) 5 (pt (pt (σ 5) 1 (nx8 (σ 5 1))) 2 (min ((σ 5 2) + 1) 8))) 6 (cpf (cpf (σ 2) (σ 3) 0 0 310) (σ 6) 0 ((σ 5 1) * 310) 310)) := by
  refine Ki_of (rm := rm_X4_remove) (mL := 3) (b := cX4_remove) RX4 rfl (by decide +kernel) rfl rfl [(0, .ref (ea E 0)), (1, .int (iI r)), (2, .int (iI b))] rfl (Nat.le_of_ble_eq_true rfl) (fun p_ e_ s_ m_ a_ b_ h_ c_ Q A C hret => ?_)
  refine g_aload_n C dX4_remove_0 0 rfl rfl (q := 1) rfl ?_
  refine g_iconst C dX4_remove_1 (q := 2) rfl ?_
  refine g_iload_n C dX4_remove_2 1 rfl rfl (q := 3) rfl ?_
  refine g_iload_n C dX4_remove_3 2 rfl rfl (q := 4) rfl ?_
  refine g_iconst C dX4_remove_4 (q := 5) rfl ?_
  refine g_iconst C dX4_remove_5 (q := 6) rfl ?_
  refine g_cV_i C (As := [.int (iI 2), .int (iI r), .int (iI b), .int (iI 0), .int (iI 0)]) (c_X4_change l E _ 2 r b 0 0  (by omega) (by omega) (by omega) (by omega) (by omega) (by assumption) (by omega) (by assumption)) ml_X4_55 mf_X4_change (o := 0) (ci := 4) rfl rfl rfl rfl ⟨(Nat.le_of_ble_eq_true rfl), (Nat.le_of_ble_eq_true rfl)⟩ rfl rfl rfl (Nat.le_of_ble_eq_true rfl) ⟨(Nat.le_of_ble_eq_true rfl), (Nat.le_of_ble_eq_true rfl)⟩ dX4_remove_6 (q := 9) rfl ?_
  exact hret _ _ _ dX4_remove_9 rfl
abbrev rmx_X4_remove : Room := { frames := 8, cells := 1, slots := 6, locals := 163 }
set_option maxRecDepth 100000 in
set_option maxHeartbeats 4000000 in
theorem x_X4_remove_1 (l : Launch) (hst : l.stackTraces = false) (E : EV) (σ : SS) (r b : Int) (hr_r : -2147483648 ≤ r ∧ r ≤ 2147483647) (hr_b : -2147483648 ≤ b ∧ b ≤ 2147483647) (hW : CW (σ 2)) (hF : FK (σ 2) 2 r b 0 0 = 1) : Kx l yX4_remove (cw yX4_remove cX4_remove 3 (some .int)) rmx_X4_remove E [.ref (ea E 0), .int (iI r), .int (iI b)] σ xIOOBE σ := by
  refine Kx_of (rm := rmx_X4_remove) (mL := 3) (b := cX4_remove) RX4 rfl (by decide +kernel) [(0, .ref (ea E 0)), (1, .int (iI r)), (2, .int (iI b))] rfl (Nat.le_of_ble_eq_true rfl) (fun p_ e_ s_ m_ a_ b_ h_ c_ Q A C hne hQ => ?_)
  refine g_aload_n C dX4_remove_0 0 rfl rfl (q := 1) rfl ?_
  refine g_iconst C dX4_remove_1 (q := 2) rfl ?_
  refine g_iload_n C dX4_remove_2 1 rfl rfl (q := 3) rfl ?_
  refine g_iload_n C dX4_remove_3 2 rfl rfl (q := 4) rfl ?_
  refine g_iconst C dX4_remove_4 (q := 5) rfl ?_
  refine g_iconst C dX4_remove_5 (q := 6) rfl ?_
  exact g_xV C hne (As := [.int (iI 2), .int (iI r), .int (iI b), .int (iI 0), .int (iI 0)]) (x_X4_change_1 l hst E _ 2 r b 0 0  (by omega) (by omega) (by omega) (by omega) (by omega) (by assumption) (by assumption)) ml_X4_55 mf_X4_change (o := 0) (ci := 4) rfl rfl rfl rfl ⟨(Nat.le_of_ble_eq_true rfl), (Nat.le_of_ble_eq_true rfl)⟩ rfl rfl rfl (Nat.le_of_ble_eq_true rfl) ⟨(Nat.le_of_ble_eq_true rfl), (Nat.le_of_ble_eq_true rfl)⟩ dX4_remove_6 hQ
abbrev rm_X4_retie : Room := { frames := 7, cells := 0, slots := 0, locals := 166 }
set_option maxRecDepth 100000 in
set_option maxHeartbeats 4000000 in
theorem c_X4_retie (l : Launch) (E : EV) (σ : SS) (r b c : Int) (hr_r : -2147483648 ≤ r ∧ r ≤ 2147483647) (hr_b : -2147483648 ≤ b ∧ b ≤ 2147483647) (hr_c : -2147483648 ≤ c ∧ c ≤ 2147483647) (hW : CW (σ 2)) (hh : 0 ≤ (σ 5 1) ∧ (σ 5 1) < 8 ∧ 0 ≤ (σ 5 2) ∧ (σ 5 2) ≤ 8) (hF : FK (σ 2) 3 r b c 0 = 0) : Ki l yX4_retie (cw yX4_retie cX4_retie 4 (some .int)) rm_X4_retie E [.ref (ea E 0), .int (iI r), .int (iI b), .int (iI c)] σ (opR (σ 2) 3 r b c 0) (st (st (st (st σ 2 (refF (opF (σ 2) 3 r b c 0))) 3 (cpf (σ 2) (σ 3) 0 0 310)) 5 (pt (pt (σ 5) 1 (nx8 (σ 5 1))) 2 (min ((σ 5 2) + 1) 8))) 6 (cpf (cpf (σ 2) (σ 3) 0 0 310) (σ 6) 0 ((σ 5 1) * 310) 310)) := by
  refine Ki_of (rm := rm_X4_retie) (mL := 4) (b := cX4_retie) RX4 rfl (by decide +kernel) rfl rfl [(0, .ref (ea E 0)), (1, .int (iI r)), (2, .int (iI b)), (3, .int (iI c))] rfl (Nat.le_of_ble_eq_true rfl) (fun p_ e_ s_ m_ a_ b_ h_ c_ Q A C hret => ?_)
  refine g_aload_n C dX4_retie_0 0 rfl rfl (q := 1) rfl ?_
  refine g_iconst C dX4_retie_1 (q := 2) rfl ?_
  refine g_iload_n C dX4_retie_2 1 rfl rfl (q := 3) rfl ?_
  refine g_iload_n C dX4_retie_3 2 rfl rfl (q := 4) rfl ?_
  refine g_iload_n C dX4_retie_4 3 rfl rfl (q := 5) rfl ?_
  refine g_iconst C dX4_retie_5 (q := 6) rfl ?_
  refine g_cV_i C (As := [.int (iI 3), .int (iI r), .int (iI b), .int (iI c), .int (iI 0)]) (c_X4_change l E _ 3 r b c 0  (by omega) (by omega) (by omega) (by omega) (by omega) (by assumption) (by omega) (by assumption)) ml_X4_55 mf_X4_change (o := 0) (ci := 4) rfl rfl rfl rfl ⟨(Nat.le_of_ble_eq_true rfl), (Nat.le_of_ble_eq_true rfl)⟩ rfl rfl rfl (Nat.le_of_ble_eq_true rfl) ⟨(Nat.le_of_ble_eq_true rfl), (Nat.le_of_ble_eq_true rfl)⟩ dX4_retie_6 (q := 9) rfl ?_
  exact hret _ _ _ dX4_retie_9 rfl
abbrev rmx_X4_retie : Room := { frames := 8, cells := 1, slots := 6, locals := 163 }
set_option maxRecDepth 100000 in
set_option maxHeartbeats 4000000 in
theorem x_X4_retie_1 (l : Launch) (hst : l.stackTraces = false) (E : EV) (σ : SS) (r b c : Int) (hr_r : -2147483648 ≤ r ∧ r ≤ 2147483647) (hr_b : -2147483648 ≤ b ∧ b ≤ 2147483647) (hr_c : -2147483648 ≤ c ∧ c ≤ 2147483647) (hW : CW (σ 2)) (hF : FK (σ 2) 3 r b c 0 = 1) : Kx l yX4_retie (cw yX4_retie cX4_retie 4 (some .int)) rmx_X4_retie E [.ref (ea E 0), .int (iI r), .int (iI b), .int (iI c)] σ xIOOBE σ := by
  refine Kx_of (rm := rmx_X4_retie) (mL := 4) (b := cX4_retie) RX4 rfl (by decide +kernel) [(0, .ref (ea E 0)), (1, .int (iI r)), (2, .int (iI b)), (3, .int (iI c))] rfl (Nat.le_of_ble_eq_true rfl) (fun p_ e_ s_ m_ a_ b_ h_ c_ Q A C hne hQ => ?_)
  refine g_aload_n C dX4_retie_0 0 rfl rfl (q := 1) rfl ?_
  refine g_iconst C dX4_retie_1 (q := 2) rfl ?_
  refine g_iload_n C dX4_retie_2 1 rfl rfl (q := 3) rfl ?_
  refine g_iload_n C dX4_retie_3 2 rfl rfl (q := 4) rfl ?_
  refine g_iload_n C dX4_retie_4 3 rfl rfl (q := 5) rfl ?_
  refine g_iconst C dX4_retie_5 (q := 6) rfl ?_
  exact g_xV C hne (As := [.int (iI 3), .int (iI r), .int (iI b), .int (iI c), .int (iI 0)]) (x_X4_change_1 l hst E _ 3 r b c 0  (by omega) (by omega) (by omega) (by omega) (by omega) (by assumption) (by assumption)) ml_X4_55 mf_X4_change (o := 0) (ci := 4) rfl rfl rfl rfl ⟨(Nat.le_of_ble_eq_true rfl), (Nat.le_of_ble_eq_true rfl)⟩ rfl rfl rfl (Nat.le_of_ble_eq_true rfl) ⟨(Nat.le_of_ble_eq_true rfl), (Nat.le_of_ble_eq_true rfl)⟩ dX4_retie_6 hQ
set_option maxRecDepth 100000 in
set_option maxHeartbeats 4000000 in
theorem x_X4_retie_2 (l : Launch) (hst : l.stackTraces = false) (E : EV) (σ : SS) (r b c : Int) (hr_r : -2147483648 ≤ r ∧ r ≤ 2147483647) (hr_b : -2147483648 ≤ b ∧ b ≤ 2147483647) (hr_c : -2147483648 ≤ c ∧ c ≤ 2147483647) (hW : CW (σ 2)) (hF : FK (σ 2) 3 r b c 0 = 2) : Kx l yX4_retie (cw yX4_retie cX4_retie 4 (some .int)) rmx_X4_retie E [.ref (ea E 0), .int (iI r), .int (iI b), .int (iI c)] σ xIAE σ := by
  refine Kx_of (rm := rmx_X4_retie) (mL := 4) (b := cX4_retie) RX4 rfl (by decide +kernel) [(0, .ref (ea E 0)), (1, .int (iI r)), (2, .int (iI b)), (3, .int (iI c))] rfl (Nat.le_of_ble_eq_true rfl) (fun p_ e_ s_ m_ a_ b_ h_ c_ Q A C hne hQ => ?_)
  refine g_aload_n C dX4_retie_0 0 rfl rfl (q := 1) rfl ?_
  refine g_iconst C dX4_retie_1 (q := 2) rfl ?_
  refine g_iload_n C dX4_retie_2 1 rfl rfl (q := 3) rfl ?_
  refine g_iload_n C dX4_retie_3 2 rfl rfl (q := 4) rfl ?_
  refine g_iload_n C dX4_retie_4 3 rfl rfl (q := 5) rfl ?_
  refine g_iconst C dX4_retie_5 (q := 6) rfl ?_
  exact g_xV C hne (As := [.int (iI 3), .int (iI r), .int (iI b), .int (iI c), .int (iI 0)]) (x_X4_change_2 l hst E _ 3 r b c 0  (by omega) (by omega) (by omega) (by omega) (by omega) (by assumption) (by assumption)) ml_X4_55 mf_X4_change (o := 0) (ci := 4) rfl rfl rfl rfl ⟨(Nat.le_of_ble_eq_true rfl), (Nat.le_of_ble_eq_true rfl)⟩ rfl rfl rfl (Nat.le_of_ble_eq_true rfl) ⟨(Nat.le_of_ble_eq_true rfl), (Nat.le_of_ble_eq_true rfl)⟩ dX4_retie_6 hQ
abbrev rm_X4_cut : Room := { frames := 7, cells := 0, slots := 0, locals := 166 }
set_option maxRecDepth 100000 in
set_option maxHeartbeats 4000000 in
theorem c_X4_cut (l : Launch) (E : EV) (σ : SS) (r b c : Int) (hr_r : -2147483648 ≤ r ∧ r ≤ 2147483647) (hr_b : -2147483648 ≤ b ∧ b ≤ 2147483647) (hr_c : -2147483648 ≤ c ∧ c ≤ 2147483647) (hW : CW (σ 2)) (hh : 0 ≤ (σ 5 1) ∧ (σ 5 1) < 8 ∧ 0 ≤ (σ 5 2) ∧ (σ 5 2) ≤ 8) (hF : FK (σ 2) 4 r b c 0 = 0) : Ki l yX4_cut (cw yX4_cut cX4_cut 4 (some .int)) rm_X4_cut E [.ref (ea E 0), .int (iI r), .int (iI b), .int (iI c)] σ (opR (σ 2) 4 r b c 0) (st (st (st (st σ 2 (refF (opF (σ 2) 4 r b c 0))) 3 (cpf (σ 2) (σ 3) 0 0 310)) 5 (pt (pt (σ 5) 1 (nx8 (σ 5 1))) 2 (min ((σ 5 2) + 1) 8))) 6 (cpf (cpf (σ 2) (σ 3) 0 0 310) (σ 6) 0 ((σ 5 1) * 310) 310)) := by
  refine Ki_of (rm := rm_X4_cut) (mL := 4) (b := cX4_cut) RX4 rfl (by decide +kernel) rfl rfl [(0, .ref (ea E 0)), (1, .int (iI r)), (2, .int (iI b)), (3, .int (iI c))] rfl (Nat.le_of_ble_eq_true rfl) (fun p_ e_ s_ m_ a_ b_ h_ c_ Q A C hret => ?_)
  refine g_aload_n C dX4_cut_0 0 rfl rfl (q := 1) rfl ?_
  refine g_iconst C dX4_cut_1 (q := 2) rfl ?_
  refine g_iload_n C dX4_cut_2 1 rfl rfl (q := 3) rfl ?_
  refine g_iload_n C dX4_cut_3 2 rfl rfl (q := 4) rfl ?_
  refine g_iload_n C dX4_cut_4 3 rfl rfl (q := 5) rfl ?_
  refine g_iconst C dX4_cut_5 (q := 6) rfl ?_
  refine g_cV_i C (As := [.int (iI 4), .int (iI r), .int (iI b), .int (iI c), .int (iI 0)]) (c_X4_change l E _ 4 r b c 0  (by omega) (by omega) (by omega) (by omega) (by omega) (by assumption) (by omega) (by assumption)) ml_X4_55 mf_X4_change (o := 0) (ci := 4) rfl rfl rfl rfl ⟨(Nat.le_of_ble_eq_true rfl), (Nat.le_of_ble_eq_true rfl)⟩ rfl rfl rfl (Nat.le_of_ble_eq_true rfl) ⟨(Nat.le_of_ble_eq_true rfl), (Nat.le_of_ble_eq_true rfl)⟩ dX4_cut_6 (q := 9) rfl ?_
  exact hret _ _ _ dX4_cut_9 rfl
abbrev rmx_X4_cut : Room := { frames := 8, cells := 1, slots := 6, locals := 163 }
set_option maxRecDepth 100000 in
set_option maxHeartbeats 4000000 in
theorem x_X4_cut_1 (l : Launch) (hst : l.stackTraces = false) (E : EV) (σ : SS) (r b c : Int) (hr_r : -2147483648 ≤ r ∧ r ≤ 2147483647) (hr_b : -2147483648 ≤ b ∧ b ≤ 2147483647) (hr_c : -2147483648 ≤ c ∧ c ≤ 2147483647) (hW : CW (σ 2)) (hF : FK (σ 2) 4 r b c 0 = 1) : Kx l yX4_cut (cw yX4_cut cX4_cut 4 (some .int)) rmx_X4_cut E [.ref (ea E 0), .int (iI r), .int (iI b), .int (iI c)] σ xIOOBE σ := by
  refine Kx_of (rm := rmx_X4_cut) (mL := 4) (b := cX4_cut) RX4 rfl (by decide +kernel) [(0, .ref (ea E 0)), (1, .int (iI r)), (2, .int (iI b)), (3, .int (iI c))] rfl (Nat.le_of_ble_eq_true rfl) (fun p_ e_ s_ m_ a_ b_ h_ c_ Q A C hne hQ => ?_)
  refine g_aload_n C dX4_cut_0 0 rfl rfl (q := 1) rfl ?_
  refine g_iconst C dX4_cut_1 (q := 2) rfl ?_
  refine g_iload_n C dX4_cut_2 1 rfl rfl (q := 3) rfl ?_
  refine g_iload_n C dX4_cut_3 2 rfl rfl (q := 4) rfl ?_
  refine g_iload_n C dX4_cut_4 3 rfl rfl (q := 5) rfl ?_
  refine g_iconst C dX4_cut_5 (q := 6) rfl ?_
  exact g_xV C hne (As := [.int (iI 4), .int (iI r), .int (iI b), .int (iI c), .int (iI 0)]) (x_X4_change_1 l hst E _ 4 r b c 0  (by omega) (by omega) (by omega) (by omega) (by omega) (by assumption) (by assumption)) ml_X4_55 mf_X4_change (o := 0) (ci := 4) rfl rfl rfl rfl ⟨(Nat.le_of_ble_eq_true rfl), (Nat.le_of_ble_eq_true rfl)⟩ rfl rfl rfl (Nat.le_of_ble_eq_true rfl) ⟨(Nat.le_of_ble_eq_true rfl), (Nat.le_of_ble_eq_true rfl)⟩ dX4_cut_6 hQ
set_option maxRecDepth 100000 in
set_option maxHeartbeats 4000000 in
theorem x_X4_cut_2 (l : Launch) (hst : l.stackTraces = false) (E : EV) (σ : SS) (r b c : Int) (hr_r : -2147483648 ≤ r ∧ r ≤ 2147483647) (hr_b : -2147483648 ≤ b ∧ b ≤ 2147483647) (hr_c : -2147483648 ≤ c ∧ c ≤ 2147483647) (hW : CW (σ 2)) (hF : FK (σ 2) 4 r b c 0 = 2) : Kx l yX4_cut (cw yX4_cut cX4_cut 4 (some .int)) rmx_X4_cut E [.ref (ea E 0), .int (iI r), .int (iI b), .int (iI c)] σ xIAE σ := by
  refine Kx_of (rm := rmx_X4_cut) (mL := 4) (b := cX4_cut) RX4 rfl (by decide +kernel) [(0, .ref (ea E 0)), (1, .int (iI r)), (2, .int (iI b)), (3, .int (iI c))] rfl (Nat.le_of_ble_eq_true rfl) (fun p_ e_ s_ m_ a_ b_ h_ c_ Q A C hne hQ => ?_)
  refine g_aload_n C dX4_cut_0 0 rfl rfl (q := 1) rfl ?_
  refine g_iconst C dX4_cut_1 (q := 2) rfl ?_
  refine g_iload_n C dX4_cut_2 1 rfl rfl (q := 3) rfl ?_
  refine g_iload_n C dX4_cut_3 2 rfl rfl (q := 4) rfl ?_
  refine g_iload_n C dX4_cut_4 3 rfl rfl (q := 5) rfl ?_
  refine g_iconst C dX4_cut_5 (q := 6) rfl ?_
  exact g_xV C hne (As := [.int (iI 4), .int (iI r), .int (iI b), .int (iI c), .int (iI 0)]) (x_X4_change_2 l hst E _ 4 r b c 0  (by omega) (by omega) (by omega) (by omega) (by omega) (by assumption) (by assumption)) ml_X4_55 mf_X4_change (o := 0) (ci := 4) rfl rfl rfl rfl ⟨(Nat.le_of_ble_eq_true rfl), (Nat.le_of_ble_eq_true rfl)⟩ rfl rfl rfl (Nat.le_of_ble_eq_true rfl) ⟨(Nat.le_of_ble_eq_true rfl), (Nat.le_of_ble_eq_true rfl)⟩ dX4_cut_6 hQ
set_option maxRecDepth 100000 in
set_option maxHeartbeats 4000000 in
theorem x_X4_cut_3 (l : Launch) (hst : l.stackTraces = false) (E : EV) (σ : SS) (r b c : Int) (hr_r : -2147483648 ≤ r ∧ r ≤ 2147483647) (hr_b : -2147483648 ≤ b ∧ b ≤ 2147483647) (hr_c : -2147483648 ≤ c ∧ c ≤ 2147483647) (hW : CW (σ 2)) (hF : FK (σ 2) 4 r b c 0 = 3) : Kx l yX4_cut (cw yX4_cut cX4_cut 4 (some .int)) rmx_X4_cut E [.ref (ea E 0), .int (iI r), .int (iI b), .int (iI c)] σ xISE σ := by
  refine Kx_of (rm := rmx_X4_cut) (mL := 4) (b := cX4_cut) RX4 rfl (by decide +kernel) [(0, .ref (ea E 0)), (1, .int (iI r)), (2, .int (iI b)), (3, .int (iI c))] rfl (Nat.le_of_ble_eq_true rfl) (fun p_ e_ s_ m_ a_ b_ h_ c_ Q A C hne hQ => ?_)
  refine g_aload_n C dX4_cut_0 0 rfl rfl (q := 1) rfl ?_
  refine g_iconst C dX4_cut_1 (q := 2) rfl ?_
  refine g_iload_n C dX4_cut_2 1 rfl rfl (q := 3) rfl ?_
  refine g_iload_n C dX4_cut_3 2 rfl rfl (q := 4) rfl ?_
  refine g_iload_n C dX4_cut_4 3 rfl rfl (q := 5) rfl ?_
  refine g_iconst C dX4_cut_5 (q := 6) rfl ?_
  exact g_xV C hne (As := [.int (iI 4), .int (iI r), .int (iI b), .int (iI c), .int (iI 0)]) (x_X4_change_3 l hst E _ 4 r b c 0  (by omega) (by omega) (by omega) (by omega) (by omega) (by assumption) (by assumption)) ml_X4_55 mf_X4_change (o := 0) (ci := 4) rfl rfl rfl rfl ⟨(Nat.le_of_ble_eq_true rfl), (Nat.le_of_ble_eq_true rfl)⟩ rfl rfl rfl (Nat.le_of_ble_eq_true rfl) ⟨(Nat.le_of_ble_eq_true rfl), (Nat.le_of_ble_eq_true rfl)⟩ dX4_cut_6 hQ
abbrev rm_X4_splice : Room := { frames := 7, cells := 0, slots := 0, locals := 166 }
set_option maxRecDepth 100000 in
set_option maxHeartbeats 4000000 in
theorem c_X4_splice (l : Launch) (E : EV) (σ : SS) (r b : Int) (hr_r : -2147483648 ≤ r ∧ r ≤ 2147483647) (hr_b : -2147483648 ≤ b ∧ b ≤ 2147483647) (hW : CW (σ 2)) (hh : 0 ≤ (σ 5 1) ∧ (σ 5 1) < 8 ∧ 0 ≤ (σ 5 2) ∧ (σ 5 2) ≤ 8) (hF : FK (σ 2) 5 r b 0 0 = 0) : Ki l yX4_splice (cw yX4_splice cX4_splice 3 (some .int)) rm_X4_splice E [.ref (ea E 0), .int (iI r), .int (iI b)] σ (opR (σ 2) 5 r b 0 0) (st (st (st (st σ 2 (refF (opF (σ 2) 5 r b 0 0))) 3 (cpf (σ 2) (σ 3) 0 0 310)) 5 (pt (pt (σ 5) 1 (nx8 (σ 5 1))) 2 (min ((σ 5 2) + 1) 8))) 6 (cpf (cpf (σ 2) (σ 3) 0 0 310) (σ 6) 0 ((σ 5 1) * 310) 310)) := by
  refine Ki_of (rm := rm_X4_splice) (mL := 3) (b := cX4_splice) RX4 rfl (by decide +kernel) rfl rfl [(0, .ref (ea E 0)), (1, .int (iI r)), (2, .int (iI b))] rfl (Nat.le_of_ble_eq_true rfl) (fun p_ e_ s_ m_ a_ b_ h_ c_ Q A C hret => ?_)
  refine g_aload_n C dX4_splice_0 0 rfl rfl (q := 1) rfl ?_
  refine g_iconst C dX4_splice_1 (q := 2) rfl ?_
  refine g_iload_n C dX4_splice_2 1 rfl rfl (q := 3) rfl ?_
  refine g_iload_n C dX4_splice_3 2 rfl rfl (q := 4) rfl ?_
  refine g_iconst C dX4_splice_4 (q := 5) rfl ?_
  refine g_iconst C dX4_splice_5 (q := 6) rfl ?_
  refine g_cV_i C (As := [.int (iI 5), .int (iI r), .int (iI b), .int (iI 0), .int (iI 0)]) (c_X4_change l E _ 5 r b 0 0  (by omega) (by omega) (by omega) (by omega) (by omega) (by assumption) (by omega) (by assumption)) ml_X4_55 mf_X4_change (o := 0) (ci := 4) rfl rfl rfl rfl ⟨(Nat.le_of_ble_eq_true rfl), (Nat.le_of_ble_eq_true rfl)⟩ rfl rfl rfl (Nat.le_of_ble_eq_true rfl) ⟨(Nat.le_of_ble_eq_true rfl), (Nat.le_of_ble_eq_true rfl)⟩ dX4_splice_6 (q := 9) rfl ?_
  exact hret _ _ _ dX4_splice_9 rfl
abbrev rmx_X4_splice : Room := { frames := 8, cells := 1, slots := 6, locals := 163 }
set_option maxRecDepth 100000 in
set_option maxHeartbeats 4000000 in
theorem x_X4_splice_1 (l : Launch) (hst : l.stackTraces = false) (E : EV) (σ : SS) (r b : Int) (hr_r : -2147483648 ≤ r ∧ r ≤ 2147483647) (hr_b : -2147483648 ≤ b ∧ b ≤ 2147483647) (hW : CW (σ 2)) (hF : FK (σ 2) 5 r b 0 0 = 1) : Kx l yX4_splice (cw yX4_splice cX4_splice 3 (some .int)) rmx_X4_splice E [.ref (ea E 0), .int (iI r), .int (iI b)] σ xIOOBE σ := by
  refine Kx_of (rm := rmx_X4_splice) (mL := 3) (b := cX4_splice) RX4 rfl (by decide +kernel) [(0, .ref (ea E 0)), (1, .int (iI r)), (2, .int (iI b))] rfl (Nat.le_of_ble_eq_true rfl) (fun p_ e_ s_ m_ a_ b_ h_ c_ Q A C hne hQ => ?_)
  refine g_aload_n C dX4_splice_0 0 rfl rfl (q := 1) rfl ?_
  refine g_iconst C dX4_splice_1 (q := 2) rfl ?_
  refine g_iload_n C dX4_splice_2 1 rfl rfl (q := 3) rfl ?_
  refine g_iload_n C dX4_splice_3 2 rfl rfl (q := 4) rfl ?_
  refine g_iconst C dX4_splice_4 (q := 5) rfl ?_
  refine g_iconst C dX4_splice_5 (q := 6) rfl ?_
  exact g_xV C hne (As := [.int (iI 5), .int (iI r), .int (iI b), .int (iI 0), .int (iI 0)]) (x_X4_change_1 l hst E _ 5 r b 0 0  (by omega) (by omega) (by omega) (by omega) (by omega) (by assumption) (by assumption)) ml_X4_55 mf_X4_change (o := 0) (ci := 4) rfl rfl rfl rfl ⟨(Nat.le_of_ble_eq_true rfl), (Nat.le_of_ble_eq_true rfl)⟩ rfl rfl rfl (Nat.le_of_ble_eq_true rfl) ⟨(Nat.le_of_ble_eq_true rfl), (Nat.le_of_ble_eq_true rfl)⟩ dX4_splice_6 hQ
set_option maxRecDepth 100000 in
set_option maxHeartbeats 4000000 in
theorem x_X4_splice_2 (l : Launch) (hst : l.stackTraces = false) (E : EV) (σ : SS) (r b : Int) (hr_r : -2147483648 ≤ r ∧ r ≤ 2147483647) (hr_b : -2147483648 ≤ b ∧ b ≤ 2147483647) (hW : CW (σ 2)) (hF : FK (σ 2) 5 r b 0 0 = 2) : Kx l yX4_splice (cw yX4_splice cX4_splice 3 (some .int)) rmx_X4_splice E [.ref (ea E 0), .int (iI r), .int (iI b)] σ xIAE σ := by
  refine Kx_of (rm := rmx_X4_splice) (mL := 3) (b := cX4_splice) RX4 rfl (by decide +kernel) [(0, .ref (ea E 0)), (1, .int (iI r)), (2, .int (iI b))] rfl (Nat.le_of_ble_eq_true rfl) (fun p_ e_ s_ m_ a_ b_ h_ c_ Q A C hne hQ => ?_)
  refine g_aload_n C dX4_splice_0 0 rfl rfl (q := 1) rfl ?_
  refine g_iconst C dX4_splice_1 (q := 2) rfl ?_
  refine g_iload_n C dX4_splice_2 1 rfl rfl (q := 3) rfl ?_
  refine g_iload_n C dX4_splice_3 2 rfl rfl (q := 4) rfl ?_
  refine g_iconst C dX4_splice_4 (q := 5) rfl ?_
  refine g_iconst C dX4_splice_5 (q := 6) rfl ?_
  exact g_xV C hne (As := [.int (iI 5), .int (iI r), .int (iI b), .int (iI 0), .int (iI 0)]) (x_X4_change_2 l hst E _ 5 r b 0 0  (by omega) (by omega) (by omega) (by omega) (by omega) (by assumption) (by assumption)) ml_X4_55 mf_X4_change (o := 0) (ci := 4) rfl rfl rfl rfl ⟨(Nat.le_of_ble_eq_true rfl), (Nat.le_of_ble_eq_true rfl)⟩ rfl rfl rfl (Nat.le_of_ble_eq_true rfl) ⟨(Nat.le_of_ble_eq_true rfl), (Nat.le_of_ble_eq_true rfl)⟩ dX4_splice_6 hQ
set_option maxRecDepth 100000 in
set_option maxHeartbeats 4000000 in
theorem x_X4_splice_3 (l : Launch) (hst : l.stackTraces = false) (E : EV) (σ : SS) (r b : Int) (hr_r : -2147483648 ≤ r ∧ r ≤ 2147483647) (hr_b : -2147483648 ≤ b ∧ b ≤ 2147483647) (hW : CW (σ 2)) (hF : FK (σ 2) 5 r b 0 0 = 3) : Kx l yX4_splice (cw yX4_splice cX4_splice 3 (some .int)) rmx_X4_splice E [.ref (ea E 0), .int (iI r), .int (iI b)] σ xISE σ := by
  refine Kx_of (rm := rmx_X4_splice) (mL := 3) (b := cX4_splice) RX4 rfl (by decide +kernel) [(0, .ref (ea E 0)), (1, .int (iI r)), (2, .int (iI b))] rfl (Nat.le_of_ble_eq_true rfl) (fun p_ e_ s_ m_ a_ b_ h_ c_ Q A C hne hQ => ?_)
  refine g_aload_n C dX4_splice_0 0 rfl rfl (q := 1) rfl ?_
  refine g_iconst C dX4_splice_1 (q := 2) rfl ?_
  refine g_iload_n C dX4_splice_2 1 rfl rfl (q := 3) rfl ?_
  refine g_iload_n C dX4_splice_3 2 rfl rfl (q := 4) rfl ?_
  refine g_iconst C dX4_splice_4 (q := 5) rfl ?_
  refine g_iconst C dX4_splice_5 (q := 6) rfl ?_
  exact g_xV C hne (As := [.int (iI 5), .int (iI r), .int (iI b), .int (iI 0), .int (iI 0)]) (x_X4_change_3 l hst E _ 5 r b 0 0  (by omega) (by omega) (by omega) (by omega) (by omega) (by assumption) (by assumption)) ml_X4_55 mf_X4_change (o := 0) (ci := 4) rfl rfl rfl rfl ⟨(Nat.le_of_ble_eq_true rfl), (Nat.le_of_ble_eq_true rfl)⟩ rfl rfl rfl (Nat.le_of_ble_eq_true rfl) ⟨(Nat.le_of_ble_eq_true rfl), (Nat.le_of_ble_eq_true rfl)⟩ dX4_splice_6 hQ
abbrev rm_X4_exchange : Room := { frames := 7, cells := 0, slots := 0, locals := 166 }
set_option maxRecDepth 100000 in
set_option maxHeartbeats 4000000 in
theorem c_X4_exchange (l : Launch) (E : EV) (σ : SS) (r b : Int) (hr_r : -2147483648 ≤ r ∧ r ≤ 2147483647) (hr_b : -2147483648 ≤ b ∧ b ≤ 2147483647) (hW : CW (σ 2)) (hh : 0 ≤ (σ 5 1) ∧ (σ 5 1) < 8 ∧ 0 ≤ (σ 5 2) ∧ (σ 5 2) ≤ 8) (hF : FK (σ 2) 6 r b 0 0 = 0) : Ki l yX4_exchange (cw yX4_exchange cX4_exchange 3 (some .int)) rm_X4_exchange E [.ref (ea E 0), .int (iI r), .int (iI b)] σ (opR (σ 2) 6 r b 0 0) (st (st (st (st σ 2 (refF (opF (σ 2) 6 r b 0 0))) 3 (cpf (σ 2) (σ 3) 0 0 310)) 5 (pt (pt (σ 5) 1 (nx8 (σ 5 1))) 2 (min ((σ 5 2) + 1) 8))) 6 (cpf (cpf (σ 2) (σ 3) 0 0 310) (σ 6) 0 ((σ 5 1) * 310) 310)) := by
  refine Ki_of (rm := rm_X4_exchange) (mL := 3) (b := cX4_exchange) RX4 rfl (by decide +kernel) rfl rfl [(0, .ref (ea E 0)), (1, .int (iI r)), (2, .int (iI b))] rfl (Nat.le_of_ble_eq_true rfl) (fun p_ e_ s_ m_ a_ b_ h_ c_ Q A C hret => ?_)
  refine g_aload_n C dX4_exchange_0 0 rfl rfl (q := 1) rfl ?_
  refine g_bipush C dX4_exchange_1 (by decide) (q := 3) rfl ?_
  refine g_iload_n C dX4_exchange_3 1 rfl rfl (q := 4) rfl ?_
  refine g_iload_n C dX4_exchange_4 2 rfl rfl (q := 5) rfl ?_
  refine g_iconst C dX4_exchange_5 (q := 6) rfl ?_
  refine g_iconst C dX4_exchange_6 (q := 7) rfl ?_
  refine g_cV_i C (As := [.int (iI 6), .int (iI r), .int (iI b), .int (iI 0), .int (iI 0)]) (c_X4_change l E _ 6 r b 0 0  (by omega) (by omega) (by omega) (by omega) (by omega) (by assumption) (by omega) (by assumption)) ml_X4_55 mf_X4_change (o := 0) (ci := 4) rfl rfl rfl rfl ⟨(Nat.le_of_ble_eq_true rfl), (Nat.le_of_ble_eq_true rfl)⟩ rfl rfl rfl (Nat.le_of_ble_eq_true rfl) ⟨(Nat.le_of_ble_eq_true rfl), (Nat.le_of_ble_eq_true rfl)⟩ dX4_exchange_7 (q := 10) rfl ?_
  exact hret _ _ _ dX4_exchange_10 rfl
abbrev rmx_X4_exchange : Room := { frames := 8, cells := 1, slots := 6, locals := 163 }
set_option maxRecDepth 100000 in
set_option maxHeartbeats 4000000 in
theorem x_X4_exchange_1 (l : Launch) (hst : l.stackTraces = false) (E : EV) (σ : SS) (r b : Int) (hr_r : -2147483648 ≤ r ∧ r ≤ 2147483647) (hr_b : -2147483648 ≤ b ∧ b ≤ 2147483647) (hW : CW (σ 2)) (hF : FK (σ 2) 6 r b 0 0 = 1) : Kx l yX4_exchange (cw yX4_exchange cX4_exchange 3 (some .int)) rmx_X4_exchange E [.ref (ea E 0), .int (iI r), .int (iI b)] σ xIOOBE σ := by
  refine Kx_of (rm := rmx_X4_exchange) (mL := 3) (b := cX4_exchange) RX4 rfl (by decide +kernel) [(0, .ref (ea E 0)), (1, .int (iI r)), (2, .int (iI b))] rfl (Nat.le_of_ble_eq_true rfl) (fun p_ e_ s_ m_ a_ b_ h_ c_ Q A C hne hQ => ?_)
  refine g_aload_n C dX4_exchange_0 0 rfl rfl (q := 1) rfl ?_
  refine g_bipush C dX4_exchange_1 (by decide) (q := 3) rfl ?_
  refine g_iload_n C dX4_exchange_3 1 rfl rfl (q := 4) rfl ?_
  refine g_iload_n C dX4_exchange_4 2 rfl rfl (q := 5) rfl ?_
  refine g_iconst C dX4_exchange_5 (q := 6) rfl ?_
  refine g_iconst C dX4_exchange_6 (q := 7) rfl ?_
  exact g_xV C hne (As := [.int (iI 6), .int (iI r), .int (iI b), .int (iI 0), .int (iI 0)]) (x_X4_change_1 l hst E _ 6 r b 0 0  (by omega) (by omega) (by omega) (by omega) (by omega) (by assumption) (by assumption)) ml_X4_55 mf_X4_change (o := 0) (ci := 4) rfl rfl rfl rfl ⟨(Nat.le_of_ble_eq_true rfl), (Nat.le_of_ble_eq_true rfl)⟩ rfl rfl rfl (Nat.le_of_ble_eq_true rfl) ⟨(Nat.le_of_ble_eq_true rfl), (Nat.le_of_ble_eq_true rfl)⟩ dX4_exchange_7 hQ
abbrev rm_X4_flip : Room := { frames := 7, cells := 0, slots := 0, locals := 166 }
set_option maxRecDepth 100000 in
set_option maxHeartbeats 4000000 in
theorem c_X4_flip (l : Launch) (E : EV) (σ : SS) (r b c : Int) (hr_r : -2147483648 ≤ r ∧ r ≤ 2147483647) (hr_b : -2147483648 ≤ b ∧ b ≤ 2147483647) (hr_c : -2147483648 ≤ c ∧ c ≤ 2147483647) (hW : CW (σ 2)) (hh : 0 ≤ (σ 5 1) ∧ (σ 5 1) < 8 ∧ 0 ≤ (σ 5 2) ∧ (σ 5 2) ≤ 8) (hF : FK (σ 2) 7 r b c 0 = 0) : Ki l yX4_flip (cw yX4_flip cX4_flip 4 (some .int)) rm_X4_flip E [.ref (ea E 0), .int (iI r), .int (iI b), .int (iI c)] σ (opR (σ 2) 7 r b c 0) (st (st (st (st σ 2 (refF (opF (σ 2) 7 r b c 0))) 3 (cpf (σ 2) (σ 3) 0 0 310)) 5 (pt (pt (σ 5) 1 (nx8 (σ 5 1))) 2 (min ((σ 5 2) + 1) 8))) 6 (cpf (cpf (σ 2) (σ 3) 0 0 310) (σ 6) 0 ((σ 5 1) * 310) 310)) := by
  refine Ki_of (rm := rm_X4_flip) (mL := 4) (b := cX4_flip) RX4 rfl (by decide +kernel) rfl rfl [(0, .ref (ea E 0)), (1, .int (iI r)), (2, .int (iI b)), (3, .int (iI c))] rfl (Nat.le_of_ble_eq_true rfl) (fun p_ e_ s_ m_ a_ b_ h_ c_ Q A C hret => ?_)
  refine g_aload_n C dX4_flip_0 0 rfl rfl (q := 1) rfl ?_
  refine g_bipush C dX4_flip_1 (by decide) (q := 3) rfl ?_
  refine g_iload_n C dX4_flip_3 1 rfl rfl (q := 4) rfl ?_
  refine g_iload_n C dX4_flip_4 2 rfl rfl (q := 5) rfl ?_
  refine g_iload_n C dX4_flip_5 3 rfl rfl (q := 6) rfl ?_
  refine g_iconst C dX4_flip_6 (q := 7) rfl ?_
  refine g_cV_i C (As := [.int (iI 7), .int (iI r), .int (iI b), .int (iI c), .int (iI 0)]) (c_X4_change l E _ 7 r b c 0  (by omega) (by omega) (by omega) (by omega) (by omega) (by assumption) (by omega) (by assumption)) ml_X4_55 mf_X4_change (o := 0) (ci := 4) rfl rfl rfl rfl ⟨(Nat.le_of_ble_eq_true rfl), (Nat.le_of_ble_eq_true rfl)⟩ rfl rfl rfl (Nat.le_of_ble_eq_true rfl) ⟨(Nat.le_of_ble_eq_true rfl), (Nat.le_of_ble_eq_true rfl)⟩ dX4_flip_7 (q := 10) rfl ?_
  exact hret _ _ _ dX4_flip_10 rfl
abbrev rmx_X4_flip : Room := { frames := 8, cells := 1, slots := 6, locals := 163 }
set_option maxRecDepth 100000 in
set_option maxHeartbeats 4000000 in
theorem x_X4_flip_1 (l : Launch) (hst : l.stackTraces = false) (E : EV) (σ : SS) (r b c : Int) (hr_r : -2147483648 ≤ r ∧ r ≤ 2147483647) (hr_b : -2147483648 ≤ b ∧ b ≤ 2147483647) (hr_c : -2147483648 ≤ c ∧ c ≤ 2147483647) (hW : CW (σ 2)) (hF : FK (σ 2) 7 r b c 0 = 1) : Kx l yX4_flip (cw yX4_flip cX4_flip 4 (some .int)) rmx_X4_flip E [.ref (ea E 0), .int (iI r), .int (iI b), .int (iI c)] σ xIOOBE σ := by
  refine Kx_of (rm := rmx_X4_flip) (mL := 4) (b := cX4_flip) RX4 rfl (by decide +kernel) [(0, .ref (ea E 0)), (1, .int (iI r)), (2, .int (iI b)), (3, .int (iI c))] rfl (Nat.le_of_ble_eq_true rfl) (fun p_ e_ s_ m_ a_ b_ h_ c_ Q A C hne hQ => ?_)
  refine g_aload_n C dX4_flip_0 0 rfl rfl (q := 1) rfl ?_
  refine g_bipush C dX4_flip_1 (by decide) (q := 3) rfl ?_
  refine g_iload_n C dX4_flip_3 1 rfl rfl (q := 4) rfl ?_
  refine g_iload_n C dX4_flip_4 2 rfl rfl (q := 5) rfl ?_
  refine g_iload_n C dX4_flip_5 3 rfl rfl (q := 6) rfl ?_
  refine g_iconst C dX4_flip_6 (q := 7) rfl ?_
  exact g_xV C hne (As := [.int (iI 7), .int (iI r), .int (iI b), .int (iI c), .int (iI 0)]) (x_X4_change_1 l hst E _ 7 r b c 0  (by omega) (by omega) (by omega) (by omega) (by omega) (by assumption) (by assumption)) ml_X4_55 mf_X4_change (o := 0) (ci := 4) rfl rfl rfl rfl ⟨(Nat.le_of_ble_eq_true rfl), (Nat.le_of_ble_eq_true rfl)⟩ rfl rfl rfl (Nat.le_of_ble_eq_true rfl) ⟨(Nat.le_of_ble_eq_true rfl), (Nat.le_of_ble_eq_true rfl)⟩ dX4_flip_7 hQ
set_option maxRecDepth 100000 in
set_option maxHeartbeats 4000000 in
theorem x_X4_flip_2 (l : Launch) (hst : l.stackTraces = false) (E : EV) (σ : SS) (r b c : Int) (hr_r : -2147483648 ≤ r ∧ r ≤ 2147483647) (hr_b : -2147483648 ≤ b ∧ b ≤ 2147483647) (hr_c : -2147483648 ≤ c ∧ c ≤ 2147483647) (hW : CW (σ 2)) (hF : FK (σ 2) 7 r b c 0 = 2) : Kx l yX4_flip (cw yX4_flip cX4_flip 4 (some .int)) rmx_X4_flip E [.ref (ea E 0), .int (iI r), .int (iI b), .int (iI c)] σ xIAE σ := by
  refine Kx_of (rm := rmx_X4_flip) (mL := 4) (b := cX4_flip) RX4 rfl (by decide +kernel) [(0, .ref (ea E 0)), (1, .int (iI r)), (2, .int (iI b)), (3, .int (iI c))] rfl (Nat.le_of_ble_eq_true rfl) (fun p_ e_ s_ m_ a_ b_ h_ c_ Q A C hne hQ => ?_)
  refine g_aload_n C dX4_flip_0 0 rfl rfl (q := 1) rfl ?_
  refine g_bipush C dX4_flip_1 (by decide) (q := 3) rfl ?_
  refine g_iload_n C dX4_flip_3 1 rfl rfl (q := 4) rfl ?_
  refine g_iload_n C dX4_flip_4 2 rfl rfl (q := 5) rfl ?_
  refine g_iload_n C dX4_flip_5 3 rfl rfl (q := 6) rfl ?_
  refine g_iconst C dX4_flip_6 (q := 7) rfl ?_
  exact g_xV C hne (As := [.int (iI 7), .int (iI r), .int (iI b), .int (iI c), .int (iI 0)]) (x_X4_change_2 l hst E _ 7 r b c 0  (by omega) (by omega) (by omega) (by omega) (by omega) (by assumption) (by assumption)) ml_X4_55 mf_X4_change (o := 0) (ci := 4) rfl rfl rfl rfl ⟨(Nat.le_of_ble_eq_true rfl), (Nat.le_of_ble_eq_true rfl)⟩ rfl rfl rfl (Nat.le_of_ble_eq_true rfl) ⟨(Nat.le_of_ble_eq_true rfl), (Nat.le_of_ble_eq_true rfl)⟩ dX4_flip_7 hQ
abbrev rm_X4_dye : Room := { frames := 7, cells := 0, slots := 0, locals := 166 }
set_option maxRecDepth 100000 in
set_option maxHeartbeats 4000000 in
theorem c_X4_dye (l : Launch) (E : EV) (σ : SS) (r b c d : Int) (hr_r : -2147483648 ≤ r ∧ r ≤ 2147483647) (hr_b : -2147483648 ≤ b ∧ b ≤ 2147483647) (hr_c : -2147483648 ≤ c ∧ c ≤ 2147483647) (hr_d : -2147483648 ≤ d ∧ d ≤ 2147483647) (hW : CW (σ 2)) (hh : 0 ≤ (σ 5 1) ∧ (σ 5 1) < 8 ∧ 0 ≤ (σ 5 2) ∧ (σ 5 2) ≤ 8) (hF : FK (σ 2) 8 r b c d = 0) : Ki l yX4_dye (cw yX4_dye cX4_dye 5 (some .int)) rm_X4_dye E [.ref (ea E 0), .int (iI r), .int (iI b), .int (iI c), .int (iI d)] σ (opR (σ 2) 8 r b c d) (st (st (st (st σ 2 (refF (opF (σ 2) 8 r b c d))) 3 (cpf (σ 2) (σ 3) 0 0 310)) 5 (pt (pt (σ 5) 1 (nx8 (σ 5 1))) 2 (min ((σ 5 2) + 1) 8))) 6 (cpf (cpf (σ 2) (σ 3) 0 0 310) (σ 6) 0 ((σ 5 1) * 310) 310)) := by
  refine Ki_of (rm := rm_X4_dye) (mL := 5) (b := cX4_dye) RX4 rfl (by decide +kernel) rfl rfl [(0, .ref (ea E 0)), (1, .int (iI r)), (2, .int (iI b)), (3, .int (iI c)), (4, .int (iI d))] rfl (Nat.le_of_ble_eq_true rfl) (fun p_ e_ s_ m_ a_ b_ h_ c_ Q A C hret => ?_)
  refine g_aload_n C dX4_dye_0 0 rfl rfl (q := 1) rfl ?_
  refine g_bipush C dX4_dye_1 (by decide) (q := 3) rfl ?_
  refine g_iload_n C dX4_dye_3 1 rfl rfl (q := 4) rfl ?_
  refine g_iload_n C dX4_dye_4 2 rfl rfl (q := 5) rfl ?_
  refine g_iload_n C dX4_dye_5 3 rfl rfl (q := 6) rfl ?_
  refine g_iload C dX4_dye_6 4 rfl (q := 8) rfl ?_
  refine g_cV_i C (As := [.int (iI 8), .int (iI r), .int (iI b), .int (iI c), .int (iI d)]) (c_X4_change l E _ 8 r b c d  (by omega) (by omega) (by omega) (by omega) (by omega) (by assumption) (by omega) (by assumption)) ml_X4_55 mf_X4_change (o := 0) (ci := 4) rfl rfl rfl rfl ⟨(Nat.le_of_ble_eq_true rfl), (Nat.le_of_ble_eq_true rfl)⟩ rfl rfl rfl (Nat.le_of_ble_eq_true rfl) ⟨(Nat.le_of_ble_eq_true rfl), (Nat.le_of_ble_eq_true rfl)⟩ dX4_dye_8 (q := 11) rfl ?_
  exact hret _ _ _ dX4_dye_11 rfl
abbrev rmx_X4_dye : Room := { frames := 8, cells := 1, slots := 6, locals := 163 }
set_option maxRecDepth 100000 in
set_option maxHeartbeats 4000000 in
theorem x_X4_dye_1 (l : Launch) (hst : l.stackTraces = false) (E : EV) (σ : SS) (r b c d : Int) (hr_r : -2147483648 ≤ r ∧ r ≤ 2147483647) (hr_b : -2147483648 ≤ b ∧ b ≤ 2147483647) (hr_c : -2147483648 ≤ c ∧ c ≤ 2147483647) (hr_d : -2147483648 ≤ d ∧ d ≤ 2147483647) (hW : CW (σ 2)) (hF : FK (σ 2) 8 r b c d = 1) : Kx l yX4_dye (cw yX4_dye cX4_dye 5 (some .int)) rmx_X4_dye E [.ref (ea E 0), .int (iI r), .int (iI b), .int (iI c), .int (iI d)] σ xIOOBE σ := by
  refine Kx_of (rm := rmx_X4_dye) (mL := 5) (b := cX4_dye) RX4 rfl (by decide +kernel) [(0, .ref (ea E 0)), (1, .int (iI r)), (2, .int (iI b)), (3, .int (iI c)), (4, .int (iI d))] rfl (Nat.le_of_ble_eq_true rfl) (fun p_ e_ s_ m_ a_ b_ h_ c_ Q A C hne hQ => ?_)
  refine g_aload_n C dX4_dye_0 0 rfl rfl (q := 1) rfl ?_
  refine g_bipush C dX4_dye_1 (by decide) (q := 3) rfl ?_
  refine g_iload_n C dX4_dye_3 1 rfl rfl (q := 4) rfl ?_
  refine g_iload_n C dX4_dye_4 2 rfl rfl (q := 5) rfl ?_
  refine g_iload_n C dX4_dye_5 3 rfl rfl (q := 6) rfl ?_
  refine g_iload C dX4_dye_6 4 rfl (q := 8) rfl ?_
  exact g_xV C hne (As := [.int (iI 8), .int (iI r), .int (iI b), .int (iI c), .int (iI d)]) (x_X4_change_1 l hst E _ 8 r b c d  (by omega) (by omega) (by omega) (by omega) (by omega) (by assumption) (by assumption)) ml_X4_55 mf_X4_change (o := 0) (ci := 4) rfl rfl rfl rfl ⟨(Nat.le_of_ble_eq_true rfl), (Nat.le_of_ble_eq_true rfl)⟩ rfl rfl rfl (Nat.le_of_ble_eq_true rfl) ⟨(Nat.le_of_ble_eq_true rfl), (Nat.le_of_ble_eq_true rfl)⟩ dX4_dye_8 hQ
set_option maxRecDepth 100000 in
set_option maxHeartbeats 4000000 in
theorem x_X4_dye_2 (l : Launch) (hst : l.stackTraces = false) (E : EV) (σ : SS) (r b c d : Int) (hr_r : -2147483648 ≤ r ∧ r ≤ 2147483647) (hr_b : -2147483648 ≤ b ∧ b ≤ 2147483647) (hr_c : -2147483648 ≤ c ∧ c ≤ 2147483647) (hr_d : -2147483648 ≤ d ∧ d ≤ 2147483647) (hW : CW (σ 2)) (hF : FK (σ 2) 8 r b c d = 2) : Kx l yX4_dye (cw yX4_dye cX4_dye 5 (some .int)) rmx_X4_dye E [.ref (ea E 0), .int (iI r), .int (iI b), .int (iI c), .int (iI d)] σ xIAE σ := by
  refine Kx_of (rm := rmx_X4_dye) (mL := 5) (b := cX4_dye) RX4 rfl (by decide +kernel) [(0, .ref (ea E 0)), (1, .int (iI r)), (2, .int (iI b)), (3, .int (iI c)), (4, .int (iI d))] rfl (Nat.le_of_ble_eq_true rfl) (fun p_ e_ s_ m_ a_ b_ h_ c_ Q A C hne hQ => ?_)
  refine g_aload_n C dX4_dye_0 0 rfl rfl (q := 1) rfl ?_
  refine g_bipush C dX4_dye_1 (by decide) (q := 3) rfl ?_
  refine g_iload_n C dX4_dye_3 1 rfl rfl (q := 4) rfl ?_
  refine g_iload_n C dX4_dye_4 2 rfl rfl (q := 5) rfl ?_
  refine g_iload_n C dX4_dye_5 3 rfl rfl (q := 6) rfl ?_
  refine g_iload C dX4_dye_6 4 rfl (q := 8) rfl ?_
  exact g_xV C hne (As := [.int (iI 8), .int (iI r), .int (iI b), .int (iI c), .int (iI d)]) (x_X4_change_2 l hst E _ 8 r b c d  (by omega) (by omega) (by omega) (by omega) (by omega) (by assumption) (by assumption)) ml_X4_55 mf_X4_change (o := 0) (ci := 4) rfl rfl rfl rfl ⟨(Nat.le_of_ble_eq_true rfl), (Nat.le_of_ble_eq_true rfl)⟩ rfl rfl rfl (Nat.le_of_ble_eq_true rfl) ⟨(Nat.le_of_ble_eq_true rfl), (Nat.le_of_ble_eq_true rfl)⟩ dX4_dye_8 hQ
