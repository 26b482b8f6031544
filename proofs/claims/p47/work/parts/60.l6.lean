abbrev rm_L_does_24_2000 : Room := { frames := 10, cells := 24, slots := 2000, locals := 232 }
set_option maxRecDepth 100000 in
set_option maxHeartbeats 16000000 in
theorem c_L_does (l : Launch) (hst : l.stackTraces = false) (E : EV) (σ : SS) (k kind r q many : Int) (hk : 0 ≤ k ∧ k ≤ 900) (hkd : 0 ≤ kind ∧ kind ≤ 100000) (hr : 0 ≤ r ∧ r ≤ 4) (hq : 0 ≤ q ∧ q ≤ 4) (hmn : 0 ≤ many ∧ many ≤ 60) (hN : (eN E : Int) ≤ 260) (hW : CW (σ 2)) (hP : PW (σ 2)) (hR5 : 0 ≤ (σ 5 1) ∧ (σ 5 1) < 8 ∧ 0 ≤ (σ 5 2) ∧ (σ 5 2) ≤ 8) (hKP : KPW (σ 9) (σ 10)) (h7 : (σ 7 1) = 0) : NX9 l yL_does (cw yL_does cL_does 14 (some .int)) rm_L_does_24_2000 E [.ref (eb E), .int (iI k), .int (iI kind), .ref (ea E 0), .int (iI r), .int (iI q), .int (iI many)] σ (DREL kind r q σ) 24 2000 := by
  refine NX9_of (rm := rm_L_does_24_2000) (mL := 14) (b := cL_does) RL rfl (by decide +kernel) [(0, .ref (eb E)), (1, .int (iI k)), (2, .int (iI kind)), (3, .ref (ea E 0)), (4, .int (iI r)), (5, .int (iI q)), (6, .int (iI many))] rfl (Nat.le_of_ble_eq_true rfl) (fun p_ e_ s_ m_ a_ b_ h_ c_ Q A C hret => ?_)
  have hp7 := pkE_rg E (k + 3) (n := 1000) (by omega)
  have hp8 := pkE_rg E (k + 4) (n := 1000) (by omega)
  refine g_aload_n C dL_does_0 0 rfl rfl (q := 1) rfl ?_
  refine g_iload_n C dL_does_1 1 rfl rfl (q := 2) rfl ?_
  refine g_iconst C dL_does_2 (q := 3) rfl ?_
  refine g_iadd C dL_does_3 (q := 4) rfl ?_
  refine g_sipush C dL_does_4 (by decide) (q := 7) rfl ?_
  refine g_cN_i C (As := [.ref (eb E), .int (iI (k + 3)), .int (iI 1000)]) (c_L_pick l hst E _ (k + 3) 1000  (by first | assumption | omega) (by first | assumption | omega) (by first | assumption | omega)) ml_L_182 mf_L_pick rfl rfl ⟨(Nat.le_of_ble_eq_true rfl), (Nat.le_of_ble_eq_true rfl)⟩ rfl rfl rfl (Nat.le_of_ble_eq_true rfl) ⟨(Nat.le_of_ble_eq_true rfl), (Nat.le_of_ble_eq_true rfl)⟩ dL_does_7 (q := 10) rfl ?_
  refine g_istore C (L' := [(7, .int (iI (pkE E (k + 3) 1000))), (0, .ref (eb E)), (1, .int (iI k)), (2, .int (iI kind)), (3, .ref (ea E 0)), (4, .int (iI r)), (5, .int (iI q)), (6, .int (iI many))]) dL_does_10 (by decide) rfl (q := 12) rfl ?_
  refine g_aload_n C dL_does_12 1 rfl rfl (q := 13) rfl ?_
  refine g_iload_n C dL_does_13 2 rfl rfl (q := 14) rfl ?_
  refine g_iconst C dL_does_14 (q := 15) rfl ?_
  refine g_iadd C dL_does_15 (q := 16) rfl ?_
  refine g_sipush C dL_does_16 (by decide) (q := 19) rfl ?_
  refine g_cN_i C (As := [.ref (eb E), .int (iI (k + 4)), .int (iI 1000)]) (c_L_pick l hst E _ (k + 4) 1000  (by first | assumption | omega) (by first | assumption | omega) (by first | assumption | omega)) ml_L_182 mf_L_pick rfl rfl ⟨(Nat.le_of_ble_eq_true rfl), (Nat.le_of_ble_eq_true rfl)⟩ rfl rfl rfl (Nat.le_of_ble_eq_true rfl) ⟨(Nat.le_of_ble_eq_true rfl), (Nat.le_of_ble_eq_true rfl)⟩ dL_does_19 (q := 22) rfl ?_
  refine g_istore C (L' := [(8, .int (iI (pkE E (k + 4) 1000))), (7, .int (iI (pkE E (k + 3) 1000))), (0, .ref (eb E)), (1, .int (iI k)), (2, .int (iI kind)), (3, .ref (ea E 0)), (4, .int (iI r)), (5, .int (iI q)), (6, .int (iI many))]) dL_does_22 (by decide) rfl (q := 24) rfl ?_
  refine g_aload_n C dL_does_24 2 rfl rfl (q := 25) rfl ?_
  refine g_iload_n C dL_does_25 3 rfl rfl (q := 26) rfl ?_
  refine g_iconst C dL_does_26 (q := 27) rfl ?_
  refine g_iadd C dL_does_27 (q := 28) rfl ?_
  refine g_iload C dL_does_28 8 rfl (q := 30) rfl ?_
  have j30_1 : ∀ (u9 : Int), (1 ≤ u9 ∧ u9 ≤ 2) → GG p_ l e_ rm_L_does_24_2000 s_ m_ a_ b_ h_ c_ Q E A 14 σ 0 0 43 [(8, .int (iI (pkE E (k + 4) 1000))), (7, .int (iI (pkE E (k + 3) 1000))), (0, .ref (eb E)), (1, .int (iI k)), (2, .int (iI kind)), (3, .ref (ea E 0)), (4, .int (iI r)), (5, .int (iI q)), (6, .int (iI many))] [.int (iI u9), .int (iI many), .int (iI (k + 5)), .ref (eb E)] := by
    intro u9 hu9
    refine g_iadd C dL_does_43 (q := 44) rfl ?_
    refine g_cN_i C (As := [.ref (eb E), .int (iI (k + 5)), .int (iI (many + u9))]) (c_L_pick l hst E _ (k + 5) (many + u9)  (by first | assumption | omega) (by first | assumption | omega) (by first | assumption | omega)) ml_L_182 mf_L_pick rfl rfl ⟨(Nat.le_of_ble_eq_true rfl), (Nat.le_of_ble_eq_true rfl)⟩ rfl rfl rfl (Nat.le_of_ble_eq_true rfl) ⟨(Nat.le_of_ble_eq_true rfl), (Nat.le_of_ble_eq_true rfl)⟩ dL_does_44 (q := 47) rfl ?_
    refine g_istore C (L' := [(9, .int (iI (pkE E (k + 5) (many + u9)))), (8, .int (iI (pkE E (k + 4) 1000))), (7, .int (iI (pkE E (k + 3) 1000))), (0, .ref (eb E)), (1, .int (iI k)), (2, .int (iI kind)), (3, .ref (ea E 0)), (4, .int (iI r)), (5, .int (iI q)), (6, .int (iI many))]) dL_does_47 (by decide) rfl (q := 49) rfl ?_
    have hp9 := pkE_rg E (k + 5) (n := many + u9) (by omega)
    have j49_2 : ∀ (u10 : Int), (0 ≤ u10 ∧ u10 ≤ 60) → GG p_ l e_ rm_L_does_24_2000 s_ m_ a_ b_ h_ c_ Q E A 14 σ 0 0 63 [(9, .int (iI (pkE E (k + 5) (many + u9)))), (8, .int (iI (pkE E (k + 4) 1000))), (7, .int (iI (pkE E (k + 3) 1000))), (0, .ref (eb E)), (1, .int (iI k)), (2, .int (iI kind)), (3, .ref (ea E 0)), (4, .int (iI r)), (5, .int (iI q)), (6, .int (iI many))] [.int (iI u10)] := by
      intro u10 hu10
      refine g_istore C (L' := [(10, .int (iI u10)), (9, .int (iI (pkE E (k + 5) (many + u9)))), (8, .int (iI (pkE E (k + 4) 1000))), (7, .int (iI (pkE E (k + 3) 1000))), (0, .ref (eb E)), (1, .int (iI k)), (2, .int (iI kind)), (3, .ref (ea E 0)), (4, .int (iI r)), (5, .int (iI q)), (6, .int (iI many))]) dL_does_63 (by decide) rfl (q := 65) rfl ?_
      have j65_3 : ∀ (u11 : Int), (0 ≤ u11 ∧ u11 ≤ 60) → GG p_ l e_ rm_L_does_24_2000 s_ m_ a_ b_ h_ c_ Q E A 14 σ 0 0 91 [(10, .int (iI u10)), (9, .int (iI (pkE E (k + 5) (many + u9)))), (8, .int (iI (pkE E (k + 4) 1000))), (7, .int (iI (pkE E (k + 3) 1000))), (0, .ref (eb E)), (1, .int (iI k)), (2, .int (iI kind)), (3, .ref (ea E 0)), (4, .int (iI r)), (5, .int (iI q)), (6, .int (iI many))] [.int (iI u11)] := by
        intro u11 hu11
        refine g_istore C (L' := [(11, .int (iI u11)), (10, .int (iI u10)), (9, .int (iI (pkE E (k + 5) (many + u9)))), (8, .int (iI (pkE E (k + 4) 1000))), (7, .int (iI (pkE E (k + 3) 1000))), (0, .ref (eb E)), (1, .int (iI k)), (2, .int (iI kind)), (3, .ref (ea E 0)), (4, .int (iI r)), (5, .int (iI q)), (6, .int (iI many))]) dL_does_91 (by decide) rfl (q := 93) rfl ?_
        have j93_4 : ∀ (u12 : Int), (0 ≤ u12 ∧ u12 ≤ 1000) → GG p_ l e_ rm_L_does_24_2000 s_ m_ a_ b_ h_ c_ Q E A 14 σ 0 0 127 [(11, .int (iI u11)), (10, .int (iI u10)), (9, .int (iI (pkE E (k + 5) (many + u9)))), (8, .int (iI (pkE E (k + 4) 1000))), (7, .int (iI (pkE E (k + 3) 1000))), (0, .ref (eb E)), (1, .int (iI k)), (2, .int (iI kind)), (3, .ref (ea E 0)), (4, .int (iI r)), (5, .int (iI q)), (6, .int (iI many))] [.int (iI u12)] := by
          intro u12 hu12
          refine g_istore C (L' := [(12, .int (iI u12)), (11, .int (iI u11)), (10, .int (iI u10)), (9, .int (iI (pkE E (k + 5) (many + u9)))), (8, .int (iI (pkE E (k + 4) 1000))), (7, .int (iI (pkE E (k + 3) 1000))), (0, .ref (eb E)), (1, .int (iI k)), (2, .int (iI kind)), (3, .ref (ea E 0)), (4, .int (iI r)), (5, .int (iI q)), (6, .int (iI many))]) dL_does_127 (by decide) rfl (q := 129) rfl ?_
          have j129_5 : ∀ (u13 : Int), (0 ≤ u13 ∧ u13 ≤ 8) → GG p_ l e_ rm_L_does_24_2000 s_ m_ a_ b_ h_ c_ Q E A 14 σ 0 0 161 [(12, .int (iI u12)), (11, .int (iI u11)), (10, .int (iI u10)), (9, .int (iI (pkE E (k + 5) (many + u9)))), (8, .int (iI (pkE E (k + 4) 1000))), (7, .int (iI (pkE E (k + 3) 1000))), (0, .ref (eb E)), (1, .int (iI k)), (2, .int (iI kind)), (3, .ref (ea E 0)), (4, .int (iI r)), (5, .int (iI q)), (6, .int (iI many))] [.int (iI u13)] := by
            intro u13 hu13
            refine g_istore C (L' := [(13, .int (iI u13)), (12, .int (iI u12)), (11, .int (iI u11)), (10, .int (iI u10)), (9, .int (iI (pkE E (k + 5) (many + u9)))), (8, .int (iI (pkE E (k + 4) 1000))), (7, .int (iI (pkE E (k + 3) 1000))), (0, .ref (eb E)), (1, .int (iI k)), (2, .int (iI kind)), (3, .ref (ea E 0)), (4, .int (iI r)), (5, .int (iI q)), (6, .int (iI many))]) dL_does_161 (by decide) rfl (q := 163) rfl ?_
            refine g_iload_n C dL_does_163 9 rfl rfl (q := 164) rfl ?_
            rcases (show (0 ≤ kind ∧ kind ≤ 5) ∨ (6 ≤ kind ∧ kind ≤ 13) ∨ (14 ≤ kind ∧ kind ≤ 15) ∨ (16 ≤ kind ∧ kind ≤ 17) ∨ (18 ≤ kind ∧ kind ≤ 22) ∨ (23 ≤ kind ∧ kind ≤ 27) ∨ (28 ≤ kind ∧ kind ≤ 29) ∨ (30 ≤ kind ∧ kind ≤ 33) ∨ (34 ≤ kind ∧ kind ≤ 38) ∨ 38 < kind by omega) with hkx | hkx | hkx | hkx | hkx | hkx | hkx | hkx | hkx | hkx
            · skip
              refine g_tabI C dL_does_164 (off := 172) (by omega) (by omega) (by omega) (by rcases (show kind = 0 ∨ kind = 1 ∨ kind = 2 ∨ kind = 3 ∨ kind = 4 ∨ kind = 5 by omega) with hk8 | hk8 | hk8 | hk8 | hk8 | hk8 <;> (rw [hk8]; rfl)) (q := 336) rfl ?_
              refine g_aload_n C dL_does_336 10 rfl rfl (q := 337) rfl ?_
              refine g_iload C dL_does_337 11 rfl (q := 339) rfl ?_
              refine g_iload C dL_does_339 1 rfl (q := 341) rfl ?_
              refine g_iload C dL_does_341 0 rfl (q := 343) rfl ?_
              rcases (show (FK (σ 2) 0 r u12 u13 0 = 0) ∨ (FK (σ 2) 0 r u12 u13 0 = 1) ∨ (FK (σ 2) 0 r u12 u13 0 = 2) ∨ (FK (σ 2) 0 r u12 u13 0 = 3) by exact FK_0) with hF9 | hF9 | hF9 | hF9
              · skip
                refine g_cT_i C (hh := th_L_append) (As := [.ref (ea E 0), .int (iI r), .int (iI u12), .int (iI u13)]) (c_L_append l hst E _ r u12 u13  (by first | assumption | omega) (by first | assumption | omega) (by first | assumption | omega) (by first | assumption | omega) (by first | assumption | omega) (by first | assumption | omega)) ml_L_220 mf_L_append rfl ⟨(Nat.le_of_ble_eq_true rfl), (Nat.le_of_ble_eq_true rfl)⟩ rfl rfl rfl (Nat.le_of_ble_eq_true rfl) ⟨(Nat.le_of_ble_eq_true rfl), (Nat.le_of_ble_eq_true rfl)⟩ dL_does_343 (q := 346) rfl ?_
                exact hret _ _ _ _ _ _ (by omega) (by omega) dL_does_346 (by exact dr_ok (lok_0 hW (by omega) hF9) (chg_op (CW_op hW (by omega) hF9) hKP h7))
              · skip
                refine g_cT_i C (hh := th_L_append) (As := [.ref (ea E 0), .int (iI r), .int (iI u12), .int (iI u13)]) (c_L_append_1 l hst E _ r u12 u13  (by first | assumption | omega) (by first | assumption | omega) (by first | assumption | omega) (by first | assumption | omega) (by first | assumption | omega)) ml_L_220 mf_L_append rfl ⟨(Nat.le_of_ble_eq_true rfl), (Nat.le_of_ble_eq_true rfl)⟩ rfl rfl rfl (Nat.le_of_ble_eq_true rfl) ⟨by show 0 + 1 ≤ 24; omega, by show 0 + 6 ≤ 2000; omega⟩ dL_does_343 (q := 346) rfl ?_
                refine g_k (k2 := 1) (n2 := 6) (by omega) (by omega) ?_
                exact hret _ _ _ _ _ _ (by omega) (by omega) dL_does_346 (by exact Or.inr ⟨by omega, by omega, same_rf hKP h7⟩)
              · skip
                refine g_cT_i C (hh := th_L_append) (As := [.ref (ea E 0), .int (iI r), .int (iI u12), .int (iI u13)]) (c_L_append_2 l hst E _ r u12 u13  (by first | assumption | omega) (by first | assumption | omega) (by first | assumption | omega) (by first | assumption | omega) (by first | assumption | omega)) ml_L_220 mf_L_append rfl ⟨(Nat.le_of_ble_eq_true rfl), (Nat.le_of_ble_eq_true rfl)⟩ rfl rfl rfl (Nat.le_of_ble_eq_true rfl) ⟨by show 0 + 1 ≤ 24; omega, by show 0 + 6 ≤ 2000; omega⟩ dL_does_343 (q := 346) rfl ?_
                refine g_k (k2 := 1) (n2 := 6) (by omega) (by omega) ?_
                exact hret _ _ _ _ _ _ (by omega) (by omega) dL_does_346 (by exact Or.inr ⟨by omega, by omega, same_rf hKP h7⟩)
              · skip
                refine g_cT_i C (hh := th_L_append) (As := [.ref (ea E 0), .int (iI r), .int (iI u12), .int (iI u13)]) (c_L_append_3 l hst E _ r u12 u13  (by first | assumption | omega) (by first | assumption | omega) (by first | assumption | omega) (by first | assumption | omega) (by first | assumption | omega)) ml_L_220 mf_L_append rfl ⟨(Nat.le_of_ble_eq_true rfl), (Nat.le_of_ble_eq_true rfl)⟩ rfl rfl rfl (Nat.le_of_ble_eq_true rfl) ⟨by show 0 + 1 ≤ 24; omega, by show 0 + 6 ≤ 2000; omega⟩ dL_does_343 (q := 346) rfl ?_
                refine g_k (k2 := 1) (n2 := 6) (by omega) (by omega) ?_
                exact hret _ _ _ _ _ _ (by omega) (by omega) dL_does_346 (by exact Or.inr ⟨by omega, by omega, same_rf hKP h7⟩)
            · skip
              refine g_tabI C dL_does_164 (off := 183) (by omega) (by omega) (by omega) (by rcases (show kind = 6 ∨ kind = 7 ∨ kind = 8 ∨ kind = 9 ∨ kind = 10 ∨ kind = 11 ∨ kind = 12 ∨ kind = 13 by omega) with hk8 | hk8 | hk8 | hk8 | hk8 | hk8 | hk8 | hk8 <;> (rw [hk8]; rfl)) (q := 347) rfl ?_
              refine g_aload_n C dL_does_347 10 rfl rfl (q := 348) rfl ?_
              refine g_iload C dL_does_348 11 rfl (q := 350) rfl ?_
              refine g_iload C dL_does_350 4 rfl (q := 352) rfl ?_
              refine g_iload C dL_does_352 1 rfl (q := 354) rfl ?_
              refine g_iload C dL_does_354 0 rfl (q := 356) rfl ?_
              rcases (show (FK (σ 2) 1 r (pkE E (k + 5) (many + u9)) u12 u13 = 0) ∨ (FK (σ 2) 1 r (pkE E (k + 5) (many + u9)) u12 u13 = 1) ∨ (FK (σ 2) 1 r (pkE E (k + 5) (many + u9)) u12 u13 = 2) ∨ (FK (σ 2) 1 r (pkE E (k + 5) (many + u9)) u12 u13 = 3) by exact FK_0) with hF9 | hF9 | hF9 | hF9
              · skip
                refine g_cT_i C (hh := th_L_insert) (As := [.ref (ea E 0), .int (iI r), .int (iI (pkE E (k + 5) (many + u9))), .int (iI u12), .int (iI u13)]) (c_L_insert l hst E _ r (pkE E (k + 5) (many + u9)) u12 u13  (by first | assumption | omega) (by first | assumption | omega) (by first | assumption | omega) (by first | assumption | omega) (by first | assumption | omega) (by first | assumption | omega) (by first | assumption | omega)) ml_L_223 mf_L_insert rfl ⟨(Nat.le_of_ble_eq_true rfl), (Nat.le_of_ble_eq_true rfl)⟩ rfl rfl rfl (Nat.le_of_ble_eq_true rfl) ⟨(Nat.le_of_ble_eq_true rfl), (Nat.le_of_ble_eq_true rfl)⟩ dL_does_356 (q := 359) rfl ?_
                exact hret _ _ _ _ _ _ (by omega) (by omega) dL_does_359 (by exact dr_ok (lok_1 hW (by omega) hF9) (chg_op (CW_op hW (by omega) hF9) hKP h7))
              · skip
                refine g_cT_i C (hh := th_L_insert) (As := [.ref (ea E 0), .int (iI r), .int (iI (pkE E (k + 5) (many + u9))), .int (iI u12), .int (iI u13)]) (c_L_insert_1 l hst E _ r (pkE E (k + 5) (many + u9)) u12 u13  (by first | assumption | omega) (by first | assumption | omega) (by first | assumption | omega) (by first | assumption | omega) (by first | assumption | omega) (by first | assumption | omega)) ml_L_223 mf_L_insert rfl ⟨(Nat.le_of_ble_eq_true rfl), (Nat.le_of_ble_eq_true rfl)⟩ rfl rfl rfl (Nat.le_of_ble_eq_true rfl) ⟨by show 0 + 1 ≤ 24; omega, by show 0 + 6 ≤ 2000; omega⟩ dL_does_356 (q := 359) rfl ?_
                refine g_k (k2 := 1) (n2 := 6) (by omega) (by omega) ?_
                exact hret _ _ _ _ _ _ (by omega) (by omega) dL_does_359 (by exact Or.inr ⟨by omega, by omega, same_rf hKP h7⟩)
              · skip
                refine g_cT_i C (hh := th_L_insert) (As := [.ref (ea E 0), .int (iI r), .int (iI (pkE E (k + 5) (many + u9))), .int (iI u12), .int (iI u13)]) (c_L_insert_2 l hst E _ r (pkE E (k + 5) (many + u9)) u12 u13  (by first | assumption | omega) (by first | assumption | omega) (by first | assumption | omega) (by first | assumption | omega) (by first | assumption | omega) (by first | assumption | omega)) ml_L_223 mf_L_insert rfl ⟨(Nat.le_of_ble_eq_true rfl), (Nat.le_of_ble_eq_true rfl)⟩ rfl rfl rfl (Nat.le_of_ble_eq_true rfl) ⟨by show 0 + 1 ≤ 24; omega, by show 0 + 6 ≤ 2000; omega⟩ dL_does_356 (q := 359) rfl ?_
                refine g_k (k2 := 1) (n2 := 6) (by omega) (by omega) ?_
                exact hret _ _ _ _ _ _ (by omega) (by omega) dL_does_359 (by exact Or.inr ⟨by omega, by omega, same_rf hKP h7⟩)
              · skip
                refine g_cT_i C (hh := th_L_insert) (As := [.ref (ea E 0), .int (iI r), .int (iI (pkE E (k + 5) (many + u9))), .int (iI u12), .int (iI u13)]) (c_L_insert_3 l hst E _ r (pkE E (k + 5) (many + u9)) u12 u13  (by first | assumption | omega) (by first | assumption | omega) (by first | assumption | omega) (by first | assumption | omega) (by first | assumption | omega) (by first | assumption | omega)) ml_L_223 mf_L_insert rfl ⟨(Nat.le_of_ble_eq_true rfl), (Nat.le_of_ble_eq_true rfl)⟩ rfl rfl rfl (Nat.le_of_ble_eq_true rfl) ⟨by show 0 + 1 ≤ 24; omega, by show 0 + 6 ≤ 2000; omega⟩ dL_does_356 (q := 359) rfl ?_
                refine g_k (k2 := 1) (n2 := 6) (by omega) (by omega) ?_
                exact hret _ _ _ _ _ _ (by omega) (by omega) dL_does_359 (by exact Or.inr ⟨by omega, by omega, same_rf hKP h7⟩)
            · skip
              refine g_tabI C dL_does_164 (off := 196) (by omega) (by omega) (by omega) (by rcases (show kind = 14 ∨ kind = 15 by omega) with hk8 | hk8 <;> (rw [hk8]; rfl)) (q := 360) rfl ?_
              refine g_aload_n C dL_does_360 10 rfl rfl (q := 361) rfl ?_
              refine g_iload C dL_does_361 11 rfl (q := 363) rfl ?_
              refine g_iload C dL_does_363 3 rfl (q := 365) rfl ?_
              rcases (show (FK (σ 2) 2 r u10 0 0 = 0) ∨ (FK (σ 2) 2 r u10 0 0 = 1) by exact FK2_c) with hF9 | hF9
              · skip
                refine g_cT_i C (hh := th_L_remove) (As := [.ref (ea E 0), .int (iI r), .int (iI u10)]) (c_L_remove l hst E _ r u10  (by first | assumption | omega) (by first | assumption | omega) (by first | assumption | omega) (by first | assumption | omega) (by first | assumption | omega)) ml_L_226 mf_L_remove rfl ⟨(Nat.le_of_ble_eq_true rfl), (Nat.le_of_ble_eq_true rfl)⟩ rfl rfl rfl (Nat.le_of_ble_eq_true rfl) ⟨(Nat.le_of_ble_eq_true rfl), (Nat.le_of_ble_eq_true rfl)⟩ dL_does_365 (q := 368) rfl ?_
                exact hret _ _ _ _ _ _ (by omega) (by omega) dL_does_368 (by exact dr_ok (lok_2 hW (by omega) hF9) (chg_op (CW_op hW (by omega) hF9) hKP h7))
              · skip
                refine g_cT_i C (hh := th_L_remove) (As := [.ref (ea E 0), .int (iI r), .int (iI u10)]) (c_L_remove_1 l hst E _ r u10  (by first | assumption | omega) (by first | assumption | omega) (by first | assumption | omega) (by first | assumption | omega)) ml_L_226 mf_L_remove rfl ⟨(Nat.le_of_ble_eq_true rfl), (Nat.le_of_ble_eq_true rfl)⟩ rfl rfl rfl (Nat.le_of_ble_eq_true rfl) ⟨by show 0 + 1 ≤ 24; omega, by show 0 + 6 ≤ 2000; omega⟩ dL_does_365 (q := 368) rfl ?_
                refine g_k (k2 := 1) (n2 := 6) (by omega) (by omega) ?_
                exact hret _ _ _ _ _ _ (by omega) (by omega) dL_does_368 (by exact Or.inr ⟨by omega, by omega, same_rf hKP h7⟩)
            · skip
              refine g_tabI C dL_does_164 (off := 205) (by omega) (by omega) (by omega) (by rcases (show kind = 16 ∨ kind = 17 by omega) with hk8 | hk8 <;> (rw [hk8]; rfl)) (q := 369) rfl ?_
              refine g_aload_n C dL_does_369 10 rfl rfl (q := 370) rfl ?_
              refine g_iload C dL_does_370 11 rfl (q := 372) rfl ?_
              refine g_iload C dL_does_372 3 rfl (q := 374) rfl ?_
              refine g_iload C dL_does_374 1 rfl (q := 376) rfl ?_
              rcases (show (FK (σ 2) 3 r u10 u12 0 = 0) ∨ (FK (σ 2) 3 r u10 u12 0 = 1) ∨ (FK (σ 2) 3 r u10 u12 0 = 2) by exact FK3_c) with hF9 | hF9 | hF9
              · skip
                refine g_cT_i C (hh := th_L_retie) (As := [.ref (ea E 0), .int (iI r), .int (iI u10), .int (iI u12)]) (c_L_retie l hst E _ r u10 u12  (by first | assumption | omega) (by first | assumption | omega) (by first | assumption | omega) (by first | assumption | omega) (by first | assumption | omega) (by first | assumption | omega)) ml_L_229 mf_L_retie rfl ⟨(Nat.le_of_ble_eq_true rfl), (Nat.le_of_ble_eq_true rfl)⟩ rfl rfl rfl (Nat.le_of_ble_eq_true rfl) ⟨(Nat.le_of_ble_eq_true rfl), (Nat.le_of_ble_eq_true rfl)⟩ dL_does_376 (q := 379) rfl ?_
                exact hret _ _ _ _ _ _ (by omega) (by omega) dL_does_379 (by exact dr_ok (lok_3 hW (by omega) hF9) (chg_op (CW_op hW (by omega) hF9) hKP h7))
              · skip
                refine g_cT_i C (hh := th_L_retie) (As := [.ref (ea E 0), .int (iI r), .int (iI u10), .int (iI u12)]) (c_L_retie_1 l hst E _ r u10 u12  (by first | assumption | omega) (by first | assumption | omega) (by first | assumption | omega) (by first | assumption | omega) (by first | assumption | omega)) ml_L_229 mf_L_retie rfl ⟨(Nat.le_of_ble_eq_true rfl), (Nat.le_of_ble_eq_true rfl)⟩ rfl rfl rfl (Nat.le_of_ble_eq_true rfl) ⟨by show 0 + 1 ≤ 24; omega, by show 0 + 6 ≤ 2000; omega⟩ dL_does_376 (q := 379) rfl ?_
                refine g_k (k2 := 1) (n2 := 6) (by omega) (by omega) ?_
                exact hret _ _ _ _ _ _ (by omega) (by omega) dL_does_379 (by exact Or.inr ⟨by omega, by omega, same_rf hKP h7⟩)
              · skip
                refine g_cT_i C (hh := th_L_retie) (As := [.ref (ea E 0), .int (iI r), .int (iI u10), .int (iI u12)]) (c_L_retie_2 l hst E _ r u10 u12  (by first | assumption | omega) (by first | assumption | omega) (by first | assumption | omega) (by first | assumption | omega) (by first | assumption | omega)) ml_L_229 mf_L_retie rfl ⟨(Nat.le_of_ble_eq_true rfl), (Nat.le_of_ble_eq_true rfl)⟩ rfl rfl rfl (Nat.le_of_ble_eq_true rfl) ⟨by show 0 + 1 ≤ 24; omega, by show 0 + 6 ≤ 2000; omega⟩ dL_does_376 (q := 379) rfl ?_
                refine g_k (k2 := 1) (n2 := 6) (by omega) (by omega) ?_
                exact hret _ _ _ _ _ _ (by omega) (by omega) dL_does_379 (by exact Or.inr ⟨by omega, by omega, same_rf hKP h7⟩)
            · skip
              refine g_tabI C dL_does_164 (off := 216) (by omega) (by omega) (by omega) (by rcases (show kind = 18 ∨ kind = 19 ∨ kind = 20 ∨ kind = 21 ∨ kind = 22 by omega) with hk8 | hk8 | hk8 | hk8 | hk8 <;> (rw [hk8]; rfl)) (q := 380) rfl ?_
              refine g_aload_n C dL_does_380 10 rfl rfl (q := 381) rfl ?_
              refine g_iload C dL_does_381 11 rfl (q := 383) rfl ?_
              refine g_iload C dL_does_383 4 rfl (q := 385) rfl ?_
              refine g_iload C dL_does_385 12 rfl (q := 387) rfl ?_
              rcases (show (FK (σ 2) 4 r (pkE E (k + 5) (many + u9)) q 0 = 0) ∨ (FK (σ 2) 4 r (pkE E (k + 5) (many + u9)) q 0 = 1) ∨ (FK (σ 2) 4 r (pkE E (k + 5) (many + u9)) q 0 = 2) ∨ (FK (σ 2) 4 r (pkE E (k + 5) (many + u9)) q 0 = 3) by exact FK_0) with hF9 | hF9 | hF9 | hF9
              · skip
                refine g_cT_i C (hh := th_L_cut) (As := [.ref (ea E 0), .int (iI r), .int (iI (pkE E (k + 5) (many + u9))), .int (iI q)]) (c_L_cut l hst E _ r (pkE E (k + 5) (many + u9)) q  (by first | assumption | omega) (by first | assumption | omega) (by first | assumption | omega) (by first | assumption | omega) (by first | assumption | omega) (by first | assumption | omega)) ml_L_231 mf_L_cut rfl ⟨(Nat.le_of_ble_eq_true rfl), (Nat.le_of_ble_eq_true rfl)⟩ rfl rfl rfl (Nat.le_of_ble_eq_true rfl) ⟨(Nat.le_of_ble_eq_true rfl), (Nat.le_of_ble_eq_true rfl)⟩ dL_does_387 (q := 390) rfl ?_
                exact hret _ _ _ _ _ _ (by omega) (by omega) dL_does_390 (by exact dr_ok (lok_4 hW (by omega) hF9) (chg_op (CW_op hW (by omega) hF9) hKP h7))
              · skip
                refine g_cT_i C (hh := th_L_cut) (As := [.ref (ea E 0), .int (iI r), .int (iI (pkE E (k + 5) (many + u9))), .int (iI q)]) (c_L_cut_1 l hst E _ r (pkE E (k + 5) (many + u9)) q  (by first | assumption | omega) (by first | assumption | omega) (by first | assumption | omega) (by first | assumption | omega) (by first | assumption | omega)) ml_L_231 mf_L_cut rfl ⟨(Nat.le_of_ble_eq_true rfl), (Nat.le_of_ble_eq_true rfl)⟩ rfl rfl rfl (Nat.le_of_ble_eq_true rfl) ⟨by show 0 + 1 ≤ 24; omega, by show 0 + 6 ≤ 2000; omega⟩ dL_does_387 (q := 390) rfl ?_
                refine g_k (k2 := 1) (n2 := 6) (by omega) (by omega) ?_
                exact hret _ _ _ _ _ _ (by omega) (by omega) dL_does_390 (by exact Or.inr ⟨by omega, by omega, same_rf hKP h7⟩)
              · skip
                refine g_cT_i C (hh := th_L_cut) (As := [.ref (ea E 0), .int (iI r), .int (iI (pkE E (k + 5) (many + u9))), .int (iI q)]) (c_L_cut_2 l hst E _ r (pkE E (k + 5) (many + u9)) q  (by first | assumption | omega) (by first | assumption | omega) (by first | assumption | omega) (by first | assumption | omega) (by first | assumption | omega)) ml_L_231 mf_L_cut rfl ⟨(Nat.le_of_ble_eq_true rfl), (Nat.le_of_ble_eq_true rfl)⟩ rfl rfl rfl (Nat.le_of_ble_eq_true rfl) ⟨by show 0 + 1 ≤ 24; omega, by show 0 + 6 ≤ 2000; omega⟩ dL_does_387 (q := 390) rfl ?_
                refine g_k (k2 := 1) (n2 := 6) (by omega) (by omega) ?_
                exact hret _ _ _ _ _ _ (by omega) (by omega) dL_does_390 (by exact Or.inr ⟨by omega, by omega, same_rf hKP h7⟩)
              · skip
                refine g_cT_i C (hh := th_L_cut) (As := [.ref (ea E 0), .int (iI r), .int (iI (pkE E (k + 5) (many + u9))), .int (iI q)]) (c_L_cut_3 l hst E _ r (pkE E (k + 5) (many + u9)) q  (by first | assumption | omega) (by first | assumption | omega) (by first | assumption | omega) (by first | assumption | omega) (by first | assumption | omega)) ml_L_231 mf_L_cut rfl ⟨(Nat.le_of_ble_eq_true rfl), (Nat.le_of_ble_eq_true rfl)⟩ rfl rfl rfl (Nat.le_of_ble_eq_true rfl) ⟨by show 0 + 1 ≤ 24; omega, by show 0 + 6 ≤ 2000; omega⟩ dL_does_387 (q := 390) rfl ?_
                refine g_k (k2 := 1) (n2 := 6) (by omega) (by omega) ?_
                exact hret _ _ _ _ _ _ (by omega) (by omega) dL_does_390 (by exact Or.inr ⟨by omega, by omega, same_rf hKP h7⟩)
            · skip
              refine g_tabI C dL_does_164 (off := 227) (by omega) (by omega) (by omega) (by rcases (show kind = 23 ∨ kind = 24 ∨ kind = 25 ∨ kind = 26 ∨ kind = 27 by omega) with hk8 | hk8 | hk8 | hk8 | hk8 <;> (rw [hk8]; rfl)) (q := 391) rfl ?_
              refine g_aload_n C dL_does_391 10 rfl rfl (q := 392) rfl ?_
              refine g_iload C dL_does_392 11 rfl (q := 394) rfl ?_
              refine g_iload C dL_does_394 12 rfl (q := 396) rfl ?_
              rcases (show (FK (σ 2) 5 r q 0 0 = 0) ∨ (FK (σ 2) 5 r q 0 0 = 1) ∨ (FK (σ 2) 5 r q 0 0 = 2) ∨ (FK (σ 2) 5 r q 0 0 = 3) by exact FK_0) with hF9 | hF9 | hF9 | hF9
              · skip
                refine g_cT_i C (hh := th_L_splice) (As := [.ref (ea E 0), .int (iI r), .int (iI q)]) (c_L_splice l hst E _ r q  (by first | assumption | omega) (by first | assumption | omega) (by first | assumption | omega) (by first | assumption | omega) (by first | assumption | omega)) ml_L_233 mf_L_splice rfl ⟨(Nat.le_of_ble_eq_true rfl), (Nat.le_of_ble_eq_true rfl)⟩ rfl rfl rfl (Nat.le_of_ble_eq_true rfl) ⟨(Nat.le_of_ble_eq_true rfl), (Nat.le_of_ble_eq_true rfl)⟩ dL_does_396 (q := 399) rfl ?_
                exact hret _ _ _ _ _ _ (by omega) (by omega) dL_does_399 (by exact dr_ok (lok_5 hW (by omega) hF9) (chg_op (CW_op hW (by omega) hF9) hKP h7))
              · skip
                refine g_cT_i C (hh := th_L_splice) (As := [.ref (ea E 0), .int (iI r), .int (iI q)]) (c_L_splice_1 l hst E _ r q  (by first | assumption | omega) (by first | assumption | omega) (by first | assumption | omega) (by first | assumption | omega)) ml_L_233 mf_L_splice rfl ⟨(Nat.le_of_ble_eq_true rfl), (Nat.le_of_ble_eq_true rfl)⟩ rfl rfl rfl (Nat.le_of_ble_eq_true rfl) ⟨by show 0 + 1 ≤ 24; omega, by show 0 + 6 ≤ 2000; omega⟩ dL_does_396 (q := 399) rfl ?_
                refine g_k (k2 := 1) (n2 := 6) (by omega) (by omega) ?_
                exact hret _ _ _ _ _ _ (by omega) (by omega) dL_does_399 (by exact Or.inr ⟨by omega, by omega, same_rf hKP h7⟩)
              · skip
                refine g_cT_i C (hh := th_L_splice) (As := [.ref (ea E 0), .int (iI r), .int (iI q)]) (c_L_splice_2 l hst E _ r q  (by first | assumption | omega) (by first | assumption | omega) (by first | assumption | omega) (by first | assumption | omega)) ml_L_233 mf_L_splice rfl ⟨(Nat.le_of_ble_eq_true rfl), (Nat.le_of_ble_eq_true rfl)⟩ rfl rfl rfl (Nat.le_of_ble_eq_true rfl) ⟨by show 0 + 1 ≤ 24; omega, by show 0 + 6 ≤ 2000; omega⟩ dL_does_396 (q := 399) rfl ?_
                refine g_k (k2 := 1) (n2 := 6) (by omega) (by omega) ?_
                exact hret _ _ _ _ _ _ (by omega) (by omega) dL_does_399 (by exact Or.inr ⟨by omega, by omega, same_rf hKP h7⟩)
              · skip
                refine g_cT_i C (hh := th_L_splice) (As := [.ref (ea E 0), .int (iI r), .int (iI q)]) (c_L_splice_3 l hst E _ r q  (by first | assumption | omega) (by first | assumption | omega) (by first | assumption | omega) (by first | assumption | omega)) ml_L_233 mf_L_splice rfl ⟨(Nat.le_of_ble_eq_true rfl), (Nat.le_of_ble_eq_true rfl)⟩ rfl rfl rfl (Nat.le_of_ble_eq_true rfl) ⟨by show 0 + 1 ≤ 24; omega, by show 0 + 6 ≤ 2000; omega⟩ dL_does_396 (q := 399) rfl ?_
                refine g_k (k2 := 1) (n2 := 6) (by omega) (by omega) ?_
                exact hret _ _ _ _ _ _ (by omega) (by omega) dL_does_399 (by exact Or.inr ⟨by omega, by omega, same_rf hKP h7⟩)
            · skip
              refine g_tabI C dL_does_164 (off := 236) (by omega) (by omega) (by omega) (by rcases (show kind = 28 ∨ kind = 29 by omega) with hk8 | hk8 <;> (rw [hk8]; rfl)) (q := 400) rfl ?_
              refine g_aload_n C dL_does_400 10 rfl rfl (q := 401) rfl ?_
              refine g_iload C dL_does_401 11 rfl (q := 403) rfl ?_
              refine g_iload C dL_does_403 12 rfl (q := 405) rfl ?_
              rcases (show (FK (σ 2) 6 r q 0 0 = 0) ∨ (FK (σ 2) 6 r q 0 0 = 1) by exact FK6_c) with hF9 | hF9
              · skip
                refine g_cT_i C (hh := th_L_exchange) (As := [.ref (ea E 0), .int (iI r), .int (iI q)]) (c_L_exchange l hst E _ r q  (by first | assumption | omega) (by first | assumption | omega) (by first | assumption | omega) (by first | assumption | omega) (by first | assumption | omega)) ml_L_235 mf_L_exchange rfl ⟨(Nat.le_of_ble_eq_true rfl), (Nat.le_of_ble_eq_true rfl)⟩ rfl rfl rfl (Nat.le_of_ble_eq_true rfl) ⟨(Nat.le_of_ble_eq_true rfl), (Nat.le_of_ble_eq_true rfl)⟩ dL_does_405 (q := 408) rfl ?_
                exact hret _ _ _ _ _ _ (by omega) (by omega) dL_does_408 (by exact dr_ok (lok_6 hW (by omega) hF9) (chg_op (CW_op hW (by omega) hF9) hKP h7))
              · skip
                refine g_cT_i C (hh := th_L_exchange) (As := [.ref (ea E 0), .int (iI r), .int (iI q)]) (c_L_exchange_1 l hst E _ r q  (by first | assumption | omega) (by first | assumption | omega) (by first | assumption | omega) (by first | assumption | omega)) ml_L_235 mf_L_exchange rfl ⟨(Nat.le_of_ble_eq_true rfl), (Nat.le_of_ble_eq_true rfl)⟩ rfl rfl rfl (Nat.le_of_ble_eq_true rfl) ⟨by show 0 + 1 ≤ 24; omega, by show 0 + 6 ≤ 2000; omega⟩ dL_does_405 (q := 408) rfl ?_
                refine g_k (k2 := 1) (n2 := 6) (by omega) (by omega) ?_
                exact hret _ _ _ _ _ _ (by omega) (by omega) dL_does_408 (by exact Or.inr ⟨by omega, by omega, same_rf hKP h7⟩)
            · skip
              refine g_tabI C dL_does_164 (off := 245) (by omega) (by omega) (by omega) (by rcases (show kind = 30 ∨ kind = 31 ∨ kind = 32 ∨ kind = 33 by omega) with hk8 | hk8 | hk8 | hk8 <;> (rw [hk8]; rfl)) (q := 409) rfl ?_
              refine g_aload_n C dL_does_409 10 rfl rfl (q := 410) rfl ?_
              refine g_iload C dL_does_410 11 rfl (q := 412) rfl ?_
              have j412_6 : ∀ (w1 : Int), (0 ≤ w1 ∧ w1 ≤ 60) → GG p_ l e_ rm_L_does_24_2000 s_ m_ a_ b_ h_ c_ Q E A 14 σ 0 0 427 [(13, .int (iI u13)), (12, .int (iI u12)), (11, .int (iI u11)), (10, .int (iI u10)), (9, .int (iI (pkE E (k + 5) (many + u9)))), (8, .int (iI (pkE E (k + 4) 1000))), (7, .int (iI (pkE E (k + 3) 1000))), (0, .ref (eb E)), (1, .int (iI k)), (2, .int (iI kind)), (3, .ref (ea E 0)), (4, .int (iI r)), (5, .int (iI q)), (6, .int (iI many))] [.int (iI w1), .int (iI r), .ref (ea E 0)] := by
                intro w1 hw1
                have j427_7 : ∀ (w2 : Int), (0 ≤ w2 ∧ w2 ≤ 60) → GG p_ l e_ rm_L_does_24_2000 s_ m_ a_ b_ h_ c_ Q E A 14 σ 0 0 442 [(13, .int (iI u13)), (12, .int (iI u12)), (11, .int (iI u11)), (10, .int (iI u10)), (9, .int (iI (pkE E (k + 5) (many + u9)))), (8, .int (iI (pkE E (k + 4) 1000))), (7, .int (iI (pkE E (k + 3) 1000))), (0, .ref (eb E)), (1, .int (iI k)), (2, .int (iI kind)), (3, .ref (ea E 0)), (4, .int (iI r)), (5, .int (iI q)), (6, .int (iI many))] [.int (iI w2), .int (iI w1), .int (iI r), .ref (ea E 0)] := by
                  intro w2 hw2
                  rcases (show (FK (σ 2) 7 r w1 w2 0 = 0) ∨ (FK (σ 2) 7 r w1 w2 0 = 1) ∨ (FK (σ 2) 7 r w1 w2 0 = 2) by exact FK7_c) with hF9 | hF9 | hF9
                  · skip
                    refine g_cT_i C (hh := th_L_flip) (As := [.ref (ea E 0), .int (iI r), .int (iI w1), .int (iI w2)]) (c_L_flip l hst E _ r w1 w2  (by first | assumption | omega) (by first | assumption | omega) (by first | assumption | omega) (by first | assumption | omega) (by first | assumption | omega) (by first | assumption | omega)) ml_L_237 mf_L_flip rfl ⟨(Nat.le_of_ble_eq_true rfl), (Nat.le_of_ble_eq_true rfl)⟩ rfl rfl rfl (Nat.le_of_ble_eq_true rfl) ⟨(Nat.le_of_ble_eq_true rfl), (Nat.le_of_ble_eq_true rfl)⟩ dL_does_442 (q := 445) rfl ?_
                    exact hret _ _ _ _ _ _ (by omega) (by omega) dL_does_445 (by exact dr_ok (lok_7 hW (by omega) hF9) (chg_op (CW_op hW (by omega) hF9) hKP h7))
                  · skip
                    refine g_cT_i C (hh := th_L_flip) (As := [.ref (ea E 0), .int (iI r), .int (iI w1), .int (iI w2)]) (c_L_flip_1 l hst E _ r w1 w2  (by first | assumption | omega) (by first | assumption | omega) (by first | assumption | omega) (by first | assumption | omega) (by first | assumption | omega)) ml_L_237 mf_L_flip rfl ⟨(Nat.le_of_ble_eq_true rfl), (Nat.le_of_ble_eq_true rfl)⟩ rfl rfl rfl (Nat.le_of_ble_eq_true rfl) ⟨by show 0 + 1 ≤ 24; omega, by show 0 + 6 ≤ 2000; omega⟩ dL_does_442 (q := 445) rfl ?_
                    refine g_k (k2 := 1) (n2 := 6) (by omega) (by omega) ?_
                    exact hret _ _ _ _ _ _ (by omega) (by omega) dL_does_445 (by exact Or.inr ⟨by omega, by omega, same_rf hKP h7⟩)
                  · skip
                    refine g_cT_i C (hh := th_L_flip) (As := [.ref (ea E 0), .int (iI r), .int (iI w1), .int (iI w2)]) (c_L_flip_2 l hst E _ r w1 w2  (by first | assumption | omega) (by first | assumption | omega) (by first | assumption | omega) (by first | assumption | omega) (by first | assumption | omega)) ml_L_237 mf_L_flip rfl ⟨(Nat.le_of_ble_eq_true rfl), (Nat.le_of_ble_eq_true rfl)⟩ rfl rfl rfl (Nat.le_of_ble_eq_true rfl) ⟨by show 0 + 1 ≤ 24; omega, by show 0 + 6 ≤ 2000; omega⟩ dL_does_442 (q := 445) rfl ?_
                    refine g_k (k2 := 1) (n2 := 6) (by omega) (by omega) ?_
                    exact hret _ _ _ _ _ _ (by omega) (by omega) dL_does_445 (by exact Or.inr ⟨by omega, by omega, same_rf hKP h7⟩)
                refine g_iload C dL_does_427 6 rfl (q := 429) rfl ?_
                refine g_bipush C dL_does_429 (by decide) (q := 431) rfl ?_
                refine g_irem C dL_does_431 (by omega) (q := 432) rfl ?_
                refine g_if_ne C dL_does_432 (by omega) (q2 := 440) rfl (q := 435) rfl (fun hb1 => ?_) (fun hb1 => ?_)
                · skip
                  refine g_iload C dL_does_440 2 rfl (q := 442) rfl ?_
                  exact j427_7 u11 (by omega)
                · skip
                  refine g_iload C dL_does_435 3 rfl (q := 437) rfl ?_
                  refine g_goto C dL_does_437 (q := 442) rfl ?_
                  exact j427_7 u10 (by omega)
              refine g_iload C dL_does_412 6 rfl (q := 414) rfl ?_
              refine g_bipush C dL_does_414 (by decide) (q := 416) rfl ?_
              refine g_irem C dL_does_416 (by omega) (q := 417) rfl ?_
              refine g_if_ne C dL_does_417 (by omega) (q2 := 425) rfl (q := 420) rfl (fun hb2 => ?_) (fun hb2 => ?_)
              · skip
                refine g_iload C dL_does_425 3 rfl (q := 427) rfl ?_
                exact j412_6 u10 (by omega)
              · skip
                refine g_iload C dL_does_420 2 rfl (q := 422) rfl ?_
                refine g_goto C dL_does_422 (q := 427) rfl ?_
                exact j412_6 u11 (by omega)
            · skip
              refine g_tabI C dL_does_164 (off := 282) (by omega) (by omega) (by omega) (by rcases (show kind = 34 ∨ kind = 35 ∨ kind = 36 ∨ kind = 37 ∨ kind = 38 by omega) with hk8 | hk8 | hk8 | hk8 | hk8 <;> (rw [hk8]; rfl)) (q := 446) rfl ?_
              refine g_aload_n C dL_does_446 10 rfl rfl (q := 447) rfl ?_
              refine g_iload C dL_does_447 11 rfl (q := 449) rfl ?_
              have j449_8 : ∀ (w1 : Int), (0 ≤ w1 ∧ w1 ≤ 60) → GG p_ l e_ rm_L_does_24_2000 s_ m_ a_ b_ h_ c_ Q E A 14 σ 0 0 464 [(13, .int (iI u13)), (12, .int (iI u12)), (11, .int (iI u11)), (10, .int (iI u10)), (9, .int (iI (pkE E (k + 5) (many + u9)))), (8, .int (iI (pkE E (k + 4) 1000))), (7, .int (iI (pkE E (k + 3) 1000))), (0, .ref (eb E)), (1, .int (iI k)), (2, .int (iI kind)), (3, .ref (ea E 0)), (4, .int (iI r)), (5, .int (iI q)), (6, .int (iI many))] [.int (iI w1), .int (iI r), .ref (ea E 0)] := by
                intro w1 hw1
                have j464_9 : ∀ (w2 : Int), (0 ≤ w2 ∧ w2 ≤ 60) → GG p_ l e_ rm_L_does_24_2000 s_ m_ a_ b_ h_ c_ Q E A 14 σ 0 0 479 [(13, .int (iI u13)), (12, .int (iI u12)), (11, .int (iI u11)), (10, .int (iI u10)), (9, .int (iI (pkE E (k + 5) (many + u9)))), (8, .int (iI (pkE E (k + 4) 1000))), (7, .int (iI (pkE E (k + 3) 1000))), (0, .ref (eb E)), (1, .int (iI k)), (2, .int (iI kind)), (3, .ref (ea E 0)), (4, .int (iI r)), (5, .int (iI q)), (6, .int (iI many))] [.int (iI w2), .int (iI w1), .int (iI r), .ref (ea E 0)] := by
                  intro w2 hw2
                  refine g_iload C dL_does_479 0 rfl (q := 481) rfl ?_
                  rcases (show (FK (σ 2) 8 r w1 w2 u13 = 0) ∨ (FK (σ 2) 8 r w1 w2 u13 = 1) ∨ (FK (σ 2) 8 r w1 w2 u13 = 2) by exact FK8_c) with hF9 | hF9 | hF9
                  · skip
                    refine g_cT_i C (hh := th_L_dye) (As := [.ref (ea E 0), .int (iI r), .int (iI w1), .int (iI w2), .int (iI u13)]) (c_L_dye l hst E _ r w1 w2 u13  (by first | assumption | omega) (by first | assumption | omega) (by first | assumption | omega) (by first | assumption | omega) (by first | assumption | omega) (by first | assumption | omega) (by first | assumption | omega)) ml_L_239 mf_L_dye rfl ⟨(Nat.le_of_ble_eq_true rfl), (Nat.le_of_ble_eq_true rfl)⟩ rfl rfl rfl (Nat.le_of_ble_eq_true rfl) ⟨(Nat.le_of_ble_eq_true rfl), (Nat.le_of_ble_eq_true rfl)⟩ dL_does_481 (q := 484) rfl ?_
                    exact hret _ _ _ _ _ _ (by omega) (by omega) dL_does_484 (by exact dr_ok (lok_8 hW (by omega) hF9) (chg_op (CW_op hW (by omega) hF9) hKP h7))
                  · skip
                    refine g_cT_i C (hh := th_L_dye) (As := [.ref (ea E 0), .int (iI r), .int (iI w1), .int (iI w2), .int (iI u13)]) (c_L_dye_1 l hst E _ r w1 w2 u13  (by first | assumption | omega) (by first | assumption | omega) (by first | assumption | omega) (by first | assumption | omega) (by first | assumption | omega) (by first | assumption | omega)) ml_L_239 mf_L_dye rfl ⟨(Nat.le_of_ble_eq_true rfl), (Nat.le_of_ble_eq_true rfl)⟩ rfl rfl rfl (Nat.le_of_ble_eq_true rfl) ⟨by show 0 + 1 ≤ 24; omega, by show 0 + 6 ≤ 2000; omega⟩ dL_does_481 (q := 484) rfl ?_
                    refine g_k (k2 := 1) (n2 := 6) (by omega) (by omega) ?_
                    exact hret _ _ _ _ _ _ (by omega) (by omega) dL_does_484 (by exact Or.inr ⟨by omega, by omega, same_rf hKP h7⟩)
                  · skip
                    refine g_cT_i C (hh := th_L_dye) (As := [.ref (ea E 0), .int (iI r), .int (iI w1), .int (iI w2), .int (iI u13)]) (c_L_dye_2 l hst E _ r w1 w2 u13  (by first | assumption | omega) (by first | assumption | omega) (by first | assumption | omega) (by first | assumption | omega) (by first | assumption | omega) (by first | assumption | omega)) ml_L_239 mf_L_dye rfl ⟨(Nat.le_of_ble_eq_true rfl), (Nat.le_of_ble_eq_true rfl)⟩ rfl rfl rfl (Nat.le_of_ble_eq_true rfl) ⟨by show 0 + 1 ≤ 24; omega, by show 0 + 6 ≤ 2000; omega⟩ dL_does_481 (q := 484) rfl ?_
                    refine g_k (k2 := 1) (n2 := 6) (by omega) (by omega) ?_
                    exact hret _ _ _ _ _ _ (by omega) (by omega) dL_does_484 (by exact Or.inr ⟨by omega, by omega, same_rf hKP h7⟩)
                refine g_iload C dL_does_464 6 rfl (q := 466) rfl ?_
                refine g_bipush C dL_does_466 (by decide) (q := 468) rfl ?_
                refine g_irem C dL_does_468 (by omega) (q := 469) rfl ?_
                refine g_if_ne C dL_does_469 (by omega) (q2 := 477) rfl (q := 472) rfl (fun hb3 => ?_) (fun hb3 => ?_)
                · skip
                  refine g_iload C dL_does_477 2 rfl (q := 479) rfl ?_
                  exact j464_9 u11 (by omega)
                · skip
                  refine g_iload C dL_does_472 3 rfl (q := 474) rfl ?_
                  refine g_goto C dL_does_474 (q := 479) rfl ?_
                  exact j464_9 u10 (by omega)
              refine g_iload C dL_does_449 6 rfl (q := 451) rfl ?_
              refine g_bipush C dL_does_451 (by decide) (q := 453) rfl ?_
              refine g_irem C dL_does_453 (by omega) (q := 454) rfl ?_
              refine g_if_ne C dL_does_454 (by omega) (q2 := 462) rfl (q := 457) rfl (fun hb4 => ?_) (fun hb4 => ?_)
              · skip
                refine g_iload C dL_does_462 3 rfl (q := 464) rfl ?_
                exact j449_8 u10 (by omega)
              · skip
                refine g_iload C dL_does_457 2 rfl (q := 459) rfl ?_
                refine g_goto C dL_does_459 (q := 464) rfl ?_
                exact j449_8 u11 (by omega)
            · skip
              refine g_tabO C dL_does_164 (by omega) (Or.inr (by omega)) (q := 485) rfl ?_
              refine g_sub [10, 11, 12, 6, 3, 1] (L' := [(3, .ref (ea E 0)), (4, .int (iI r)), (5, .int (iI q)), (7, .int (iI (pkE E (k + 3) 1000))), (10, .int (iI u10)), (12, .int (iI u12))]) rfl ?_
              exact does_485 hst C (Nat.le_of_ble_eq_true rfl) (Nat.le_of_ble_eq_true rfl) rfl rfl r q (pkE E (k + 3) 1000) u10 u12 hr hq (by omega) (by omega) (by omega) hW hP hR5 hKP h7 (fun k9 n9 pc9 L9 v9 σ9 ha hb hc hd => hret k9 n9 pc9 L9 v9 σ9 ha hb hc (DREL_39 (by omega) hd))
          refine g_iload C dL_does_129 5 rfl (q := 131) rfl ?_
          refine g_bipush C dL_does_131 (by decide) (q := 133) rfl ?_
          refine g_irem C dL_does_133 (by omega) (q := 134) rfl ?_
          refine g_if_ne C dL_does_134 (by omega) (q2 := 142) rfl (q := 137) rfl (fun hb5 => ?_) (fun hb5 => ?_)
          · skip
            refine g_iload C dL_does_142 4 rfl (q := 144) rfl ?_
            refine g_bipush C dL_does_144 (by decide) (q := 146) rfl ?_
            refine g_idiv C dL_does_146 (by omega) (q := 147) rfl ?_
            refine g_iload C dL_does_147 5 rfl (q := 149) rfl ?_
            refine g_iconst C dL_does_149 (q := 150) rfl ?_
            refine g_irem C dL_does_150 (by omega) (q := 151) rfl ?_
            refine g_if_ne C dL_does_151 (by omega) (q2 := 159) rfl (q := 154) rfl (fun hb6 => ?_) (fun hb6 => ?_)
            · skip
              refine g_iconst C dL_does_159 (q := 160) rfl ?_
              refine g_irem C dL_does_160 (by omega) (q := 161) rfl ?_
              exact j129_5 (((pkE E (k + 4) 1000) / 7) % 3) (by omega)
            · skip
              refine g_bipush C dL_does_154 (by decide) (q := 156) rfl ?_
              refine g_goto C dL_does_156 (q := 160) rfl ?_
              refine g_irem C dL_does_160 (by omega) (q := 161) rfl ?_
              exact j129_5 (((pkE E (k + 4) 1000) / 7) % 8) (by omega)
          · skip
            refine g_bipush C dL_does_137 (by decide) (q := 139) rfl ?_
            refine g_goto C dL_does_139 (q := 161) rfl ?_
            exact j129_5 8 (by omega)
        refine g_iload C dL_does_93 4 rfl (q := 95) rfl ?_
        refine g_bipush C dL_does_95 (by decide) (q := 97) rfl ?_
        refine g_irem C dL_does_97 (by omega) (q := 98) rfl ?_
        refine g_if_ne C dL_does_98 (by omega) (q2 := 109) rfl (q := 101) rfl (fun hb7 => ?_) (fun hb7 => ?_)
        · skip
          refine g_iconst C dL_does_109 (q := 110) rfl ?_
          refine g_iload C dL_does_110 3 rfl (q := 112) rfl ?_
          refine g_iload C dL_does_112 4 rfl (q := 114) rfl ?_
          refine g_iconst C dL_does_114 (q := 115) rfl ?_
          refine g_irem C dL_does_115 (by omega) (q := 116) rfl ?_
          refine g_if_ne C dL_does_116 (by omega) (q2 := 124) rfl (q := 119) rfl (fun hb8 => ?_) (fun hb8 => ?_)
          · skip
            refine g_iconst C dL_does_124 (q := 125) rfl ?_
            refine g_irem C dL_does_125 (by omega) (q := 126) rfl ?_
            refine g_iadd C dL_does_126 (q := 127) rfl ?_
            exact j93_4 (1 + ((pkE E (k + 4) 1000) % 4)) (by omega)
          · skip
            refine g_bipush C dL_does_119 (by decide) (q := 121) rfl ?_
            refine g_goto C dL_does_121 (q := 125) rfl ?_
            refine g_irem C dL_does_125 (by omega) (q := 126) rfl ?_
            refine g_iadd C dL_does_126 (q := 127) rfl ?_
            exact j93_4 (1 + ((pkE E (k + 4) 1000) % 99)) (by omega)
        · skip
          refine g_iload C dL_does_101 3 rfl (q := 103) rfl ?_
          refine g_bipush C dL_does_103 (by decide) (q := 105) rfl ?_
          refine g_irem C dL_does_105 (by omega) (q := 106) rfl ?_
          refine g_goto C dL_does_106 (q := 127) rfl ?_
          exact j93_4 ((pkE E (k + 4) 1000) % 101) (by omega)
      refine g_iload C dL_does_65 3 rfl (q := 67) rfl ?_
      refine g_bipush C dL_does_67 (by decide) (q := 69) rfl ?_
      refine g_irem C dL_does_69 (by omega) (q := 70) rfl ?_
      refine g_if_ne C dL_does_70 (by omega) (q2 := 78) rfl (q := 73) rfl (fun hb9 => ?_) (fun hb9 => ?_)
      · skip
        refine g_iload C dL_does_78 10 rfl (q := 80) rfl ?_
        refine g_iload C dL_does_80 0 rfl (q := 82) rfl ?_
        refine g_iload C dL_does_82 3 rfl (q := 84) rfl ?_
        refine g_bipush C dL_does_84 (by decide) (q := 86) rfl ?_
        refine g_irem C dL_does_86 (by omega) (q := 87) rfl ?_
        refine g_iadd C dL_does_87 (q := 88) rfl ?_
        refine g_min C ml_L_217 (by omega) dL_does_88 (Nat.le_of_ble_eq_true rfl) (Nat.le_of_ble_eq_true rfl) (Nat.le_of_ble_eq_true rfl) (Nat.le_of_ble_eq_true rfl) (q := 91) rfl ?_
        exact j65_3 (min many (u10 + ((pkE E (k + 3) 1000) % 9))) (by omega)
      · skip
        refine g_iload C dL_does_73 10 rfl (q := 75) rfl ?_
        refine g_goto C dL_does_75 (q := 91) rfl ?_
        exact j65_3 many (by omega)
    refine g_iload C dL_does_49 9 rfl (q := 51) rfl ?_
    refine g_if_ne C dL_does_51 (by omega) (q2 := 58) rfl (q := 54) rfl (fun hb10 => ?_) (fun hb10 => ?_)
    · skip
      refine g_iload C dL_does_58 1 rfl (q := 60) rfl ?_
      refine g_iload C dL_does_60 9 rfl (q := 62) rfl ?_
      refine g_irem C dL_does_62 (by omega) (q := 63) rfl ?_
      exact j49_2 ((pkE E (k + 4) 1000) % many) (by first | omega | (have h1 := Int.emod_nonneg (pkE E (k + 4) 1000) (b := many) (by omega); have h2 := Int.emod_lt_of_pos (pkE E (k + 4) 1000) (b := many) (by omega); omega))
    · skip
      refine g_iconst C dL_does_54 (q := 55) rfl ?_
      refine g_goto C dL_does_55 (q := 63) rfl ?_
      exact j49_2 0 (by first | omega | (have h1 := Int.emod_nonneg (pkE E (k + 4) 1000) (b := many) (by omega); have h2 := Int.emod_lt_of_pos (pkE E (k + 4) 1000) (b := many) (by omega); omega))
  refine g_iload C dL_does_30 1 rfl (q := 32) rfl ?_
  refine g_bipush C dL_does_32 (by decide) (q := 34) rfl ?_
  refine g_irem C dL_does_34 (by omega) (q := 35) rfl ?_
  refine g_if_ne C dL_does_35 (by omega) (q2 := 42) rfl (q := 38) rfl (fun hb11 => ?_) (fun hb11 => ?_)
  · skip
    refine g_iconst C dL_does_42 (q := 43) rfl ?_
    exact j30_1 1 (by omega)
  · skip
    refine g_iconst C dL_does_38 (q := 39) rfl ?_
    refine g_goto C dL_does_39 (q := 43) rfl ?_
    exact j30_1 2 (by omega)
