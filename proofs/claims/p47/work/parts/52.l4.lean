abbrev rm_L_isKept_4_24 : Room := { frames := 8, cells := 4, slots := 24, locals := 187 }
set_option maxRecDepth 100000 in
set_option maxHeartbeats 8000000 in
theorem c_L_isKept (l : Launch) (hst : l.stackTraces = false) (E : EV) (σ : SS) (made : Int) (hI : INV σ made 100) (hm : 0 ≤ made ∧ made ≤ 56) : NX9 l yL_isKept (cw yL_isKept cL_isKept 6 (some .boolean)) rm_L_isKept_4_24 E [.ref (ea E 0), .ref (ea E 13), .int (iI made)] σ (fun v9 σ9 => v9 = 1) 4 24 := by
  refine NX9Z_of (rm := rm_L_isKept_4_24) (mL := 6) (b := cL_isKept) RL rfl (by decide +kernel) [(0, .ref (ea E 0)), (1, .ref (ea E 13)), (2, .int (iI made))] rfl (Nat.le_of_ble_eq_true rfl) (fun p_ e_ s_ m_ a_ b_ h_ c_ Q A C hret => ?_)
  obtain ⟨hW, hP, hB, hR5, hKP, h7, hS, hH⟩ := hI
  have c0 := (hW 0 (by omega)).1
  have c1 := (hW 1 (by omega)).1
  have c2 := (hW 2 (by omega)).1
  have c3 := (hW 3 (by omega)).1
  refine g_aload_n C dL_isKept_0 0 rfl rfl (q := 1) rfl ?_
  refine g_cV_i C (As := []) (c_X4_save l E _  ) ml_L_332 mf_X4_save (o := 0) (ci := 4) rfl rfl rfl rfl ⟨(Nat.le_of_ble_eq_true rfl), (Nat.le_of_ble_eq_true rfl)⟩ rfl rfl rfl (Nat.le_of_ble_eq_true rfl) ⟨(Nat.le_of_ble_eq_true rfl), (Nat.le_of_ble_eq_true rfl)⟩ dL_isKept_1 (q := 4) rfl ?_
  refine g_top (b := 0 + (σ 2) (240 + 0) + (σ 2) (240 + 1) + (σ 2) (240 + 2) + (σ 2) (240 + 3)) (by rfl) ?_
  refine g_istore_n C (L' := [(3, .int (iI (0 + (σ 2) (240 + 0) + (σ 2) (240 + 1) + (σ 2) (240 + 2) + (σ 2) (240 + 3)))), (0, .ref (ea E 0)), (1, .ref (ea E 13)), (2, .int (iI made))]) dL_isKept_4 rfl (by decide) rfl (q := 5) rfl ?_
  refine g_bipush C dL_isKept_5 (by decide) (q := 7) rfl ?_
  refine g_iload_n C dL_isKept_7 3 rfl rfl (q := 8) rfl ?_
  refine g_min C ml_L_217 (by omega) dL_isKept_8 (Nat.le_of_ble_eq_true rfl) (Nat.le_of_ble_eq_true rfl) (Nat.le_of_ble_eq_true rfl) (Nat.le_of_ble_eq_true rfl) (q := 11) rfl ?_
  refine g_top (b := min 8 made) (by rfl) ?_
  refine g_istore C (L' := [(4, .int (iI (min 8 made))), (3, .int (iI (0 + (σ 2) (240 + 0) + (σ 2) (240 + 1) + (σ 2) (240 + 2) + (σ 2) (240 + 3)))), (0, .ref (ea E 0)), (1, .ref (ea E 13)), (2, .int (iI made))]) dL_isKept_11 (by decide) rfl (q := 13) rfl ?_
  refine g_iload_n C dL_isKept_13 4 rfl rfl (q := 14) rfl ?_
  refine g_iconst C dL_isKept_14 (q := 15) rfl ?_
  refine g_isub C dL_isKept_15 (q := 16) rfl ?_
  refine g_istore C (L' := [(5, .int (iI (made - 1))), (4, .int (iI (min 8 made))), (3, .int (iI (0 + (σ 2) (240 + 0) + (σ 2) (240 + 1) + (σ 2) (240 + 2) + (σ 2) (240 + 3)))), (0, .ref (ea E 0)), (1, .ref (ea E 13)), (2, .int (iI made))]) dL_isKept_16 (by decide) rfl (q := 18) rfl ?_
  refine g_sub [3, 4, 5, 2, 1, 0] (L' := [(0, .ref (ea E 0)), (1, .ref (ea E 13)), (2, .int (iI made)), (3, .int (iI (0 + (σ 2) (240 + 0) + (σ 2) (240 + 1) + (σ 2) (240 + 2) + (σ 2) (240 + 3)))), (4, .int (iI (min 8 made))), (5, .int (iI (made - 1)))]) rfl ?_
  refine g_st (σ2 := (st (st (st (st σ 0 (pt (σ 0) 3 1)) 2 (σ 2)) 4 (cpf (σ 2) (σ 4) 0 0 310)) 5 (σ 5))) (by funext q9; by_cases h2 : q9 = 2 <;> by_cases h5 : q9 = 5 <;> simp [st, h2, h5]) ?_
  have lp18 : ∀ (k9 : Nat) (lf : Int) (n1 : Int) (g2 : Int → Int) (g5 : Int → Int), lf.toNat < k9 → ((0 ≤ lf ∧ lf ≤ 8) ∧ (lf - 1 ≤ n1 ∧ n1 ≤ 56)) → (0 ≤ g5 1 ∧ g5 1 < 8 ∧ g5 2 = lf) → (HI (σ 6) (σ 13) (g5 1) lf n1) → GG p_ l e_ rm_L_isKept_4_24 s_ m_ a_ b_ h_ c_ Q E A 6 (st (st (st (st σ 0 (pt (σ 0) 3 1)) 2 g2) 4 (cpf (σ 2) (σ 4) 0 0 310)) 5 g5) 0 0 18 [(0, .ref (ea E 0)), (1, .ref (ea E 13)), (2, .int (iI made)), (3, .int (iI (0 + (σ 2) (240 + 0) + (σ 2) (240 + 1) + (σ 2) (240 + 2) + (σ 2) (240 + 3)))), (4, .int (iI lf)), (5, .int (iI n1))] [] := by
    intro k9
    induction k9 with
    | zero => intro lf n1 g2 g5 hk9; omega
    | succ k9 ih18 =>
      intro lf n1 g2 g5 hk9 hlf hg hh
      refine g_iload C dL_isKept_18 4 rfl (q := 20) rfl ?_
      refine g_if_le C dL_isKept_20 (by omega) (q2 := 55) rfl (q := 23) rfl (fun hb1 => ?_) (fun hb1 => ?_)
      · skip
        have hcs : ∀ z, 0 ≤ z ∧ z < 310 → cpf (cpf (σ 2) (σ 4) 0 0 310) g2 0 0 310 z = σ 2 z := fun z hz => cpf2 hz
        refine g_aload_n C dL_isKept_55 0 rfl rfl (q := 56) rfl ?_
        refine g_cT_i C (hh := th_L_undo) (As := [.ref (ea E 0)]) (c_L_undo_1 l hst E _   (by show 0 ≤ (g5 1) ∧ (g5 1) < 8 ∧ 0 ≤ (g5 2) ∧ (g5 2) ≤ 8; omega) (by show (g5 2) = 0; omega)) ml_L_335 mf_L_undo rfl ⟨(Nat.le_of_ble_eq_true rfl), (Nat.le_of_ble_eq_true rfl)⟩ rfl rfl rfl (Nat.le_of_ble_eq_true rfl) ⟨by show 0 + 1 ≤ 4; omega, by show 0 + 6 ≤ 24; omega⟩ dL_isKept_56 (q := 59) rfl ?_
        refine g_k (k2 := 1) (n2 := 6) (by omega) (by omega) ?_
        refine g_bipush C dL_isKept_59 (by decide) (q := 61) rfl ?_
        refine g_icmp_ne C dL_isKept_61 (by omega) (q2 := 96) rfl (q := 64) rfl (fun hb2 => ?_) (fun hb2 => ?_)
        · skip
          exfalso; omega
        · skip
          refine g_aload_n C dL_isKept_64 0 rfl rfl (q := 65) rfl ?_
          refine g_cT_i C (hh := th_L_restore) (As := [.ref (ea E 0)]) (c_L_restore l hst E _   (by show 1 = 1; rfl)) ml_L_337 mf_L_restore rfl ⟨(Nat.le_of_ble_eq_true rfl), (Nat.le_of_ble_eq_true rfl)⟩ rfl rfl rfl (Nat.le_of_ble_eq_true rfl) ⟨by show 1 + 0 ≤ 4; omega, by show 6 + 0 ≤ 24; omega⟩ dL_isKept_65 (q := 68) rfl ?_
          refine g_k (k2 := 1) (n2 := 6) (by omega) (by omega) ?_
          refine g_top (b := 0 + (cpf (cpf (σ 2) (σ 4) 0 0 310) g2 0 0 310) (240 + 0) + (cpf (cpf (σ 2) (σ 4) 0 0 310) g2 0 0 310) (240 + 1) + (cpf (cpf (σ 2) (σ 4) 0 0 310) g2 0 0 310) (240 + 2) + (cpf (cpf (σ 2) (σ 4) 0 0 310) g2 0 0 310) (240 + 3)) rfl ?_
          refine g_st (σ2 := (st (st (st (st σ 0 (pt (σ 0) 3 1)) 2 (cpf (cpf (σ 2) (σ 4) 0 0 310) g2 0 0 310)) 4 (cpf (σ 2) (σ 4) 0 0 310)) 5 (pt g5 2 0))) ((congrArg (fun g9 => st g9 5 (pt g5 2 0)) ((st_cm (st (st (st σ 0 (pt (σ 0) 3 1)) 2 g2) 4 (cpf (σ 2) (σ 4) 0 0 310)) (o := 5) (q := 2) g5 (cpf (cpf (σ 2) (σ 4) 0 0 310) g2 0 0 310) (by decide)).trans (congrArg (fun g9 => st g9 5 g5) ((st_cm (st (st σ 0 (pt (σ 0) 3 1)) 2 g2) (o := 4) (q := 2) (cpf (σ 2) (σ 4) 0 0 310) (cpf (cpf (σ 2) (σ 4) 0 0 310) g2 0 0 310) (by decide)).trans (congrArg (fun g9 => st g9 4 (cpf (σ 2) (σ 4) 0 0 310)) (st_st _ _ _ _)))))).trans (st_st _ _ _ _)) ?_
          refine g_top (b := 0 + (σ 2) (240 + 0) + (σ 2) (240 + 1) + (σ 2) (240 + 2) + (σ 2) (240 + 3)) (by rw [cpf2 (z := 240 + 0) (by omega), cpf2 (z := 240 + 1) (by omega), cpf2 (z := 240 + 2) (by omega), cpf2 (z := 240 + 3) (by omega)]) ?_
          refine g_iload_n C dL_isKept_68 3 rfl rfl (q := 69) rfl ?_
          refine g_icmp_ne C dL_isKept_69 (by omega) (q2 := 96) rfl (q := 72) rfl (fun hb3 => ?_) (fun hb3 => ?_)
          · skip
            exfalso; omega
          · skip
            refine g_aload_n C dL_isKept_72 0 rfl rfl (q := 73) rfl ?_
            refine g_cN_l C (As := [.ref (ea E 0)]) (c_L_sum l hst E _   (by show CW (cpf (cpf (σ 2) (σ 4) 0 0 310) g2 0 0 310); exact CW_congr hW hcs) (by show (0 ≤ (cpf (cpf (σ 2) (σ 4) 0 0 310) g2 0 0 310) 308 ∧ (cpf (cpf (σ 2) (σ 4) 0 0 310) g2 0 0 310) 308 ≤ 1000) ∧ (0 ≤ (cpf (cpf (σ 2) (σ 4) 0 0 310) g2 0 0 310) 309 ∧ (cpf (cpf (σ 2) (σ 4) 0 0 310) g2 0 0 310) 309 ≤ 1000); rw [hcs 308 (by omega), hcs 309 (by omega)]; omega)) ml_L_178 mf_L_sum rfl rfl ⟨(Nat.le_of_ble_eq_true rfl), (Nat.le_of_ble_eq_true rfl)⟩ rfl rfl rfl (Nat.le_of_ble_eq_true rfl) ⟨by show 1 + 0 ≤ 4; omega, by show 6 + 0 ≤ 24; omega⟩ dL_isKept_73 (q := 76) rfl ?_
            refine g_k (k2 := 1) (n2 := 6) (by omega) (by omega) ?_
            refine g_toplc (b := SUM (cpf (cpf (σ 2) (σ 4) 0 0 310) g2 0 0 310)) rfl ?_
            refine g_aload_n C dL_isKept_76 1 rfl rfl (q := 77) rfl ?_
            refine g_iload_n C dL_isKept_77 2 rfl rfl (q := 78) rfl ?_
            refine gl_13 C (by omega) dL_isKept_78 (q := 79) rfl ?_
            refine g_toplc (b := (σ 13) made) rfl ?_
            refine g_lcmpE C (by rw [SUM_congr hW hcs]; exact hS.symm) dL_isKept_79 (q := 80) rfl ?_
            refine g_if_ne C dL_isKept_80 (by omega) (q2 := 96) rfl (q := 83) rfl (fun hb4 => ?_) (fun hb4 => ?_)
            · skip
              exfalso; omega
            · skip
              refine g_aload_n C dL_isKept_83 0 rfl rfl (q := 84) rfl ?_
              refine g_cT_i C (hh := th_L_undo) (As := [.ref (ea E 0)]) (c_L_undo_1 l hst E _   (by show 0 ≤ ((pt g5 2 0) 1) ∧ ((pt g5 2 0) 1) < 8 ∧ 0 ≤ ((pt g5 2 0) 2) ∧ ((pt g5 2 0) 2) ≤ 8; rw [pt_n _ _ (show (1 : Int) ≠ 2 by omega), pt_s]; omega) (by show ((pt g5 2 0) 2) = 0; exact pt_s _ _ _)) ml_L_335 mf_L_undo rfl ⟨(Nat.le_of_ble_eq_true rfl), (Nat.le_of_ble_eq_true rfl)⟩ rfl rfl rfl (Nat.le_of_ble_eq_true rfl) ⟨by show 1 + 1 ≤ 4; omega, by show 6 + 6 ≤ 24; omega⟩ dL_isKept_84 (q := 87) rfl ?_
              refine g_k (k2 := 2) (n2 := 12) (by omega) (by omega) ?_
              refine g_bipush C dL_isKept_87 (by decide) (q := 89) rfl ?_
              refine g_icmp_ne C dL_isKept_89 (by omega) (q2 := 96) rfl (q := 92) rfl (fun hb5 => ?_) (fun hb5 => ?_)
              · skip
                exfalso; omega
              · skip
                refine g_iconst C dL_isKept_92 (q := 93) rfl ?_
                refine g_goto C dL_isKept_93 (q := 97) rfl ?_
                exact hret _ _ _ _ _ _ (by omega) (by omega) dL_isKept_97 (by omega) (by rfl)
      · skip
        have hh0 := hh 0 (by omega) (by omega)
        have hcr := cpf_row (h := σ 6) (g := g2) (x := g5 1) (by omega)
        refine g_iinc C (L' := [(4, .int (iI (lf + (-1)))), (0, .ref (ea E 0)), (1, .ref (ea E 13)), (2, .int (iI made)), (3, .int (iI (0 + (σ 2) (240 + 0) + (σ 2) (240 + 1) + (σ 2) (240 + 2) + (σ 2) (240 + 3)))), (5, .int (iI n1))]) dL_isKept_23 4 rfl (by decide) rfl (q := 26) rfl ?_
        refine g_aload_n C dL_isKept_26 1 rfl rfl (q := 27) rfl ?_
        refine g_cT_i C (hh := th_L_undo) (As := [.ref (ea E 0)]) (c_L_undo l hst E _   (by show 0 ≤ (g5 1) ∧ (g5 1) < 8 ∧ 0 ≤ (g5 2) ∧ (g5 2) ≤ 8; omega) (by show 0 < (g5 2); omega)) ml_L_335 mf_L_undo rfl ⟨(Nat.le_of_ble_eq_true rfl), (Nat.le_of_ble_eq_true rfl)⟩ rfl rfl rfl (Nat.le_of_ble_eq_true rfl) ⟨(Nat.le_of_ble_eq_true rfl), (Nat.le_of_ble_eq_true rfl)⟩ dL_isKept_27 (q := 30) rfl ?_
        refine g_top (b := (g5 2) - 1) rfl ?_
        refine g_st (σ2 := (st (st (st (st σ 0 (pt (σ 0) 3 1)) 2 (cpf (σ 6) g2 (pv8 (g5 1) * 310) 0 310)) 4 (cpf (σ 2) (σ 4) 0 0 310)) 5 (pt (pt g5 1 (pv8 (g5 1))) 2 ((g5 2) - 1)))) ((congrArg (fun g9 => st g9 5 (pt (pt g5 1 (pv8 (g5 1))) 2 ((g5 2) - 1))) ((st_cm (st (st (st σ 0 (pt (σ 0) 3 1)) 2 g2) 4 (cpf (σ 2) (σ 4) 0 0 310)) (o := 5) (q := 2) g5 (cpf (σ 6) g2 (pv8 (g5 1) * 310) 0 310) (by decide)).trans (congrArg (fun g9 => st g9 5 g5) ((st_cm (st (st σ 0 (pt (σ 0) 3 1)) 2 g2) (o := 4) (q := 2) (cpf (σ 2) (σ 4) 0 0 310) (cpf (σ 6) g2 (pv8 (g5 1) * 310) 0 310) (by decide)).trans (congrArg (fun g9 => st g9 4 (cpf (σ 2) (σ 4) 0 0 310)) (st_st _ _ _ _)))))).trans (st_st _ _ _ _)) ?_
        refine g_top (b := lf + (-1)) (by omega) ?_
        refine g_iload C dL_isKept_30 0 rfl (q := 32) rfl ?_
        refine g_icmp_ne C dL_isKept_32 (by omega) (q2 := 47) rfl (q := 35) rfl (fun hb6 => ?_) (fun hb6 => ?_)
        · skip
          exfalso; omega
        · skip
          refine g_aload_n C dL_isKept_35 1 rfl rfl (q := 36) rfl ?_
          refine g_cN_l C (As := [.ref (ea E 0)]) (c_L_sum l hst E _   (by show CW (cpf (σ 6) g2 (pv8 (g5 1) * 310) 0 310); exact CW_congr hh0.1 hcr) (by show (0 ≤ (cpf (σ 6) g2 (pv8 (g5 1) * 310) 0 310) 308 ∧ (cpf (σ 6) g2 (pv8 (g5 1) * 310) 0 310) 308 ≤ 1000) ∧ (0 ≤ (cpf (σ 6) g2 (pv8 (g5 1) * 310) 0 310) 309 ∧ (cpf (σ 6) g2 (pv8 (g5 1) * 310) 0 310) 309 ≤ 1000); exact RB_congr hh0.2.1 hcr)) ml_L_178 mf_L_sum rfl rfl ⟨(Nat.le_of_ble_eq_true rfl), (Nat.le_of_ble_eq_true rfl)⟩ rfl rfl rfl (Nat.le_of_ble_eq_true rfl) ⟨(Nat.le_of_ble_eq_true rfl), (Nat.le_of_ble_eq_true rfl)⟩ dL_isKept_36 (q := 39) rfl ?_
          refine g_toplc (b := SUM (cpf (σ 6) g2 (pv8 (g5 1) * 310) 0 310)) rfl ?_
          refine g_aload_n C dL_isKept_39 2 rfl rfl (q := 40) rfl ?_
          refine g_iload C dL_isKept_40 5 rfl (q := 42) rfl ?_
          refine gl_13 C (by omega) dL_isKept_42 (q := 43) rfl ?_
          refine g_toplc (b := (σ 13) n1) rfl ?_
          refine g_lcmpE C (by rw [SUM_congr hh0.1 hcr, hh0.2.2, Int.sub_zero]) dL_isKept_43 (q := 44) rfl ?_
          refine g_if_eq C dL_isKept_44 (by omega) (q2 := 49) rfl (q := 47) rfl (fun hb7 => ?_) (fun hb7 => ?_)
          · skip
            refine g_iinc C (L' := [(5, .int (iI (n1 + (-1)))), (4, .int (iI (lf + (-1)))), (0, .ref (ea E 0)), (1, .ref (ea E 13)), (2, .int (iI made)), (3, .int (iI (0 + (σ 2) (240 + 0) + (σ 2) (240 + 1) + (σ 2) (240 + 2) + (σ 2) (240 + 3))))]) dL_isKept_49 5 rfl (by decide) rfl (q := 52) rfl ?_
            refine g_goto C dL_isKept_52 (q := 18) rfl ?_
            refine g_sub [2, 3, 4, 5, 1, 0] (L' := [(0, .ref (ea E 0)), (1, .ref (ea E 13)), (2, .int (iI made)), (3, .int (iI (0 + (σ 2) (240 + 0) + (σ 2) (240 + 1) + (σ 2) (240 + 2) + (σ 2) (240 + 3)))), (4, .int (iI (lf + (-1)))), (5, .int (iI (n1 + (-1))))]) rfl ?_
            exact ih18 (lf + (-1)) (n1 + (-1)) (cpf (σ 6) g2 (pv8 (g5 1) * 310) 0 310) (pt (pt g5 1 (pv8 (g5 1))) 2 ((g5 2) - 1)) (by omega) (by omega) (by rw [p2_1, p2_2]; have := (pv8_rg (x := g5 1) (by omega)).1; omega) (by rw [p2_1]; exact HI_back (by omega) hh)
          · skip
            exfalso; omega
  exact lp18 _ (min 8 made) (made - 1) (σ 2) (σ 5) (Nat.lt_succ_self _) (by omega) (by omega) (by rw [Int.min_comm, ← hR5.2.2]; exact hH)
