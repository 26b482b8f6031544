abbrev rm_L_cell_0_0 : Room := { frames := 0, cells := 0, slots := 0, locals := 0 }
set_option maxRecDepth 100000 in
set_option maxHeartbeats 4000000 in
theorem c_L_cell (l : Launch) (hst : l.stackTraces = false) (E : EV) (σ : SS) (k : Int) (hk : 0 ≤ k ∧ k ≤ 1000) (hN : (eN E : Int) ≤ 260) : NI l yL_cell (cw yL_cell cL_cell 2 (some .int)) rm_L_cell_0_0 E [.ref (eb E), .int (iI k)] σ (clE E k) σ 0 0 := by
  refine NI_of (rm := rm_L_cell_0_0) (mL := 2) (b := cL_cell) RL rfl (by decide +kernel) [(0, .ref (eb E)), (1, .int (iI k))] rfl (Nat.le_of_ble_eq_true rfl) (fun p_ e_ s_ m_ a_ b_ h_ c_ Q A C hret => ?_)
  refine g_iload_n C dL_cell_0 1 rfl rfl (q := 1) rfl ?_
  refine g_aload_n C dL_cell_1 0 rfl rfl (q := 2) rfl ?_
  refine g_scrN C dL_cell_2 (q := 3) rfl ?_
  refine g_icmp_ge C dL_cell_3 (by omega) (q2 := 12) rfl (q := 6) rfl (fun hb1 => ?_) (fun hb1 => ?_)
  · skip
    refine g_ldci C lc_ldci_7 dL_cell_12 (q := 14) rfl ?_
    refine g_iload_n C dL_cell_14 1 rfl rfl (q := 15) rfl ?_
    refine g_imul C dL_cell_15 (q := 16) rfl ?_
    exact hret _ _ _ _ _ (by omega) (by omega) dL_cell_16 (by unfold clE; split <;> first | rfl | omega)
  · skip
    refine g_aload_n C dL_cell_6 0 rfl rfl (q := 7) rfl ?_
    refine g_iload_n C dL_cell_7 1 rfl rfl (q := 8) rfl ?_
    refine g_scr C (j := k) (by omega) dL_cell_8 (q := 9) rfl ?_
    refine g_goto C dL_cell_9 (q := 16) rfl ?_
    exact hret _ _ _ _ _ (by omega) (by omega) dL_cell_16 (by unfold clE; split <;> first | rfl | omega)
abbrev rm_L_pick_0_0 : Room := { frames := 1, cells := 0, slots := 0, locals := 21 }
set_option maxRecDepth 100000 in
set_option maxHeartbeats 4000000 in
theorem c_L_pick (l : Launch) (hst : l.stackTraces = false) (E : EV) (σ : SS) (k n : Int) (hk : 0 ≤ k ∧ k ≤ 1000) (hn : 0 < n ∧ n ≤ 100000) (hN : (eN E : Int) ≤ 260) : NI l yL_pick (cw yL_pick cL_pick 3 (some .int)) rm_L_pick_0_0 E [.ref (eb E), .int (iI k), .int (iI n)] σ (pkE E k n) σ 0 0 := by
  refine NI_of (rm := rm_L_pick_0_0) (mL := 3) (b := cL_pick) RL rfl (by decide +kernel) [(0, .ref (eb E)), (1, .int (iI k)), (2, .int (iI n))] rfl (Nat.le_of_ble_eq_true rfl) (fun p_ e_ s_ m_ a_ b_ h_ c_ Q A C hret => ?_)
  refine g_aload_n C dL_pick_0 0 rfl rfl (q := 1) rfl ?_
  refine g_iload_n C dL_pick_1 1 rfl rfl (q := 2) rfl ?_
  refine g_cN_i C (As := [.ref (eb E), .int (iI k)]) (c_L_cell l hst E _ k  (by first | assumption | omega) (by first | assumption | omega)) ml_L_8 mf_L_cell rfl rfl ⟨(Nat.le_of_ble_eq_true rfl), (Nat.le_of_ble_eq_true rfl)⟩ rfl rfl rfl (Nat.le_of_ble_eq_true rfl) ⟨(Nat.le_of_ble_eq_true rfl), (Nat.le_of_ble_eq_true rfl)⟩ dL_pick_2 (q := 5) rfl ?_
  refine g_iconst C dL_pick_5 (q := 6) rfl ?_
  refine g_iushr1 C dL_pick_6 (q := 7) rfl ?_
  refine g_iload_n C dL_pick_7 2 rfl rfl (q := 8) rfl ?_
  refine g_irem C dL_pick_8 (by omega) (q := 9) rfl ?_
  exact hret _ _ _ _ _ (by omega) (by omega) dL_pick_9 (by rfl)
abbrev rm_L_sum_0_0 : Room := { frames := 6, cells := 0, slots := 0, locals := 131 }
set_option maxRecDepth 100000 in
set_option maxHeartbeats 4000000 in
theorem c_L_sum (l : Launch) (hst : l.stackTraces = false) (E : EV) (σ : SS) (hW : CW (σ 2)) (hcs : (0 ≤ (σ 2) 308 ∧ (σ 2) 308 ≤ 1000) ∧ (0 ≤ (σ 2) 309 ∧ (σ 2) 309 ≤ 1000)) : NL l yL_sum (cw yL_sum cL_sum 5 (some .long)) rm_L_sum_0_0 E [.ref (ea E 0)] σ (SUM (σ 2)) σ 0 0 := by
  refine NL_of (rm := rm_L_sum_0_0) (mL := 5) (b := cL_sum) RL rfl (by decide +kernel) [(0, .ref (ea E 0))] rfl (Nat.le_of_ble_eq_true rfl) (fun p_ e_ s_ m_ a_ b_ h_ c_ Q A C hret => ?_)
  refine g_ldc2 C lc_ldc2_276 dL_sum_0 (q := 3) rfl ?_
  refine g_aload_n C dL_sum_3 0 rfl rfl (q := 4) rfl ?_
  refine g_cV_i C (As := []) (c_X4_cutCount l E _  ) ml_L_194 mf_X4_cutCount (o := 0) (ci := 4) rfl rfl rfl rfl ⟨(Nat.le_of_ble_eq_true rfl), (Nat.le_of_ble_eq_true rfl)⟩ rfl rfl rfl (Nat.le_of_ble_eq_true rfl) ⟨(Nat.le_of_ble_eq_true rfl), (Nat.le_of_ble_eq_true rfl)⟩ dL_sum_4 (q := 7) rfl ?_
  refine g_i2l C dL_sum_7 (by omega) (q := 8) rfl ?_
  refine g_lmul C dL_sum_8 (q := 9) rfl ?_
  refine g_aload_n C dL_sum_9 0 rfl rfl (q := 10) rfl ?_
  refine g_cV_i C (As := []) (c_X4_spliceCount l E _  ) ml_L_197 mf_X4_spliceCount (o := 0) (ci := 4) rfl rfl rfl rfl ⟨(Nat.le_of_ble_eq_true rfl), (Nat.le_of_ble_eq_true rfl)⟩ rfl rfl rfl (Nat.le_of_ble_eq_true rfl) ⟨(Nat.le_of_ble_eq_true rfl), (Nat.le_of_ble_eq_true rfl)⟩ dL_sum_10 (q := 13) rfl ?_
  refine g_i2l C dL_sum_13 (by omega) (q := 14) rfl ?_
  refine g_ladd C dL_sum_14 (q := 15) rfl ?_
  refine g_lstore_n C (L' := [(1, .long (iL (31 * ((σ 2) 308) + ((σ 2) 309)))), (0, .ref (ea E 0))]) dL_sum_15 rfl (by decide) rfl (q := 16) rfl ?_
  refine g_iconst C dL_sum_16 (q := 17) rfl ?_
  refine g_istore_n C (L' := [(3, .int (iI 0)), (1, .long (iL (31 * ((σ 2) 308) + ((σ 2) 309)))), (0, .ref (ea E 0))]) dL_sum_17 rfl (by decide) rfl (q := 18) rfl ?_
  refine g_sub [2, 1, 0] (L' := [(0, .ref (ea E 0)), (1, .long (iL (31 * ((σ 2) 308) + ((σ 2) 309)))), (3, .int (iI 0))]) rfl ?_
  have lp18 : ∀ (k9 : Nat) (v : Int) (r : Int), (4 - r).toNat < k9 → (0 ≤ r ∧ r ≤ 4) → (srI (σ 2) v r = SUM (σ 2)) → GG p_ l e_ rm_L_sum_0_0 s_ m_ a_ b_ h_ c_ Q E A 5 σ 0 0 18 [(0, .ref (ea E 0)), (1, .long (iL v)), (3, .int (iI r))] [] := by
    intro k9
    induction k9 with
    | zero => intro v r hk9; omega
    | succ k9 ih18 =>
      intro v r hk9 hr hv
      refine g_iload_n C dL_sum_18 2 rfl rfl (q := 19) rfl ?_
      refine g_iconst C dL_sum_19 (q := 20) rfl ?_
      refine g_icmp_ge C dL_sum_20 (by omega) (q2 := 89) rfl (q := 23) rfl (fun hb1 => ?_) (fun hb1 => ?_)
      · skip
        refine g_lload_n C dL_sum_89 1 rfl rfl (q := 90) rfl ?_
        exact hret _ _ _ _ _ (by omega) (by omega) dL_sum_90 (by rw [← hv, srI_nil (by omega)])
      · skip
        have hn := (hW r (by omega)).1
        refine g_ldc2 C lc_ldc2_276 dL_sum_23 (q := 26) rfl ?_
        refine g_lload_n C dL_sum_26 1 rfl rfl (q := 27) rfl ?_
        refine g_lmul C dL_sum_27 (q := 28) rfl ?_
        refine g_aload_n C dL_sum_28 0 rfl rfl (q := 29) rfl ?_
        refine g_iload_n C dL_sum_29 2 rfl rfl (q := 30) rfl ?_
        refine g_cT_i C (hh := th_L_segmentCount) (As := [.ref (ea E 0), .int (iI r)]) (c_L_segmentCount l hst E _ r  (by first | assumption | omega) (by first | assumption | omega) (by exact fR_ok (by omega))) ml_L_186 mf_L_segmentCount rfl ⟨(Nat.le_of_ble_eq_true rfl), (Nat.le_of_ble_eq_true rfl)⟩ rfl rfl rfl (Nat.le_of_ble_eq_true rfl) ⟨(Nat.le_of_ble_eq_true rfl), (Nat.le_of_ble_eq_true rfl)⟩ dL_sum_30 (q := 33) rfl ?_
        refine g_i2l C dL_sum_33 (by omega) (q := 34) rfl ?_
        refine g_ladd C dL_sum_34 (q := 35) rfl ?_
        refine g_lstore_n C (L' := [(1, .long (iL (31 * v + ((σ 2) (240 + r))))), (0, .ref (ea E 0)), (3, .int (iI r))]) dL_sum_35 rfl (by decide) rfl (q := 36) rfl ?_
        refine g_iconst C dL_sum_36 (q := 37) rfl ?_
        refine g_istore C (L' := [(4, .int (iI 0)), (1, .long (iL (31 * v + ((σ 2) (240 + r))))), (0, .ref (ea E 0)), (3, .int (iI r))]) dL_sum_37 (by decide) rfl (q := 39) rfl ?_
        refine g_sub [2, 1, 3, 0] (L' := [(0, .ref (ea E 0)), (1, .long (iL (31 * v + ((σ 2) (240 + r))))), (3, .int (iI r)), (4, .int (iI 0))]) rfl ?_
        have lp39 : ∀ (k9 : Nat) (u : Int) (p : Int), ((σ 2) (240 + r) - p).toNat < k9 → (0 ≤ p ∧ p ≤ (σ 2) (240 + r)) → (suI (σ 2) r u p ((σ 2) (240 + r)) = suI (σ 2) r (31 * v + (σ 2) (240 + r)) 0 ((σ 2) (240 + r))) → GG p_ l e_ rm_L_sum_0_0 s_ m_ a_ b_ h_ c_ Q E A 5 σ 0 0 39 [(0, .ref (ea E 0)), (1, .long (iL u)), (3, .int (iI r)), (4, .int (iI p))] [] := by
          intro k9
          induction k9 with
          | zero => intro u p hk9; omega
          | succ k9 ih39 =>
            intro u p hk9 hp hu
            refine g_iload C dL_sum_39 3 rfl (q := 41) rfl ?_
            refine g_aload_n C dL_sum_41 0 rfl rfl (q := 42) rfl ?_
            refine g_iload_n C dL_sum_42 2 rfl rfl (q := 43) rfl ?_
            refine g_cT_i C (hh := th_L_segmentCount) (As := [.ref (ea E 0), .int (iI r)]) (c_L_segmentCount l hst E _ r  (by first | assumption | omega) (by first | assumption | omega) (by exact fR_ok (by omega))) ml_L_186 mf_L_segmentCount rfl ⟨(Nat.le_of_ble_eq_true rfl), (Nat.le_of_ble_eq_true rfl)⟩ rfl rfl rfl (Nat.le_of_ble_eq_true rfl) ⟨(Nat.le_of_ble_eq_true rfl), (Nat.le_of_ble_eq_true rfl)⟩ dL_sum_43 (q := 46) rfl ?_
            refine g_icmp_ge C dL_sum_46 (by omega) (q2 := 83) rfl (q := 49) rfl (fun hb2 => ?_) (fun hb2 => ?_)
            · skip
              refine g_iinc C (L' := [(3, .int (iI (r + 1))), (0, .ref (ea E 0)), (1, .long (iL u)), (4, .int (iI p))]) dL_sum_83 2 rfl (by decide) rfl (q := 86) rfl ?_
              refine g_goto C dL_sum_86 (q := 18) rfl ?_
              refine g_sub [1, 2, 0] (L' := [(0, .ref (ea E 0)), (1, .long (iL u)), (3, .int (iI (r + 1)))]) rfl ?_
              exact ih18 u (r + 1) (by omega) (by omega) (by rw [← hv, srI_cons (v := v) (r := r) (by omega), ← hu, suI_nil (by omega)])
            · skip
              have hs9 := (hW r (by omega)).2 p (by omega)
              refine g_ldc2 C lc_ldc2_276 dL_sum_49 (q := 52) rfl ?_
              refine g_lload_n C dL_sum_52 1 rfl rfl (q := 53) rfl ?_
              refine g_lmul C dL_sum_53 (q := 54) rfl ?_
              refine g_ldc2 C lc_ldc2_278 dL_sum_54 (q := 57) rfl ?_
              refine g_aload_n C dL_sum_57 0 rfl rfl (q := 58) rfl ?_
              refine g_iload_n C dL_sum_58 2 rfl rfl (q := 59) rfl ?_
              refine g_iload C dL_sum_59 3 rfl (q := 61) rfl ?_
              refine g_cT_i C (hh := th_L_length) (As := [.ref (ea E 0), .int (iI r), .int (iI p)]) (c_L_length l hst E _ r p  (by first | assumption | omega) (by first | assumption | omega) (by first | assumption | omega) (by exact fP_ok (by omega) (by omega))) ml_L_280 mf_L_length rfl ⟨(Nat.le_of_ble_eq_true rfl), (Nat.le_of_ble_eq_true rfl)⟩ rfl rfl rfl (Nat.le_of_ble_eq_true rfl) ⟨(Nat.le_of_ble_eq_true rfl), (Nat.le_of_ble_eq_true rfl)⟩ dL_sum_61 (q := 64) rfl ?_
              refine g_i2l C dL_sum_64 (by omega) (q := 65) rfl ?_
              refine g_lmul C dL_sum_65 (q := 66) rfl ?_
              refine g_ladd C dL_sum_66 (q := 67) rfl ?_
              refine g_aload_n C dL_sum_67 0 rfl rfl (q := 68) rfl ?_
              refine g_iload_n C dL_sum_68 2 rfl rfl (q := 69) rfl ?_
              refine g_iload C dL_sum_69 3 rfl (q := 71) rfl ?_
              refine g_cT_i C (hh := th_L_colour) (As := [.ref (ea E 0), .int (iI r), .int (iI p)]) (c_L_colour l hst E _ r p  (by first | assumption | omega) (by first | assumption | omega) (by first | assumption | omega) (by exact fP_ok (by omega) (by omega))) ml_L_282 mf_L_colour rfl ⟨(Nat.le_of_ble_eq_true rfl), (Nat.le_of_ble_eq_true rfl)⟩ rfl rfl rfl (Nat.le_of_ble_eq_true rfl) ⟨(Nat.le_of_ble_eq_true rfl), (Nat.le_of_ble_eq_true rfl)⟩ dL_sum_71 (q := 74) rfl ?_
              refine g_i2l C dL_sum_74 (by omega) (q := 75) rfl ?_
              refine g_ladd C dL_sum_75 (q := 76) rfl ?_
              refine g_lstore_n C (L' := [(1, .long (iL (31 * u + (8 * ((σ 2) (r * 60 + p) / 8)) + ((σ 2) (r * 60 + p) % 8)))), (0, .ref (ea E 0)), (3, .int (iI r)), (4, .int (iI p))]) dL_sum_76 rfl (by decide) rfl (q := 77) rfl ?_
              refine g_iinc C (L' := [(4, .int (iI (p + 1))), (1, .long (iL (31 * u + (8 * ((σ 2) (r * 60 + p) / 8)) + ((σ 2) (r * 60 + p) % 8)))), (0, .ref (ea E 0)), (3, .int (iI r))]) dL_sum_77 3 rfl (by decide) rfl (q := 80) rfl ?_
              refine g_goto C dL_sum_80 (q := 39) rfl ?_
              refine g_sub [2, 1, 3, 0] (L' := [(0, .ref (ea E 0)), (1, .long (iL (31 * u + (8 * ((σ 2) (r * 60 + p) / 8)) + ((σ 2) (r * 60 + p) % 8)))), (3, .int (iI r)), (4, .int (iI (p + 1)))]) rfl ?_
              exact ih39 (31 * u + (8 * ((σ 2) (r * 60 + p) / 8)) + ((σ 2) (r * 60 + p) % 8)) (p + 1) (by omega) (by omega) (by rw [← hu, suI_cons (p := p) (by omega)])
        exact lp39 _ (31 * v + ((σ 2) (240 + r))) 0 (Nat.lt_succ_self _) (by omega) (by rfl)
  exact lp18 _ (31 * ((σ 2) 308) + ((σ 2) 309)) 0 (Nat.lt_succ_self _) (by omega) (by rfl)
