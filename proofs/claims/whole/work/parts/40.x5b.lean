abbrev rm_X5_puts : Room := { frames := 3, cells := 0, slots := 0, locals := 64 }
set_option maxRecDepth 100000 in
set_option maxHeartbeats 4000000 in
theorem c_X5_puts (l : Launch) (E : EV) (σ : SS) (r p x c : Int) (f : Int → Int) (hM : MS f (σ 14)) (hr_r : -2147483648 ≤ r ∧ r ≤ 2147483647) (hr_p : -2147483648 ≤ p ∧ p ≤ 2147483647) (hr_x : -2147483648 ≤ x ∧ x ≤ 2147483647) (hr_c : -2147483648 ≤ c ∧ c ≤ 2147483647) (hF : fPu f r p x c = 0) : Ki l yX5_puts (cw yX5_puts cX5_puts 7 (some .int)) rm_X5_puts E [.ref (ea E 13), .int (iI r), .int (iI p), .int (iI x), .int (iI c)] σ 0 (st (st σ 13 (pt (σ 13) 14 ((σ 14) (2 + 121 * r) + 1))) 14 (mPut (σ 14) r p x c)) := by
  refine Ki_of (rm := rm_X5_puts) (mL := 7) (b := cX5_puts) RX5 rfl (by decide +kernel) rfl rfl [(0, .ref (ea E 13)), (1, .int (iI r)), (2, .int (iI p)), (3, .int (iI x)), (4, .int (iI c))] rfl (Nat.le_of_ble_eq_true rfl) (fun p_ e_ s_ m_ a_ b_ h_ c_ Q A C hret => ?_)
  have hcs := fPu_cs f r p x c
  have hB := bB_iff f r p
  have hB1 := bB_01 f r p
  have hL := bL_iff x
  have hL1 := bL_01 x
  have hC := bC_iff c
  have hC1 := bC_01 c
  refine g_aload_n C dX5_puts_0 0 rfl rfl (q := 1) rfl ?_
  refine g_iload_n C dX5_puts_1 1 rfl rfl (q := 2) rfl ?_
  refine g_iload_n C dX5_puts_2 2 rfl rfl (q := 3) rfl ?_
  refine g_cV_i C (As := [.int (iI r), .int (iI p)]) (c_X5_isBefore l E _ r p f (by assumption) (by omega) (by omega)) ml_X5_65 mf_X5_isBefore (o := 13) (ci := 5) rfl rfl rfl rfl ⟨(Nat.le_of_ble_eq_true rfl), (Nat.le_of_ble_eq_true rfl)⟩ rfl rfl rfl (Nat.le_of_ble_eq_true rfl) ⟨(Nat.le_of_ble_eq_true rfl), (Nat.le_of_ble_eq_true rfl)⟩ dX5_puts_3 (q := 6) rfl ?_
  refine g_if_ne C dX5_puts_6 (by omega) (q2 := 11) rfl (q := 9) rfl (fun hb1 => ?_) (fun hb1 => ?_)
  · skip
    refine g_iload_n C dX5_puts_11 3 rfl rfl (q := 12) rfl ?_
    refine g_cS_i C (As := [.int (iI x)]) (c_X5_isLength l E _ x  (by omega)) ml_X5_69 mf_X5_isLength rfl rfl ⟨(Nat.le_of_ble_eq_true rfl), (Nat.le_of_ble_eq_true rfl)⟩ rfl rfl rfl (Nat.le_of_ble_eq_true rfl) ⟨(Nat.le_of_ble_eq_true rfl), (Nat.le_of_ble_eq_true rfl)⟩ dX5_puts_12 (q := 15) rfl ?_
    refine g_if_eq C dX5_puts_15 (by omega) (q2 := 26) rfl (q := 18) rfl (fun hb2 => ?_) (fun hb2 => ?_)
    · skip
      exfalso; omega
    · skip
      refine g_iload C dX5_puts_18 4 rfl (q := 20) rfl ?_
      refine g_cS_i C (As := [.int (iI c)]) (c_X5_isColour l E _ c  (by omega)) ml_X5_72 mf_X5_isColour rfl rfl ⟨(Nat.le_of_ble_eq_true rfl), (Nat.le_of_ble_eq_true rfl)⟩ rfl rfl rfl (Nat.le_of_ble_eq_true rfl) ⟨(Nat.le_of_ble_eq_true rfl), (Nat.le_of_ble_eq_true rfl)⟩ dX5_puts_20 (q := 23) rfl ?_
      refine g_if_ne C dX5_puts_23 (by omega) (q2 := 28) rfl (q := 26) rfl (fun hb3 => ?_) (fun hb3 => ?_)
      · skip
        have hm_r := (hM.2.1 r (by omega)).1
        have hn_r := (hM.1 r (by omega)).1
        refine g_aload_n C dX5_puts_28 0 rfl rfl (q := 29) rfl ?_
        refine g_iload_n C dX5_puts_29 1 rfl rfl (q := 30) rfl ?_
        refine g_cV_i C (As := [.int (iI r)]) (c_X5_many l E _ r  (by omega)) ml_X5_62 mf_X5_many (o := 13) (ci := 5) rfl rfl rfl rfl ⟨(Nat.le_of_ble_eq_true rfl), (Nat.le_of_ble_eq_true rfl)⟩ rfl rfl rfl (Nat.le_of_ble_eq_true rfl) ⟨(Nat.le_of_ble_eq_true rfl), (Nat.le_of_ble_eq_true rfl)⟩ dX5_puts_30 (q := 33) rfl ?_
        refine g_istore C (L' := [(5, .int (iI ((σ 14) (2 + 121 * r)))), (0, .ref (ea E 13)), (1, .int (iI r)), (2, .int (iI p)), (3, .int (iI x)), (4, .int (iI c))]) dX5_puts_33 (by decide) rfl (q := 35) rfl ?_
        refine g_iload C dX5_puts_35 0 rfl (q := 37) rfl ?_
        refine g_bipush C dX5_puts_37 (by decide) (q := 39) rfl ?_
        refine g_icmp_ne C dX5_puts_39 (by omega) (q2 := 44) rfl (q := 42) rfl (fun hb4 => ?_) (fun hb4 => ?_)
        · skip
          refine g_iload C dX5_puts_44 0 rfl (q := 46) rfl ?_
          refine g_istore C (L' := [(6, .int (iI ((σ 14) (2 + 121 * r)))), (5, .int (iI ((σ 14) (2 + 121 * r)))), (0, .ref (ea E 13)), (1, .int (iI r)), (2, .int (iI p)), (3, .int (iI x)), (4, .int (iI c))]) dX5_puts_46 (by decide) rfl (q := 48) rfl ?_
          refine g_sub [2, 3, 4, 5, 6, 1, 0] (L' := [(0, .ref (ea E 13)), (1, .int (iI r)), (2, .int (iI p)), (3, .int (iI x)), (4, .int (iI c)), (5, .int (iI ((σ 14) (2 + 121 * r)))), (6, .int (iI ((σ 14) (2 + 121 * r))))]) rfl ?_
          refine g_st (σ2 := (st σ 14 (mPutL (σ 14) r ((σ 14) (2 + 121 * r)) ((σ 14) (2 + 121 * r))))) (by rw [show mPutL (σ 14) r (σ 14 (2 + 121 * r)) (σ 14 (2 + 121 * r)) = σ 14 from by funext z9; simp only [mPutL]; (repeat' split) <;> first | rfl | omega | (congr 1; omega)]; exact (st_id σ 14).symm) ?_
          have lp48 : ∀ (k9 : Nat) (k : Int), (k - p).toNat < k9 → (p ≤ k ∧ k ≤ σ 14 (2 + 121 * r)) → GG p_ l e_ rm_X5_puts s_ m_ a_ b_ h_ c_ Q E A 7 (st σ 14 (mPutL (σ 14) r ((σ 14) (2 + 121 * r)) k)) 0 0 48 [(0, .ref (ea E 13)), (1, .int (iI r)), (2, .int (iI p)), (3, .int (iI x)), (4, .int (iI c)), (5, .int (iI ((σ 14) (2 + 121 * r)))), (6, .int (iI k))] [] := by
            intro k9
            induction k9 with
            | zero => intro k hk9; omega
            | succ k9 ih48 =>
              intro k hk9 hk
              refine g_iload C dX5_puts_48 6 rfl (q := 50) rfl ?_
              refine g_iload_n C dX5_puts_50 2 rfl rfl (q := 51) rfl ?_
              refine g_icmp_le C dX5_puts_51 (by omega) (q2 := 87) rfl (q := 54) rfl (fun hb5 => ?_) (fun hb5 => ?_)
              · skip
                refine g_aload_n C dX5_puts_87 0 rfl rfl (q := 88) rfl ?_
                refine g_iload_n C dX5_puts_88 1 rfl rfl (q := 89) rfl ?_
                refine g_iload_n C dX5_puts_89 2 rfl rfl (q := 90) rfl ?_
                refine g_iload_n C dX5_puts_90 3 rfl rfl (q := 91) rfl ?_
                refine g_iload C dX5_puts_91 4 rfl (q := 93) rfl ?_
                refine g_cV_v C (As := [.int (iI r), .int (iI p), .int (iI x), .int (iI c)]) (c_X5_sets l E _ r p x c  (by omega) (by omega)) ml_X5_79 mf_X5_sets (o := 13) (ci := 5) rfl rfl rfl rfl ⟨(Nat.le_of_ble_eq_true rfl), (Nat.le_of_ble_eq_true rfl)⟩ rfl rfl rfl (Nat.le_of_ble_eq_true rfl) ⟨(Nat.le_of_ble_eq_true rfl), (Nat.le_of_ble_eq_true rfl)⟩ dX5_puts_93 (q := 96) rfl ?_
                refine g_st (σ2 := (st σ 14 (mS (mPutL (σ 14) r ((σ 14) (2 + 121 * r)) k) r p x c))) (st_st _ _ _ _) ?_
                refine g_aload_n C dX5_puts_96 0 rfl rfl (q := 97) rfl ?_
                refine g_iload_n C dX5_puts_97 1 rfl rfl (q := 98) rfl ?_
                refine g_iload C dX5_puts_98 5 rfl (q := 100) rfl ?_
                refine g_iconst C dX5_puts_100 (q := 101) rfl ?_
                refine g_iadd C dX5_puts_101 (q := 102) rfl ?_
                refine g_cV_v C (As := [.int (iI r), .int (iI ((σ 14) (2 + 121 * r) + 1))]) (c_X5_counts l E _ r ((σ 14) (2 + 121 * r) + 1)  (by omega)) ml_X5_83 mf_X5_counts (o := 13) (ci := 5) rfl rfl rfl rfl ⟨(Nat.le_of_ble_eq_true rfl), (Nat.le_of_ble_eq_true rfl)⟩ rfl rfl rfl (Nat.le_of_ble_eq_true rfl) ⟨(Nat.le_of_ble_eq_true rfl), (Nat.le_of_ble_eq_true rfl)⟩ dX5_puts_102 (q := 105) rfl ?_
                refine g_st (σ2 := (st σ 14 (pt (mS (mPutL (σ 14) r ((σ 14) (2 + 121 * r)) k) r p x c) (2 + 121 * r) ((σ 14) (2 + 121 * r) + 1)))) (st_st _ _ _ _) ?_
                refine g_aload_n C dX5_puts_105 0 rfl rfl (q := 106) rfl ?_
                refine g_iload C dX5_puts_106 5 rfl (q := 108) rfl ?_
                refine g_iconst C dX5_puts_108 (q := 109) rfl ?_
                refine g_iadd C dX5_puts_109 (q := 110) rfl ?_
                refine g_cV_i C (As := [.int (iI ((σ 14) (2 + 121 * r) + 1))]) (c_X5_done l E _ ((σ 14) (2 + 121 * r) + 1)) ml_X5_87 mf_X5_done (o := 13) (ci := 5) rfl rfl rfl rfl ⟨(Nat.le_of_ble_eq_true rfl), (Nat.le_of_ble_eq_true rfl)⟩ rfl rfl rfl (Nat.le_of_ble_eq_true rfl) ⟨(Nat.le_of_ble_eq_true rfl), (Nat.le_of_ble_eq_true rfl)⟩ dX5_puts_110 (q := 113) rfl ?_
                refine g_st (σ2 := (st (st σ 13 (pt (σ 13) 14 ((σ 14) (2 + 121 * r) + 1))) 14 (pt (mS (mPutL (σ 14) r ((σ 14) (2 + 121 * r)) k) r p x c) (2 + 121 * r) ((σ 14) (2 + 121 * r) + 1)))) (st_cm σ (o := 14) (q := 13) (pt (mS (mPutL (σ 14) r ((σ 14) (2 + 121 * r)) k) r p x c) (2 + 121 * r) ((σ 14) (2 + 121 * r) + 1)) (pt (σ 13) 14 ((σ 14) (2 + 121 * r) + 1)) (by decide)) ?_
                refine g_st (σ2 := (st (st σ 13 (pt (σ 13) 14 ((σ 14) (2 + 121 * r) + 1))) 14 (mPut (σ 14) r p x c))) (by rw [show k = p by omega]; rfl) ?_
                exact hret _ _ _ dX5_puts_113 rfl
              · skip
                refine g_aload_n C dX5_puts_54 0 rfl rfl (q := 55) rfl ?_
                refine g_iload_n C dX5_puts_55 1 rfl rfl (q := 56) rfl ?_
                refine g_iload C dX5_puts_56 6 rfl (q := 58) rfl ?_
                refine g_aload_n C dX5_puts_58 0 rfl rfl (q := 59) rfl ?_
                refine g_iload_n C dX5_puts_59 1 rfl rfl (q := 60) rfl ?_
                refine g_iload C dX5_puts_60 6 rfl (q := 62) rfl ?_
                refine g_iconst C dX5_puts_62 (q := 63) rfl ?_
                refine g_isub C dX5_puts_63 (q := 64) rfl ?_
                refine g_iconst C dX5_puts_64 (q := 65) rfl ?_
                refine g_cV_i C (As := [.int (iI r), .int (iI (k - 1)), .int (iI 0)]) (c_X5_at_0 l E _ r (k - 1)  (by omega) (by omega)) ml_X5_75 mf_X5_at (o := 13) (ci := 5) rfl rfl rfl rfl ⟨(Nat.le_of_ble_eq_true rfl), (Nat.le_of_ble_eq_true rfl)⟩ rfl rfl rfl (Nat.le_of_ble_eq_true rfl) ⟨(Nat.le_of_ble_eq_true rfl), (Nat.le_of_ble_eq_true rfl)⟩ dX5_puts_65 (q := 68) rfl ?_
                refine g_top (b := (mPutL (σ 14) r ((σ 14) (2 + 121 * r)) k) (3 + 121 * r + 2 * (k - 1))) rfl ?_
                refine g_aload_n C dX5_puts_68 0 rfl rfl (q := 69) rfl ?_
                refine g_iload_n C dX5_puts_69 1 rfl rfl (q := 70) rfl ?_
                refine g_iload C dX5_puts_70 6 rfl (q := 72) rfl ?_
                refine g_iconst C dX5_puts_72 (q := 73) rfl ?_
                refine g_isub C dX5_puts_73 (q := 74) rfl ?_
                refine g_iconst C dX5_puts_74 (q := 75) rfl ?_
                refine g_cV_i C (As := [.int (iI r), .int (iI (k - 1)), .int (iI 1)]) (c_X5_at_1 l E _ r (k - 1)  (by omega) (by omega)) ml_X5_75 mf_X5_at (o := 13) (ci := 5) rfl rfl rfl rfl ⟨(Nat.le_of_ble_eq_true rfl), (Nat.le_of_ble_eq_true rfl)⟩ rfl rfl rfl (Nat.le_of_ble_eq_true rfl) ⟨(Nat.le_of_ble_eq_true rfl), (Nat.le_of_ble_eq_true rfl)⟩ dX5_puts_75 (q := 78) rfl ?_
                refine g_top (b := (mPutL (σ 14) r ((σ 14) (2 + 121 * r)) k) (4 + 121 * r + 2 * (k - 1))) rfl ?_
                refine g_cV_v C (As := [.int (iI r), .int (iI k), .int (iI ((mPutL (σ 14) r ((σ 14) (2 + 121 * r)) k) (3 + 121 * r + 2 * (k - 1)))), .int (iI ((mPutL (σ 14) r ((σ 14) (2 + 121 * r)) k) (4 + 121 * r + 2 * (k - 1))))]) (c_X5_sets l E _ r k ((mPutL (σ 14) r ((σ 14) (2 + 121 * r)) k) (3 + 121 * r + 2 * (k - 1))) ((mPutL (σ 14) r ((σ 14) (2 + 121 * r)) k) (4 + 121 * r + 2 * (k - 1)))  (by omega) (by omega)) ml_X5_79 mf_X5_sets (o := 13) (ci := 5) rfl rfl rfl rfl ⟨(Nat.le_of_ble_eq_true rfl), (Nat.le_of_ble_eq_true rfl)⟩ rfl rfl rfl (Nat.le_of_ble_eq_true rfl) ⟨(Nat.le_of_ble_eq_true rfl), (Nat.le_of_ble_eq_true rfl)⟩ dX5_puts_78 (q := 81) rfl ?_
                refine g_st (σ2 := (st σ 14 (mS (mPutL (σ 14) r ((σ 14) (2 + 121 * r)) k) r k ((mPutL (σ 14) r ((σ 14) (2 + 121 * r)) k) (3 + 121 * r + 2 * (k - 1))) ((mPutL (σ 14) r ((σ 14) (2 + 121 * r)) k) (4 + 121 * r + 2 * (k - 1)))))) (st_st _ _ _ _) ?_
                refine g_iinc C (L' := [(6, .int (iI (k + (-1)))), (0, .ref (ea E 13)), (1, .int (iI r)), (2, .int (iI p)), (3, .int (iI x)), (4, .int (iI c)), (5, .int (iI ((σ 14) (2 + 121 * r))))]) dX5_puts_81 6 rfl (by decide) rfl (q := 84) rfl ?_
                refine g_goto C dX5_puts_84 (q := 48) rfl ?_
                refine g_sub [1, 2, 3, 4, 5, 6, 0] (L' := [(0, .ref (ea E 13)), (1, .int (iI r)), (2, .int (iI p)), (3, .int (iI x)), (4, .int (iI c)), (5, .int (iI ((σ 14) (2 + 121 * r)))), (6, .int (iI (k + (-1))))]) rfl ?_
                refine g_st (σ2 := (st σ 14 (mPutL (σ 14) r ((σ 14) (2 + 121 * r)) (k + (-1))))) (congrArg (st _ 14) (by funext z9; simp only [mS, pt, mPutL]; (repeat' split) <;> first | rfl | omega | (congr 1; omega))) ?_
                exact ih48 (k + (-1)) (by omega) (by omega)
          exact lp48 _ ((σ 14) (2 + 121 * r)) (Nat.lt_succ_self _) (by omega)
        · skip
          exfalso; omega
      · skip
        exfalso; omega
  · skip
    exfalso; omega
set_option maxRecDepth 100000 in
set_option maxHeartbeats 4000000 in
theorem c_X5_puts_1 (l : Launch) (E : EV) (σ : SS) (r p x c : Int) (f : Int → Int) (hM : MS f (σ 14)) (hr_r : -2147483648 ≤ r ∧ r ≤ 2147483647) (hr_p : -2147483648 ≤ p ∧ p ≤ 2147483647) (hr_x : -2147483648 ≤ x ∧ x ≤ 2147483647) (hr_c : -2147483648 ≤ c ∧ c ≤ 2147483647) (hF : fPu f r p x c = 1) : Ki l yX5_puts (cw yX5_puts cX5_puts 7 (some .int)) rm_X5_puts E [.ref (ea E 13), .int (iI r), .int (iI p), .int (iI x), .int (iI c)] σ 1 σ := by
  refine Ki_of (rm := rm_X5_puts) (mL := 7) (b := cX5_puts) RX5 rfl (by decide +kernel) rfl rfl [(0, .ref (ea E 13)), (1, .int (iI r)), (2, .int (iI p)), (3, .int (iI x)), (4, .int (iI c))] rfl (Nat.le_of_ble_eq_true rfl) (fun p_ e_ s_ m_ a_ b_ h_ c_ Q A C hret => ?_)
  have hcs := fPu_cs f r p x c
  have hB := bB_iff f r p
  have hB1 := bB_01 f r p
  have hL := bL_iff x
  have hL1 := bL_01 x
  have hC := bC_iff c
  have hC1 := bC_01 c
  refine g_aload_n C dX5_puts_0 0 rfl rfl (q := 1) rfl ?_
  refine g_iload_n C dX5_puts_1 1 rfl rfl (q := 2) rfl ?_
  refine g_iload_n C dX5_puts_2 2 rfl rfl (q := 3) rfl ?_
  refine g_cV_i C (As := [.int (iI r), .int (iI p)]) (c_X5_isBefore l E _ r p f (by assumption) (by omega) (by omega)) ml_X5_65 mf_X5_isBefore (o := 13) (ci := 5) rfl rfl rfl rfl ⟨(Nat.le_of_ble_eq_true rfl), (Nat.le_of_ble_eq_true rfl)⟩ rfl rfl rfl (Nat.le_of_ble_eq_true rfl) ⟨(Nat.le_of_ble_eq_true rfl), (Nat.le_of_ble_eq_true rfl)⟩ dX5_puts_3 (q := 6) rfl ?_
  refine g_if_ne C dX5_puts_6 (by omega) (q2 := 11) rfl (q := 9) rfl (fun hb1 => ?_) (fun hb1 => ?_)
  · skip
    exfalso; omega
  · skip
    refine g_iconst C dX5_puts_9 (q := 10) rfl ?_
    exact hret _ _ _ dX5_puts_10 rfl
set_option maxRecDepth 100000 in
set_option maxHeartbeats 4000000 in
theorem c_X5_puts_2 (l : Launch) (E : EV) (σ : SS) (r p x c : Int) (f : Int → Int) (hM : MS f (σ 14)) (hr_r : -2147483648 ≤ r ∧ r ≤ 2147483647) (hr_p : -2147483648 ≤ p ∧ p ≤ 2147483647) (hr_x : -2147483648 ≤ x ∧ x ≤ 2147483647) (hr_c : -2147483648 ≤ c ∧ c ≤ 2147483647) (hF : fPu f r p x c = 2) : Ki l yX5_puts (cw yX5_puts cX5_puts 7 (some .int)) rm_X5_puts E [.ref (ea E 13), .int (iI r), .int (iI p), .int (iI x), .int (iI c)] σ 2 σ := by
  refine Ki_of (rm := rm_X5_puts) (mL := 7) (b := cX5_puts) RX5 rfl (by decide +kernel) rfl rfl [(0, .ref (ea E 13)), (1, .int (iI r)), (2, .int (iI p)), (3, .int (iI x)), (4, .int (iI c))] rfl (Nat.le_of_ble_eq_true rfl) (fun p_ e_ s_ m_ a_ b_ h_ c_ Q A C hret => ?_)
  have hcs := fPu_cs f r p x c
  have hB := bB_iff f r p
  have hB1 := bB_01 f r p
  have hL := bL_iff x
  have hL1 := bL_01 x
  have hC := bC_iff c
  have hC1 := bC_01 c
  refine g_aload_n C dX5_puts_0 0 rfl rfl (q := 1) rfl ?_
  refine g_iload_n C dX5_puts_1 1 rfl rfl (q := 2) rfl ?_
  refine g_iload_n C dX5_puts_2 2 rfl rfl (q := 3) rfl ?_
  refine g_cV_i C (As := [.int (iI r), .int (iI p)]) (c_X5_isBefore l E _ r p f (by assumption) (by omega) (by omega)) ml_X5_65 mf_X5_isBefore (o := 13) (ci := 5) rfl rfl rfl rfl ⟨(Nat.le_of_ble_eq_true rfl), (Nat.le_of_ble_eq_true rfl)⟩ rfl rfl rfl (Nat.le_of_ble_eq_true rfl) ⟨(Nat.le_of_ble_eq_true rfl), (Nat.le_of_ble_eq_true rfl)⟩ dX5_puts_3 (q := 6) rfl ?_
  refine g_if_ne C dX5_puts_6 (by omega) (q2 := 11) rfl (q := 9) rfl (fun hb1 => ?_) (fun hb1 => ?_)
  · skip
    refine g_iload_n C dX5_puts_11 3 rfl rfl (q := 12) rfl ?_
    refine g_cS_i C (As := [.int (iI x)]) (c_X5_isLength l E _ x  (by omega)) ml_X5_69 mf_X5_isLength rfl rfl ⟨(Nat.le_of_ble_eq_true rfl), (Nat.le_of_ble_eq_true rfl)⟩ rfl rfl rfl (Nat.le_of_ble_eq_true rfl) ⟨(Nat.le_of_ble_eq_true rfl), (Nat.le_of_ble_eq_true rfl)⟩ dX5_puts_12 (q := 15) rfl ?_
    refine g_if_eq C dX5_puts_15 (by omega) (q2 := 26) rfl (q := 18) rfl (fun hb2 => ?_) (fun hb2 => ?_)
    · skip
      refine g_iconst C dX5_puts_26 (q := 27) rfl ?_
      exact hret _ _ _ dX5_puts_27 rfl
    · skip
      refine g_iload C dX5_puts_18 4 rfl (q := 20) rfl ?_
      refine g_cS_i C (As := [.int (iI c)]) (c_X5_isColour l E _ c  (by omega)) ml_X5_72 mf_X5_isColour rfl rfl ⟨(Nat.le_of_ble_eq_true rfl), (Nat.le_of_ble_eq_true rfl)⟩ rfl rfl rfl (Nat.le_of_ble_eq_true rfl) ⟨(Nat.le_of_ble_eq_true rfl), (Nat.le_of_ble_eq_true rfl)⟩ dX5_puts_20 (q := 23) rfl ?_
      refine g_if_ne C dX5_puts_23 (by omega) (q2 := 28) rfl (q := 26) rfl (fun hb3 => ?_) (fun hb3 => ?_)
      · skip
        exfalso; omega
      · skip
        refine g_iconst C dX5_puts_26 (q := 27) rfl ?_
        exact hret _ _ _ dX5_puts_27 rfl
  · skip
    exfalso; omega
set_option maxRecDepth 100000 in
set_option maxHeartbeats 4000000 in
theorem c_X5_puts_3 (l : Launch) (E : EV) (σ : SS) (r p x c : Int) (f : Int → Int) (hM : MS f (σ 14)) (hr_r : -2147483648 ≤ r ∧ r ≤ 2147483647) (hr_p : -2147483648 ≤ p ∧ p ≤ 2147483647) (hr_x : -2147483648 ≤ x ∧ x ≤ 2147483647) (hr_c : -2147483648 ≤ c ∧ c ≤ 2147483647) (hF : fPu f r p x c = 3) : Ki l yX5_puts (cw yX5_puts cX5_puts 7 (some .int)) rm_X5_puts E [.ref (ea E 13), .int (iI r), .int (iI p), .int (iI x), .int (iI c)] σ 3 σ := by
  refine Ki_of (rm := rm_X5_puts) (mL := 7) (b := cX5_puts) RX5 rfl (by decide +kernel) rfl rfl [(0, .ref (ea E 13)), (1, .int (iI r)), (2, .int (iI p)), (3, .int (iI x)), (4, .int (iI c))] rfl (Nat.le_of_ble_eq_true rfl) (fun p_ e_ s_ m_ a_ b_ h_ c_ Q A C hret => ?_)
  have hcs := fPu_cs f r p x c
  have hB := bB_iff f r p
  have hB1 := bB_01 f r p
  have hL := bL_iff x
  have hL1 := bL_01 x
  have hC := bC_iff c
  have hC1 := bC_01 c
  refine g_aload_n C dX5_puts_0 0 rfl rfl (q := 1) rfl ?_
  refine g_iload_n C dX5_puts_1 1 rfl rfl (q := 2) rfl ?_
  refine g_iload_n C dX5_puts_2 2 rfl rfl (q := 3) rfl ?_
  refine g_cV_i C (As := [.int (iI r), .int (iI p)]) (c_X5_isBefore l E _ r p f (by assumption) (by omega) (by omega)) ml_X5_65 mf_X5_isBefore (o := 13) (ci := 5) rfl rfl rfl rfl ⟨(Nat.le_of_ble_eq_true rfl), (Nat.le_of_ble_eq_true rfl)⟩ rfl rfl rfl (Nat.le_of_ble_eq_true rfl) ⟨(Nat.le_of_ble_eq_true rfl), (Nat.le_of_ble_eq_true rfl)⟩ dX5_puts_3 (q := 6) rfl ?_
  refine g_if_ne C dX5_puts_6 (by omega) (q2 := 11) rfl (q := 9) rfl (fun hb1 => ?_) (fun hb1 => ?_)
  · skip
    refine g_iload_n C dX5_puts_11 3 rfl rfl (q := 12) rfl ?_
    refine g_cS_i C (As := [.int (iI x)]) (c_X5_isLength l E _ x  (by omega)) ml_X5_69 mf_X5_isLength rfl rfl ⟨(Nat.le_of_ble_eq_true rfl), (Nat.le_of_ble_eq_true rfl)⟩ rfl rfl rfl (Nat.le_of_ble_eq_true rfl) ⟨(Nat.le_of_ble_eq_true rfl), (Nat.le_of_ble_eq_true rfl)⟩ dX5_puts_12 (q := 15) rfl ?_
    refine g_if_eq C dX5_puts_15 (by omega) (q2 := 26) rfl (q := 18) rfl (fun hb2 => ?_) (fun hb2 => ?_)
    · skip
      exfalso; omega
    · skip
      refine g_iload C dX5_puts_18 4 rfl (q := 20) rfl ?_
      refine g_cS_i C (As := [.int (iI c)]) (c_X5_isColour l E _ c  (by omega)) ml_X5_72 mf_X5_isColour rfl rfl ⟨(Nat.le_of_ble_eq_true rfl), (Nat.le_of_ble_eq_true rfl)⟩ rfl rfl rfl (Nat.le_of_ble_eq_true rfl) ⟨(Nat.le_of_ble_eq_true rfl), (Nat.le_of_ble_eq_true rfl)⟩ dX5_puts_20 (q := 23) rfl ?_
      refine g_if_ne C dX5_puts_23 (by omega) (q2 := 28) rfl (q := 26) rfl (fun hb3 => ?_) (fun hb3 => ?_)
      · skip
        have hm_r := (hM.2.1 r (by omega)).1
        have hn_r := (hM.1 r (by omega)).1
        refine g_aload_n C dX5_puts_28 0 rfl rfl (q := 29) rfl ?_
        refine g_iload_n C dX5_puts_29 1 rfl rfl (q := 30) rfl ?_
        refine g_cV_i C (As := [.int (iI r)]) (c_X5_many l E _ r  (by omega)) ml_X5_62 mf_X5_many (o := 13) (ci := 5) rfl rfl rfl rfl ⟨(Nat.le_of_ble_eq_true rfl), (Nat.le_of_ble_eq_true rfl)⟩ rfl rfl rfl (Nat.le_of_ble_eq_true rfl) ⟨(Nat.le_of_ble_eq_true rfl), (Nat.le_of_ble_eq_true rfl)⟩ dX5_puts_30 (q := 33) rfl ?_
        refine g_istore C (L' := [(5, .int (iI ((σ 14) (2 + 121 * r)))), (0, .ref (ea E 13)), (1, .int (iI r)), (2, .int (iI p)), (3, .int (iI x)), (4, .int (iI c))]) dX5_puts_33 (by decide) rfl (q := 35) rfl ?_
        refine g_iload C dX5_puts_35 0 rfl (q := 37) rfl ?_
        refine g_bipush C dX5_puts_37 (by decide) (q := 39) rfl ?_
        refine g_icmp_ne C dX5_puts_39 (by omega) (q2 := 44) rfl (q := 42) rfl (fun hb4 => ?_) (fun hb4 => ?_)
        · skip
          exfalso; omega
        · skip
          refine g_iconst C dX5_puts_42 (q := 43) rfl ?_
          exact hret _ _ _ dX5_puts_43 rfl
      · skip
        exfalso; omega
  · skip
    exfalso; omega
abbrev rm_X5_takes : Room := { frames := 3, cells := 0, slots := 0, locals := 64 }
set_option maxRecDepth 100000 in
set_option maxHeartbeats 4000000 in
theorem c_X5_takes (l : Launch) (E : EV) (σ : SS) (r p : Int) (f : Int → Int) (hM : MS f (σ 14)) (hr_r : -2147483648 ≤ r ∧ r ≤ 2147483647) (hr_p : -2147483648 ≤ p ∧ p ≤ 2147483647) (hF : fP f r p = 0) : Ki l yX5_takes (cw yX5_takes cX5_takes 6 (some .int)) rm_X5_takes E [.ref (ea E 13), .int (iI r), .int (iI p)] σ 0 (st (st σ 13 (pt (σ 13) 14 ((σ 14) (3 + 121 * r + 2 * p)))) 14 (mTake (σ 14) r p)) := by
  refine Ki_of (rm := rm_X5_takes) (mL := 6) (b := cX5_takes) RX5 rfl (by decide +kernel) rfl rfl [(0, .ref (ea E 13)), (1, .int (iI r)), (2, .int (iI p))] rfl (Nat.le_of_ble_eq_true rfl) (fun p_ e_ s_ m_ a_ b_ h_ c_ Q A C hret => ?_)
  have hcs := fP_cs f r p
  have hB := bP_iff f r p
  have hB1 := bP_01 f r p
  refine g_aload_n C dX5_takes_0 0 rfl rfl (q := 1) rfl ?_
  refine g_iload_n C dX5_takes_1 1 rfl rfl (q := 2) rfl ?_
  refine g_iload_n C dX5_takes_2 2 rfl rfl (q := 3) rfl ?_
  refine g_cV_i C (As := [.int (iI r), .int (iI p)]) (c_X5_isSegment l E _ r p f (by assumption) (by omega) (by omega)) ml_X5_90 mf_X5_isSegment (o := 13) (ci := 5) rfl rfl rfl rfl ⟨(Nat.le_of_ble_eq_true rfl), (Nat.le_of_ble_eq_true rfl)⟩ rfl rfl rfl (Nat.le_of_ble_eq_true rfl) ⟨(Nat.le_of_ble_eq_true rfl), (Nat.le_of_ble_eq_true rfl)⟩ dX5_takes_3 (q := 6) rfl ?_
  refine g_if_ne C dX5_takes_6 (by omega) (q2 := 11) rfl (q := 9) rfl (fun hb1 => ?_) (fun hb1 => ?_)
  · skip
    have hm_r := (hM.2.1 r (by omega)).1
    have hn_r := (hM.1 r (by omega)).1
    refine g_aload_n C dX5_takes_11 0 rfl rfl (q := 12) rfl ?_
    refine g_iload_n C dX5_takes_12 1 rfl rfl (q := 13) rfl ?_
    refine g_iload_n C dX5_takes_13 2 rfl rfl (q := 14) rfl ?_
    refine g_iconst C dX5_takes_14 (q := 15) rfl ?_
    refine g_cV_i C (As := [.int (iI r), .int (iI p), .int (iI 0)]) (c_X5_at_0 l E _ r p  (by omega) (by omega)) ml_X5_75 mf_X5_at (o := 13) (ci := 5) rfl rfl rfl rfl ⟨(Nat.le_of_ble_eq_true rfl), (Nat.le_of_ble_eq_true rfl)⟩ rfl rfl rfl (Nat.le_of_ble_eq_true rfl) ⟨(Nat.le_of_ble_eq_true rfl), (Nat.le_of_ble_eq_true rfl)⟩ dX5_takes_15 (q := 18) rfl ?_
    refine g_istore_n C (L' := [(3, .int (iI ((σ 14) (3 + 121 * r + 2 * p)))), (0, .ref (ea E 13)), (1, .int (iI r)), (2, .int (iI p))]) dX5_takes_18 rfl (by decide) rfl (q := 19) rfl ?_
    refine g_aload_n C dX5_takes_19 1 rfl rfl (q := 20) rfl ?_
    refine g_iload_n C dX5_takes_20 2 rfl rfl (q := 21) rfl ?_
    refine g_cV_i C (As := [.int (iI r)]) (c_X5_many l E _ r  (by omega)) ml_X5_62 mf_X5_many (o := 13) (ci := 5) rfl rfl rfl rfl ⟨(Nat.le_of_ble_eq_true rfl), (Nat.le_of_ble_eq_true rfl)⟩ rfl rfl rfl (Nat.le_of_ble_eq_true rfl) ⟨(Nat.le_of_ble_eq_true rfl), (Nat.le_of_ble_eq_true rfl)⟩ dX5_takes_21 (q := 24) rfl ?_
    refine g_iconst C dX5_takes_24 (q := 25) rfl ?_
    refine g_isub C dX5_takes_25 (q := 26) rfl ?_
    refine g_istore C (L' := [(4, .int (iI ((σ 14) (2 + 121 * r) - 1))), (3, .int (iI ((σ 14) (3 + 121 * r + 2 * p)))), (0, .ref (ea E 13)), (1, .int (iI r)), (2, .int (iI p))]) dX5_takes_26 (by decide) rfl (q := 28) rfl ?_
    refine g_iload_n C dX5_takes_28 4 rfl rfl (q := 29) rfl ?_
    refine g_istore C (L' := [(5, .int (iI p)), (4, .int (iI ((σ 14) (2 + 121 * r) - 1))), (3, .int (iI ((σ 14) (3 + 121 * r + 2 * p)))), (0, .ref (ea E 13)), (1, .int (iI r)), (2, .int (iI p))]) dX5_takes_29 (by decide) rfl (q := 31) rfl ?_
    refine g_sub [3, 4, 5, 2, 1, 0] (L' := [(0, .ref (ea E 13)), (1, .int (iI r)), (2, .int (iI p)), (3, .int (iI ((σ 14) (3 + 121 * r + 2 * p)))), (4, .int (iI ((σ 14) (2 + 121 * r) - 1))), (5, .int (iI p))]) rfl ?_
    refine g_st (σ2 := (st σ 14 (mTakeL (σ 14) r p p))) (by rw [show mTakeL (σ 14) r p p = σ 14 from by funext z9; simp only [mTakeL]; (repeat' split) <;> first | rfl | omega | (congr 1; omega)]; exact (st_id σ 14).symm) ?_
    have lp31 : ∀ (k9 : Nat) (k : Int), (σ 14 (2 + 121 * r) - k).toNat < k9 → (p ≤ k ∧ k ≤ σ 14 (2 + 121 * r) - 1) → GG p_ l e_ rm_X5_takes s_ m_ a_ b_ h_ c_ Q E A 6 (st σ 14 (mTakeL (σ 14) r p k)) 0 0 31 [(0, .ref (ea E 13)), (1, .int (iI r)), (2, .int (iI p)), (3, .int (iI ((σ 14) (3 + 121 * r + 2 * p)))), (4, .int (iI ((σ 14) (2 + 121 * r) - 1))), (5, .int (iI k))] [] := by
      intro k9
      induction k9 with
      | zero => intro k hk9; omega
      | succ k9 ih31 =>
        intro k hk9 hk
        refine g_iload C dX5_takes_31 5 rfl (q := 33) rfl ?_
        refine g_iload C dX5_takes_33 4 rfl (q := 35) rfl ?_
        refine g_icmp_ge C dX5_takes_35 (by omega) (q2 := 71) rfl (q := 38) rfl (fun hb2 => ?_) (fun hb2 => ?_)
        · skip
          refine g_aload_n C dX5_takes_71 0 rfl rfl (q := 72) rfl ?_
          refine g_iload_n C dX5_takes_72 1 rfl rfl (q := 73) rfl ?_
          refine g_iload C dX5_takes_73 4 rfl (q := 75) rfl ?_
          refine g_iconst C dX5_takes_75 (q := 76) rfl ?_
          refine g_iconst C dX5_takes_76 (q := 77) rfl ?_
          refine g_cV_v C (As := [.int (iI r), .int (iI ((σ 14) (2 + 121 * r) - 1)), .int (iI 0), .int (iI 0)]) (c_X5_sets l E _ r ((σ 14) (2 + 121 * r) - 1) 0 0  (by omega) (by omega)) ml_X5_79 mf_X5_sets (o := 13) (ci := 5) rfl rfl rfl rfl ⟨(Nat.le_of_ble_eq_true rfl), (Nat.le_of_ble_eq_true rfl)⟩ rfl rfl rfl (Nat.le_of_ble_eq_true rfl) ⟨(Nat.le_of_ble_eq_true rfl), (Nat.le_of_ble_eq_true rfl)⟩ dX5_takes_77 (q := 80) rfl ?_
          refine g_st (σ2 := (st σ 14 (mS (mTakeL (σ 14) r p k) r ((σ 14) (2 + 121 * r) - 1) 0 0))) (st_st _ _ _ _) ?_
          refine g_aload_n C dX5_takes_80 0 rfl rfl (q := 81) rfl ?_
          refine g_iload_n C dX5_takes_81 1 rfl rfl (q := 82) rfl ?_
          refine g_iload C dX5_takes_82 4 rfl (q := 84) rfl ?_
          refine g_cV_v C (As := [.int (iI r), .int (iI ((σ 14) (2 + 121 * r) - 1))]) (c_X5_counts l E _ r ((σ 14) (2 + 121 * r) - 1)  (by omega)) ml_X5_83 mf_X5_counts (o := 13) (ci := 5) rfl rfl rfl rfl ⟨(Nat.le_of_ble_eq_true rfl), (Nat.le_of_ble_eq_true rfl)⟩ rfl rfl rfl (Nat.le_of_ble_eq_true rfl) ⟨(Nat.le_of_ble_eq_true rfl), (Nat.le_of_ble_eq_true rfl)⟩ dX5_takes_84 (q := 87) rfl ?_
          refine g_st (σ2 := (st σ 14 (pt (mS (mTakeL (σ 14) r p k) r ((σ 14) (2 + 121 * r) - 1) 0 0) (2 + 121 * r) ((σ 14) (2 + 121 * r) - 1)))) (st_st _ _ _ _) ?_
          refine g_aload_n C dX5_takes_87 0 rfl rfl (q := 88) rfl ?_
          refine g_iload_n C dX5_takes_88 3 rfl rfl (q := 89) rfl ?_
          refine g_cV_i C (As := [.int (iI ((σ 14) (3 + 121 * r + 2 * p)))]) (c_X5_done l E _ ((σ 14) (3 + 121 * r + 2 * p))) ml_X5_87 mf_X5_done (o := 13) (ci := 5) rfl rfl rfl rfl ⟨(Nat.le_of_ble_eq_true rfl), (Nat.le_of_ble_eq_true rfl)⟩ rfl rfl rfl (Nat.le_of_ble_eq_true rfl) ⟨(Nat.le_of_ble_eq_true rfl), (Nat.le_of_ble_eq_true rfl)⟩ dX5_takes_89 (q := 92) rfl ?_
          refine g_st (σ2 := (st (st σ 13 (pt (σ 13) 14 ((σ 14) (3 + 121 * r + 2 * p)))) 14 (pt (mS (mTakeL (σ 14) r p k) r ((σ 14) (2 + 121 * r) - 1) 0 0) (2 + 121 * r) ((σ 14) (2 + 121 * r) - 1)))) (st_cm σ (o := 14) (q := 13) (pt (mS (mTakeL (σ 14) r p k) r ((σ 14) (2 + 121 * r) - 1) 0 0) (2 + 121 * r) ((σ 14) (2 + 121 * r) - 1)) (pt (σ 13) 14 ((σ 14) (3 + 121 * r + 2 * p))) (by decide)) ?_
          refine g_st (σ2 := (st (st σ 13 (pt (σ 13) 14 ((σ 14) (3 + 121 * r + 2 * p)))) 14 (mTake (σ 14) r p))) (by rw [show k = σ 14 (2 + 121 * r) - 1 by omega]; rfl) ?_
          exact hret _ _ _ dX5_takes_92 rfl
        · skip
          refine g_aload_n C dX5_takes_38 0 rfl rfl (q := 39) rfl ?_
          refine g_iload_n C dX5_takes_39 1 rfl rfl (q := 40) rfl ?_
          refine g_iload C dX5_takes_40 5 rfl (q := 42) rfl ?_
          refine g_aload_n C dX5_takes_42 0 rfl rfl (q := 43) rfl ?_
          refine g_iload_n C dX5_takes_43 1 rfl rfl (q := 44) rfl ?_
          refine g_iload C dX5_takes_44 5 rfl (q := 46) rfl ?_
          refine g_iconst C dX5_takes_46 (q := 47) rfl ?_
          refine g_iadd C dX5_takes_47 (q := 48) rfl ?_
          refine g_iconst C dX5_takes_48 (q := 49) rfl ?_
          refine g_cV_i C (As := [.int (iI r), .int (iI (k + 1)), .int (iI 0)]) (c_X5_at_0 l E _ r (k + 1)  (by omega) (by omega)) ml_X5_75 mf_X5_at (o := 13) (ci := 5) rfl rfl rfl rfl ⟨(Nat.le_of_ble_eq_true rfl), (Nat.le_of_ble_eq_true rfl)⟩ rfl rfl rfl (Nat.le_of_ble_eq_true rfl) ⟨(Nat.le_of_ble_eq_true rfl), (Nat.le_of_ble_eq_true rfl)⟩ dX5_takes_49 (q := 52) rfl ?_
          refine g_top (b := (mTakeL (σ 14) r p k) (3 + 121 * r + 2 * (k + 1))) rfl ?_
          refine g_aload_n C dX5_takes_52 0 rfl rfl (q := 53) rfl ?_
          refine g_iload_n C dX5_takes_53 1 rfl rfl (q := 54) rfl ?_
          refine g_iload C dX5_takes_54 5 rfl (q := 56) rfl ?_
          refine g_iconst C dX5_takes_56 (q := 57) rfl ?_
          refine g_iadd C dX5_takes_57 (q := 58) rfl ?_
          refine g_iconst C dX5_takes_58 (q := 59) rfl ?_
          refine g_cV_i C (As := [.int (iI r), .int (iI (k + 1)), .int (iI 1)]) (c_X5_at_1 l E _ r (k + 1)  (by omega) (by omega)) ml_X5_75 mf_X5_at (o := 13) (ci := 5) rfl rfl rfl rfl ⟨(Nat.le_of_ble_eq_true rfl), (Nat.le_of_ble_eq_true rfl)⟩ rfl rfl rfl (Nat.le_of_ble_eq_true rfl) ⟨(Nat.le_of_ble_eq_true rfl), (Nat.le_of_ble_eq_true rfl)⟩ dX5_takes_59 (q := 62) rfl ?_
          refine g_top (b := (mTakeL (σ 14) r p k) (4 + 121 * r + 2 * (k + 1))) rfl ?_
          refine g_cV_v C (As := [.int (iI r), .int (iI k), .int (iI ((mTakeL (σ 14) r p k) (3 + 121 * r + 2 * (k + 1)))), .int (iI ((mTakeL (σ 14) r p k) (4 + 121 * r + 2 * (k + 1))))]) (c_X5_sets l E _ r k ((mTakeL (σ 14) r p k) (3 + 121 * r + 2 * (k + 1))) ((mTakeL (σ 14) r p k) (4 + 121 * r + 2 * (k + 1)))  (by omega) (by omega)) ml_X5_79 mf_X5_sets (o := 13) (ci := 5) rfl rfl rfl rfl ⟨(Nat.le_of_ble_eq_true rfl), (Nat.le_of_ble_eq_true rfl)⟩ rfl rfl rfl (Nat.le_of_ble_eq_true rfl) ⟨(Nat.le_of_ble_eq_true rfl), (Nat.le_of_ble_eq_true rfl)⟩ dX5_takes_62 (q := 65) rfl ?_
          refine g_st (σ2 := (st σ 14 (mS (mTakeL (σ 14) r p k) r k ((mTakeL (σ 14) r p k) (3 + 121 * r + 2 * (k + 1))) ((mTakeL (σ 14) r p k) (4 + 121 * r + 2 * (k + 1)))))) (st_st _ _ _ _) ?_
          refine g_iinc C (L' := [(5, .int (iI (k + 1))), (0, .ref (ea E 13)), (1, .int (iI r)), (2, .int (iI p)), (3, .int (iI ((σ 14) (3 + 121 * r + 2 * p)))), (4, .int (iI ((σ 14) (2 + 121 * r) - 1)))]) dX5_takes_65 5 rfl (by decide) rfl (q := 68) rfl ?_
          refine g_goto C dX5_takes_68 (q := 31) rfl ?_
          refine g_sub [1, 2, 3, 4, 5, 0] (L' := [(0, .ref (ea E 13)), (1, .int (iI r)), (2, .int (iI p)), (3, .int (iI ((σ 14) (3 + 121 * r + 2 * p)))), (4, .int (iI ((σ 14) (2 + 121 * r) - 1))), (5, .int (iI (k + 1)))]) rfl ?_
          refine g_st (σ2 := (st σ 14 (mTakeL (σ 14) r p (k + 1)))) (congrArg (st _ 14) (by funext z9; simp only [mS, pt, mTakeL]; (repeat' split) <;> first | rfl | omega | (congr 1; omega))) ?_
          exact ih31 (k + 1) (by omega) (by omega)
    exact lp31 _ p (Nat.lt_succ_self _) (by omega)
  · skip
    exfalso; omega
set_option maxRecDepth 100000 in
set_option maxHeartbeats 4000000 in
theorem c_X5_takes_1 (l : Launch) (E : EV) (σ : SS) (r p : Int) (f : Int → Int) (hM : MS f (σ 14)) (hr_r : -2147483648 ≤ r ∧ r ≤ 2147483647) (hr_p : -2147483648 ≤ p ∧ p ≤ 2147483647) (hF : fP f r p = 1) : Ki l yX5_takes (cw yX5_takes cX5_takes 6 (some .int)) rm_X5_takes E [.ref (ea E 13), .int (iI r), .int (iI p)] σ 1 σ := by
  refine Ki_of (rm := rm_X5_takes) (mL := 6) (b := cX5_takes) RX5 rfl (by decide +kernel) rfl rfl [(0, .ref (ea E 13)), (1, .int (iI r)), (2, .int (iI p))] rfl (Nat.le_of_ble_eq_true rfl) (fun p_ e_ s_ m_ a_ b_ h_ c_ Q A C hret => ?_)
  have hcs := fP_cs f r p
  have hB := bP_iff f r p
  have hB1 := bP_01 f r p
  refine g_aload_n C dX5_takes_0 0 rfl rfl (q := 1) rfl ?_
  refine g_iload_n C dX5_takes_1 1 rfl rfl (q := 2) rfl ?_
  refine g_iload_n C dX5_takes_2 2 rfl rfl (q := 3) rfl ?_
  refine g_cV_i C (As := [.int (iI r), .int (iI p)]) (c_X5_isSegment l E _ r p f (by assumption) (by omega) (by omega)) ml_X5_90 mf_X5_isSegment (o := 13) (ci := 5) rfl rfl rfl rfl ⟨(Nat.le_of_ble_eq_true rfl), (Nat.le_of_ble_eq_true rfl)⟩ rfl rfl rfl (Nat.le_of_ble_eq_true rfl) ⟨(Nat.le_of_ble_eq_true rfl), (Nat.le_of_ble_eq_true rfl)⟩ dX5_takes_3 (q := 6) rfl ?_
  refine g_if_ne C dX5_takes_6 (by omega) (q2 := 11) rfl (q := 9) rfl (fun hb1 => ?_) (fun hb1 => ?_)
  · skip
    exfalso; omega
  · skip
    refine g_iconst C dX5_takes_9 (q := 10) rfl ?_
    exact hret _ _ _ dX5_takes_10 rfl
abbrev rm_X5_ties : Room := { frames := 3, cells := 0, slots := 0, locals := 64 }
set_option maxRecDepth 100000 in
set_option maxHeartbeats 4000000 in
theorem c_X5_ties (l : Launch) (E : EV) (σ : SS) (r p x : Int) (f : Int → Int) (hM : MS f (σ 14)) (hr_r : -2147483648 ≤ r ∧ r ≤ 2147483647) (hr_p : -2147483648 ≤ p ∧ p ≤ 2147483647) (hr_x : -2147483648 ≤ x ∧ x ≤ 2147483647) (hF : fT f r p x = 0) : Ki l yX5_ties (cw yX5_ties cX5_ties 5 (some .int)) rm_X5_ties E [.ref (ea E 13), .int (iI r), .int (iI p), .int (iI x)] σ 0 (st (st σ 13 (pt (σ 13) 14 ((σ 14) (3 + 121 * r + 2 * p)))) 14 (mS (σ 14) r p x ((σ 14) (4 + 121 * r + 2 * p)))) := by
  refine Ki_of (rm := rm_X5_ties) (mL := 5) (b := cX5_ties) RX5 rfl (by decide +kernel) rfl rfl [(0, .ref (ea E 13)), (1, .int (iI r)), (2, .int (iI p)), (3, .int (iI x))] rfl (Nat.le_of_ble_eq_true rfl) (fun p_ e_ s_ m_ a_ b_ h_ c_ Q A C hret => ?_)
  have hcs := fT_cs f r p x
  have hB := bP_iff f r p
  have hB1 := bP_01 f r p
  have hL := bL_iff x
  have hL1 := bL_01 x
  refine g_aload_n C dX5_ties_0 0 rfl rfl (q := 1) rfl ?_
  refine g_iload_n C dX5_ties_1 1 rfl rfl (q := 2) rfl ?_
  refine g_iload_n C dX5_ties_2 2 rfl rfl (q := 3) rfl ?_
  refine g_cV_i C (As := [.int (iI r), .int (iI p)]) (c_X5_isSegment l E _ r p f (by assumption) (by omega) (by omega)) ml_X5_90 mf_X5_isSegment (o := 13) (ci := 5) rfl rfl rfl rfl ⟨(Nat.le_of_ble_eq_true rfl), (Nat.le_of_ble_eq_true rfl)⟩ rfl rfl rfl (Nat.le_of_ble_eq_true rfl) ⟨(Nat.le_of_ble_eq_true rfl), (Nat.le_of_ble_eq_true rfl)⟩ dX5_ties_3 (q := 6) rfl ?_
  refine g_if_ne C dX5_ties_6 (by omega) (q2 := 11) rfl (q := 9) rfl (fun hb1 => ?_) (fun hb1 => ?_)
  · skip
    refine g_iload_n C dX5_ties_11 3 rfl rfl (q := 12) rfl ?_
    refine g_cS_i C (As := [.int (iI x)]) (c_X5_isLength l E _ x  (by omega)) ml_X5_69 mf_X5_isLength rfl rfl ⟨(Nat.le_of_ble_eq_true rfl), (Nat.le_of_ble_eq_true rfl)⟩ rfl rfl rfl (Nat.le_of_ble_eq_true rfl) ⟨(Nat.le_of_ble_eq_true rfl), (Nat.le_of_ble_eq_true rfl)⟩ dX5_ties_12 (q := 15) rfl ?_
    refine g_if_ne C dX5_ties_15 (by omega) (q2 := 20) rfl (q := 18) rfl (fun hb2 => ?_) (fun hb2 => ?_)
    · skip
      have hm_r := (hM.2.1 r (by omega)).1
      have hn_r := (hM.1 r (by omega)).1
      refine g_aload_n C dX5_ties_20 0 rfl rfl (q := 21) rfl ?_
      refine g_iload_n C dX5_ties_21 1 rfl rfl (q := 22) rfl ?_
      refine g_iload_n C dX5_ties_22 2 rfl rfl (q := 23) rfl ?_
      refine g_iconst C dX5_ties_23 (q := 24) rfl ?_
      refine g_cV_i C (As := [.int (iI r), .int (iI p), .int (iI 0)]) (c_X5_at_0 l E _ r p  (by omega) (by omega)) ml_X5_75 mf_X5_at (o := 13) (ci := 5) rfl rfl rfl rfl ⟨(Nat.le_of_ble_eq_true rfl), (Nat.le_of_ble_eq_true rfl)⟩ rfl rfl rfl (Nat.le_of_ble_eq_true rfl) ⟨(Nat.le_of_ble_eq_true rfl), (Nat.le_of_ble_eq_true rfl)⟩ dX5_ties_24 (q := 27) rfl ?_
      refine g_istore C (L' := [(4, .int (iI ((σ 14) (3 + 121 * r + 2 * p)))), (0, .ref (ea E 13)), (1, .int (iI r)), (2, .int (iI p)), (3, .int (iI x))]) dX5_ties_27 (by decide) rfl (q := 29) rfl ?_
      refine g_aload_n C dX5_ties_29 1 rfl rfl (q := 30) rfl ?_
      refine g_iload_n C dX5_ties_30 2 rfl rfl (q := 31) rfl ?_
      refine g_iload_n C dX5_ties_31 3 rfl rfl (q := 32) rfl ?_
      refine g_iload_n C dX5_ties_32 4 rfl rfl (q := 33) rfl ?_
      refine g_aload_n C dX5_ties_33 1 rfl rfl (q := 34) rfl ?_
      refine g_iload_n C dX5_ties_34 2 rfl rfl (q := 35) rfl ?_
      refine g_iload_n C dX5_ties_35 3 rfl rfl (q := 36) rfl ?_
      refine g_iconst C dX5_ties_36 (q := 37) rfl ?_
      refine g_cV_i C (As := [.int (iI r), .int (iI p), .int (iI 1)]) (c_X5_at_1 l E _ r p  (by omega) (by omega)) ml_X5_75 mf_X5_at (o := 13) (ci := 5) rfl rfl rfl rfl ⟨(Nat.le_of_ble_eq_true rfl), (Nat.le_of_ble_eq_true rfl)⟩ rfl rfl rfl (Nat.le_of_ble_eq_true rfl) ⟨(Nat.le_of_ble_eq_true rfl), (Nat.le_of_ble_eq_true rfl)⟩ dX5_ties_37 (q := 40) rfl ?_
      refine g_cV_v C (As := [.int (iI r), .int (iI p), .int (iI x), .int (iI ((σ 14) (4 + 121 * r + 2 * p)))]) (c_X5_sets l E _ r p x ((σ 14) (4 + 121 * r + 2 * p))  (by omega) (by omega)) ml_X5_79 mf_X5_sets (o := 13) (ci := 5) rfl rfl rfl rfl ⟨(Nat.le_of_ble_eq_true rfl), (Nat.le_of_ble_eq_true rfl)⟩ rfl rfl rfl (Nat.le_of_ble_eq_true rfl) ⟨(Nat.le_of_ble_eq_true rfl), (Nat.le_of_ble_eq_true rfl)⟩ dX5_ties_40 (q := 43) rfl ?_
      refine g_aload_n C dX5_ties_43 1 rfl rfl (q := 44) rfl ?_
      refine g_iload C dX5_ties_44 0 rfl (q := 46) rfl ?_
      refine g_cV_i C (As := [.int (iI ((σ 14) (3 + 121 * r + 2 * p)))]) (c_X5_done l E _ ((σ 14) (3 + 121 * r + 2 * p))) ml_X5_87 mf_X5_done (o := 13) (ci := 5) rfl rfl rfl rfl ⟨(Nat.le_of_ble_eq_true rfl), (Nat.le_of_ble_eq_true rfl)⟩ rfl rfl rfl (Nat.le_of_ble_eq_true rfl) ⟨(Nat.le_of_ble_eq_true rfl), (Nat.le_of_ble_eq_true rfl)⟩ dX5_ties_46 (q := 49) rfl ?_
      refine g_st (σ2 := (st (st σ 13 (pt (σ 13) 14 ((σ 14) (3 + 121 * r + 2 * p)))) 14 (mS (σ 14) r p x ((σ 14) (4 + 121 * r + 2 * p))))) (st_cm σ (o := 14) (q := 13) (mS (σ 14) r p x ((σ 14) (4 + 121 * r + 2 * p))) (pt (σ 13) 14 ((σ 14) (3 + 121 * r + 2 * p))) (by decide)) ?_
      exact hret _ _ _ dX5_ties_49 rfl
    · skip
      exfalso; omega
  · skip
    exfalso; omega
set_option maxRecDepth 100000 in
set_option maxHeartbeats 4000000 in
theorem c_X5_ties_1 (l : Launch) (E : EV) (σ : SS) (r p x : Int) (f : Int → Int) (hM : MS f (σ 14)) (hr_r : -2147483648 ≤ r ∧ r ≤ 2147483647) (hr_p : -2147483648 ≤ p ∧ p ≤ 2147483647) (hr_x : -2147483648 ≤ x ∧ x ≤ 2147483647) (hF : fT f r p x = 1) : Ki l yX5_ties (cw yX5_ties cX5_ties 5 (some .int)) rm_X5_ties E [.ref (ea E 13), .int (iI r), .int (iI p), .int (iI x)] σ 1 σ := by
  refine Ki_of (rm := rm_X5_ties) (mL := 5) (b := cX5_ties) RX5 rfl (by decide +kernel) rfl rfl [(0, .ref (ea E 13)), (1, .int (iI r)), (2, .int (iI p)), (3, .int (iI x))] rfl (Nat.le_of_ble_eq_true rfl) (fun p_ e_ s_ m_ a_ b_ h_ c_ Q A C hret => ?_)
  have hcs := fT_cs f r p x
  have hB := bP_iff f r p
  have hB1 := bP_01 f r p
  have hL := bL_iff x
  have hL1 := bL_01 x
  refine g_aload_n C dX5_ties_0 0 rfl rfl (q := 1) rfl ?_
  refine g_iload_n C dX5_ties_1 1 rfl rfl (q := 2) rfl ?_
  refine g_iload_n C dX5_ties_2 2 rfl rfl (q := 3) rfl ?_
  refine g_cV_i C (As := [.int (iI r), .int (iI p)]) (c_X5_isSegment l E _ r p f (by assumption) (by omega) (by omega)) ml_X5_90 mf_X5_isSegment (o := 13) (ci := 5) rfl rfl rfl rfl ⟨(Nat.le_of_ble_eq_true rfl), (Nat.le_of_ble_eq_true rfl)⟩ rfl rfl rfl (Nat.le_of_ble_eq_true rfl) ⟨(Nat.le_of_ble_eq_true rfl), (Nat.le_of_ble_eq_true rfl)⟩ dX5_ties_3 (q := 6) rfl ?_
  refine g_if_ne C dX5_ties_6 (by omega) (q2 := 11) rfl (q := 9) rfl (fun hb1 => ?_) (fun hb1 => ?_)
  · skip
    exfalso; omega
  · skip
    refine g_iconst C dX5_ties_9 (q := 10) rfl ?_
    exact hret _ _ _ dX5_ties_10 rfl
set_option maxRecDepth 100000 in
set_option maxHeartbeats 4000000 in
theorem c_X5_ties_2 (l : Launch) (E : EV) (σ : SS) (r p x : Int) (f : Int → Int) (hM : MS f (σ 14)) (hr_r : -2147483648 ≤ r ∧ r ≤ 2147483647) (hr_p : -2147483648 ≤ p ∧ p ≤ 2147483647) (hr_x : -2147483648 ≤ x ∧ x ≤ 2147483647) (hF : fT f r p x = 2) : Ki l yX5_ties (cw yX5_ties cX5_ties 5 (some .int)) rm_X5_ties E [.ref (ea E 13), .int (iI r), .int (iI p), .int (iI x)] σ 2 σ := by
  refine Ki_of (rm := rm_X5_ties) (mL := 5) (b := cX5_ties) RX5 rfl (by decide +kernel) rfl rfl [(0, .ref (ea E 13)), (1, .int (iI r)), (2, .int (iI p)), (3, .int (iI x))] rfl (Nat.le_of_ble_eq_true rfl) (fun p_ e_ s_ m_ a_ b_ h_ c_ Q A C hret => ?_)
  have hcs := fT_cs f r p x
  have hB := bP_iff f r p
  have hB1 := bP_01 f r p
  have hL := bL_iff x
  have hL1 := bL_01 x
  refine g_aload_n C dX5_ties_0 0 rfl rfl (q := 1) rfl ?_
  refine g_iload_n C dX5_ties_1 1 rfl rfl (q := 2) rfl ?_
  refine g_iload_n C dX5_ties_2 2 rfl rfl (q := 3) rfl ?_
  refine g_cV_i C (As := [.int (iI r), .int (iI p)]) (c_X5_isSegment l E _ r p f (by assumption) (by omega) (by omega)) ml_X5_90 mf_X5_isSegment (o := 13) (ci := 5) rfl rfl rfl rfl ⟨(Nat.le_of_ble_eq_true rfl), (Nat.le_of_ble_eq_true rfl)⟩ rfl rfl rfl (Nat.le_of_ble_eq_true rfl) ⟨(Nat.le_of_ble_eq_true rfl), (Nat.le_of_ble_eq_true rfl)⟩ dX5_ties_3 (q := 6) rfl ?_
  refine g_if_ne C dX5_ties_6 (by omega) (q2 := 11) rfl (q := 9) rfl (fun hb1 => ?_) (fun hb1 => ?_)
  · skip
    refine g_iload_n C dX5_ties_11 3 rfl rfl (q := 12) rfl ?_
    refine g_cS_i C (As := [.int (iI x)]) (c_X5_isLength l E _ x  (by omega)) ml_X5_69 mf_X5_isLength rfl rfl ⟨(Nat.le_of_ble_eq_true rfl), (Nat.le_of_ble_eq_true rfl)⟩ rfl rfl rfl (Nat.le_of_ble_eq_true rfl) ⟨(Nat.le_of_ble_eq_true rfl), (Nat.le_of_ble_eq_true rfl)⟩ dX5_ties_12 (q := 15) rfl ?_
    refine g_if_ne C dX5_ties_15 (by omega) (q2 := 20) rfl (q := 18) rfl (fun hb2 => ?_) (fun hb2 => ?_)
    · skip
      exfalso; omega
    · skip
      refine g_iconst C dX5_ties_18 (q := 19) rfl ?_
      exact hret _ _ _ dX5_ties_19 rfl
  · skip
    exfalso; omega
abbrev rm_X5_moves : Room := { frames := 1, cells := 0, slots := 0, locals := 24 }
set_option maxRecDepth 100000 in
set_option maxHeartbeats 4000000 in
theorem c_X5_moves (l : Launch) (E : EV) (σ : SS) (r p o : Int) (hr : 0 ≤ r ∧ r < 4) (ho : 0 ≤ o ∧ o < 4) (hro : r ≠ o) (hn : 0 ≤ (σ 14) (2 + 121 * r) ∧ (σ 14) (2 + 121 * r) ≤ 60) (hp : 0 ≤ p ∧ p ≤ (σ 14) (2 + 121 * r)) (he : 0 ≤ (σ 14) (2 + 121 * o) ∧ (σ 14) (2 + 121 * o) + ((σ 14) (2 + 121 * r) - p) ≤ 60) : Ki l yX5_moves (cw yX5_moves cX5_moves 6 (some .int)) rm_X5_moves E [.ref (ea E 13), .int (iI r), .int (iI p), .int (iI o)] σ ((σ 14) (2 + 121 * r) - p) (st σ 14 (mMov (σ 14) r p o)) := by
  refine Ki_of (rm := rm_X5_moves) (mL := 6) (b := cX5_moves) RX5 rfl (by decide +kernel) rfl rfl [(0, .ref (ea E 13)), (1, .int (iI r)), (2, .int (iI p)), (3, .int (iI o))] rfl (Nat.le_of_ble_eq_true rfl) (fun p_ e_ s_ m_ a_ b_ h_ c_ Q A C hret => ?_)
  refine g_aload_n C dX5_moves_0 0 rfl rfl (q := 1) rfl ?_
  refine g_iload_n C dX5_moves_1 1 rfl rfl (q := 2) rfl ?_
  refine g_cV_i C (As := [.int (iI r)]) (c_X5_many l E _ r  (by omega)) ml_X5_62 mf_X5_many (o := 13) (ci := 5) rfl rfl rfl rfl ⟨(Nat.le_of_ble_eq_true rfl), (Nat.le_of_ble_eq_true rfl)⟩ rfl rfl rfl (Nat.le_of_ble_eq_true rfl) ⟨(Nat.le_of_ble_eq_true rfl), (Nat.le_of_ble_eq_true rfl)⟩ dX5_moves_2 (q := 5) rfl ?_
  refine g_istore C (L' := [(4, .int (iI ((σ 14) (2 + 121 * r)))), (0, .ref (ea E 13)), (1, .int (iI r)), (2, .int (iI p)), (3, .int (iI o))]) dX5_moves_5 (by decide) rfl (q := 7) rfl ?_
  refine g_iload_n C dX5_moves_7 3 rfl rfl (q := 8) rfl ?_
  refine g_istore C (L' := [(5, .int (iI p)), (4, .int (iI ((σ 14) (2 + 121 * r)))), (0, .ref (ea E 13)), (1, .int (iI r)), (2, .int (iI p)), (3, .int (iI o))]) dX5_moves_8 (by decide) rfl (q := 10) rfl ?_
  refine g_sub [2, 3, 4, 5, 1, 0] (L' := [(0, .ref (ea E 13)), (1, .int (iI r)), (2, .int (iI p)), (3, .int (iI o)), (4, .int (iI ((σ 14) (2 + 121 * r)))), (5, .int (iI p))]) rfl ?_
  refine g_st (σ2 := (st σ 14 (mMovL (σ 14) r p o p))) (by rw [show mMovL (σ 14) r p o p = σ 14 from by funext z9; simp only [mMovL]; (repeat' split) <;> first | rfl | omega | (congr 1; omega) | (subst_vars; omega)]; exact (st_id σ 14).symm) ?_
  have lp10 : ∀ (k9 : Nat) (k : Int), (σ 14 (2 + 121 * r) - k).toNat < k9 → (p ≤ k ∧ k ≤ σ 14 (2 + 121 * r)) → GG p_ l e_ rm_X5_moves s_ m_ a_ b_ h_ c_ Q E A 6 (st σ 14 (mMovL (σ 14) r p o k)) 0 0 10 [(0, .ref (ea E 13)), (1, .int (iI r)), (2, .int (iI p)), (3, .int (iI o)), (4, .int (iI ((σ 14) (2 + 121 * r)))), (5, .int (iI k))] [] := by
    intro k9
    induction k9 with
    | zero => intro k hk9; omega
    | succ k9 ih10 =>
      intro k hk9 hk
      refine g_iload C dX5_moves_10 5 rfl (q := 12) rfl ?_
      refine g_iload C dX5_moves_12 4 rfl (q := 14) rfl ?_
      refine g_icmp_ge C dX5_moves_14 (by omega) (q2 := 70) rfl (q := 17) rfl (fun hb1 => ?_) (fun hb1 => ?_)
      · skip
        refine g_aload_n C dX5_moves_70 0 rfl rfl (q := 71) rfl ?_
        refine g_iload_n C dX5_moves_71 1 rfl rfl (q := 72) rfl ?_
        refine g_iload_n C dX5_moves_72 2 rfl rfl (q := 73) rfl ?_
        refine g_cV_v C (As := [.int (iI r), .int (iI p)]) (c_X5_counts l E _ r p  (by omega)) ml_X5_83 mf_X5_counts (o := 13) (ci := 5) rfl rfl rfl rfl ⟨(Nat.le_of_ble_eq_true rfl), (Nat.le_of_ble_eq_true rfl)⟩ rfl rfl rfl (Nat.le_of_ble_eq_true rfl) ⟨(Nat.le_of_ble_eq_true rfl), (Nat.le_of_ble_eq_true rfl)⟩ dX5_moves_73 (q := 76) rfl ?_
        refine g_st (σ2 := (st σ 14 (pt (mMovL (σ 14) r p o k) (2 + 121 * r) p))) (st_st _ _ _ _) ?_
        refine g_iload C dX5_moves_76 4 rfl (q := 78) rfl ?_
        refine g_iload_n C dX5_moves_78 2 rfl rfl (q := 79) rfl ?_
        refine g_isub C dX5_moves_79 (q := 80) rfl ?_
        refine g_st (σ2 := (st σ 14 (mMov (σ 14) r p o))) (by rw [show k = σ 14 (2 + 121 * r) by omega]; rfl) ?_
        exact hret _ _ _ dX5_moves_80 rfl
      · skip
        have hme := mMovL_m (g := σ 14) (r := r) (o := o) (show p ≤ k by omega) he.1
        refine g_aload_n C dX5_moves_17 0 rfl rfl (q := 18) rfl ?_
        refine g_iload_n C dX5_moves_18 3 rfl rfl (q := 19) rfl ?_
        refine g_aload_n C dX5_moves_19 0 rfl rfl (q := 20) rfl ?_
        refine g_iload_n C dX5_moves_20 3 rfl rfl (q := 21) rfl ?_
        refine g_cV_i C (As := [.int (iI o)]) (c_X5_many l E _ o  (by omega)) ml_X5_62 mf_X5_many (o := 13) (ci := 5) rfl rfl rfl rfl ⟨(Nat.le_of_ble_eq_true rfl), (Nat.le_of_ble_eq_true rfl)⟩ rfl rfl rfl (Nat.le_of_ble_eq_true rfl) ⟨(Nat.le_of_ble_eq_true rfl), (Nat.le_of_ble_eq_true rfl)⟩ dX5_moves_21 (q := 24) rfl ?_
        refine g_top (b := (mMovL (σ 14) r p o k) (2 + 121 * o)) rfl ?_
        refine g_top (b := (σ 14) (2 + 121 * o) + (k - p)) (by exact hme) ?_
        refine g_aload_n C dX5_moves_24 0 rfl rfl (q := 25) rfl ?_
        refine g_iload_n C dX5_moves_25 1 rfl rfl (q := 26) rfl ?_
        refine g_iload C dX5_moves_26 5 rfl (q := 28) rfl ?_
        refine g_iconst C dX5_moves_28 (q := 29) rfl ?_
        refine g_cV_i C (As := [.int (iI r), .int (iI k), .int (iI 0)]) (c_X5_at_0 l E _ r k  (by omega) (by omega)) ml_X5_75 mf_X5_at (o := 13) (ci := 5) rfl rfl rfl rfl ⟨(Nat.le_of_ble_eq_true rfl), (Nat.le_of_ble_eq_true rfl)⟩ rfl rfl rfl (Nat.le_of_ble_eq_true rfl) ⟨(Nat.le_of_ble_eq_true rfl), (Nat.le_of_ble_eq_true rfl)⟩ dX5_moves_29 (q := 32) rfl ?_
        refine g_top (b := (mMovL (σ 14) r p o k) (3 + 121 * r + 2 * k)) rfl ?_
        refine g_top (b := (σ 14) (3 + 121 * r + 2 * k)) (by unfold mMovL; rw [if_neg (by omega), if_neg (by omega), if_neg (by omega)]) ?_
        refine g_aload_n C dX5_moves_32 0 rfl rfl (q := 33) rfl ?_
        refine g_iload_n C dX5_moves_33 1 rfl rfl (q := 34) rfl ?_
        refine g_iload C dX5_moves_34 5 rfl (q := 36) rfl ?_
        refine g_iconst C dX5_moves_36 (q := 37) rfl ?_
        refine g_cV_i C (As := [.int (iI r), .int (iI k), .int (iI 1)]) (c_X5_at_1 l E _ r k  (by omega) (by omega)) ml_X5_75 mf_X5_at (o := 13) (ci := 5) rfl rfl rfl rfl ⟨(Nat.le_of_ble_eq_true rfl), (Nat.le_of_ble_eq_true rfl)⟩ rfl rfl rfl (Nat.le_of_ble_eq_true rfl) ⟨(Nat.le_of_ble_eq_true rfl), (Nat.le_of_ble_eq_true rfl)⟩ dX5_moves_37 (q := 40) rfl ?_
        refine g_top (b := (mMovL (σ 14) r p o k) (4 + 121 * r + 2 * k)) rfl ?_
        refine g_top (b := (σ 14) (4 + 121 * r + 2 * k)) (by unfold mMovL; rw [if_neg (by omega), if_neg (by omega), if_neg (by omega)]) ?_
        refine g_cV_v C (As := [.int (iI o), .int (iI ((σ 14) (2 + 121 * o) + (k - p))), .int (iI ((σ 14) (3 + 121 * r + 2 * k))), .int (iI ((σ 14) (4 + 121 * r + 2 * k)))]) (c_X5_sets l E _ o ((σ 14) (2 + 121 * o) + (k - p)) ((σ 14) (3 + 121 * r + 2 * k)) ((σ 14) (4 + 121 * r + 2 * k))  (by omega) (by omega)) ml_X5_79 mf_X5_sets (o := 13) (ci := 5) rfl rfl rfl rfl ⟨(Nat.le_of_ble_eq_true rfl), (Nat.le_of_ble_eq_true rfl)⟩ rfl rfl rfl (Nat.le_of_ble_eq_true rfl) ⟨(Nat.le_of_ble_eq_true rfl), (Nat.le_of_ble_eq_true rfl)⟩ dX5_moves_40 (q := 43) rfl ?_
        refine g_st (σ2 := (st σ 14 (mS (mMovL (σ 14) r p o k) o ((σ 14) (2 + 121 * o) + (k - p)) ((σ 14) (3 + 121 * r + 2 * k)) ((σ 14) (4 + 121 * r + 2 * k))))) (st_st _ _ _ _) ?_
        refine g_aload_n C dX5_moves_43 0 rfl rfl (q := 44) rfl ?_
        refine g_iload_n C dX5_moves_44 3 rfl rfl (q := 45) rfl ?_
        refine g_aload_n C dX5_moves_45 0 rfl rfl (q := 46) rfl ?_
        refine g_iload_n C dX5_moves_46 3 rfl rfl (q := 47) rfl ?_
        refine g_cV_i C (As := [.int (iI o)]) (c_X5_many l E _ o  (by omega)) ml_X5_62 mf_X5_many (o := 13) (ci := 5) rfl rfl rfl rfl ⟨(Nat.le_of_ble_eq_true rfl), (Nat.le_of_ble_eq_true rfl)⟩ rfl rfl rfl (Nat.le_of_ble_eq_true rfl) ⟨(Nat.le_of_ble_eq_true rfl), (Nat.le_of_ble_eq_true rfl)⟩ dX5_moves_47 (q := 50) rfl ?_
        refine g_top (b := (mS (mMovL (σ 14) r p o k) o ((σ 14) (2 + 121 * o) + (k - p)) ((σ 14) (3 + 121 * r + 2 * k)) ((σ 14) (4 + 121 * r + 2 * k))) (2 + 121 * o)) rfl ?_
        refine g_top (b := (σ 14) (2 + 121 * o) + (k - p)) (by unfold mS; rw [pt_n _ _ (by omega), pt_n _ _ (by omega)]; exact hme) ?_
        refine g_iconst C dX5_moves_50 (q := 51) rfl ?_
        refine g_iadd C dX5_moves_51 (q := 52) rfl ?_
        refine g_cV_v C (As := [.int (iI o), .int (iI ((σ 14) (2 + 121 * o) + (k - p) + 1))]) (c_X5_counts l E _ o ((σ 14) (2 + 121 * o) + (k - p) + 1)  (by omega)) ml_X5_83 mf_X5_counts (o := 13) (ci := 5) rfl rfl rfl rfl ⟨(Nat.le_of_ble_eq_true rfl), (Nat.le_of_ble_eq_true rfl)⟩ rfl rfl rfl (Nat.le_of_ble_eq_true rfl) ⟨(Nat.le_of_ble_eq_true rfl), (Nat.le_of_ble_eq_true rfl)⟩ dX5_moves_52 (q := 55) rfl ?_
        refine g_st (σ2 := (st σ 14 (pt (mS (mMovL (σ 14) r p o k) o ((σ 14) (2 + 121 * o) + (k - p)) ((σ 14) (3 + 121 * r + 2 * k)) ((σ 14) (4 + 121 * r + 2 * k))) (2 + 121 * o) ((σ 14) (2 + 121 * o) + (k - p) + 1)))) (st_st _ _ _ _) ?_
        refine g_aload_n C dX5_moves_55 0 rfl rfl (q := 56) rfl ?_
        refine g_iload_n C dX5_moves_56 1 rfl rfl (q := 57) rfl ?_
        refine g_iload C dX5_moves_57 5 rfl (q := 59) rfl ?_
        refine g_iconst C dX5_moves_59 (q := 60) rfl ?_
        refine g_iconst C dX5_moves_60 (q := 61) rfl ?_
        refine g_cV_v C (As := [.int (iI r), .int (iI k), .int (iI 0), .int (iI 0)]) (c_X5_sets l E _ r k 0 0  (by omega) (by omega)) ml_X5_79 mf_X5_sets (o := 13) (ci := 5) rfl rfl rfl rfl ⟨(Nat.le_of_ble_eq_true rfl), (Nat.le_of_ble_eq_true rfl)⟩ rfl rfl rfl (Nat.le_of_ble_eq_true rfl) ⟨(Nat.le_of_ble_eq_true rfl), (Nat.le_of_ble_eq_true rfl)⟩ dX5_moves_61 (q := 64) rfl ?_
        refine g_st (σ2 := (st σ 14 (mS (pt (mS (mMovL (σ 14) r p o k) o ((σ 14) (2 + 121 * o) + (k - p)) ((σ 14) (3 + 121 * r + 2 * k)) ((σ 14) (4 + 121 * r + 2 * k))) (2 + 121 * o) ((σ 14) (2 + 121 * o) + (k - p) + 1)) r k 0 0))) (st_st _ _ _ _) ?_
        refine g_iinc C (L' := [(5, .int (iI (k + 1))), (0, .ref (ea E 13)), (1, .int (iI r)), (2, .int (iI p)), (3, .int (iI o)), (4, .int (iI ((σ 14) (2 + 121 * r))))]) dX5_moves_64 5 rfl (by decide) rfl (q := 67) rfl ?_
        refine g_goto C dX5_moves_67 (q := 10) rfl ?_
        refine g_sub [1, 2, 3, 4, 5, 0] (L' := [(0, .ref (ea E 13)), (1, .int (iI r)), (2, .int (iI p)), (3, .int (iI o)), (4, .int (iI ((σ 14) (2 + 121 * r)))), (5, .int (iI (k + 1)))]) rfl ?_
        refine g_st (σ2 := (st σ 14 (mMovL (σ 14) r p o (k + 1)))) (congrArg (st _ 14) (by funext z9; simp only [mS, pt, mMovL]; (repeat' split) <;> first | rfl | omega | (congr 1; omega))) ?_
        exact ih10 (k + 1) (by omega) (by omega)
  exact lp10 _ p (Nat.lt_succ_self _) (by omega)
abbrev rm_X5_cuts : Room := { frames := 3, cells := 0, slots := 0, locals := 64 }
set_option maxRecDepth 100000 in
set_option maxHeartbeats 4000000 in
theorem c_X5_cuts (l : Launch) (E : EV) (σ : SS) (r p o : Int) (f : Int → Int) (hM : MS f (σ 14)) (hr_r : -2147483648 ≤ r ∧ r ≤ 2147483647) (hr_p : -2147483648 ≤ p ∧ p ≤ 2147483647) (hr_o : -2147483648 ≤ o ∧ o ≤ 2147483647) (hF : fCu f r p o = 0) : Ki l yX5_cuts (cw yX5_cuts cX5_cuts 4 (some .int)) rm_X5_cuts E [.ref (ea E 13), .int (iI r), .int (iI p), .int (iI o)] σ 0 (st (st σ 13 (pt (σ 13) 14 ((σ 14) (2 + 121 * r) - p))) 14 (mMov (pt (σ 14) 0 ((σ 14) 0 + 1)) r p o)) := by
  refine Ki_of (rm := rm_X5_cuts) (mL := 4) (b := cX5_cuts) RX5 rfl (by decide +kernel) rfl rfl [(0, .ref (ea E 13)), (1, .int (iI r)), (2, .int (iI p)), (3, .int (iI o))] rfl (Nat.le_of_ble_eq_true rfl) (fun p_ e_ s_ m_ a_ b_ h_ c_ Q A C hret => ?_)
  have hcs := fCu_cs f r p o
  have hB := bB_iff f r p
  have hB1 := bB_01 f r p
  have hR2 := bR_iff o
  have hR3 := bR_01 o
  refine g_aload_n C dX5_cuts_0 0 rfl rfl (q := 1) rfl ?_
  refine g_iload_n C dX5_cuts_1 1 rfl rfl (q := 2) rfl ?_
  refine g_iload_n C dX5_cuts_2 2 rfl rfl (q := 3) rfl ?_
  refine g_cV_i C (As := [.int (iI r), .int (iI p)]) (c_X5_isBefore l E _ r p f (by assumption) (by omega) (by omega)) ml_X5_65 mf_X5_isBefore (o := 13) (ci := 5) rfl rfl rfl rfl ⟨(Nat.le_of_ble_eq_true rfl), (Nat.le_of_ble_eq_true rfl)⟩ rfl rfl rfl (Nat.le_of_ble_eq_true rfl) ⟨(Nat.le_of_ble_eq_true rfl), (Nat.le_of_ble_eq_true rfl)⟩ dX5_cuts_3 (q := 6) rfl ?_
  refine g_if_eq C dX5_cuts_6 (by omega) (q2 := 16) rfl (q := 9) rfl (fun hb1 => ?_) (fun hb1 => ?_)
  · skip
    exfalso; omega
  · skip
    refine g_iload_n C dX5_cuts_9 3 rfl rfl (q := 10) rfl ?_
    refine g_cS_i C (As := [.int (iI o)]) (c_X5_isReel l E _ o  (by omega)) ml_X5_58 mf_X5_isReel rfl rfl ⟨(Nat.le_of_ble_eq_true rfl), (Nat.le_of_ble_eq_true rfl)⟩ rfl rfl rfl (Nat.le_of_ble_eq_true rfl) ⟨(Nat.le_of_ble_eq_true rfl), (Nat.le_of_ble_eq_true rfl)⟩ dX5_cuts_10 (q := 13) rfl ?_
    refine g_if_ne C dX5_cuts_13 (by omega) (q2 := 18) rfl (q := 16) rfl (fun hb2 => ?_) (fun hb2 => ?_)
    · skip
      refine g_iload_n C dX5_cuts_18 1 rfl rfl (q := 19) rfl ?_
      refine g_iload_n C dX5_cuts_19 3 rfl rfl (q := 20) rfl ?_
      refine g_icmp_ne C dX5_cuts_20 (by omega) (q2 := 25) rfl (q := 23) rfl (fun hb3 => ?_) (fun hb3 => ?_)
      · skip
        have hm_o := (hM.2.1 o (by omega)).1
        have hn_o := (hM.1 o (by omega)).1
        have hm_r := (hM.2.1 r (by omega)).1
        have hn_r := (hM.1 r (by omega)).1
        refine g_aload_n C dX5_cuts_25 0 rfl rfl (q := 26) rfl ?_
        refine g_iload_n C dX5_cuts_26 3 rfl rfl (q := 27) rfl ?_
        refine g_cV_i C (As := [.int (iI o)]) (c_X5_many l E _ o  (by omega)) ml_X5_62 mf_X5_many (o := 13) (ci := 5) rfl rfl rfl rfl ⟨(Nat.le_of_ble_eq_true rfl), (Nat.le_of_ble_eq_true rfl)⟩ rfl rfl rfl (Nat.le_of_ble_eq_true rfl) ⟨(Nat.le_of_ble_eq_true rfl), (Nat.le_of_ble_eq_true rfl)⟩ dX5_cuts_27 (q := 30) rfl ?_
        refine g_if_le C dX5_cuts_30 (by omega) (q2 := 35) rfl (q := 33) rfl (fun hb4 => ?_) (fun hb4 => ?_)
        · skip
          refine g_aload_n C dX5_cuts_35 0 rfl rfl (q := 36) rfl ?_
          refine gf_X5_7 C dX5_cuts_36 (q := 39) rfl ?_
          refine g_iconst C dX5_cuts_39 (q := 40) rfl ?_
          refine g_dup2 C dX5_cuts_40 rfl rfl (q := 41) rfl ?_
          refine gl_14 C (by omega) dX5_cuts_41 (q := 42) rfl ?_
          refine g_iconst C dX5_cuts_42 (q := 43) rfl ?_
          refine g_iadd C dX5_cuts_43 (q := 44) rfl ?_
          refine gs_14 C (by omega) dX5_cuts_44 (q := 45) rfl ?_
          have q1 : pt (σ 14) 0 (σ 14 0 + 1) (2 + 121 * r) = σ 14 (2 + 121 * r) := pt_n _ _ (by omega)
          have q2 : pt (σ 14) 0 (σ 14 0 + 1) (2 + 121 * o) = σ 14 (2 + 121 * o) := pt_n _ _ (by omega)
          refine g_aload_n C dX5_cuts_45 0 rfl rfl (q := 46) rfl ?_
          refine g_aload_n C dX5_cuts_46 0 rfl rfl (q := 47) rfl ?_
          refine g_iload_n C dX5_cuts_47 1 rfl rfl (q := 48) rfl ?_
          refine g_iload_n C dX5_cuts_48 2 rfl rfl (q := 49) rfl ?_
          refine g_iload_n C dX5_cuts_49 3 rfl rfl (q := 50) rfl ?_
          refine g_cV_i C (As := [.int (iI r), .int (iI p), .int (iI o)]) (c_X5_moves l E _ r p o  (by omega) (by omega) (by omega) (by show 0 ≤ (pt (σ 14) 0 ((σ 14) 0 + 1)) (2 + 121 * r) ∧ (pt (σ 14) 0 ((σ 14) 0 + 1)) (2 + 121 * r) ≤ 60; omega) (by show 0 ≤ p ∧ p ≤ (pt (σ 14) 0 ((σ 14) 0 + 1)) (2 + 121 * r); omega) (by show 0 ≤ (pt (σ 14) 0 ((σ 14) 0 + 1)) (2 + 121 * o) ∧ (pt (σ 14) 0 ((σ 14) 0 + 1)) (2 + 121 * o) + ((pt (σ 14) 0 ((σ 14) 0 + 1)) (2 + 121 * r) - p) ≤ 60; omega)) ml_X5_93 mf_X5_moves (o := 13) (ci := 5) rfl rfl rfl rfl ⟨(Nat.le_of_ble_eq_true rfl), (Nat.le_of_ble_eq_true rfl)⟩ rfl rfl rfl (Nat.le_of_ble_eq_true rfl) ⟨(Nat.le_of_ble_eq_true rfl), (Nat.le_of_ble_eq_true rfl)⟩ dX5_cuts_50 (q := 53) rfl ?_
          refine g_top (b := (pt (σ 14) 0 ((σ 14) 0 + 1)) (2 + 121 * r) - p) rfl ?_
          refine g_top (b := (σ 14) (2 + 121 * r) - p) (by rw [q1]) ?_
          refine g_st (σ2 := (st σ 14 (mMov (pt (σ 14) 0 ((σ 14) 0 + 1)) r p o))) (st_st _ _ _ _) ?_
          refine g_cV_i C (As := [.int (iI ((σ 14) (2 + 121 * r) - p))]) (c_X5_done l E _ ((σ 14) (2 + 121 * r) - p)) ml_X5_87 mf_X5_done (o := 13) (ci := 5) rfl rfl rfl rfl ⟨(Nat.le_of_ble_eq_true rfl), (Nat.le_of_ble_eq_true rfl)⟩ rfl rfl rfl (Nat.le_of_ble_eq_true rfl) ⟨(Nat.le_of_ble_eq_true rfl), (Nat.le_of_ble_eq_true rfl)⟩ dX5_cuts_53 (q := 56) rfl ?_
          refine g_st (σ2 := (st (st σ 13 (pt (σ 13) 14 ((σ 14) (2 + 121 * r) - p))) 14 (mMov (pt (σ 14) 0 ((σ 14) 0 + 1)) r p o))) (st_cm σ (o := 14) (q := 13) (mMov (pt (σ 14) 0 ((σ 14) 0 + 1)) r p o) (pt (σ 13) 14 ((σ 14) (2 + 121 * r) - p)) (by decide)) ?_
          exact hret _ _ _ dX5_cuts_56 rfl
        · skip
          exfalso; omega
      · skip
        exfalso; omega
    · skip
      exfalso; omega
set_option maxRecDepth 100000 in
set_option maxHeartbeats 4000000 in
theorem c_X5_cuts_1 (l : Launch) (E : EV) (σ : SS) (r p o : Int) (f : Int → Int) (hM : MS f (σ 14)) (hr_r : -2147483648 ≤ r ∧ r ≤ 2147483647) (hr_p : -2147483648 ≤ p ∧ p ≤ 2147483647) (hr_o : -2147483648 ≤ o ∧ o ≤ 2147483647) (hF : fCu f r p o = 1) : Ki l yX5_cuts (cw yX5_cuts cX5_cuts 4 (some .int)) rm_X5_cuts E [.ref (ea E 13), .int (iI r), .int (iI p), .int (iI o)] σ 1 σ := by
  refine Ki_of (rm := rm_X5_cuts) (mL := 4) (b := cX5_cuts) RX5 rfl (by decide +kernel) rfl rfl [(0, .ref (ea E 13)), (1, .int (iI r)), (2, .int (iI p)), (3, .int (iI o))] rfl (Nat.le_of_ble_eq_true rfl) (fun p_ e_ s_ m_ a_ b_ h_ c_ Q A C hret => ?_)
  have hcs := fCu_cs f r p o
  have hB := bB_iff f r p
  have hB1 := bB_01 f r p
  have hR2 := bR_iff o
  have hR3 := bR_01 o
  refine g_aload_n C dX5_cuts_0 0 rfl rfl (q := 1) rfl ?_
  refine g_iload_n C dX5_cuts_1 1 rfl rfl (q := 2) rfl ?_
  refine g_iload_n C dX5_cuts_2 2 rfl rfl (q := 3) rfl ?_
  refine g_cV_i C (As := [.int (iI r), .int (iI p)]) (c_X5_isBefore l E _ r p f (by assumption) (by omega) (by omega)) ml_X5_65 mf_X5_isBefore (o := 13) (ci := 5) rfl rfl rfl rfl ⟨(Nat.le_of_ble_eq_true rfl), (Nat.le_of_ble_eq_true rfl)⟩ rfl rfl rfl (Nat.le_of_ble_eq_true rfl) ⟨(Nat.le_of_ble_eq_true rfl), (Nat.le_of_ble_eq_true rfl)⟩ dX5_cuts_3 (q := 6) rfl ?_
  refine g_if_eq C dX5_cuts_6 (by omega) (q2 := 16) rfl (q := 9) rfl (fun hb1 => ?_) (fun hb1 => ?_)
  · skip
    refine g_iconst C dX5_cuts_16 (q := 17) rfl ?_
    exact hret _ _ _ dX5_cuts_17 rfl
  · skip
    refine g_iload_n C dX5_cuts_9 3 rfl rfl (q := 10) rfl ?_
    refine g_cS_i C (As := [.int (iI o)]) (c_X5_isReel l E _ o  (by omega)) ml_X5_58 mf_X5_isReel rfl rfl ⟨(Nat.le_of_ble_eq_true rfl), (Nat.le_of_ble_eq_true rfl)⟩ rfl rfl rfl (Nat.le_of_ble_eq_true rfl) ⟨(Nat.le_of_ble_eq_true rfl), (Nat.le_of_ble_eq_true rfl)⟩ dX5_cuts_10 (q := 13) rfl ?_
    refine g_if_ne C dX5_cuts_13 (by omega) (q2 := 18) rfl (q := 16) rfl (fun hb2 => ?_) (fun hb2 => ?_)
    · skip
      exfalso; omega
    · skip
      refine g_iconst C dX5_cuts_16 (q := 17) rfl ?_
      exact hret _ _ _ dX5_cuts_17 rfl
set_option maxRecDepth 100000 in
set_option maxHeartbeats 4000000 in
theorem c_X5_cuts_2 (l : Launch) (E : EV) (σ : SS) (r p o : Int) (f : Int → Int) (hM : MS f (σ 14)) (hr_r : -2147483648 ≤ r ∧ r ≤ 2147483647) (hr_p : -2147483648 ≤ p ∧ p ≤ 2147483647) (hr_o : -2147483648 ≤ o ∧ o ≤ 2147483647) (hF : fCu f r p o = 2) : Ki l yX5_cuts (cw yX5_cuts cX5_cuts 4 (some .int)) rm_X5_cuts E [.ref (ea E 13), .int (iI r), .int (iI p), .int (iI o)] σ 2 σ := by
  refine Ki_of (rm := rm_X5_cuts) (mL := 4) (b := cX5_cuts) RX5 rfl (by decide +kernel) rfl rfl [(0, .ref (ea E 13)), (1, .int (iI r)), (2, .int (iI p)), (3, .int (iI o))] rfl (Nat.le_of_ble_eq_true rfl) (fun p_ e_ s_ m_ a_ b_ h_ c_ Q A C hret => ?_)
  have hcs := fCu_cs f r p o
  have hB := bB_iff f r p
  have hB1 := bB_01 f r p
  have hR2 := bR_iff o
  have hR3 := bR_01 o
  refine g_aload_n C dX5_cuts_0 0 rfl rfl (q := 1) rfl ?_
  refine g_iload_n C dX5_cuts_1 1 rfl rfl (q := 2) rfl ?_
  refine g_iload_n C dX5_cuts_2 2 rfl rfl (q := 3) rfl ?_
  refine g_cV_i C (As := [.int (iI r), .int (iI p)]) (c_X5_isBefore l E _ r p f (by assumption) (by omega) (by omega)) ml_X5_65 mf_X5_isBefore (o := 13) (ci := 5) rfl rfl rfl rfl ⟨(Nat.le_of_ble_eq_true rfl), (Nat.le_of_ble_eq_true rfl)⟩ rfl rfl rfl (Nat.le_of_ble_eq_true rfl) ⟨(Nat.le_of_ble_eq_true rfl), (Nat.le_of_ble_eq_true rfl)⟩ dX5_cuts_3 (q := 6) rfl ?_
  refine g_if_eq C dX5_cuts_6 (by omega) (q2 := 16) rfl (q := 9) rfl (fun hb1 => ?_) (fun hb1 => ?_)
  · skip
    exfalso; omega
  · skip
    refine g_iload_n C dX5_cuts_9 3 rfl rfl (q := 10) rfl ?_
    refine g_cS_i C (As := [.int (iI o)]) (c_X5_isReel l E _ o  (by omega)) ml_X5_58 mf_X5_isReel rfl rfl ⟨(Nat.le_of_ble_eq_true rfl), (Nat.le_of_ble_eq_true rfl)⟩ rfl rfl rfl (Nat.le_of_ble_eq_true rfl) ⟨(Nat.le_of_ble_eq_true rfl), (Nat.le_of_ble_eq_true rfl)⟩ dX5_cuts_10 (q := 13) rfl ?_
    refine g_if_ne C dX5_cuts_13 (by omega) (q2 := 18) rfl (q := 16) rfl (fun hb2 => ?_) (fun hb2 => ?_)
    · skip
      refine g_iload_n C dX5_cuts_18 1 rfl rfl (q := 19) rfl ?_
      refine g_iload_n C dX5_cuts_19 3 rfl rfl (q := 20) rfl ?_
      refine g_icmp_ne C dX5_cuts_20 (by omega) (q2 := 25) rfl (q := 23) rfl (fun hb3 => ?_) (fun hb3 => ?_)
      · skip
        exfalso; omega
      · skip
        refine g_iconst C dX5_cuts_23 (q := 24) rfl ?_
        exact hret _ _ _ dX5_cuts_24 rfl
    · skip
      exfalso; omega
set_option maxRecDepth 100000 in
set_option maxHeartbeats 4000000 in
theorem c_X5_cuts_3 (l : Launch) (E : EV) (σ : SS) (r p o : Int) (f : Int → Int) (hM : MS f (σ 14)) (hr_r : -2147483648 ≤ r ∧ r ≤ 2147483647) (hr_p : -2147483648 ≤ p ∧ p ≤ 2147483647) (hr_o : -2147483648 ≤ o ∧ o ≤ 2147483647) (hF : fCu f r p o = 3) : Ki l yX5_cuts (cw yX5_cuts cX5_cuts 4 (some .int)) rm_X5_cuts E [.ref (ea E 13), .int (iI r), .int (iI p), .int (iI o)] σ 3 σ := by
  refine Ki_of (rm := rm_X5_cuts) (mL := 4) (b := cX5_cuts) RX5 rfl (by decide +kernel) rfl rfl [(0, .ref (ea E 13)), (1, .int (iI r)), (2, .int (iI p)), (3, .int (iI o))] rfl (Nat.le_of_ble_eq_true rfl) (fun p_ e_ s_ m_ a_ b_ h_ c_ Q A C hret => ?_)
  have hcs := fCu_cs f r p o
  have hB := bB_iff f r p
  have hB1 := bB_01 f r p
  have hR2 := bR_iff o
  have hR3 := bR_01 o
  refine g_aload_n C dX5_cuts_0 0 rfl rfl (q := 1) rfl ?_
  refine g_iload_n C dX5_cuts_1 1 rfl rfl (q := 2) rfl ?_
  refine g_iload_n C dX5_cuts_2 2 rfl rfl (q := 3) rfl ?_
  refine g_cV_i C (As := [.int (iI r), .int (iI p)]) (c_X5_isBefore l E _ r p f (by assumption) (by omega) (by omega)) ml_X5_65 mf_X5_isBefore (o := 13) (ci := 5) rfl rfl rfl rfl ⟨(Nat.le_of_ble_eq_true rfl), (Nat.le_of_ble_eq_true rfl)⟩ rfl rfl rfl (Nat.le_of_ble_eq_true rfl) ⟨(Nat.le_of_ble_eq_true rfl), (Nat.le_of_ble_eq_true rfl)⟩ dX5_cuts_3 (q := 6) rfl ?_
  refine g_if_eq C dX5_cuts_6 (by omega) (q2 := 16) rfl (q := 9) rfl (fun hb1 => ?_) (fun hb1 => ?_)
  · skip
    exfalso; omega
  · skip
    refine g_iload_n C dX5_cuts_9 3 rfl rfl (q := 10) rfl ?_
    refine g_cS_i C (As := [.int (iI o)]) (c_X5_isReel l E _ o  (by omega)) ml_X5_58 mf_X5_isReel rfl rfl ⟨(Nat.le_of_ble_eq_true rfl), (Nat.le_of_ble_eq_true rfl)⟩ rfl rfl rfl (Nat.le_of_ble_eq_true rfl) ⟨(Nat.le_of_ble_eq_true rfl), (Nat.le_of_ble_eq_true rfl)⟩ dX5_cuts_10 (q := 13) rfl ?_
    refine g_if_ne C dX5_cuts_13 (by omega) (q2 := 18) rfl (q := 16) rfl (fun hb2 => ?_) (fun hb2 => ?_)
    · skip
      refine g_iload_n C dX5_cuts_18 1 rfl rfl (q := 19) rfl ?_
      refine g_iload_n C dX5_cuts_19 3 rfl rfl (q := 20) rfl ?_
      refine g_icmp_ne C dX5_cuts_20 (by omega) (q2 := 25) rfl (q := 23) rfl (fun hb3 => ?_) (fun hb3 => ?_)
      · skip
        have hm_o := (hM.2.1 o (by omega)).1
        have hn_o := (hM.1 o (by omega)).1
        refine g_aload_n C dX5_cuts_25 0 rfl rfl (q := 26) rfl ?_
        refine g_iload_n C dX5_cuts_26 3 rfl rfl (q := 27) rfl ?_
        refine g_cV_i C (As := [.int (iI o)]) (c_X5_many l E _ o  (by omega)) ml_X5_62 mf_X5_many (o := 13) (ci := 5) rfl rfl rfl rfl ⟨(Nat.le_of_ble_eq_true rfl), (Nat.le_of_ble_eq_true rfl)⟩ rfl rfl rfl (Nat.le_of_ble_eq_true rfl) ⟨(Nat.le_of_ble_eq_true rfl), (Nat.le_of_ble_eq_true rfl)⟩ dX5_cuts_27 (q := 30) rfl ?_
        refine g_if_le C dX5_cuts_30 (by omega) (q2 := 35) rfl (q := 33) rfl (fun hb4 => ?_) (fun hb4 => ?_)
        · skip
          exfalso; omega
        · skip
          refine g_iconst C dX5_cuts_33 (q := 34) rfl ?_
          exact hret _ _ _ dX5_cuts_34 rfl
      · skip
        exfalso; omega
    · skip
      exfalso; omega
abbrev rm_X5_joins : Room := { frames := 2, cells := 0, slots := 0, locals := 49 }
set_option maxRecDepth 100000 in
set_option maxHeartbeats 4000000 in
theorem c_X5_joins (l : Launch) (E : EV) (σ : SS) (r o : Int) (f : Int → Int) (hM : MS f (σ 14)) (hr_r : -2147483648 ≤ r ∧ r ≤ 2147483647) (hr_o : -2147483648 ≤ o ∧ o ≤ 2147483647) (hF : fJ f r o = 0) : Ki l yX5_joins (cw yX5_joins cX5_joins 4 (some .int)) rm_X5_joins E [.ref (ea E 13), .int (iI r), .int (iI o)] σ 0 (st (st σ 13 (pt (σ 13) 14 ((pt (mMov (σ 14) o 0 r) 1 ((mMov (σ 14) o 0 r) 1 + 1)) (2 + 121 * r)))) 14 (pt (mMov (σ 14) o 0 r) 1 ((mMov (σ 14) o 0 r) 1 + 1))) := by
  refine Ki_of (rm := rm_X5_joins) (mL := 4) (b := cX5_joins) RX5 rfl (by decide +kernel) rfl rfl [(0, .ref (ea E 13)), (1, .int (iI r)), (2, .int (iI o))] rfl (Nat.le_of_ble_eq_true rfl) (fun p_ e_ s_ m_ a_ b_ h_ c_ Q A C hret => ?_)
  have hcs := fJ_cs f r o
  have hR := bR_iff r
  have hR1 := bR_01 r
  have hR2 := bR_iff o
  have hR3 := bR_01 o
  refine g_iload_n C dX5_joins_0 1 rfl rfl (q := 1) rfl ?_
  refine g_cS_i C (As := [.int (iI r)]) (c_X5_isReel l E _ r  (by omega)) ml_X5_58 mf_X5_isReel rfl rfl ⟨(Nat.le_of_ble_eq_true rfl), (Nat.le_of_ble_eq_true rfl)⟩ rfl rfl rfl (Nat.le_of_ble_eq_true rfl) ⟨(Nat.le_of_ble_eq_true rfl), (Nat.le_of_ble_eq_true rfl)⟩ dX5_joins_1 (q := 4) rfl ?_
  refine g_if_eq C dX5_joins_4 (by omega) (q2 := 14) rfl (q := 7) rfl (fun hb1 => ?_) (fun hb1 => ?_)
  · skip
    exfalso; omega
  · skip
    refine g_iload_n C dX5_joins_7 2 rfl rfl (q := 8) rfl ?_
    refine g_cS_i C (As := [.int (iI o)]) (c_X5_isReel l E _ o  (by omega)) ml_X5_58 mf_X5_isReel rfl rfl ⟨(Nat.le_of_ble_eq_true rfl), (Nat.le_of_ble_eq_true rfl)⟩ rfl rfl rfl (Nat.le_of_ble_eq_true rfl) ⟨(Nat.le_of_ble_eq_true rfl), (Nat.le_of_ble_eq_true rfl)⟩ dX5_joins_8 (q := 11) rfl ?_
    refine g_if_ne C dX5_joins_11 (by omega) (q2 := 16) rfl (q := 14) rfl (fun hb2 => ?_) (fun hb2 => ?_)
    · skip
      refine g_iload_n C dX5_joins_16 1 rfl rfl (q := 17) rfl ?_
      refine g_iload_n C dX5_joins_17 2 rfl rfl (q := 18) rfl ?_
      refine g_icmp_ne C dX5_joins_18 (by omega) (q2 := 23) rfl (q := 21) rfl (fun hb3 => ?_) (fun hb3 => ?_)
      · skip
        have hm_o := (hM.2.1 o (by omega)).1
        have hn_o := (hM.1 o (by omega)).1
        have hm_r := (hM.2.1 r (by omega)).1
        have hn_r := (hM.1 r (by omega)).1
        refine g_aload_n C dX5_joins_23 0 rfl rfl (q := 24) rfl ?_
        refine g_iload_n C dX5_joins_24 1 rfl rfl (q := 25) rfl ?_
        refine g_cV_i C (As := [.int (iI r)]) (c_X5_many l E _ r  (by omega)) ml_X5_62 mf_X5_many (o := 13) (ci := 5) rfl rfl rfl rfl ⟨(Nat.le_of_ble_eq_true rfl), (Nat.le_of_ble_eq_true rfl)⟩ rfl rfl rfl (Nat.le_of_ble_eq_true rfl) ⟨(Nat.le_of_ble_eq_true rfl), (Nat.le_of_ble_eq_true rfl)⟩ dX5_joins_25 (q := 28) rfl ?_
        refine g_aload_n C dX5_joins_28 0 rfl rfl (q := 29) rfl ?_
        refine g_iload_n C dX5_joins_29 2 rfl rfl (q := 30) rfl ?_
        refine g_cV_i C (As := [.int (iI o)]) (c_X5_many l E _ o  (by omega)) ml_X5_62 mf_X5_many (o := 13) (ci := 5) rfl rfl rfl rfl ⟨(Nat.le_of_ble_eq_true rfl), (Nat.le_of_ble_eq_true rfl)⟩ rfl rfl rfl (Nat.le_of_ble_eq_true rfl) ⟨(Nat.le_of_ble_eq_true rfl), (Nat.le_of_ble_eq_true rfl)⟩ dX5_joins_30 (q := 33) rfl ?_
        refine g_iadd C dX5_joins_33 (q := 34) rfl ?_
        refine g_bipush C dX5_joins_34 (by decide) (q := 36) rfl ?_
        refine g_icmp_le C dX5_joins_36 (by omega) (q2 := 41) rfl (q := 39) rfl (fun hb4 => ?_) (fun hb4 => ?_)
        · skip
          refine g_aload_n C dX5_joins_41 0 rfl rfl (q := 42) rfl ?_
          refine g_iload_n C dX5_joins_42 2 rfl rfl (q := 43) rfl ?_
          refine g_iconst C dX5_joins_43 (q := 44) rfl ?_
          refine g_iload_n C dX5_joins_44 1 rfl rfl (q := 45) rfl ?_
          refine g_cV_i C (As := [.int (iI o), .int (iI 0), .int (iI r)]) (c_X5_moves l E _ o 0 r  (by omega) (by omega) (by omega) (by omega) (by omega) (by omega)) ml_X5_93 mf_X5_moves (o := 13) (ci := 5) rfl rfl rfl rfl ⟨(Nat.le_of_ble_eq_true rfl), (Nat.le_of_ble_eq_true rfl)⟩ rfl rfl rfl (Nat.le_of_ble_eq_true rfl) ⟨(Nat.le_of_ble_eq_true rfl), (Nat.le_of_ble_eq_true rfl)⟩ dX5_joins_45 (q := 48) rfl ?_
          refine g_istore_n C (L' := [(3, .int (iI ((σ 14) (2 + 121 * o) - 0))), (0, .ref (ea E 13)), (1, .int (iI r)), (2, .int (iI o))]) dX5_joins_48 rfl (by decide) rfl (q := 49) rfl ?_
          refine g_aload_n C dX5_joins_49 1 rfl rfl (q := 50) rfl ?_
          refine gf_X5_7 C dX5_joins_50 (q := 53) rfl ?_
          refine g_iconst C dX5_joins_53 (q := 54) rfl ?_
          refine g_dup2 C dX5_joins_54 rfl rfl (q := 55) rfl ?_
          refine gl_14 C (by omega) dX5_joins_55 (q := 56) rfl ?_
          refine g_top (b := (mMov (σ 14) o 0 r) 1) rfl ?_
          refine g_iconst C dX5_joins_56 (q := 57) rfl ?_
          refine g_iadd C dX5_joins_57 (q := 58) rfl ?_
          refine gs_14 C (by omega) dX5_joins_58 (q := 59) rfl ?_
          refine g_st (σ2 := (st σ 14 (pt (mMov (σ 14) o 0 r) 1 ((mMov (σ 14) o 0 r) 1 + 1)))) (st_st _ _ _ _) ?_
          refine g_aload_n C dX5_joins_59 1 rfl rfl (q := 60) rfl ?_
          refine g_aload_n C dX5_joins_60 1 rfl rfl (q := 61) rfl ?_
          refine g_iload_n C dX5_joins_61 2 rfl rfl (q := 62) rfl ?_
          refine g_cV_i C (As := [.int (iI r)]) (c_X5_many l E _ r  (by omega)) ml_X5_62 mf_X5_many (o := 13) (ci := 5) rfl rfl rfl rfl ⟨(Nat.le_of_ble_eq_true rfl), (Nat.le_of_ble_eq_true rfl)⟩ rfl rfl rfl (Nat.le_of_ble_eq_true rfl) ⟨(Nat.le_of_ble_eq_true rfl), (Nat.le_of_ble_eq_true rfl)⟩ dX5_joins_62 (q := 65) rfl ?_
          refine g_top (b := (pt (mMov (σ 14) o 0 r) 1 ((mMov (σ 14) o 0 r) 1 + 1)) (2 + 121 * r)) rfl ?_
          refine g_cV_i C (As := [.int (iI ((pt (mMov (σ 14) o 0 r) 1 ((mMov (σ 14) o 0 r) 1 + 1)) (2 + 121 * r)))]) (c_X5_done l E _ ((pt (mMov (σ 14) o 0 r) 1 ((mMov (σ 14) o 0 r) 1 + 1)) (2 + 121 * r))) ml_X5_87 mf_X5_done (o := 13) (ci := 5) rfl rfl rfl rfl ⟨(Nat.le_of_ble_eq_true rfl), (Nat.le_of_ble_eq_true rfl)⟩ rfl rfl rfl (Nat.le_of_ble_eq_true rfl) ⟨(Nat.le_of_ble_eq_true rfl), (Nat.le_of_ble_eq_true rfl)⟩ dX5_joins_65 (q := 68) rfl ?_
          refine g_st (σ2 := (st (st σ 13 (pt (σ 13) 14 ((pt (mMov (σ 14) o 0 r) 1 ((mMov (σ 14) o 0 r) 1 + 1)) (2 + 121 * r)))) 14 (pt (mMov (σ 14) o 0 r) 1 ((mMov (σ 14) o 0 r) 1 + 1)))) (st_cm σ (o := 14) (q := 13) (pt (mMov (σ 14) o 0 r) 1 ((mMov (σ 14) o 0 r) 1 + 1)) (pt (σ 13) 14 ((pt (mMov (σ 14) o 0 r) 1 ((mMov (σ 14) o 0 r) 1 + 1)) (2 + 121 * r))) (by decide)) ?_
          exact hret _ _ _ dX5_joins_68 rfl
        · skip
          exfalso; omega
      · skip
        exfalso; omega
    · skip
      exfalso; omega
set_option maxRecDepth 100000 in
set_option maxHeartbeats 4000000 in
theorem c_X5_joins_1 (l : Launch) (E : EV) (σ : SS) (r o : Int) (f : Int → Int) (hM : MS f (σ 14)) (hr_r : -2147483648 ≤ r ∧ r ≤ 2147483647) (hr_o : -2147483648 ≤ o ∧ o ≤ 2147483647) (hF : fJ f r o = 1) : Ki l yX5_joins (cw yX5_joins cX5_joins 4 (some .int)) rm_X5_joins E [.ref (ea E 13), .int (iI r), .int (iI o)] σ 1 σ := by
  refine Ki_of (rm := rm_X5_joins) (mL := 4) (b := cX5_joins) RX5 rfl (by decide +kernel) rfl rfl [(0, .ref (ea E 13)), (1, .int (iI r)), (2, .int (iI o))] rfl (Nat.le_of_ble_eq_true rfl) (fun p_ e_ s_ m_ a_ b_ h_ c_ Q A C hret => ?_)
  have hcs := fJ_cs f r o
  have hR := bR_iff r
  have hR1 := bR_01 r
  have hR2 := bR_iff o
  have hR3 := bR_01 o
  refine g_iload_n C dX5_joins_0 1 rfl rfl (q := 1) rfl ?_
  refine g_cS_i C (As := [.int (iI r)]) (c_X5_isReel l E _ r  (by omega)) ml_X5_58 mf_X5_isReel rfl rfl ⟨(Nat.le_of_ble_eq_true rfl), (Nat.le_of_ble_eq_true rfl)⟩ rfl rfl rfl (Nat.le_of_ble_eq_true rfl) ⟨(Nat.le_of_ble_eq_true rfl), (Nat.le_of_ble_eq_true rfl)⟩ dX5_joins_1 (q := 4) rfl ?_
  refine g_if_eq C dX5_joins_4 (by omega) (q2 := 14) rfl (q := 7) rfl (fun hb1 => ?_) (fun hb1 => ?_)
  · skip
    refine g_iconst C dX5_joins_14 (q := 15) rfl ?_
    exact hret _ _ _ dX5_joins_15 rfl
  · skip
    refine g_iload_n C dX5_joins_7 2 rfl rfl (q := 8) rfl ?_
    refine g_cS_i C (As := [.int (iI o)]) (c_X5_isReel l E _ o  (by omega)) ml_X5_58 mf_X5_isReel rfl rfl ⟨(Nat.le_of_ble_eq_true rfl), (Nat.le_of_ble_eq_true rfl)⟩ rfl rfl rfl (Nat.le_of_ble_eq_true rfl) ⟨(Nat.le_of_ble_eq_true rfl), (Nat.le_of_ble_eq_true rfl)⟩ dX5_joins_8 (q := 11) rfl ?_
    refine g_if_ne C dX5_joins_11 (by omega) (q2 := 16) rfl (q := 14) rfl (fun hb2 => ?_) (fun hb2 => ?_)
    · skip
      exfalso; omega
    · skip
      refine g_iconst C dX5_joins_14 (q := 15) rfl ?_
      exact hret _ _ _ dX5_joins_15 rfl
set_option maxRecDepth 100000 in
set_option maxHeartbeats 4000000 in
theorem c_X5_joins_2 (l : Launch) (E : EV) (σ : SS) (r o : Int) (f : Int → Int) (hM : MS f (σ 14)) (hr_r : -2147483648 ≤ r ∧ r ≤ 2147483647) (hr_o : -2147483648 ≤ o ∧ o ≤ 2147483647) (hF : fJ f r o = 2) : Ki l yX5_joins (cw yX5_joins cX5_joins 4 (some .int)) rm_X5_joins E [.ref (ea E 13), .int (iI r), .int (iI o)] σ 2 σ := by
  refine Ki_of (rm := rm_X5_joins) (mL := 4) (b := cX5_joins) RX5 rfl (by decide +kernel) rfl rfl [(0, .ref (ea E 13)), (1, .int (iI r)), (2, .int (iI o))] rfl (Nat.le_of_ble_eq_true rfl) (fun p_ e_ s_ m_ a_ b_ h_ c_ Q A C hret => ?_)
  have hcs := fJ_cs f r o
  have hR := bR_iff r
  have hR1 := bR_01 r
  have hR2 := bR_iff o
  have hR3 := bR_01 o
  refine g_iload_n C dX5_joins_0 1 rfl rfl (q := 1) rfl ?_
  refine g_cS_i C (As := [.int (iI r)]) (c_X5_isReel l E _ r  (by omega)) ml_X5_58 mf_X5_isReel rfl rfl ⟨(Nat.le_of_ble_eq_true rfl), (Nat.le_of_ble_eq_true rfl)⟩ rfl rfl rfl (Nat.le_of_ble_eq_true rfl) ⟨(Nat.le_of_ble_eq_true rfl), (Nat.le_of_ble_eq_true rfl)⟩ dX5_joins_1 (q := 4) rfl ?_
  refine g_if_eq C dX5_joins_4 (by omega) (q2 := 14) rfl (q := 7) rfl (fun hb1 => ?_) (fun hb1 => ?_)
  · skip
    exfalso; omega
  · skip
    refine g_iload_n C dX5_joins_7 2 rfl rfl (q := 8) rfl ?_
    refine g_cS_i C (As := [.int (iI o)]) (c_X5_isReel l E _ o  (by omega)) ml_X5_58 mf_X5_isReel rfl rfl ⟨(Nat.le_of_ble_eq_true rfl), (Nat.le_of_ble_eq_true rfl)⟩ rfl rfl rfl (Nat.le_of_ble_eq_true rfl) ⟨(Nat.le_of_ble_eq_true rfl), (Nat.le_of_ble_eq_true rfl)⟩ dX5_joins_8 (q := 11) rfl ?_
    refine g_if_ne C dX5_joins_11 (by omega) (q2 := 16) rfl (q := 14) rfl (fun hb2 => ?_) (fun hb2 => ?_)
    · skip
      refine g_iload_n C dX5_joins_16 1 rfl rfl (q := 17) rfl ?_
      refine g_iload_n C dX5_joins_17 2 rfl rfl (q := 18) rfl ?_
      refine g_icmp_ne C dX5_joins_18 (by omega) (q2 := 23) rfl (q := 21) rfl (fun hb3 => ?_) (fun hb3 => ?_)
      · skip
        exfalso; omega
      · skip
        refine g_iconst C dX5_joins_21 (q := 22) rfl ?_
        exact hret _ _ _ dX5_joins_22 rfl
    · skip
      exfalso; omega
set_option maxRecDepth 100000 in
set_option maxHeartbeats 4000000 in
theorem c_X5_joins_3 (l : Launch) (E : EV) (σ : SS) (r o : Int) (f : Int → Int) (hM : MS f (σ 14)) (hr_r : -2147483648 ≤ r ∧ r ≤ 2147483647) (hr_o : -2147483648 ≤ o ∧ o ≤ 2147483647) (hF : fJ f r o = 3) : Ki l yX5_joins (cw yX5_joins cX5_joins 4 (some .int)) rm_X5_joins E [.ref (ea E 13), .int (iI r), .int (iI o)] σ 3 σ := by
  refine Ki_of (rm := rm_X5_joins) (mL := 4) (b := cX5_joins) RX5 rfl (by decide +kernel) rfl rfl [(0, .ref (ea E 13)), (1, .int (iI r)), (2, .int (iI o))] rfl (Nat.le_of_ble_eq_true rfl) (fun p_ e_ s_ m_ a_ b_ h_ c_ Q A C hret => ?_)
  have hcs := fJ_cs f r o
  have hR := bR_iff r
  have hR1 := bR_01 r
  have hR2 := bR_iff o
  have hR3 := bR_01 o
  refine g_iload_n C dX5_joins_0 1 rfl rfl (q := 1) rfl ?_
  refine g_cS_i C (As := [.int (iI r)]) (c_X5_isReel l E _ r  (by omega)) ml_X5_58 mf_X5_isReel rfl rfl ⟨(Nat.le_of_ble_eq_true rfl), (Nat.le_of_ble_eq_true rfl)⟩ rfl rfl rfl (Nat.le_of_ble_eq_true rfl) ⟨(Nat.le_of_ble_eq_true rfl), (Nat.le_of_ble_eq_true rfl)⟩ dX5_joins_1 (q := 4) rfl ?_
  refine g_if_eq C dX5_joins_4 (by omega) (q2 := 14) rfl (q := 7) rfl (fun hb1 => ?_) (fun hb1 => ?_)
  · skip
    exfalso; omega
  · skip
    refine g_iload_n C dX5_joins_7 2 rfl rfl (q := 8) rfl ?_
    refine g_cS_i C (As := [.int (iI o)]) (c_X5_isReel l E _ o  (by omega)) ml_X5_58 mf_X5_isReel rfl rfl ⟨(Nat.le_of_ble_eq_true rfl), (Nat.le_of_ble_eq_true rfl)⟩ rfl rfl rfl (Nat.le_of_ble_eq_true rfl) ⟨(Nat.le_of_ble_eq_true rfl), (Nat.le_of_ble_eq_true rfl)⟩ dX5_joins_8 (q := 11) rfl ?_
    refine g_if_ne C dX5_joins_11 (by omega) (q2 := 16) rfl (q := 14) rfl (fun hb2 => ?_) (fun hb2 => ?_)
    · skip
      refine g_iload_n C dX5_joins_16 1 rfl rfl (q := 17) rfl ?_
      refine g_iload_n C dX5_joins_17 2 rfl rfl (q := 18) rfl ?_
      refine g_icmp_ne C dX5_joins_18 (by omega) (q2 := 23) rfl (q := 21) rfl (fun hb3 => ?_) (fun hb3 => ?_)
      · skip
        have hm_o := (hM.2.1 o (by omega)).1
        have hn_o := (hM.1 o (by omega)).1
        have hm_r := (hM.2.1 r (by omega)).1
        have hn_r := (hM.1 r (by omega)).1
        refine g_aload_n C dX5_joins_23 0 rfl rfl (q := 24) rfl ?_
        refine g_iload_n C dX5_joins_24 1 rfl rfl (q := 25) rfl ?_
        refine g_cV_i C (As := [.int (iI r)]) (c_X5_many l E _ r  (by omega)) ml_X5_62 mf_X5_many (o := 13) (ci := 5) rfl rfl rfl rfl ⟨(Nat.le_of_ble_eq_true rfl), (Nat.le_of_ble_eq_true rfl)⟩ rfl rfl rfl (Nat.le_of_ble_eq_true rfl) ⟨(Nat.le_of_ble_eq_true rfl), (Nat.le_of_ble_eq_true rfl)⟩ dX5_joins_25 (q := 28) rfl ?_
        refine g_aload_n C dX5_joins_28 0 rfl rfl (q := 29) rfl ?_
        refine g_iload_n C dX5_joins_29 2 rfl rfl (q := 30) rfl ?_
        refine g_cV_i C (As := [.int (iI o)]) (c_X5_many l E _ o  (by omega)) ml_X5_62 mf_X5_many (o := 13) (ci := 5) rfl rfl rfl rfl ⟨(Nat.le_of_ble_eq_true rfl), (Nat.le_of_ble_eq_true rfl)⟩ rfl rfl rfl (Nat.le_of_ble_eq_true rfl) ⟨(Nat.le_of_ble_eq_true rfl), (Nat.le_of_ble_eq_true rfl)⟩ dX5_joins_30 (q := 33) rfl ?_
        refine g_iadd C dX5_joins_33 (q := 34) rfl ?_
        refine g_bipush C dX5_joins_34 (by decide) (q := 36) rfl ?_
        refine g_icmp_le C dX5_joins_36 (by omega) (q2 := 41) rfl (q := 39) rfl (fun hb4 => ?_) (fun hb4 => ?_)
        · skip
          exfalso; omega
        · skip
          refine g_iconst C dX5_joins_39 (q := 40) rfl ?_
          exact hret _ _ _ dX5_joins_40 rfl
      · skip
        exfalso; omega
    · skip
      exfalso; omega
abbrev rm_X5_swaps : Room := { frames := 2, cells := 0, slots := 0, locals := 42 }
set_option maxRecDepth 100000 in
set_option maxHeartbeats 4000000 in
theorem c_X5_swaps (l : Launch) (E : EV) (σ : SS) (r o : Int) (f : Int → Int) (hM : MS f (σ 14)) (hr_r : -2147483648 ≤ r ∧ r ≤ 2147483647) (hr_o : -2147483648 ≤ o ∧ o ≤ 2147483647) (hF : fRR r o = 0) : Ki l yX5_swaps (cw yX5_swaps cX5_swaps 5 (some .int)) rm_X5_swaps E [.ref (ea E 13), .int (iI r), .int (iI o)] σ 0 (st (st σ 13 (pt (σ 13) 14 ((mSwL (σ 14) r o 121) (2 + 121 * r)))) 14 (mSwL (σ 14) r o 121)) := by
  refine Ki_of (rm := rm_X5_swaps) (mL := 5) (b := cX5_swaps) RX5 rfl (by decide +kernel) rfl rfl [(0, .ref (ea E 13)), (1, .int (iI r)), (2, .int (iI o))] rfl (Nat.le_of_ble_eq_true rfl) (fun p_ e_ s_ m_ a_ b_ h_ c_ Q A C hret => ?_)
  have hcs := fRR_iff r o
  have hR := bR_iff r
  have hR1 := bR_01 r
  have hR2 := bR_iff o
  have hR3 := bR_01 o
  refine g_iload_n C dX5_swaps_0 1 rfl rfl (q := 1) rfl ?_
  refine g_cS_i C (As := [.int (iI r)]) (c_X5_isReel l E _ r  (by omega)) ml_X5_58 mf_X5_isReel rfl rfl ⟨(Nat.le_of_ble_eq_true rfl), (Nat.le_of_ble_eq_true rfl)⟩ rfl rfl rfl (Nat.le_of_ble_eq_true rfl) ⟨(Nat.le_of_ble_eq_true rfl), (Nat.le_of_ble_eq_true rfl)⟩ dX5_swaps_1 (q := 4) rfl ?_
  refine g_if_eq C dX5_swaps_4 (by omega) (q2 := 14) rfl (q := 7) rfl (fun hb1 => ?_) (fun hb1 => ?_)
  · skip
    exfalso; omega
  · skip
    refine g_iload_n C dX5_swaps_7 2 rfl rfl (q := 8) rfl ?_
    refine g_cS_i C (As := [.int (iI o)]) (c_X5_isReel l E _ o  (by omega)) ml_X5_58 mf_X5_isReel rfl rfl ⟨(Nat.le_of_ble_eq_true rfl), (Nat.le_of_ble_eq_true rfl)⟩ rfl rfl rfl (Nat.le_of_ble_eq_true rfl) ⟨(Nat.le_of_ble_eq_true rfl), (Nat.le_of_ble_eq_true rfl)⟩ dX5_swaps_8 (q := 11) rfl ?_
    refine g_if_ne C dX5_swaps_11 (by omega) (q2 := 16) rfl (q := 14) rfl (fun hb2 => ?_) (fun hb2 => ?_)
    · skip
      refine g_iconst C dX5_swaps_16 (q := 17) rfl ?_
      refine g_istore_n C (L' := [(3, .int (iI 0)), (0, .ref (ea E 13)), (1, .int (iI r)), (2, .int (iI o))]) dX5_swaps_17 rfl (by decide) rfl (q := 18) rfl ?_
      refine g_sub [1, 2, 3, 0] (L' := [(0, .ref (ea E 13)), (1, .int (iI r)), (2, .int (iI o)), (3, .int (iI 0))]) rfl ?_
      refine g_st (σ2 := (st σ 14 (mSwL (σ 14) r o 0))) (by rw [show mSwL (σ 14) r o 0 = σ 14 from by funext z9; simp only [mSwL]; (repeat' split) <;> first | rfl | omega | (congr 1; omega)]; exact (st_id σ 14).symm) ?_
      have lp18 : ∀ (k9 : Nat) (k : Int), (121 - k).toNat < k9 → (0 ≤ k ∧ k ≤ 121) → GG p_ l e_ rm_X5_swaps s_ m_ a_ b_ h_ c_ Q E A 5 (st σ 14 (mSwL (σ 14) r o k)) 0 0 18 [(0, .ref (ea E 13)), (1, .int (iI r)), (2, .int (iI o)), (3, .int (iI k))] [] := by
        intro k9
        induction k9 with
        | zero => intro k hk9; omega
        | succ k9 ih18 =>
          intro k hk9 hk
          refine g_iload_n C dX5_swaps_18 3 rfl rfl (q := 19) rfl ?_
          refine g_bipush C dX5_swaps_19 (by decide) (q := 21) rfl ?_
          refine g_icmp_ge C dX5_swaps_21 (by omega) (q2 := 86) rfl (q := 24) rfl (fun hb3 => ?_) (fun hb3 => ?_)
          · skip
            refine g_aload_n C dX5_swaps_86 0 rfl rfl (q := 87) rfl ?_
            refine g_aload_n C dX5_swaps_87 0 rfl rfl (q := 88) rfl ?_
            refine g_iload_n C dX5_swaps_88 1 rfl rfl (q := 89) rfl ?_
            refine g_cV_i C (As := [.int (iI r)]) (c_X5_many l E _ r  (by omega)) ml_X5_62 mf_X5_many (o := 13) (ci := 5) rfl rfl rfl rfl ⟨(Nat.le_of_ble_eq_true rfl), (Nat.le_of_ble_eq_true rfl)⟩ rfl rfl rfl (Nat.le_of_ble_eq_true rfl) ⟨(Nat.le_of_ble_eq_true rfl), (Nat.le_of_ble_eq_true rfl)⟩ dX5_swaps_89 (q := 92) rfl ?_
            refine g_top (b := (mSwL (σ 14) r o k) (2 + 121 * r)) rfl ?_
            refine g_cV_i C (As := [.int (iI ((mSwL (σ 14) r o k) (2 + 121 * r)))]) (c_X5_done l E _ ((mSwL (σ 14) r o k) (2 + 121 * r))) ml_X5_87 mf_X5_done (o := 13) (ci := 5) rfl rfl rfl rfl ⟨(Nat.le_of_ble_eq_true rfl), (Nat.le_of_ble_eq_true rfl)⟩ rfl rfl rfl (Nat.le_of_ble_eq_true rfl) ⟨(Nat.le_of_ble_eq_true rfl), (Nat.le_of_ble_eq_true rfl)⟩ dX5_swaps_92 (q := 95) rfl ?_
            refine g_st (σ2 := (st (st σ 13 (pt (σ 13) 14 ((mSwL (σ 14) r o k) (2 + 121 * r)))) 14 (mSwL (σ 14) r o k))) (st_cm σ (o := 14) (q := 13) (mSwL (σ 14) r o k) (pt (σ 13) 14 ((mSwL (σ 14) r o k) (2 + 121 * r))) (by decide)) ?_
            refine g_st (σ2 := (st (st σ 13 (pt (σ 13) 14 ((mSwL (σ 14) r o 121) (2 + 121 * r)))) 14 (mSwL (σ 14) r o 121))) (by rw [show k = 121 by omega]) ?_
            exact hret _ _ _ dX5_swaps_95 rfl
          · skip
            refine g_aload_n C dX5_swaps_24 0 rfl rfl (q := 25) rfl ?_
            refine gf_X5_7 C dX5_swaps_25 (q := 28) rfl ?_
            refine g_iconst C dX5_swaps_28 (q := 29) rfl ?_
            refine g_bipush C dX5_swaps_29 (by decide) (q := 31) rfl ?_
            refine g_iload_n C dX5_swaps_31 1 rfl rfl (q := 32) rfl ?_
            refine g_imul C dX5_swaps_32 (q := 33) rfl ?_
            refine g_iadd C dX5_swaps_33 (q := 34) rfl ?_
            refine g_iload_n C dX5_swaps_34 3 rfl rfl (q := 35) rfl ?_
            refine g_iadd C dX5_swaps_35 (q := 36) rfl ?_
            refine gl_14 C (by omega) dX5_swaps_36 (q := 37) rfl ?_
            refine g_top (b := (mSwL (σ 14) r o k) (2 + (121 * r) + k)) rfl ?_
            refine g_istore C (L' := [(4, .int (iI ((mSwL (σ 14) r o k) (2 + (121 * r) + k)))), (0, .ref (ea E 13)), (1, .int (iI r)), (2, .int (iI o)), (3, .int (iI k))]) dX5_swaps_37 (by decide) rfl (q := 39) rfl ?_
            refine g_aload_n C dX5_swaps_39 1 rfl rfl (q := 40) rfl ?_
            refine gf_X5_7 C dX5_swaps_40 (q := 43) rfl ?_
            refine g_iconst C dX5_swaps_43 (q := 44) rfl ?_
            refine g_bipush C dX5_swaps_44 (by decide) (q := 46) rfl ?_
            refine g_iload_n C dX5_swaps_46 2 rfl rfl (q := 47) rfl ?_
            refine g_imul C dX5_swaps_47 (q := 48) rfl ?_
            refine g_iadd C dX5_swaps_48 (q := 49) rfl ?_
            refine g_iload_n C dX5_swaps_49 4 rfl rfl (q := 50) rfl ?_
            refine g_iadd C dX5_swaps_50 (q := 51) rfl ?_
            refine g_aload_n C dX5_swaps_51 1 rfl rfl (q := 52) rfl ?_
            refine gf_X5_7 C dX5_swaps_52 (q := 55) rfl ?_
            refine g_iconst C dX5_swaps_55 (q := 56) rfl ?_
            refine g_bipush C dX5_swaps_56 (by decide) (q := 58) rfl ?_
            refine g_iload_n C dX5_swaps_58 3 rfl rfl (q := 59) rfl ?_
            refine g_imul C dX5_swaps_59 (q := 60) rfl ?_
            refine g_iadd C dX5_swaps_60 (q := 61) rfl ?_
            refine g_iload_n C dX5_swaps_61 4 rfl rfl (q := 62) rfl ?_
            refine g_iadd C dX5_swaps_62 (q := 63) rfl ?_
            refine gl_14 C (by omega) dX5_swaps_63 (q := 64) rfl ?_
            refine g_top (b := (mSwL (σ 14) r o k) (2 + (121 * o) + k)) rfl ?_
            refine gs_14 C (by omega) dX5_swaps_64 (q := 65) rfl ?_
            refine g_st (σ2 := (st σ 14 (pt (mSwL (σ 14) r o k) (2 + (121 * r) + k) ((mSwL (σ 14) r o k) (2 + (121 * o) + k))))) (st_st _ _ _ _) ?_
            refine g_aload_n C dX5_swaps_65 1 rfl rfl (q := 66) rfl ?_
            refine gf_X5_7 C dX5_swaps_66 (q := 69) rfl ?_
            refine g_iconst C dX5_swaps_69 (q := 70) rfl ?_
            refine g_bipush C dX5_swaps_70 (by decide) (q := 72) rfl ?_
            refine g_iload_n C dX5_swaps_72 3 rfl rfl (q := 73) rfl ?_
            refine g_imul C dX5_swaps_73 (q := 74) rfl ?_
            refine g_iadd C dX5_swaps_74 (q := 75) rfl ?_
            refine g_iload_n C dX5_swaps_75 4 rfl rfl (q := 76) rfl ?_
            refine g_iadd C dX5_swaps_76 (q := 77) rfl ?_
            refine g_iload C dX5_swaps_77 0 rfl (q := 79) rfl ?_
            refine gs_14 C (by omega) dX5_swaps_79 (q := 80) rfl ?_
            refine g_st (σ2 := (st σ 14 (pt (pt (mSwL (σ 14) r o k) (2 + (121 * r) + k) ((mSwL (σ 14) r o k) (2 + (121 * o) + k))) (2 + (121 * o) + k) ((mSwL (σ 14) r o k) (2 + (121 * r) + k))))) (st_st _ _ _ _) ?_
            refine g_iinc C (L' := [(3, .int (iI (k + 1))), (4, .int (iI ((mSwL (σ 14) r o k) (2 + (121 * r) + k)))), (0, .ref (ea E 13)), (1, .int (iI r)), (2, .int (iI o))]) dX5_swaps_80 4 rfl (by decide) rfl (q := 83) rfl ?_
            refine g_goto C dX5_swaps_83 (q := 18) rfl ?_
            refine g_sub [2, 3, 4, 0] (L' := [(0, .ref (ea E 13)), (1, .int (iI r)), (2, .int (iI o)), (3, .int (iI (k + 1)))]) rfl ?_
            refine g_st (σ2 := (st σ 14 (mSwL (σ 14) r o (k + 1)))) (congrArg (st _ 14) (by funext z9; simp only [pt, mSwL]; (repeat' split) <;> first | rfl | omega | (congr 1; omega))) ?_
            exact ih18 (k + 1) (by omega) (by omega)
      exact lp18 _ 0 (Nat.lt_succ_self _) (by omega)
    · skip
      exfalso; omega
set_option maxRecDepth 100000 in
set_option maxHeartbeats 4000000 in
theorem c_X5_swaps_1 (l : Launch) (E : EV) (σ : SS) (r o : Int) (f : Int → Int) (hM : MS f (σ 14)) (hr_r : -2147483648 ≤ r ∧ r ≤ 2147483647) (hr_o : -2147483648 ≤ o ∧ o ≤ 2147483647) (hF : fRR r o = 1) : Ki l yX5_swaps (cw yX5_swaps cX5_swaps 5 (some .int)) rm_X5_swaps E [.ref (ea E 13), .int (iI r), .int (iI o)] σ 1 σ := by
  refine Ki_of (rm := rm_X5_swaps) (mL := 5) (b := cX5_swaps) RX5 rfl (by decide +kernel) rfl rfl [(0, .ref (ea E 13)), (1, .int (iI r)), (2, .int (iI o))] rfl (Nat.le_of_ble_eq_true rfl) (fun p_ e_ s_ m_ a_ b_ h_ c_ Q A C hret => ?_)
  have hcs := fRR_iff r o
  have hR := bR_iff r
  have hR1 := bR_01 r
  have hR2 := bR_iff o
  have hR3 := bR_01 o
  refine g_iload_n C dX5_swaps_0 1 rfl rfl (q := 1) rfl ?_
  refine g_cS_i C (As := [.int (iI r)]) (c_X5_isReel l E _ r  (by omega)) ml_X5_58 mf_X5_isReel rfl rfl ⟨(Nat.le_of_ble_eq_true rfl), (Nat.le_of_ble_eq_true rfl)⟩ rfl rfl rfl (Nat.le_of_ble_eq_true rfl) ⟨(Nat.le_of_ble_eq_true rfl), (Nat.le_of_ble_eq_true rfl)⟩ dX5_swaps_1 (q := 4) rfl ?_
  refine g_if_eq C dX5_swaps_4 (by omega) (q2 := 14) rfl (q := 7) rfl (fun hb1 => ?_) (fun hb1 => ?_)
  · skip
    refine g_iconst C dX5_swaps_14 (q := 15) rfl ?_
    exact hret _ _ _ dX5_swaps_15 rfl
  · skip
    refine g_iload_n C dX5_swaps_7 2 rfl rfl (q := 8) rfl ?_
    refine g_cS_i C (As := [.int (iI o)]) (c_X5_isReel l E _ o  (by omega)) ml_X5_58 mf_X5_isReel rfl rfl ⟨(Nat.le_of_ble_eq_true rfl), (Nat.le_of_ble_eq_true rfl)⟩ rfl rfl rfl (Nat.le_of_ble_eq_true rfl) ⟨(Nat.le_of_ble_eq_true rfl), (Nat.le_of_ble_eq_true rfl)⟩ dX5_swaps_8 (q := 11) rfl ?_
    refine g_if_ne C dX5_swaps_11 (by omega) (q2 := 16) rfl (q := 14) rfl (fun hb2 => ?_) (fun hb2 => ?_)
    · skip
      exfalso; omega
    · skip
      refine g_iconst C dX5_swaps_14 (q := 15) rfl ?_
      exact hret _ _ _ dX5_swaps_15 rfl
abbrev rm_X5_sumOf : Room := { frames := 1, cells := 0, slots := 0, locals := 23 }
set_option maxRecDepth 100000 in
set_option maxHeartbeats 4000000 in
theorem c_X5_sumOf (l : Launch) (E : EV) (σ : SS) (r a b : Int) (f : Int → Int) (hM : MS f (σ 14)) (hr : 0 ≤ r ∧ r < 4) (ha : 0 ≤ a ∧ a ≤ 60) (hb : -1 ≤ b ∧ b < f (240 + r)) : Ki l yX5_sumOf (cw yX5_sumOf cX5_sumOf 6 (some .int)) rm_X5_sumOf E [.ref (ea E 13), .int (iI r), .int (iI a), .int (iI b)] σ (sI (lgs f r) a (b + 1)) σ := by
  refine Ki_of (rm := rm_X5_sumOf) (mL := 6) (b := cX5_sumOf) RX5 rfl (by decide +kernel) rfl rfl [(0, .ref (ea E 13)), (1, .int (iI r)), (2, .int (iI a)), (3, .int (iI b))] rfl (Nat.le_of_ble_eq_true rfl) (fun p_ e_ s_ m_ a_ b_ h_ c_ Q A C hret => ?_)
  have hm_r := (hM.2.1 r (by omega)).1
  have hn_r := (hM.1 r (by omega)).1
  refine g_iconst C dX5_sumOf_0 (q := 1) rfl ?_
  refine g_istore C (L' := [(4, .int (iI 0)), (0, .ref (ea E 13)), (1, .int (iI r)), (2, .int (iI a)), (3, .int (iI b))]) dX5_sumOf_1 (by decide) rfl (q := 3) rfl ?_
  refine g_iload_n C dX5_sumOf_3 3 rfl rfl (q := 4) rfl ?_
  refine g_istore C (L' := [(5, .int (iI a)), (4, .int (iI 0)), (0, .ref (ea E 13)), (1, .int (iI r)), (2, .int (iI a)), (3, .int (iI b))]) dX5_sumOf_4 (by decide) rfl (q := 6) rfl ?_
  refine g_sub [2, 3, 4, 5, 1, 0] (L' := [(0, .ref (ea E 13)), (1, .int (iI r)), (2, .int (iI a)), (3, .int (iI b)), (4, .int (iI 0)), (5, .int (iI a))]) rfl ?_
  have lp6 : ∀ (k9 : Nat) (acc : Int) (i : Int), (b + 1 - i).toNat < k9 → (0 ≤ i ∧ i ≤ 61) → (sI (lgs f r) a (b + 1) = acc + sI (lgs f r) i (b + 1)) → GG p_ l e_ rm_X5_sumOf s_ m_ a_ b_ h_ c_ Q E A 6 σ 0 0 6 [(0, .ref (ea E 13)), (1, .int (iI r)), (2, .int (iI a)), (3, .int (iI b)), (4, .int (iI acc)), (5, .int (iI i))] [] := by
    intro k9
    induction k9 with
    | zero => intro acc i hk9; omega
    | succ k9 ih6 =>
      intro acc i hk9 hi hR
      refine g_iload C dX5_sumOf_6 5 rfl (q := 8) rfl ?_
      refine g_iload_n C dX5_sumOf_8 3 rfl rfl (q := 9) rfl ?_
      refine g_icmp_gt C dX5_sumOf_9 (by omega) (q2 := 31) rfl (q := 12) rfl (fun hb1 => ?_) (fun hb1 => ?_)
      · skip
        refine g_iload C dX5_sumOf_31 4 rfl (q := 33) rfl ?_
        exact hret _ _ _ dX5_sumOf_33 (by rw [hR, sI_nil (by omega)]; omega)
      · skip
        have hs := (hM.2.1 r hr).2 i (by omega)
        refine g_iload C dX5_sumOf_12 4 rfl (q := 14) rfl ?_
        refine g_aload_n C dX5_sumOf_14 0 rfl rfl (q := 15) rfl ?_
        refine g_iload_n C dX5_sumOf_15 1 rfl rfl (q := 16) rfl ?_
        refine g_iload C dX5_sumOf_16 5 rfl (q := 18) rfl ?_
        refine g_iconst C dX5_sumOf_18 (q := 19) rfl ?_
        refine g_cV_i C (As := [.int (iI r), .int (iI i), .int (iI 0)]) (c_X5_at_0 l E _ r i  (by omega) (by omega)) ml_X5_75 mf_X5_at (o := 13) (ci := 5) rfl rfl rfl rfl ⟨(Nat.le_of_ble_eq_true rfl), (Nat.le_of_ble_eq_true rfl)⟩ rfl rfl rfl (Nat.le_of_ble_eq_true rfl) ⟨(Nat.le_of_ble_eq_true rfl), (Nat.le_of_ble_eq_true rfl)⟩ dX5_sumOf_19 (q := 22) rfl ?_
        refine g_iadd C dX5_sumOf_22 (q := 23) rfl ?_
        refine g_istore C (L' := [(4, .int (iI (acc + ((σ 14) (3 + 121 * r + 2 * i))))), (0, .ref (ea E 13)), (1, .int (iI r)), (2, .int (iI a)), (3, .int (iI b)), (5, .int (iI i))]) dX5_sumOf_23 (by decide) rfl (q := 25) rfl ?_
        refine g_iinc C (L' := [(5, .int (iI (i + 1))), (4, .int (iI (acc + ((σ 14) (3 + 121 * r + 2 * i))))), (0, .ref (ea E 13)), (1, .int (iI r)), (2, .int (iI a)), (3, .int (iI b))]) dX5_sumOf_25 5 rfl (by decide) rfl (q := 28) rfl ?_
        refine g_goto C dX5_sumOf_28 (q := 6) rfl ?_
        refine g_sub [2, 3, 4, 5, 1, 0] (L' := [(0, .ref (ea E 13)), (1, .int (iI r)), (2, .int (iI a)), (3, .int (iI b)), (4, .int (iI (acc + ((σ 14) (3 + 121 * r + 2 * i))))), (5, .int (iI (i + 1)))]) rfl ?_
        exact ih6 (acc + ((σ 14) (3 + 121 * r + 2 * i))) (i + 1) (by omega) (by omega) (by rw [hR, sI_cons (by omega), hs.1]; unfold lgs; omega)
  exact lp6 _ 0 a (Nat.lt_succ_self _) (by omega) (by omega)
