abbrev rm_X5_totalLength : Room := { frames := 3, cells := 0, slots := 0, locals := 69 }
set_option maxRecDepth 100000 in
set_option maxHeartbeats 4000000 in
theorem c_X5_totalLength (l : Launch) (E : EV) (σ : SS) (f : Int → Int) (hM : MS f (σ 14)) : Kl l yX5_totalLength (cw yX5_totalLength cX5_totalLength 4 (some .long)) rm_X5_totalLength E [.ref (ea E 13)] σ (0 + sI (lgs f 0) 0 (f (240 + 0)) + sI (lgs f 1) 0 (f (240 + 1)) + sI (lgs f 2) 0 (f (240 + 2)) + sI (lgs f 3) 0 (f (240 + 3))) (st σ 13 (pt (σ 13) 0 0)) := by
  refine Kl_of (rm := rm_X5_totalLength) (mL := 4) (b := cX5_totalLength) RX5 rfl (by decide +kernel) rfl rfl [(0, .ref (ea E 13))] rfl (Nat.le_of_ble_eq_true rfl) (fun p_ e_ s_ m_ a_ b_ h_ c_ Q A C hret => ?_)
  have hn0 := (hM.1 0 (by omega)).1
  have hn1 := (hM.1 1 (by omega)).1
  have hn2 := (hM.1 2 (by omega)).1
  have hn3 := (hM.1 3 (by omega)).1
  have hg0 := sum_rg hM.1 (r := 0) (by omega) (a := 0) (b := f (240 + 0)) (by omega)
  have hg1 := sum_rg hM.1 (r := 1) (by omega) (a := 0) (b := f (240 + 1)) (by omega)
  have hg2 := sum_rg hM.1 (r := 2) (by omega) (a := 0) (b := f (240 + 2)) (by omega)
  have hg3 := sum_rg hM.1 (r := 3) (by omega) (a := 0) (b := f (240 + 3)) (by omega)
  refine g_aload_n C dX5_totalLength_0 0 rfl rfl (q := 1) rfl ?_
  refine g_iconst C dX5_totalLength_1 (q := 2) rfl ?_
  refine gp_X5_38 C dX5_totalLength_2 (q := 5) rfl ?_
  refine g_lconst C (y := 0) dX5_totalLength_5 (by decide) (q := 6) rfl ?_
  refine g_lstore_n C (L' := [(1, .long (iL 0)), (0, .ref (ea E 13))]) dX5_totalLength_6 rfl (by decide) rfl (q := 7) rfl ?_
  refine g_iconst C dX5_totalLength_7 (q := 8) rfl ?_
  refine g_istore_n C (L' := [(3, .int (iI 0)), (1, .long (iL 0)), (0, .ref (ea E 13))]) dX5_totalLength_8 rfl (by decide) rfl (q := 9) rfl ?_
  refine g_iload_n C dX5_totalLength_9 0 rfl rfl (q := 10) rfl ?_
  refine g_iconst C dX5_totalLength_10 (q := 11) rfl ?_
  refine g_icmp_ge C dX5_totalLength_11 (by omega) (q2 := 29) rfl (q := 14) rfl (fun hb1 => ?_) (fun hb1 => ?_)
  · skip
    exfalso; omega
  · skip
    refine g_lload_n C dX5_totalLength_14 1 rfl rfl (q := 15) rfl ?_
    refine g_aload_n C dX5_totalLength_15 2 rfl rfl (q := 16) rfl ?_
    refine g_iload_n C dX5_totalLength_16 0 rfl rfl (q := 17) rfl ?_
    refine g_cV_i C (As := [.int (iI 0)]) (c_X5_whole l E _ 0 f (by show MS f (σ 14); assumption) (by omega)) ml_X5_134 mf_X5_whole (o := 13) (ci := 5) rfl rfl rfl rfl ⟨(Nat.le_of_ble_eq_true rfl), (Nat.le_of_ble_eq_true rfl)⟩ rfl rfl rfl (Nat.le_of_ble_eq_true rfl) ⟨(Nat.le_of_ble_eq_true rfl), (Nat.le_of_ble_eq_true rfl)⟩ dX5_totalLength_17 (q := 20) rfl ?_
    refine g_i2l C dX5_totalLength_20 (by omega) (q := 21) rfl ?_
    refine g_ladd C dX5_totalLength_21 (q := 22) rfl ?_
    refine g_lstore_n C (L' := [(1, .long (iL (0 + sI (lgs f 0) 0 (f (240 + 0))))), (3, .int (iI 0)), (0, .ref (ea E 13))]) dX5_totalLength_22 rfl (by decide) rfl (q := 23) rfl ?_
    refine g_iinc C (L' := [(3, .int (iI (0 + 1))), (1, .long (iL (0 + sI (lgs f 0) 0 (f (240 + 0))))), (0, .ref (ea E 13))]) dX5_totalLength_23 1 rfl (by decide) rfl (q := 26) rfl ?_
    refine g_loc (L' := [(3, .int (iI 1)), (1, .long (iL (0 + sI (lgs f 0) 0 (f (240 + 0))))), (0, .ref (ea E 13))]) rfl ?_
    refine g_goto C dX5_totalLength_26 (q := 9) rfl ?_
    refine g_iload_n C dX5_totalLength_9 0 rfl rfl (q := 10) rfl ?_
    refine g_iconst C dX5_totalLength_10 (q := 11) rfl ?_
    refine g_icmp_ge C dX5_totalLength_11 (by omega) (q2 := 29) rfl (q := 14) rfl (fun hb2 => ?_) (fun hb2 => ?_)
    · skip
      exfalso; omega
    · skip
      refine g_lload_n C dX5_totalLength_14 1 rfl rfl (q := 15) rfl ?_
      refine g_aload_n C dX5_totalLength_15 2 rfl rfl (q := 16) rfl ?_
      refine g_iload_n C dX5_totalLength_16 0 rfl rfl (q := 17) rfl ?_
      refine g_cV_i C (As := [.int (iI 1)]) (c_X5_whole l E _ 1 f (by show MS f (σ 14); assumption) (by omega)) ml_X5_134 mf_X5_whole (o := 13) (ci := 5) rfl rfl rfl rfl ⟨(Nat.le_of_ble_eq_true rfl), (Nat.le_of_ble_eq_true rfl)⟩ rfl rfl rfl (Nat.le_of_ble_eq_true rfl) ⟨(Nat.le_of_ble_eq_true rfl), (Nat.le_of_ble_eq_true rfl)⟩ dX5_totalLength_17 (q := 20) rfl ?_
      refine g_i2l C dX5_totalLength_20 (by omega) (q := 21) rfl ?_
      refine g_ladd C dX5_totalLength_21 (q := 22) rfl ?_
      refine g_lstore_n C (L' := [(1, .long (iL (0 + sI (lgs f 0) 0 (f (240 + 0)) + sI (lgs f 1) 0 (f (240 + 1))))), (3, .int (iI 1)), (0, .ref (ea E 13))]) dX5_totalLength_22 rfl (by decide) rfl (q := 23) rfl ?_
      refine g_iinc C (L' := [(3, .int (iI (1 + 1))), (1, .long (iL (0 + sI (lgs f 0) 0 (f (240 + 0)) + sI (lgs f 1) 0 (f (240 + 1))))), (0, .ref (ea E 13))]) dX5_totalLength_23 1 rfl (by decide) rfl (q := 26) rfl ?_
      refine g_loc (L' := [(3, .int (iI 2)), (1, .long (iL (0 + sI (lgs f 0) 0 (f (240 + 0)) + sI (lgs f 1) 0 (f (240 + 1))))), (0, .ref (ea E 13))]) rfl ?_
      refine g_goto C dX5_totalLength_26 (q := 9) rfl ?_
      refine g_iload_n C dX5_totalLength_9 0 rfl rfl (q := 10) rfl ?_
      refine g_iconst C dX5_totalLength_10 (q := 11) rfl ?_
      refine g_icmp_ge C dX5_totalLength_11 (by omega) (q2 := 29) rfl (q := 14) rfl (fun hb3 => ?_) (fun hb3 => ?_)
      · skip
        exfalso; omega
      · skip
        refine g_lload_n C dX5_totalLength_14 1 rfl rfl (q := 15) rfl ?_
        refine g_aload_n C dX5_totalLength_15 2 rfl rfl (q := 16) rfl ?_
        refine g_iload_n C dX5_totalLength_16 0 rfl rfl (q := 17) rfl ?_
        refine g_cV_i C (As := [.int (iI 2)]) (c_X5_whole l E _ 2 f (by show MS f (σ 14); assumption) (by omega)) ml_X5_134 mf_X5_whole (o := 13) (ci := 5) rfl rfl rfl rfl ⟨(Nat.le_of_ble_eq_true rfl), (Nat.le_of_ble_eq_true rfl)⟩ rfl rfl rfl (Nat.le_of_ble_eq_true rfl) ⟨(Nat.le_of_ble_eq_true rfl), (Nat.le_of_ble_eq_true rfl)⟩ dX5_totalLength_17 (q := 20) rfl ?_
        refine g_i2l C dX5_totalLength_20 (by omega) (q := 21) rfl ?_
        refine g_ladd C dX5_totalLength_21 (q := 22) rfl ?_
        refine g_lstore_n C (L' := [(1, .long (iL (0 + sI (lgs f 0) 0 (f (240 + 0)) + sI (lgs f 1) 0 (f (240 + 1)) + sI (lgs f 2) 0 (f (240 + 2))))), (3, .int (iI 2)), (0, .ref (ea E 13))]) dX5_totalLength_22 rfl (by decide) rfl (q := 23) rfl ?_
        refine g_iinc C (L' := [(3, .int (iI (2 + 1))), (1, .long (iL (0 + sI (lgs f 0) 0 (f (240 + 0)) + sI (lgs f 1) 0 (f (240 + 1)) + sI (lgs f 2) 0 (f (240 + 2))))), (0, .ref (ea E 13))]) dX5_totalLength_23 1 rfl (by decide) rfl (q := 26) rfl ?_
        refine g_loc (L' := [(3, .int (iI 3)), (1, .long (iL (0 + sI (lgs f 0) 0 (f (240 + 0)) + sI (lgs f 1) 0 (f (240 + 1)) + sI (lgs f 2) 0 (f (240 + 2))))), (0, .ref (ea E 13))]) rfl ?_
        refine g_goto C dX5_totalLength_26 (q := 9) rfl ?_
        refine g_iload_n C dX5_totalLength_9 0 rfl rfl (q := 10) rfl ?_
        refine g_iconst C dX5_totalLength_10 (q := 11) rfl ?_
        refine g_icmp_ge C dX5_totalLength_11 (by omega) (q2 := 29) rfl (q := 14) rfl (fun hb4 => ?_) (fun hb4 => ?_)
        · skip
          exfalso; omega
        · skip
          refine g_lload_n C dX5_totalLength_14 1 rfl rfl (q := 15) rfl ?_
          refine g_aload_n C dX5_totalLength_15 2 rfl rfl (q := 16) rfl ?_
          refine g_iload_n C dX5_totalLength_16 0 rfl rfl (q := 17) rfl ?_
          refine g_cV_i C (As := [.int (iI 3)]) (c_X5_whole l E _ 3 f (by show MS f (σ 14); assumption) (by omega)) ml_X5_134 mf_X5_whole (o := 13) (ci := 5) rfl rfl rfl rfl ⟨(Nat.le_of_ble_eq_true rfl), (Nat.le_of_ble_eq_true rfl)⟩ rfl rfl rfl (Nat.le_of_ble_eq_true rfl) ⟨(Nat.le_of_ble_eq_true rfl), (Nat.le_of_ble_eq_true rfl)⟩ dX5_totalLength_17 (q := 20) rfl ?_
          refine g_i2l C dX5_totalLength_20 (by omega) (q := 21) rfl ?_
          refine g_ladd C dX5_totalLength_21 (q := 22) rfl ?_
          refine g_lstore_n C (L' := [(1, .long (iL (0 + sI (lgs f 0) 0 (f (240 + 0)) + sI (lgs f 1) 0 (f (240 + 1)) + sI (lgs f 2) 0 (f (240 + 2)) + sI (lgs f 3) 0 (f (240 + 3))))), (3, .int (iI 3)), (0, .ref (ea E 13))]) dX5_totalLength_22 rfl (by decide) rfl (q := 23) rfl ?_
          refine g_iinc C (L' := [(3, .int (iI (3 + 1))), (1, .long (iL (0 + sI (lgs f 0) 0 (f (240 + 0)) + sI (lgs f 1) 0 (f (240 + 1)) + sI (lgs f 2) 0 (f (240 + 2)) + sI (lgs f 3) 0 (f (240 + 3))))), (0, .ref (ea E 13))]) dX5_totalLength_23 1 rfl (by decide) rfl (q := 26) rfl ?_
          refine g_loc (L' := [(3, .int (iI 4)), (1, .long (iL (0 + sI (lgs f 0) 0 (f (240 + 0)) + sI (lgs f 1) 0 (f (240 + 1)) + sI (lgs f 2) 0 (f (240 + 2)) + sI (lgs f 3) 0 (f (240 + 3))))), (0, .ref (ea E 13))]) rfl ?_
          refine g_goto C dX5_totalLength_26 (q := 9) rfl ?_
          refine g_iload_n C dX5_totalLength_9 0 rfl rfl (q := 10) rfl ?_
          refine g_iconst C dX5_totalLength_10 (q := 11) rfl ?_
          refine g_icmp_ge C dX5_totalLength_11 (by omega) (q2 := 29) rfl (q := 14) rfl (fun hb5 => ?_) (fun hb5 => ?_)
          · skip
            refine g_lload_n C dX5_totalLength_29 1 rfl rfl (q := 30) rfl ?_
            exact hret _ _ _ dX5_totalLength_30 rfl
          · skip
            exfalso; omega
abbrev rm_X5_tangleCount : Room := { frames := 2, cells := 0, slots := 0, locals := 45 }
set_option maxRecDepth 100000 in
set_option maxHeartbeats 4000000 in
theorem c_X5_tangleCount (l : Launch) (E : EV) (σ : SS) (r : Int) (f : Int → Int) (hM : MS f (σ 14)) (hr_r : -2147483648 ≤ r ∧ r ≤ 2147483647) (hF1 : fR r = 0) : Ki l yX5_tangleCount (cw yX5_tangleCount cX5_tangleCount 4 (some .int)) rm_X5_tangleCount E [.ref (ea E 13), .int (iI r)] σ (sI (tg f r) 0 (f (240 + r))) (st σ 13 (pt (σ 13) 0 0)) := by
  refine Ki_of (rm := rm_X5_tangleCount) (mL := 4) (b := cX5_tangleCount) RX5 rfl (by decide +kernel) rfl rfl [(0, .ref (ea E 13)), (1, .int (iI r))] rfl (Nat.le_of_ble_eq_true rfl) (fun p_ e_ s_ m_ a_ b_ h_ c_ Q A C hret => ?_)
  have hB := bR_iff r
  have hB1 := bR_01 r
  have hG1 := fR_0 hF1
  have hm_r := (hM.2.1 r (by omega)).1
  have hn_r := (hM.1 r (by omega)).1
  refine g_aload_n C dX5_tangleCount_0 0 rfl rfl (q := 1) rfl ?_
  refine g_iload_n C dX5_tangleCount_1 1 rfl rfl (q := 2) rfl ?_
  refine g_cS_i C (As := [.int (iI r)]) (c_X5_isReel l E _ r  (by omega)) ml_X5_58 mf_X5_isReel rfl rfl ⟨(Nat.le_of_ble_eq_true rfl), (Nat.le_of_ble_eq_true rfl)⟩ rfl rfl rfl (Nat.le_of_ble_eq_true rfl) ⟨(Nat.le_of_ble_eq_true rfl), (Nat.le_of_ble_eq_true rfl)⟩ dX5_tangleCount_2 (q := 5) rfl ?_
  refine g_if_eq C dX5_tangleCount_5 (by omega) (q2 := 12) rfl (q := 8) rfl (fun hb1 => ?_) (fun hb1 => ?_)
  · skip
    exfalso; omega
  · skip
    refine g_iconst C dX5_tangleCount_8 (q := 9) rfl ?_
    refine g_goto C dX5_tangleCount_9 (q := 13) rfl ?_
    refine gp_X5_38 C dX5_tangleCount_13 (q := 16) rfl ?_
    refine g_iconst C dX5_tangleCount_16 (q := 17) rfl ?_
    refine g_istore_n C (L' := [(2, .int (iI 0)), (0, .ref (ea E 13)), (1, .int (iI r))]) dX5_tangleCount_17 rfl (by decide) rfl (q := 18) rfl ?_
    refine g_iconst C dX5_tangleCount_18 (q := 19) rfl ?_
    refine g_istore_n C (L' := [(3, .int (iI 0)), (2, .int (iI 0)), (0, .ref (ea E 13)), (1, .int (iI r))]) dX5_tangleCount_19 rfl (by decide) rfl (q := 20) rfl ?_
    refine g_sub [2, 3, 1, 0] (L' := [(0, .ref (ea E 13)), (1, .int (iI r)), (2, .int (iI 0)), (3, .int (iI 0))]) rfl ?_
    have lp20 : ∀ (k9 : Nat) (acc : Int) (i : Int), (f (240 + r) - i).toNat < k9 → (0 ≤ i ∧ i ≤ f (240 + r)) → (sI (tg f r) 0 (f (240 + r)) = acc + sI (tg f r) i (f (240 + r))) → GG p_ l e_ rm_X5_tangleCount s_ m_ a_ b_ h_ c_ Q E A 4 (st σ 13 (pt (σ 13) 0 0)) 0 0 20 [(0, .ref (ea E 13)), (1, .int (iI r)), (2, .int (iI acc)), (3, .int (iI i))] [] := by
      intro k9
      induction k9 with
      | zero => intro acc i hk9; omega
      | succ k9 ih20 =>
        intro acc i hk9 hi hR
        refine g_aload_n C dX5_tangleCount_20 0 rfl rfl (q := 21) rfl ?_
        refine gf_X5_38 C dX5_tangleCount_21 (q := 24) rfl ?_
        refine g_top (b := 0) rfl ?_
        refine g_if_ne C dX5_tangleCount_24 (by omega) (q2 := 59) rfl (q := 27) rfl (fun hb2 => ?_) (fun hb2 => ?_)
        · skip
          exfalso; omega
        · skip
          refine g_iload_n C dX5_tangleCount_27 3 rfl rfl (q := 28) rfl ?_
          refine g_aload_n C dX5_tangleCount_28 0 rfl rfl (q := 29) rfl ?_
          refine g_iload_n C dX5_tangleCount_29 1 rfl rfl (q := 30) rfl ?_
          refine g_cV_i C (As := [.int (iI r)]) (c_X5_many l E _ r  (by omega)) ml_X5_62 mf_X5_many (o := 13) (ci := 5) rfl rfl rfl rfl ⟨(Nat.le_of_ble_eq_true rfl), (Nat.le_of_ble_eq_true rfl)⟩ rfl rfl rfl (Nat.le_of_ble_eq_true rfl) ⟨(Nat.le_of_ble_eq_true rfl), (Nat.le_of_ble_eq_true rfl)⟩ dX5_tangleCount_30 (q := 33) rfl ?_
          refine g_top (b := (σ 14) (2 + 121 * r)) rfl ?_
          refine g_icmp_ge C dX5_tangleCount_33 (by omega) (q2 := 59) rfl (q := 36) rfl (fun hb3 => ?_) (fun hb3 => ?_)
          · skip
            refine g_iload_n C dX5_tangleCount_59 2 rfl rfl (q := 60) rfl ?_
            exact hret _ _ _ dX5_tangleCount_60 (by rw [hR, sI_nil (by omega)]; omega)
          · skip
            have ht := tg_01 f r i
            refine g_iload_n C dX5_tangleCount_36 2 rfl rfl (q := 37) rfl ?_
            refine g_aload_n C dX5_tangleCount_37 0 rfl rfl (q := 38) rfl ?_
            refine g_iload_n C dX5_tangleCount_38 1 rfl rfl (q := 39) rfl ?_
            refine g_iload_n C dX5_tangleCount_39 3 rfl rfl (q := 40) rfl ?_
            refine g_cV_i C (As := [.int (iI r), .int (iI i)]) (c_X5_isTangle l E _ r i f (by show MS f (σ 14); assumption) (by omega) (by omega)) ml_X5_143 mf_X5_isTangle (o := 13) (ci := 5) rfl rfl rfl rfl ⟨(Nat.le_of_ble_eq_true rfl), (Nat.le_of_ble_eq_true rfl)⟩ rfl rfl rfl (Nat.le_of_ble_eq_true rfl) ⟨(Nat.le_of_ble_eq_true rfl), (Nat.le_of_ble_eq_true rfl)⟩ dX5_tangleCount_40 (q := 43) rfl ?_
            refine g_if_eq C dX5_tangleCount_43 (by omega) (q2 := 50) rfl (q := 46) rfl (fun hb4 => ?_) (fun hb4 => ?_)
            · skip
              refine g_iconst C dX5_tangleCount_50 (q := 51) rfl ?_
              refine g_iadd C dX5_tangleCount_51 (q := 52) rfl ?_
              refine g_istore_n C (L' := [(2, .int (iI (acc + 0))), (0, .ref (ea E 13)), (1, .int (iI r)), (3, .int (iI i))]) dX5_tangleCount_52 rfl (by decide) rfl (q := 53) rfl ?_
              refine g_iinc C (L' := [(3, .int (iI (i + 1))), (2, .int (iI (acc + 0))), (0, .ref (ea E 13)), (1, .int (iI r))]) dX5_tangleCount_53 3 rfl (by decide) rfl (q := 56) rfl ?_
              refine g_goto C dX5_tangleCount_56 (q := 20) rfl ?_
              refine g_sub [2, 3, 1, 0] (L' := [(0, .ref (ea E 13)), (1, .int (iI r)), (2, .int (iI (acc + 0))), (3, .int (iI (i + 1)))]) rfl ?_
              exact ih20 (acc + 0) (i + 1) (by omega) (by omega) (by rw [hR, sI_cons (by omega)]; omega)
            · skip
              refine g_iconst C dX5_tangleCount_46 (q := 47) rfl ?_
              refine g_goto C dX5_tangleCount_47 (q := 51) rfl ?_
              refine g_iadd C dX5_tangleCount_51 (q := 52) rfl ?_
              refine g_istore_n C (L' := [(2, .int (iI (acc + 1))), (0, .ref (ea E 13)), (1, .int (iI r)), (3, .int (iI i))]) dX5_tangleCount_52 rfl (by decide) rfl (q := 53) rfl ?_
              refine g_iinc C (L' := [(3, .int (iI (i + 1))), (2, .int (iI (acc + 1))), (0, .ref (ea E 13)), (1, .int (iI r))]) dX5_tangleCount_53 3 rfl (by decide) rfl (q := 56) rfl ?_
              refine g_goto C dX5_tangleCount_56 (q := 20) rfl ?_
              refine g_sub [2, 3, 1, 0] (L' := [(0, .ref (ea E 13)), (1, .int (iI r)), (2, .int (iI (acc + 1))), (3, .int (iI (i + 1)))]) rfl ?_
              exact ih20 (acc + 1) (i + 1) (by omega) (by omega) (by rw [hR, sI_cons (by omega)]; omega)
    exact lp20 _ 0 0 (Nat.lt_succ_self _) (by omega) (by omega)
set_option maxRecDepth 100000 in
set_option maxHeartbeats 4000000 in
theorem c_X5_tangleCount_11 (l : Launch) (E : EV) (σ : SS) (r : Int) (f : Int → Int) (hM : MS f (σ 14)) (hr_r : -2147483648 ≤ r ∧ r ≤ 2147483647) (hF1 : fR r = 1) : Ki l yX5_tangleCount (cw yX5_tangleCount cX5_tangleCount 4 (some .int)) rm_X5_tangleCount E [.ref (ea E 13), .int (iI r)] σ 0 (st σ 13 (pt (σ 13) 0 1)) := by
  refine Ki_of (rm := rm_X5_tangleCount) (mL := 4) (b := cX5_tangleCount) RX5 rfl (by decide +kernel) rfl rfl [(0, .ref (ea E 13)), (1, .int (iI r))] rfl (Nat.le_of_ble_eq_true rfl) (fun p_ e_ s_ m_ a_ b_ h_ c_ Q A C hret => ?_)
  have hB := bR_iff r
  have hB1 := bR_01 r
  have hnr : ¬ (0 ≤ r ∧ r < 4) := by intro h9; unfold fR at hF1; rw [if_pos h9] at hF1; omega
  refine g_aload_n C dX5_tangleCount_0 0 rfl rfl (q := 1) rfl ?_
  refine g_iload_n C dX5_tangleCount_1 1 rfl rfl (q := 2) rfl ?_
  refine g_cS_i C (As := [.int (iI r)]) (c_X5_isReel l E _ r  (by omega)) ml_X5_58 mf_X5_isReel rfl rfl ⟨(Nat.le_of_ble_eq_true rfl), (Nat.le_of_ble_eq_true rfl)⟩ rfl rfl rfl (Nat.le_of_ble_eq_true rfl) ⟨(Nat.le_of_ble_eq_true rfl), (Nat.le_of_ble_eq_true rfl)⟩ dX5_tangleCount_2 (q := 5) rfl ?_
  refine g_if_eq C dX5_tangleCount_5 (by omega) (q2 := 12) rfl (q := 8) rfl (fun hb1 => ?_) (fun hb1 => ?_)
  · skip
    refine g_iconst C dX5_tangleCount_12 (q := 13) rfl ?_
    refine gp_X5_38 C dX5_tangleCount_13 (q := 16) rfl ?_
    refine g_iconst C dX5_tangleCount_16 (q := 17) rfl ?_
    refine g_istore_n C (L' := [(2, .int (iI 0)), (0, .ref (ea E 13)), (1, .int (iI r))]) dX5_tangleCount_17 rfl (by decide) rfl (q := 18) rfl ?_
    refine g_iconst C dX5_tangleCount_18 (q := 19) rfl ?_
    refine g_istore_n C (L' := [(3, .int (iI 0)), (2, .int (iI 0)), (0, .ref (ea E 13)), (1, .int (iI r))]) dX5_tangleCount_19 rfl (by decide) rfl (q := 20) rfl ?_
    refine g_aload_n C dX5_tangleCount_20 2 rfl rfl (q := 21) rfl ?_
    refine gf_X5_38 C dX5_tangleCount_21 (q := 24) rfl ?_
    refine g_top (b := 1) rfl ?_
    refine g_if_ne C dX5_tangleCount_24 (by omega) (q2 := 59) rfl (q := 27) rfl (fun hb2 => ?_) (fun hb2 => ?_)
    · skip
      refine g_iload_n C dX5_tangleCount_59 1 rfl rfl (q := 60) rfl ?_
      exact hret _ _ _ dX5_tangleCount_60 rfl
    · skip
      exfalso; omega
  · skip
    exfalso; omega
abbrev rm_X5_tangleCountByScan : Room := { frames := 3, cells := 0, slots := 0, locals := 68 }
set_option maxRecDepth 100000 in
set_option maxHeartbeats 4000000 in
theorem c_X5_tangleCountByScan (l : Launch) (E : EV) (σ : SS) (r : Int) (f : Int → Int) (hM : MS f (σ 14)) (hr_r : -2147483648 ≤ r ∧ r ≤ 2147483647) (hF1 : fR r = 0) : Ki l yX5_tangleCountByScan (cw yX5_tangleCountByScan cX5_tangleCountByScan 2 (some .int)) rm_X5_tangleCountByScan E [.ref (ea E 13), .int (iI r)] σ (sI (tg f r) 0 (f (240 + r))) (st σ 13 (pt (σ 13) 0 0)) := by
  refine Ki_of (rm := rm_X5_tangleCountByScan) (mL := 2) (b := cX5_tangleCountByScan) RX5 rfl (by decide +kernel) rfl rfl [(0, .ref (ea E 13)), (1, .int (iI r))] rfl (Nat.le_of_ble_eq_true rfl) (fun p_ e_ s_ m_ a_ b_ h_ c_ Q A C hret => ?_)
  refine g_aload_n C dX5_tangleCountByScan_0 0 rfl rfl (q := 1) rfl ?_
  refine g_iload_n C dX5_tangleCountByScan_1 1 rfl rfl (q := 2) rfl ?_
  refine g_cV_i C (As := [.int (iI r)]) (c_X5_tangleCount l E _ r f (by assumption) (by omega) (by assumption)) ml_X5_146 mf_X5_tangleCount (o := 13) (ci := 5) rfl rfl rfl rfl ⟨(Nat.le_of_ble_eq_true rfl), (Nat.le_of_ble_eq_true rfl)⟩ rfl rfl rfl (Nat.le_of_ble_eq_true rfl) ⟨(Nat.le_of_ble_eq_true rfl), (Nat.le_of_ble_eq_true rfl)⟩ dX5_tangleCountByScan_2 (q := 5) rfl ?_
  exact hret _ _ _ dX5_tangleCountByScan_5 rfl
set_option maxRecDepth 100000 in
set_option maxHeartbeats 4000000 in
theorem c_X5_tangleCountByScan_11 (l : Launch) (E : EV) (σ : SS) (r : Int) (f : Int → Int) (hM : MS f (σ 14)) (hr_r : -2147483648 ≤ r ∧ r ≤ 2147483647) (hF1 : fR r = 1) : Ki l yX5_tangleCountByScan (cw yX5_tangleCountByScan cX5_tangleCountByScan 2 (some .int)) rm_X5_tangleCountByScan E [.ref (ea E 13), .int (iI r)] σ 0 (st σ 13 (pt (σ 13) 0 1)) := by
  refine Ki_of (rm := rm_X5_tangleCountByScan) (mL := 2) (b := cX5_tangleCountByScan) RX5 rfl (by decide +kernel) rfl rfl [(0, .ref (ea E 13)), (1, .int (iI r))] rfl (Nat.le_of_ble_eq_true rfl) (fun p_ e_ s_ m_ a_ b_ h_ c_ Q A C hret => ?_)
  refine g_aload_n C dX5_tangleCountByScan_0 0 rfl rfl (q := 1) rfl ?_
  refine g_iload_n C dX5_tangleCountByScan_1 1 rfl rfl (q := 2) rfl ?_
  refine g_cV_i C (As := [.int (iI r)]) (c_X5_tangleCount_11 l E _ r f (by assumption) (by omega) (by assumption)) ml_X5_146 mf_X5_tangleCount (o := 13) (ci := 5) rfl rfl rfl rfl ⟨(Nat.le_of_ble_eq_true rfl), (Nat.le_of_ble_eq_true rfl)⟩ rfl rfl rfl (Nat.le_of_ble_eq_true rfl) ⟨(Nat.le_of_ble_eq_true rfl), (Nat.le_of_ble_eq_true rfl)⟩ dX5_tangleCountByScan_2 (q := 5) rfl ?_
  exact hret _ _ _ dX5_tangleCountByScan_5 rfl
abbrev rm_X5_isTangled : Room := { frames := 3, cells := 0, slots := 0, locals := 64 }
set_option maxRecDepth 100000 in
set_option maxHeartbeats 4000000 in
theorem c_X5_isTangled (l : Launch) (E : EV) (σ : SS) (r p : Int) (f : Int → Int) (hM : MS f (σ 14)) (hr_r : -2147483648 ≤ r ∧ r ≤ 2147483647) (hr_p : -2147483648 ≤ p ∧ p ≤ 2147483647) (hF1 : fP f r p = 0) : Ki l yX5_isTangled (cw yX5_isTangled cX5_isTangled 3 (some .boolean)) rm_X5_isTangled E [.ref (ea E 13), .int (iI r), .int (iI p)] σ (iT f r p) (st σ 13 (pt (σ 13) 0 0)) := by
  refine Kz_of (rm := rm_X5_isTangled) (mL := 3) (b := cX5_isTangled) RX5 rfl (by decide +kernel) rfl rfl [(0, .ref (ea E 13)), (1, .int (iI r)), (2, .int (iI p))] rfl (Nat.le_of_ble_eq_true rfl) (fun p_ e_ s_ m_ a_ b_ h_ c_ Q A C hret => ?_)
  have hB := bP_iff f r p
  have hB1 := bP_01 f r p
  have hcs := fP_cs f r p
  have hm_r := (hM.2.1 r (by omega)).1
  have hn_r := (hM.1 r (by omega)).1
  have ht1 := tg_01 f r p
  have ht2 := tg_01 f r (p - 1)
  refine g_aload_n C dX5_isTangled_0 0 rfl rfl (q := 1) rfl ?_
  refine g_aload_n C dX5_isTangled_1 0 rfl rfl (q := 2) rfl ?_
  refine g_iload_n C dX5_isTangled_2 1 rfl rfl (q := 3) rfl ?_
  refine g_iload_n C dX5_isTangled_3 2 rfl rfl (q := 4) rfl ?_
  refine g_cV_i C (As := [.int (iI r), .int (iI p)]) (c_X5_isSegment l E _ r p f (by assumption) (by omega) (by omega)) ml_X5_90 mf_X5_isSegment (o := 13) (ci := 5) rfl rfl rfl rfl ⟨(Nat.le_of_ble_eq_true rfl), (Nat.le_of_ble_eq_true rfl)⟩ rfl rfl rfl (Nat.le_of_ble_eq_true rfl) ⟨(Nat.le_of_ble_eq_true rfl), (Nat.le_of_ble_eq_true rfl)⟩ dX5_isTangled_4 (q := 7) rfl ?_
  refine g_if_eq C dX5_isTangled_7 (by omega) (q2 := 14) rfl (q := 10) rfl (fun hb1 => ?_) (fun hb1 => ?_)
  · skip
    exfalso; omega
  · skip
    refine g_iconst C dX5_isTangled_10 (q := 11) rfl ?_
    refine g_goto C dX5_isTangled_11 (q := 15) rfl ?_
    refine gp_X5_38 C dX5_isTangled_15 (q := 18) rfl ?_
    refine g_aload_n C dX5_isTangled_18 0 rfl rfl (q := 19) rfl ?_
    refine gf_X5_38 C dX5_isTangled_19 (q := 22) rfl ?_
    refine g_top (b := 0) rfl ?_
    refine g_if_ne C dX5_isTangled_22 (by omega) (q2 := 49) rfl (q := 25) rfl (fun hb2 => ?_) (fun hb2 => ?_)
    · skip
      exfalso; omega
    · skip
      refine g_aload_n C dX5_isTangled_25 0 rfl rfl (q := 26) rfl ?_
      refine g_iload_n C dX5_isTangled_26 1 rfl rfl (q := 27) rfl ?_
      refine g_iload_n C dX5_isTangled_27 2 rfl rfl (q := 28) rfl ?_
      refine g_cV_i C (As := [.int (iI r), .int (iI p)]) (c_X5_isTangle l E _ r p f (by show MS f (σ 14); assumption) (by omega) (by omega)) ml_X5_143 mf_X5_isTangle (o := 13) (ci := 5) rfl rfl rfl rfl ⟨(Nat.le_of_ble_eq_true rfl), (Nat.le_of_ble_eq_true rfl)⟩ rfl rfl rfl (Nat.le_of_ble_eq_true rfl) ⟨(Nat.le_of_ble_eq_true rfl), (Nat.le_of_ble_eq_true rfl)⟩ dX5_isTangled_28 (q := 31) rfl ?_
      refine g_if_ne C dX5_isTangled_31 (by omega) (q2 := 45) rfl (q := 34) rfl (fun hb3 => ?_) (fun hb3 => ?_)
      · skip
        refine g_iconst C dX5_isTangled_45 (q := 46) rfl ?_
        refine g_goto C dX5_isTangled_46 (q := 50) rfl ?_
        exact hret _ _ _ dX5_isTangled_50 (by omega) (by unfold iT; first | rw [if_pos (by omega)] | rw [if_neg (by omega)])
      · skip
        refine g_aload_n C dX5_isTangled_34 0 rfl rfl (q := 35) rfl ?_
        refine g_iload_n C dX5_isTangled_35 1 rfl rfl (q := 36) rfl ?_
        refine g_iload_n C dX5_isTangled_36 2 rfl rfl (q := 37) rfl ?_
        refine g_iconst C dX5_isTangled_37 (q := 38) rfl ?_
        refine g_isub C dX5_isTangled_38 (q := 39) rfl ?_
        refine g_cV_i C (As := [.int (iI r), .int (iI (p - 1))]) (c_X5_isTangle l E _ r (p - 1) f (by show MS f (σ 14); assumption) (by omega) (by omega)) ml_X5_143 mf_X5_isTangle (o := 13) (ci := 5) rfl rfl rfl rfl ⟨(Nat.le_of_ble_eq_true rfl), (Nat.le_of_ble_eq_true rfl)⟩ rfl rfl rfl (Nat.le_of_ble_eq_true rfl) ⟨(Nat.le_of_ble_eq_true rfl), (Nat.le_of_ble_eq_true rfl)⟩ dX5_isTangled_39 (q := 42) rfl ?_
        refine g_if_eq C dX5_isTangled_42 (by omega) (q2 := 49) rfl (q := 45) rfl (fun hb4 => ?_) (fun hb4 => ?_)
        · skip
          refine g_iconst C dX5_isTangled_49 (q := 50) rfl ?_
          exact hret _ _ _ dX5_isTangled_50 (by omega) (by unfold iT; first | rw [if_pos (by omega)] | rw [if_neg (by omega)])
        · skip
          refine g_iconst C dX5_isTangled_45 (q := 46) rfl ?_
          refine g_goto C dX5_isTangled_46 (q := 50) rfl ?_
          exact hret _ _ _ dX5_isTangled_50 (by omega) (by unfold iT; first | rw [if_pos (by omega)] | rw [if_neg (by omega)])
set_option maxRecDepth 100000 in
set_option maxHeartbeats 4000000 in
theorem c_X5_isTangled_11 (l : Launch) (E : EV) (σ : SS) (r p : Int) (f : Int → Int) (hM : MS f (σ 14)) (hr_r : -2147483648 ≤ r ∧ r ≤ 2147483647) (hr_p : -2147483648 ≤ p ∧ p ≤ 2147483647) (hF1 : fP f r p = 1) : Ki l yX5_isTangled (cw yX5_isTangled cX5_isTangled 3 (some .boolean)) rm_X5_isTangled E [.ref (ea E 13), .int (iI r), .int (iI p)] σ 0 (st σ 13 (pt (σ 13) 0 1)) := by
  refine Kz_of (rm := rm_X5_isTangled) (mL := 3) (b := cX5_isTangled) RX5 rfl (by decide +kernel) rfl rfl [(0, .ref (ea E 13)), (1, .int (iI r)), (2, .int (iI p))] rfl (Nat.le_of_ble_eq_true rfl) (fun p_ e_ s_ m_ a_ b_ h_ c_ Q A C hret => ?_)
  have hB := bP_iff f r p
  have hB1 := bP_01 f r p
  have hcs := fP_cs f r p
  refine g_aload_n C dX5_isTangled_0 0 rfl rfl (q := 1) rfl ?_
  refine g_aload_n C dX5_isTangled_1 0 rfl rfl (q := 2) rfl ?_
  refine g_iload_n C dX5_isTangled_2 1 rfl rfl (q := 3) rfl ?_
  refine g_iload_n C dX5_isTangled_3 2 rfl rfl (q := 4) rfl ?_
  refine g_cV_i C (As := [.int (iI r), .int (iI p)]) (c_X5_isSegment l E _ r p f (by assumption) (by omega) (by omega)) ml_X5_90 mf_X5_isSegment (o := 13) (ci := 5) rfl rfl rfl rfl ⟨(Nat.le_of_ble_eq_true rfl), (Nat.le_of_ble_eq_true rfl)⟩ rfl rfl rfl (Nat.le_of_ble_eq_true rfl) ⟨(Nat.le_of_ble_eq_true rfl), (Nat.le_of_ble_eq_true rfl)⟩ dX5_isTangled_4 (q := 7) rfl ?_
  refine g_if_eq C dX5_isTangled_7 (by omega) (q2 := 14) rfl (q := 10) rfl (fun hb1 => ?_) (fun hb1 => ?_)
  · skip
    refine g_iconst C dX5_isTangled_14 (q := 15) rfl ?_
    refine gp_X5_38 C dX5_isTangled_15 (q := 18) rfl ?_
    refine g_aload_n C dX5_isTangled_18 0 rfl rfl (q := 19) rfl ?_
    refine gf_X5_38 C dX5_isTangled_19 (q := 22) rfl ?_
    refine g_top (b := 1) rfl ?_
    refine g_if_ne C dX5_isTangled_22 (by omega) (q2 := 49) rfl (q := 25) rfl (fun hb2 => ?_) (fun hb2 => ?_)
    · skip
      refine g_iconst C dX5_isTangled_49 (q := 50) rfl ?_
      exact hret _ _ _ dX5_isTangled_50 (by omega) rfl
    · skip
      exfalso; omega
  · skip
    exfalso; omega
abbrev rm_X5_longestRun : Room := { frames := 2, cells := 0, slots := 0, locals := 45 }
set_option maxRecDepth 100000 in
set_option maxHeartbeats 4000000 in
theorem c_X5_longestRun (l : Launch) (E : EV) (σ : SS) (r : Int) (f : Int → Int) (hM : MS f (σ 14)) (hr_r : -2147483648 ≤ r ∧ r ≤ 2147483647) (hF1 : fR r = 0) : Ki l yX5_longestRun (cw yX5_longestRun cX5_longestRun 5 (some .int)) rm_X5_longestRun E [.ref (ea E 13), .int (iI r)] σ (lrI (tg f r) 0 0 0 (f (240 + r))) (st σ 13 (pt (σ 13) 0 0)) := by
  refine Ki_of (rm := rm_X5_longestRun) (mL := 5) (b := cX5_longestRun) RX5 rfl (by decide +kernel) rfl rfl [(0, .ref (ea E 13)), (1, .int (iI r))] rfl (Nat.le_of_ble_eq_true rfl) (fun p_ e_ s_ m_ a_ b_ h_ c_ Q A C hret => ?_)
  have hB := bR_iff r
  have hB1 := bR_01 r
  have hG1 := fR_0 hF1
  have hm_r := (hM.2.1 r (by omega)).1
  have hn_r := (hM.1 r (by omega)).1
  refine g_aload_n C dX5_longestRun_0 0 rfl rfl (q := 1) rfl ?_
  refine g_iload_n C dX5_longestRun_1 1 rfl rfl (q := 2) rfl ?_
  refine g_cS_i C (As := [.int (iI r)]) (c_X5_isReel l E _ r  (by omega)) ml_X5_58 mf_X5_isReel rfl rfl ⟨(Nat.le_of_ble_eq_true rfl), (Nat.le_of_ble_eq_true rfl)⟩ rfl rfl rfl (Nat.le_of_ble_eq_true rfl) ⟨(Nat.le_of_ble_eq_true rfl), (Nat.le_of_ble_eq_true rfl)⟩ dX5_longestRun_2 (q := 5) rfl ?_
  refine g_if_eq C dX5_longestRun_5 (by omega) (q2 := 12) rfl (q := 8) rfl (fun hb1 => ?_) (fun hb1 => ?_)
  · skip
    exfalso; omega
  · skip
    refine g_iconst C dX5_longestRun_8 (q := 9) rfl ?_
    refine g_goto C dX5_longestRun_9 (q := 13) rfl ?_
    refine gp_X5_38 C dX5_longestRun_13 (q := 16) rfl ?_
    refine g_iconst C dX5_longestRun_16 (q := 17) rfl ?_
    refine g_istore_n C (L' := [(2, .int (iI 0)), (0, .ref (ea E 13)), (1, .int (iI r))]) dX5_longestRun_17 rfl (by decide) rfl (q := 18) rfl ?_
    refine g_iconst C dX5_longestRun_18 (q := 19) rfl ?_
    refine g_istore_n C (L' := [(3, .int (iI 0)), (2, .int (iI 0)), (0, .ref (ea E 13)), (1, .int (iI r))]) dX5_longestRun_19 rfl (by decide) rfl (q := 20) rfl ?_
    refine g_iconst C dX5_longestRun_20 (q := 21) rfl ?_
    refine g_istore C (L' := [(4, .int (iI 0)), (3, .int (iI 0)), (2, .int (iI 0)), (0, .ref (ea E 13)), (1, .int (iI r))]) dX5_longestRun_21 (by decide) rfl (q := 23) rfl ?_
    refine g_sub [3, 4, 2, 1, 0] (L' := [(0, .ref (ea E 13)), (1, .int (iI r)), (2, .int (iI 0)), (3, .int (iI 0)), (4, .int (iI 0))]) rfl ?_
    have lp23 : ∀ (k9 : Nat) (x : Int) (y : Int) (i : Int), (f (240 + r) - i).toNat < k9 → (0 ≤ i ∧ i ≤ f (240 + r)) → (0 ≤ x ∧ x ≤ i ∧ 0 ≤ y ∧ y ≤ i) → (lrI (tg f r) 0 0 0 (f (240 + r)) = lrI (tg f r) x y i (f (240 + r))) → GG p_ l e_ rm_X5_longestRun s_ m_ a_ b_ h_ c_ Q E A 5 (st σ 13 (pt (σ 13) 0 0)) 0 0 23 [(0, .ref (ea E 13)), (1, .int (iI r)), (2, .int (iI x)), (3, .int (iI y)), (4, .int (iI i))] [] := by
      intro k9
      induction k9 with
      | zero => intro x y i hk9; omega
      | succ k9 ih23 =>
        intro x y i hk9 hi hx hR
        refine g_aload_n C dX5_longestRun_23 0 rfl rfl (q := 24) rfl ?_
        refine gf_X5_38 C dX5_longestRun_24 (q := 27) rfl ?_
        refine g_top (b := 0) rfl ?_
        refine g_if_ne C dX5_longestRun_27 (by omega) (q2 := 82) rfl (q := 30) rfl (fun hb2 => ?_) (fun hb2 => ?_)
        · skip
          exfalso; omega
        · skip
          refine g_iload C dX5_longestRun_30 4 rfl (q := 32) rfl ?_
          refine g_aload_n C dX5_longestRun_32 0 rfl rfl (q := 33) rfl ?_
          refine g_iload_n C dX5_longestRun_33 1 rfl rfl (q := 34) rfl ?_
          refine g_cV_i C (As := [.int (iI r)]) (c_X5_many l E _ r  (by omega)) ml_X5_62 mf_X5_many (o := 13) (ci := 5) rfl rfl rfl rfl ⟨(Nat.le_of_ble_eq_true rfl), (Nat.le_of_ble_eq_true rfl)⟩ rfl rfl rfl (Nat.le_of_ble_eq_true rfl) ⟨(Nat.le_of_ble_eq_true rfl), (Nat.le_of_ble_eq_true rfl)⟩ dX5_longestRun_34 (q := 37) rfl ?_
          refine g_top (b := (σ 14) (2 + 121 * r)) rfl ?_
          refine g_icmp_ge C dX5_longestRun_37 (by omega) (q2 := 82) rfl (q := 40) rfl (fun hb3 => ?_) (fun hb3 => ?_)
          · skip
            refine g_iload_n C dX5_longestRun_82 2 rfl rfl (q := 83) rfl ?_
            exact hret _ _ _ dX5_longestRun_83 (by rw [hR, lrI_nil (by omega)])
          · skip
            have ht := tg_01 f r (i - 1)
            have htm : i ≤ 0 → tg f r (i - 1) = 0 := fun h9 => tg_m1 f r (by omega)
            refine g_iload C dX5_longestRun_40 4 rfl (q := 42) rfl ?_
            refine g_if_le C dX5_longestRun_42 (by omega) (q2 := 63) rfl (q := 45) rfl (fun hb4 => ?_) (fun hb4 => ?_)
            · skip
              refine g_iconst C dX5_longestRun_63 (q := 64) rfl ?_
              refine g_istore_n C (L' := [(3, .int (iI 1)), (0, .ref (ea E 13)), (1, .int (iI r)), (2, .int (iI x)), (4, .int (iI i))]) dX5_longestRun_64 rfl (by decide) rfl (q := 65) rfl ?_
              refine g_iload_n C dX5_longestRun_65 0 rfl rfl (q := 66) rfl ?_
              refine g_iload_n C dX5_longestRun_66 3 rfl rfl (q := 67) rfl ?_
              refine g_icmp_le C dX5_longestRun_67 (by omega) (q2 := 74) rfl (q := 70) rfl (fun hb5 => ?_) (fun hb5 => ?_)
              · skip
                refine g_iload_n C dX5_longestRun_74 3 rfl rfl (q := 75) rfl ?_
                refine g_istore_n C (L' := [(2, .int (iI x)), (3, .int (iI 1)), (0, .ref (ea E 13)), (1, .int (iI r)), (4, .int (iI i))]) dX5_longestRun_75 rfl (by decide) rfl (q := 76) rfl ?_
                refine g_iinc C (L' := [(4, .int (iI (i + 1))), (2, .int (iI x)), (3, .int (iI 1)), (0, .ref (ea E 13)), (1, .int (iI r))]) dX5_longestRun_76 4 rfl (by decide) rfl (q := 79) rfl ?_
                refine g_goto C dX5_longestRun_79 (q := 23) rfl ?_
                refine g_sub [3, 4, 1, 2, 0] (L' := [(0, .ref (ea E 13)), (1, .int (iI r)), (2, .int (iI x)), (3, .int (iI 1)), (4, .int (iI (i + 1)))]) rfl ?_
                exact ih23 x 1 (i + 1) (by omega) (by omega) (by omega) (by first | (rw [hR, lrI_0 (by omega) (by omega), show max x 1 = x by omega]; done) | (rw [hR, lrI_0 (by omega) (by omega), show max x 1 = 1 by omega]; done) | (rw [hR, lrI_1 (by omega) (by omega), show max x (y + 1) = x by omega]; done) | (rw [hR, lrI_1 (by omega) (by omega), show max x (y + 1) = y + 1 by omega]; done))
              · skip
                refine g_iload_n C dX5_longestRun_70 0 rfl rfl (q := 71) rfl ?_
                refine g_goto C dX5_longestRun_71 (q := 75) rfl ?_
                refine g_istore_n C (L' := [(2, .int (iI 1)), (3, .int (iI 1)), (0, .ref (ea E 13)), (1, .int (iI r)), (4, .int (iI i))]) dX5_longestRun_75 rfl (by decide) rfl (q := 76) rfl ?_
                refine g_iinc C (L' := [(4, .int (iI (i + 1))), (2, .int (iI 1)), (3, .int (iI 1)), (0, .ref (ea E 13)), (1, .int (iI r))]) dX5_longestRun_76 4 rfl (by decide) rfl (q := 79) rfl ?_
                refine g_goto C dX5_longestRun_79 (q := 23) rfl ?_
                refine g_sub [3, 4, 1, 2, 0] (L' := [(0, .ref (ea E 13)), (1, .int (iI r)), (2, .int (iI 1)), (3, .int (iI 1)), (4, .int (iI (i + 1)))]) rfl ?_
                exact ih23 1 1 (i + 1) (by omega) (by omega) (by omega) (by first | (rw [hR, lrI_0 (by omega) (by omega), show max x 1 = x by omega]; done) | (rw [hR, lrI_0 (by omega) (by omega), show max x 1 = 1 by omega]; done) | (rw [hR, lrI_1 (by omega) (by omega), show max x (y + 1) = x by omega]; done) | (rw [hR, lrI_1 (by omega) (by omega), show max x (y + 1) = y + 1 by omega]; done))
            · skip
              refine g_aload_n C dX5_longestRun_45 0 rfl rfl (q := 46) rfl ?_
              refine g_iload_n C dX5_longestRun_46 1 rfl rfl (q := 47) rfl ?_
              refine g_iload C dX5_longestRun_47 4 rfl (q := 49) rfl ?_
              refine g_iconst C dX5_longestRun_49 (q := 50) rfl ?_
              refine g_isub C dX5_longestRun_50 (q := 51) rfl ?_
              refine g_cV_i C (As := [.int (iI r), .int (iI (i - 1))]) (c_X5_isTangle l E _ r (i - 1) f (by show MS f (σ 14); assumption) (by omega) (by omega)) ml_X5_143 mf_X5_isTangle (o := 13) (ci := 5) rfl rfl rfl rfl ⟨(Nat.le_of_ble_eq_true rfl), (Nat.le_of_ble_eq_true rfl)⟩ rfl rfl rfl (Nat.le_of_ble_eq_true rfl) ⟨(Nat.le_of_ble_eq_true rfl), (Nat.le_of_ble_eq_true rfl)⟩ dX5_longestRun_51 (q := 54) rfl ?_
              refine g_if_eq C dX5_longestRun_54 (by omega) (q2 := 63) rfl (q := 57) rfl (fun hb6 => ?_) (fun hb6 => ?_)
              · skip
                refine g_iconst C dX5_longestRun_63 (q := 64) rfl ?_
                refine g_istore_n C (L' := [(3, .int (iI 1)), (0, .ref (ea E 13)), (1, .int (iI r)), (2, .int (iI x)), (4, .int (iI i))]) dX5_longestRun_64 rfl (by decide) rfl (q := 65) rfl ?_
                refine g_iload_n C dX5_longestRun_65 0 rfl rfl (q := 66) rfl ?_
                refine g_iload_n C dX5_longestRun_66 3 rfl rfl (q := 67) rfl ?_
                refine g_icmp_le C dX5_longestRun_67 (by omega) (q2 := 74) rfl (q := 70) rfl (fun hb7 => ?_) (fun hb7 => ?_)
                · skip
                  refine g_iload_n C dX5_longestRun_74 3 rfl rfl (q := 75) rfl ?_
                  refine g_istore_n C (L' := [(2, .int (iI x)), (3, .int (iI 1)), (0, .ref (ea E 13)), (1, .int (iI r)), (4, .int (iI i))]) dX5_longestRun_75 rfl (by decide) rfl (q := 76) rfl ?_
                  refine g_iinc C (L' := [(4, .int (iI (i + 1))), (2, .int (iI x)), (3, .int (iI 1)), (0, .ref (ea E 13)), (1, .int (iI r))]) dX5_longestRun_76 4 rfl (by decide) rfl (q := 79) rfl ?_
                  refine g_goto C dX5_longestRun_79 (q := 23) rfl ?_
                  refine g_sub [3, 4, 1, 2, 0] (L' := [(0, .ref (ea E 13)), (1, .int (iI r)), (2, .int (iI x)), (3, .int (iI 1)), (4, .int (iI (i + 1)))]) rfl ?_
                  exact ih23 x 1 (i + 1) (by omega) (by omega) (by omega) (by first | (rw [hR, lrI_0 (by omega) (by omega), show max x 1 = x by omega]; done) | (rw [hR, lrI_0 (by omega) (by omega), show max x 1 = 1 by omega]; done) | (rw [hR, lrI_1 (by omega) (by omega), show max x (y + 1) = x by omega]; done) | (rw [hR, lrI_1 (by omega) (by omega), show max x (y + 1) = y + 1 by omega]; done))
                · skip
                  refine g_iload_n C dX5_longestRun_70 0 rfl rfl (q := 71) rfl ?_
                  refine g_goto C dX5_longestRun_71 (q := 75) rfl ?_
                  refine g_istore_n C (L' := [(2, .int (iI 1)), (3, .int (iI 1)), (0, .ref (ea E 13)), (1, .int (iI r)), (4, .int (iI i))]) dX5_longestRun_75 rfl (by decide) rfl (q := 76) rfl ?_
                  refine g_iinc C (L' := [(4, .int (iI (i + 1))), (2, .int (iI 1)), (3, .int (iI 1)), (0, .ref (ea E 13)), (1, .int (iI r))]) dX5_longestRun_76 4 rfl (by decide) rfl (q := 79) rfl ?_
                  refine g_goto C dX5_longestRun_79 (q := 23) rfl ?_
                  refine g_sub [3, 4, 1, 2, 0] (L' := [(0, .ref (ea E 13)), (1, .int (iI r)), (2, .int (iI 1)), (3, .int (iI 1)), (4, .int (iI (i + 1)))]) rfl ?_
                  exact ih23 1 1 (i + 1) (by omega) (by omega) (by omega) (by first | (rw [hR, lrI_0 (by omega) (by omega), show max x 1 = x by omega]; done) | (rw [hR, lrI_0 (by omega) (by omega), show max x 1 = 1 by omega]; done) | (rw [hR, lrI_1 (by omega) (by omega), show max x (y + 1) = x by omega]; done) | (rw [hR, lrI_1 (by omega) (by omega), show max x (y + 1) = y + 1 by omega]; done))
              · skip
                refine g_iload_n C dX5_longestRun_57 3 rfl rfl (q := 58) rfl ?_
                refine g_iconst C dX5_longestRun_58 (q := 59) rfl ?_
                refine g_iadd C dX5_longestRun_59 (q := 60) rfl ?_
                refine g_goto C dX5_longestRun_60 (q := 64) rfl ?_
                refine g_istore_n C (L' := [(3, .int (iI (y + 1))), (0, .ref (ea E 13)), (1, .int (iI r)), (2, .int (iI x)), (4, .int (iI i))]) dX5_longestRun_64 rfl (by decide) rfl (q := 65) rfl ?_
                refine g_iload_n C dX5_longestRun_65 0 rfl rfl (q := 66) rfl ?_
                refine g_iload_n C dX5_longestRun_66 3 rfl rfl (q := 67) rfl ?_
                refine g_icmp_le C dX5_longestRun_67 (by omega) (q2 := 74) rfl (q := 70) rfl (fun hb8 => ?_) (fun hb8 => ?_)
                · skip
                  refine g_iload_n C dX5_longestRun_74 3 rfl rfl (q := 75) rfl ?_
                  refine g_istore_n C (L' := [(2, .int (iI x)), (3, .int (iI (y + 1))), (0, .ref (ea E 13)), (1, .int (iI r)), (4, .int (iI i))]) dX5_longestRun_75 rfl (by decide) rfl (q := 76) rfl ?_
                  refine g_iinc C (L' := [(4, .int (iI (i + 1))), (2, .int (iI x)), (3, .int (iI (y + 1))), (0, .ref (ea E 13)), (1, .int (iI r))]) dX5_longestRun_76 4 rfl (by decide) rfl (q := 79) rfl ?_
                  refine g_goto C dX5_longestRun_79 (q := 23) rfl ?_
                  refine g_sub [3, 4, 1, 2, 0] (L' := [(0, .ref (ea E 13)), (1, .int (iI r)), (2, .int (iI x)), (3, .int (iI (y + 1))), (4, .int (iI (i + 1)))]) rfl ?_
                  exact ih23 x (y + 1) (i + 1) (by omega) (by omega) (by omega) (by first | (rw [hR, lrI_0 (by omega) (by omega), show max x 1 = x by omega]; done) | (rw [hR, lrI_0 (by omega) (by omega), show max x 1 = 1 by omega]; done) | (rw [hR, lrI_1 (by omega) (by omega), show max x (y + 1) = x by omega]; done) | (rw [hR, lrI_1 (by omega) (by omega), show max x (y + 1) = y + 1 by omega]; done))
                · skip
                  refine g_iload_n C dX5_longestRun_70 0 rfl rfl (q := 71) rfl ?_
                  refine g_goto C dX5_longestRun_71 (q := 75) rfl ?_
                  refine g_istore_n C (L' := [(2, .int (iI (y + 1))), (3, .int (iI (y + 1))), (0, .ref (ea E 13)), (1, .int (iI r)), (4, .int (iI i))]) dX5_longestRun_75 rfl (by decide) rfl (q := 76) rfl ?_
                  refine g_iinc C (L' := [(4, .int (iI (i + 1))), (2, .int (iI (y + 1))), (3, .int (iI (y + 1))), (0, .ref (ea E 13)), (1, .int (iI r))]) dX5_longestRun_76 4 rfl (by decide) rfl (q := 79) rfl ?_
                  refine g_goto C dX5_longestRun_79 (q := 23) rfl ?_
                  refine g_sub [3, 4, 1, 2, 0] (L' := [(0, .ref (ea E 13)), (1, .int (iI r)), (2, .int (iI (y + 1))), (3, .int (iI (y + 1))), (4, .int (iI (i + 1)))]) rfl ?_
                  exact ih23 (y + 1) (y + 1) (i + 1) (by omega) (by omega) (by omega) (by first | (rw [hR, lrI_0 (by omega) (by omega), show max x 1 = x by omega]; done) | (rw [hR, lrI_0 (by omega) (by omega), show max x 1 = 1 by omega]; done) | (rw [hR, lrI_1 (by omega) (by omega), show max x (y + 1) = x by omega]; done) | (rw [hR, lrI_1 (by omega) (by omega), show max x (y + 1) = y + 1 by omega]; done))
    exact lp23 _ 0 0 0 (Nat.lt_succ_self _) (by omega) (by omega) (by rfl)
set_option maxRecDepth 100000 in
set_option maxHeartbeats 4000000 in
theorem c_X5_longestRun_11 (l : Launch) (E : EV) (σ : SS) (r : Int) (f : Int → Int) (hM : MS f (σ 14)) (hr_r : -2147483648 ≤ r ∧ r ≤ 2147483647) (hF1 : fR r = 1) : Ki l yX5_longestRun (cw yX5_longestRun cX5_longestRun 5 (some .int)) rm_X5_longestRun E [.ref (ea E 13), .int (iI r)] σ 0 (st σ 13 (pt (σ 13) 0 1)) := by
  refine Ki_of (rm := rm_X5_longestRun) (mL := 5) (b := cX5_longestRun) RX5 rfl (by decide +kernel) rfl rfl [(0, .ref (ea E 13)), (1, .int (iI r))] rfl (Nat.le_of_ble_eq_true rfl) (fun p_ e_ s_ m_ a_ b_ h_ c_ Q A C hret => ?_)
  have hB := bR_iff r
  have hB1 := bR_01 r
  have hnr : ¬ (0 ≤ r ∧ r < 4) := by intro h9; unfold fR at hF1; rw [if_pos h9] at hF1; omega
  refine g_aload_n C dX5_longestRun_0 0 rfl rfl (q := 1) rfl ?_
  refine g_iload_n C dX5_longestRun_1 1 rfl rfl (q := 2) rfl ?_
  refine g_cS_i C (As := [.int (iI r)]) (c_X5_isReel l E _ r  (by omega)) ml_X5_58 mf_X5_isReel rfl rfl ⟨(Nat.le_of_ble_eq_true rfl), (Nat.le_of_ble_eq_true rfl)⟩ rfl rfl rfl (Nat.le_of_ble_eq_true rfl) ⟨(Nat.le_of_ble_eq_true rfl), (Nat.le_of_ble_eq_true rfl)⟩ dX5_longestRun_2 (q := 5) rfl ?_
  refine g_if_eq C dX5_longestRun_5 (by omega) (q2 := 12) rfl (q := 8) rfl (fun hb1 => ?_) (fun hb1 => ?_)
  · skip
    refine g_iconst C dX5_longestRun_12 (q := 13) rfl ?_
    refine gp_X5_38 C dX5_longestRun_13 (q := 16) rfl ?_
    refine g_iconst C dX5_longestRun_16 (q := 17) rfl ?_
    refine g_istore_n C (L' := [(2, .int (iI 0)), (0, .ref (ea E 13)), (1, .int (iI r))]) dX5_longestRun_17 rfl (by decide) rfl (q := 18) rfl ?_
    refine g_iconst C dX5_longestRun_18 (q := 19) rfl ?_
    refine g_istore_n C (L' := [(3, .int (iI 0)), (2, .int (iI 0)), (0, .ref (ea E 13)), (1, .int (iI r))]) dX5_longestRun_19 rfl (by decide) rfl (q := 20) rfl ?_
    refine g_iconst C dX5_longestRun_20 (q := 21) rfl ?_
    refine g_istore C (L' := [(4, .int (iI 0)), (3, .int (iI 0)), (2, .int (iI 0)), (0, .ref (ea E 13)), (1, .int (iI r))]) dX5_longestRun_21 (by decide) rfl (q := 23) rfl ?_
    refine g_aload_n C dX5_longestRun_23 3 rfl rfl (q := 24) rfl ?_
    refine gf_X5_38 C dX5_longestRun_24 (q := 27) rfl ?_
    refine g_top (b := 1) rfl ?_
    refine g_if_ne C dX5_longestRun_27 (by omega) (q2 := 82) rfl (q := 30) rfl (fun hb2 => ?_) (fun hb2 => ?_)
    · skip
      refine g_iload_n C dX5_longestRun_82 2 rfl rfl (q := 83) rfl ?_
      exact hret _ _ _ dX5_longestRun_83 rfl
    · skip
      exfalso; omega
  · skip
    exfalso; omega
abbrev rm_X5_nextOfColour : Room := { frames := 3, cells := 0, slots := 0, locals := 64 }
set_option maxRecDepth 100000 in
set_option maxHeartbeats 4000000 in
theorem c_X5_nextOfColour (l : Launch) (E : EV) (σ : SS) (r p c : Int) (f : Int → Int) (hM : MS f (σ 14)) (hr_r : -2147483648 ≤ r ∧ r ≤ 2147483647) (hr_p : -2147483648 ≤ p ∧ p ≤ 2147483647) (hr_c : -2147483648 ≤ c ∧ c ≤ 2147483647) (hF1 : fP f r p = 0) (hF2 : fC c = 0) (hne : fI (coP f r c) p (f (240 + r)) ≠ -1) : Ki l yX5_nextOfColour (cw yX5_nextOfColour cX5_nextOfColour 5 (some .int)) rm_X5_nextOfColour E [.ref (ea E 13), .int (iI r), .int (iI p), .int (iI c)] σ (fI (coP f r c) p (f (240 + r))) (st σ 13 (pt (σ 13) 0 0)) := by
  refine Ki_of (rm := rm_X5_nextOfColour) (mL := 5) (b := cX5_nextOfColour) RX5 rfl (by decide +kernel) rfl rfl [(0, .ref (ea E 13)), (1, .int (iI r)), (2, .int (iI p)), (3, .int (iI c))] rfl (Nat.le_of_ble_eq_true rfl) (fun p_ e_ s_ m_ a_ b_ h_ c_ Q A C hret => ?_)
  have hB := bP_iff f r p
  have hB1 := bP_01 f r p
  have hcs := fP_cs f r p
  have hD := bC_iff c
  have hD1 := bC_01 c
  have hGc := fC_0 hF2
  have hm_r := (hM.2.1 r (by omega)).1
  have hn_r := (hM.1 r (by omega)).1
  refine g_aload_n C dX5_nextOfColour_0 0 rfl rfl (q := 1) rfl ?_
  refine g_aload_n C dX5_nextOfColour_1 0 rfl rfl (q := 2) rfl ?_
  refine g_iload_n C dX5_nextOfColour_2 1 rfl rfl (q := 3) rfl ?_
  refine g_iload_n C dX5_nextOfColour_3 2 rfl rfl (q := 4) rfl ?_
  refine g_cV_i C (As := [.int (iI r), .int (iI p)]) (c_X5_isSegment l E _ r p f (by assumption) (by omega) (by omega)) ml_X5_90 mf_X5_isSegment (o := 13) (ci := 5) rfl rfl rfl rfl ⟨(Nat.le_of_ble_eq_true rfl), (Nat.le_of_ble_eq_true rfl)⟩ rfl rfl rfl (Nat.le_of_ble_eq_true rfl) ⟨(Nat.le_of_ble_eq_true rfl), (Nat.le_of_ble_eq_true rfl)⟩ dX5_nextOfColour_4 (q := 7) rfl ?_
  refine g_if_ne C dX5_nextOfColour_7 (by omega) (q2 := 14) rfl (q := 10) rfl (fun hb1 => ?_) (fun hb1 => ?_)
  · skip
    refine g_iload_n C dX5_nextOfColour_14 3 rfl rfl (q := 15) rfl ?_
    refine g_cS_i C (As := [.int (iI c)]) (c_X5_isColour l E _ c  (by omega)) ml_X5_72 mf_X5_isColour rfl rfl ⟨(Nat.le_of_ble_eq_true rfl), (Nat.le_of_ble_eq_true rfl)⟩ rfl rfl rfl (Nat.le_of_ble_eq_true rfl) ⟨(Nat.le_of_ble_eq_true rfl), (Nat.le_of_ble_eq_true rfl)⟩ dX5_nextOfColour_15 (q := 18) rfl ?_
    refine g_if_eq C dX5_nextOfColour_18 (by omega) (q2 := 25) rfl (q := 21) rfl (fun hb2 => ?_) (fun hb2 => ?_)
    · skip
      exfalso; omega
    · skip
      refine g_iconst C dX5_nextOfColour_21 (q := 22) rfl ?_
      refine g_goto C dX5_nextOfColour_22 (q := 26) rfl ?_
      refine gp_X5_38 C dX5_nextOfColour_26 (q := 29) rfl ?_
      refine g_iload_n C dX5_nextOfColour_29 2 rfl rfl (q := 30) rfl ?_
      refine g_istore C (L' := [(4, .int (iI p)), (0, .ref (ea E 13)), (1, .int (iI r)), (2, .int (iI p)), (3, .int (iI c))]) dX5_nextOfColour_30 (by decide) rfl (q := 32) rfl ?_
      refine g_sub [1, 2, 3, 4, 0] (L' := [(0, .ref (ea E 13)), (1, .int (iI r)), (2, .int (iI p)), (3, .int (iI c)), (4, .int (iI p))]) rfl ?_
      have lp32 : ∀ (k9 : Nat) (i : Int), (f (240 + r) - i).toNat < k9 → (0 ≤ i ∧ i ≤ f (240 + r)) → (fI (coP f r c) p (f (240 + r)) = fI (coP f r c) i (f (240 + r))) → GG p_ l e_ rm_X5_nextOfColour s_ m_ a_ b_ h_ c_ Q E A 5 (st σ 13 (pt (σ 13) 0 0)) 0 0 32 [(0, .ref (ea E 13)), (1, .int (iI r)), (2, .int (iI p)), (3, .int (iI c)), (4, .int (iI i))] [] := by
        intro k9
        induction k9 with
        | zero => intro i hk9; omega
        | succ k9 ih32 =>
          intro i hk9 hi hR
          refine g_aload_n C dX5_nextOfColour_32 0 rfl rfl (q := 33) rfl ?_
          refine gf_X5_38 C dX5_nextOfColour_33 (q := 36) rfl ?_
          refine g_top (b := 0) rfl ?_
          refine g_if_ne C dX5_nextOfColour_36 (by omega) (q2 := 70) rfl (q := 39) rfl (fun hb3 => ?_) (fun hb3 => ?_)
          · skip
            exfalso; omega
          · skip
            refine g_iload C dX5_nextOfColour_39 4 rfl (q := 41) rfl ?_
            refine g_aload_n C dX5_nextOfColour_41 0 rfl rfl (q := 42) rfl ?_
            refine g_iload_n C dX5_nextOfColour_42 1 rfl rfl (q := 43) rfl ?_
            refine g_cV_i C (As := [.int (iI r)]) (c_X5_many l E _ r  (by omega)) ml_X5_62 mf_X5_many (o := 13) (ci := 5) rfl rfl rfl rfl ⟨(Nat.le_of_ble_eq_true rfl), (Nat.le_of_ble_eq_true rfl)⟩ rfl rfl rfl (Nat.le_of_ble_eq_true rfl) ⟨(Nat.le_of_ble_eq_true rfl), (Nat.le_of_ble_eq_true rfl)⟩ dX5_nextOfColour_43 (q := 46) rfl ?_
            refine g_top (b := (σ 14) (2 + 121 * r)) rfl ?_
            refine g_icmp_ge C dX5_nextOfColour_46 (by omega) (q2 := 70) rfl (q := 49) rfl (fun hb4 => ?_) (fun hb4 => ?_)
            · skip
              exfalso; rw [hR, fI_nil (by omega)] at hne; omega
            · skip
              have hs := (hM.2.1 r (by omega)).2 i (by omega)
              have hw := (hM.1 r (by omega)).2 i (by omega)
              refine g_aload_n C dX5_nextOfColour_49 0 rfl rfl (q := 50) rfl ?_
              refine g_iload_n C dX5_nextOfColour_50 1 rfl rfl (q := 51) rfl ?_
              refine g_iload C dX5_nextOfColour_51 4 rfl (q := 53) rfl ?_
              refine g_iconst C dX5_nextOfColour_53 (q := 54) rfl ?_
              refine g_cV_i C (As := [.int (iI r), .int (iI i), .int (iI 1)]) (c_X5_at_1 l E _ r i  (by omega) (by omega)) ml_X5_75 mf_X5_at (o := 13) (ci := 5) rfl rfl rfl rfl ⟨(Nat.le_of_ble_eq_true rfl), (Nat.le_of_ble_eq_true rfl)⟩ rfl rfl rfl (Nat.le_of_ble_eq_true rfl) ⟨(Nat.le_of_ble_eq_true rfl), (Nat.le_of_ble_eq_true rfl)⟩ dX5_nextOfColour_54 (q := 57) rfl ?_
              refine g_top (b := (σ 14) (4 + 121 * r + 2 * i)) rfl ?_
              refine g_iload_n C dX5_nextOfColour_57 3 rfl rfl (q := 58) rfl ?_
              refine g_icmp_ne C dX5_nextOfColour_58 (by omega) (q2 := 64) rfl (q := 61) rfl (fun hb5 => ?_) (fun hb5 => ?_)
              · skip
                refine g_iinc C (L' := [(4, .int (iI (i + 1))), (0, .ref (ea E 13)), (1, .int (iI r)), (2, .int (iI p)), (3, .int (iI c))]) dX5_nextOfColour_64 4 rfl (by decide) rfl (q := 67) rfl ?_
                refine g_goto C dX5_nextOfColour_67 (q := 32) rfl ?_
                refine g_sub [1, 2, 3, 4, 0] (L' := [(0, .ref (ea E 13)), (1, .int (iI r)), (2, .int (iI p)), (3, .int (iI c)), (4, .int (iI (i + 1)))]) rfl ?_
                exact ih32 (i + 1) (by omega) (by omega) (by rw [hR, fI_no]; unfold coP; simp only [decide_eq_true_eq]; omega)
              · skip
                refine g_iload C dX5_nextOfColour_61 4 rfl (q := 63) rfl ?_
                exact hret _ _ _ dX5_nextOfColour_63 (by rw [hR, fI_yes (by omega)]; unfold coP; simp only [decide_eq_true_eq]; omega)
      exact lp32 _ p (Nat.lt_succ_self _) (by omega) (by rfl)
  · skip
    exfalso; omega
set_option maxRecDepth 100000 in
set_option maxHeartbeats 4000000 in
theorem c_X5_nextOfColour_n (l : Launch) (E : EV) (σ : SS) (r p c : Int) (f : Int → Int) (hM : MS f (σ 14)) (hr_r : -2147483648 ≤ r ∧ r ≤ 2147483647) (hr_p : -2147483648 ≤ p ∧ p ≤ 2147483647) (hr_c : -2147483648 ≤ c ∧ c ≤ 2147483647) (hF1 : fP f r p = 0) (hF2 : fC c = 0) (hne : fI (coP f r c) p (f (240 + r)) = -1) : Ki l yX5_nextOfColour (cw yX5_nextOfColour cX5_nextOfColour 5 (some .int)) rm_X5_nextOfColour E [.ref (ea E 13), .int (iI r), .int (iI p), .int (iI c)] σ 0 (st σ 13 (pt (σ 13) 0 3)) := by
  refine Ki_of (rm := rm_X5_nextOfColour) (mL := 5) (b := cX5_nextOfColour) RX5 rfl (by decide +kernel) rfl rfl [(0, .ref (ea E 13)), (1, .int (iI r)), (2, .int (iI p)), (3, .int (iI c))] rfl (Nat.le_of_ble_eq_true rfl) (fun p_ e_ s_ m_ a_ b_ h_ c_ Q A C hret => ?_)
  have hB := bP_iff f r p
  have hB1 := bP_01 f r p
  have hcs := fP_cs f r p
  have hD := bC_iff c
  have hD1 := bC_01 c
  have hGc := fC_0 hF2
  have hm_r := (hM.2.1 r (by omega)).1
  have hn_r := (hM.1 r (by omega)).1
  refine g_aload_n C dX5_nextOfColour_0 0 rfl rfl (q := 1) rfl ?_
  refine g_aload_n C dX5_nextOfColour_1 0 rfl rfl (q := 2) rfl ?_
  refine g_iload_n C dX5_nextOfColour_2 1 rfl rfl (q := 3) rfl ?_
  refine g_iload_n C dX5_nextOfColour_3 2 rfl rfl (q := 4) rfl ?_
  refine g_cV_i C (As := [.int (iI r), .int (iI p)]) (c_X5_isSegment l E _ r p f (by assumption) (by omega) (by omega)) ml_X5_90 mf_X5_isSegment (o := 13) (ci := 5) rfl rfl rfl rfl ⟨(Nat.le_of_ble_eq_true rfl), (Nat.le_of_ble_eq_true rfl)⟩ rfl rfl rfl (Nat.le_of_ble_eq_true rfl) ⟨(Nat.le_of_ble_eq_true rfl), (Nat.le_of_ble_eq_true rfl)⟩ dX5_nextOfColour_4 (q := 7) rfl ?_
  refine g_if_ne C dX5_nextOfColour_7 (by omega) (q2 := 14) rfl (q := 10) rfl (fun hb1 => ?_) (fun hb1 => ?_)
  · skip
    refine g_iload_n C dX5_nextOfColour_14 3 rfl rfl (q := 15) rfl ?_
    refine g_cS_i C (As := [.int (iI c)]) (c_X5_isColour l E _ c  (by omega)) ml_X5_72 mf_X5_isColour rfl rfl ⟨(Nat.le_of_ble_eq_true rfl), (Nat.le_of_ble_eq_true rfl)⟩ rfl rfl rfl (Nat.le_of_ble_eq_true rfl) ⟨(Nat.le_of_ble_eq_true rfl), (Nat.le_of_ble_eq_true rfl)⟩ dX5_nextOfColour_15 (q := 18) rfl ?_
    refine g_if_eq C dX5_nextOfColour_18 (by omega) (q2 := 25) rfl (q := 21) rfl (fun hb2 => ?_) (fun hb2 => ?_)
    · skip
      exfalso; omega
    · skip
      refine g_iconst C dX5_nextOfColour_21 (q := 22) rfl ?_
      refine g_goto C dX5_nextOfColour_22 (q := 26) rfl ?_
      refine gp_X5_38 C dX5_nextOfColour_26 (q := 29) rfl ?_
      refine g_iload_n C dX5_nextOfColour_29 2 rfl rfl (q := 30) rfl ?_
      refine g_istore C (L' := [(4, .int (iI p)), (0, .ref (ea E 13)), (1, .int (iI r)), (2, .int (iI p)), (3, .int (iI c))]) dX5_nextOfColour_30 (by decide) rfl (q := 32) rfl ?_
      refine g_sub [1, 2, 3, 4, 0] (L' := [(0, .ref (ea E 13)), (1, .int (iI r)), (2, .int (iI p)), (3, .int (iI c)), (4, .int (iI p))]) rfl ?_
      have lp32 : ∀ (k9 : Nat) (i : Int), (f (240 + r) - i).toNat < k9 → (0 ≤ i ∧ i ≤ f (240 + r)) → (fI (coP f r c) p (f (240 + r)) = fI (coP f r c) i (f (240 + r))) → GG p_ l e_ rm_X5_nextOfColour s_ m_ a_ b_ h_ c_ Q E A 5 (st σ 13 (pt (σ 13) 0 0)) 0 0 32 [(0, .ref (ea E 13)), (1, .int (iI r)), (2, .int (iI p)), (3, .int (iI c)), (4, .int (iI i))] [] := by
        intro k9
        induction k9 with
        | zero => intro i hk9; omega
        | succ k9 ih32 =>
          intro i hk9 hi hR
          refine g_aload_n C dX5_nextOfColour_32 0 rfl rfl (q := 33) rfl ?_
          refine gf_X5_38 C dX5_nextOfColour_33 (q := 36) rfl ?_
          refine g_top (b := 0) rfl ?_
          refine g_if_ne C dX5_nextOfColour_36 (by omega) (q2 := 70) rfl (q := 39) rfl (fun hb3 => ?_) (fun hb3 => ?_)
          · skip
            exfalso; omega
          · skip
            refine g_iload C dX5_nextOfColour_39 4 rfl (q := 41) rfl ?_
            refine g_aload_n C dX5_nextOfColour_41 0 rfl rfl (q := 42) rfl ?_
            refine g_iload_n C dX5_nextOfColour_42 1 rfl rfl (q := 43) rfl ?_
            refine g_cV_i C (As := [.int (iI r)]) (c_X5_many l E _ r  (by omega)) ml_X5_62 mf_X5_many (o := 13) (ci := 5) rfl rfl rfl rfl ⟨(Nat.le_of_ble_eq_true rfl), (Nat.le_of_ble_eq_true rfl)⟩ rfl rfl rfl (Nat.le_of_ble_eq_true rfl) ⟨(Nat.le_of_ble_eq_true rfl), (Nat.le_of_ble_eq_true rfl)⟩ dX5_nextOfColour_43 (q := 46) rfl ?_
            refine g_top (b := (σ 14) (2 + 121 * r)) rfl ?_
            refine g_icmp_ge C dX5_nextOfColour_46 (by omega) (q2 := 70) rfl (q := 49) rfl (fun hb4 => ?_) (fun hb4 => ?_)
            · skip
              refine g_aload_n C dX5_nextOfColour_70 0 rfl rfl (q := 71) rfl ?_
              refine gf_X5_38 C dX5_nextOfColour_71 (q := 74) rfl ?_
              refine g_top (b := 0) rfl ?_
              refine g_if_le C dX5_nextOfColour_74 (by omega) (q2 := 81) rfl (q := 77) rfl (fun hb5 => ?_) (fun hb5 => ?_)
              · skip
                refine g_aload_n C dX5_nextOfColour_81 0 rfl rfl (q := 82) rfl ?_
                refine g_iconst C dX5_nextOfColour_82 (q := 83) rfl ?_
                refine g_cV_i C (As := [.int (iI 3)]) (c_X5_fails l E _ 3) ml_X5_51 mf_X5_fails (o := 13) (ci := 5) rfl rfl rfl rfl ⟨(Nat.le_of_ble_eq_true rfl), (Nat.le_of_ble_eq_true rfl)⟩ rfl rfl rfl (Nat.le_of_ble_eq_true rfl) ⟨(Nat.le_of_ble_eq_true rfl), (Nat.le_of_ble_eq_true rfl)⟩ dX5_nextOfColour_83 (q := 86) rfl ?_
                refine g_st (σ2 := (st σ 13 (pt (σ 13) 0 3))) ((congrArg (st (st σ 13 (pt (σ 13) 0 0)) 13) (pt_pt _ _ _ _)).trans (st_st _ _ _ _)) ?_
                exact hret _ _ _ dX5_nextOfColour_86 rfl
              · skip
                exfalso; omega
            · skip
              have hs := (hM.2.1 r (by omega)).2 i (by omega)
              have hw := (hM.1 r (by omega)).2 i (by omega)
              refine g_aload_n C dX5_nextOfColour_49 0 rfl rfl (q := 50) rfl ?_
              refine g_iload_n C dX5_nextOfColour_50 1 rfl rfl (q := 51) rfl ?_
              refine g_iload C dX5_nextOfColour_51 4 rfl (q := 53) rfl ?_
              refine g_iconst C dX5_nextOfColour_53 (q := 54) rfl ?_
              refine g_cV_i C (As := [.int (iI r), .int (iI i), .int (iI 1)]) (c_X5_at_1 l E _ r i  (by omega) (by omega)) ml_X5_75 mf_X5_at (o := 13) (ci := 5) rfl rfl rfl rfl ⟨(Nat.le_of_ble_eq_true rfl), (Nat.le_of_ble_eq_true rfl)⟩ rfl rfl rfl (Nat.le_of_ble_eq_true rfl) ⟨(Nat.le_of_ble_eq_true rfl), (Nat.le_of_ble_eq_true rfl)⟩ dX5_nextOfColour_54 (q := 57) rfl ?_
              refine g_top (b := (σ 14) (4 + 121 * r + 2 * i)) rfl ?_
              refine g_iload_n C dX5_nextOfColour_57 3 rfl rfl (q := 58) rfl ?_
              refine g_icmp_ne C dX5_nextOfColour_58 (by omega) (q2 := 64) rfl (q := 61) rfl (fun hb6 => ?_) (fun hb6 => ?_)
              · skip
                refine g_iinc C (L' := [(4, .int (iI (i + 1))), (0, .ref (ea E 13)), (1, .int (iI r)), (2, .int (iI p)), (3, .int (iI c))]) dX5_nextOfColour_64 4 rfl (by decide) rfl (q := 67) rfl ?_
                refine g_goto C dX5_nextOfColour_67 (q := 32) rfl ?_
                refine g_sub [1, 2, 3, 4, 0] (L' := [(0, .ref (ea E 13)), (1, .int (iI r)), (2, .int (iI p)), (3, .int (iI c)), (4, .int (iI (i + 1)))]) rfl ?_
                exact ih32 (i + 1) (by omega) (by omega) (by rw [hR, fI_no]; unfold coP; simp only [decide_eq_true_eq]; omega)
              · skip
                exfalso; rw [hR, fI_yes (by omega) (by unfold coP; simp only [decide_eq_true_eq]; omega)] at hne; omega
      exact lp32 _ p (Nat.lt_succ_self _) (by omega) (by rfl)
  · skip
    exfalso; omega
set_option maxRecDepth 100000 in
set_option maxHeartbeats 4000000 in
theorem c_X5_nextOfColour_22 (l : Launch) (E : EV) (σ : SS) (r p c : Int) (f : Int → Int) (hM : MS f (σ 14)) (hr_r : -2147483648 ≤ r ∧ r ≤ 2147483647) (hr_p : -2147483648 ≤ p ∧ p ≤ 2147483647) (hr_c : -2147483648 ≤ c ∧ c ≤ 2147483647) (hF1 : fP f r p = 0) (hF2 : fC c = 2) : Ki l yX5_nextOfColour (cw yX5_nextOfColour cX5_nextOfColour 5 (some .int)) rm_X5_nextOfColour E [.ref (ea E 13), .int (iI r), .int (iI p), .int (iI c)] σ 0 (st σ 13 (pt (σ 13) 0 2)) := by
  refine Ki_of (rm := rm_X5_nextOfColour) (mL := 5) (b := cX5_nextOfColour) RX5 rfl (by decide +kernel) rfl rfl [(0, .ref (ea E 13)), (1, .int (iI r)), (2, .int (iI p)), (3, .int (iI c))] rfl (Nat.le_of_ble_eq_true rfl) (fun p_ e_ s_ m_ a_ b_ h_ c_ Q A C hret => ?_)
  have hB := bP_iff f r p
  have hB1 := bP_01 f r p
  have hcs := fP_cs f r p
  have hD := bC_iff c
  have hD1 := bC_01 c
  have hnc : ¬ (0 ≤ c ∧ c < 8) := by intro h9; unfold fC at hF2; rw [if_pos h9] at hF2; omega
  refine g_aload_n C dX5_nextOfColour_0 0 rfl rfl (q := 1) rfl ?_
  refine g_aload_n C dX5_nextOfColour_1 0 rfl rfl (q := 2) rfl ?_
  refine g_iload_n C dX5_nextOfColour_2 1 rfl rfl (q := 3) rfl ?_
  refine g_iload_n C dX5_nextOfColour_3 2 rfl rfl (q := 4) rfl ?_
  refine g_cV_i C (As := [.int (iI r), .int (iI p)]) (c_X5_isSegment l E _ r p f (by assumption) (by omega) (by omega)) ml_X5_90 mf_X5_isSegment (o := 13) (ci := 5) rfl rfl rfl rfl ⟨(Nat.le_of_ble_eq_true rfl), (Nat.le_of_ble_eq_true rfl)⟩ rfl rfl rfl (Nat.le_of_ble_eq_true rfl) ⟨(Nat.le_of_ble_eq_true rfl), (Nat.le_of_ble_eq_true rfl)⟩ dX5_nextOfColour_4 (q := 7) rfl ?_
  refine g_if_ne C dX5_nextOfColour_7 (by omega) (q2 := 14) rfl (q := 10) rfl (fun hb1 => ?_) (fun hb1 => ?_)
  · skip
    refine g_iload_n C dX5_nextOfColour_14 3 rfl rfl (q := 15) rfl ?_
    refine g_cS_i C (As := [.int (iI c)]) (c_X5_isColour l E _ c  (by omega)) ml_X5_72 mf_X5_isColour rfl rfl ⟨(Nat.le_of_ble_eq_true rfl), (Nat.le_of_ble_eq_true rfl)⟩ rfl rfl rfl (Nat.le_of_ble_eq_true rfl) ⟨(Nat.le_of_ble_eq_true rfl), (Nat.le_of_ble_eq_true rfl)⟩ dX5_nextOfColour_15 (q := 18) rfl ?_
    refine g_if_eq C dX5_nextOfColour_18 (by omega) (q2 := 25) rfl (q := 21) rfl (fun hb2 => ?_) (fun hb2 => ?_)
    · skip
      refine g_iconst C dX5_nextOfColour_25 (q := 26) rfl ?_
      refine gp_X5_38 C dX5_nextOfColour_26 (q := 29) rfl ?_
      refine g_iload_n C dX5_nextOfColour_29 2 rfl rfl (q := 30) rfl ?_
      refine g_istore C (L' := [(4, .int (iI p)), (0, .ref (ea E 13)), (1, .int (iI r)), (2, .int (iI p)), (3, .int (iI c))]) dX5_nextOfColour_30 (by decide) rfl (q := 32) rfl ?_
      refine g_aload_n C dX5_nextOfColour_32 1 rfl rfl (q := 33) rfl ?_
      refine gf_X5_38 C dX5_nextOfColour_33 (q := 36) rfl ?_
      refine g_top (b := 2) rfl ?_
      refine g_if_ne C dX5_nextOfColour_36 (by omega) (q2 := 70) rfl (q := 39) rfl (fun hb3 => ?_) (fun hb3 => ?_)
      · skip
        refine g_aload_n C dX5_nextOfColour_70 1 rfl rfl (q := 71) rfl ?_
        refine gf_X5_38 C dX5_nextOfColour_71 (q := 74) rfl ?_
        refine g_top (b := 2) rfl ?_
        refine g_if_le C dX5_nextOfColour_74 (by omega) (q2 := 81) rfl (q := 77) rfl (fun hb4 => ?_) (fun hb4 => ?_)
        · skip
          exfalso; omega
        · skip
          refine g_iconst C dX5_nextOfColour_77 (q := 78) rfl ?_
          refine g_goto C dX5_nextOfColour_78 (q := 86) rfl ?_
          exact hret _ _ _ dX5_nextOfColour_86 rfl
      · skip
        exfalso; omega
    · skip
      exfalso; omega
  · skip
    exfalso; omega
set_option maxRecDepth 100000 in
set_option maxHeartbeats 4000000 in
theorem c_X5_nextOfColour_11 (l : Launch) (E : EV) (σ : SS) (r p c : Int) (f : Int → Int) (hM : MS f (σ 14)) (hr_r : -2147483648 ≤ r ∧ r ≤ 2147483647) (hr_p : -2147483648 ≤ p ∧ p ≤ 2147483647) (hr_c : -2147483648 ≤ c ∧ c ≤ 2147483647) (hF1 : fP f r p = 1) : Ki l yX5_nextOfColour (cw yX5_nextOfColour cX5_nextOfColour 5 (some .int)) rm_X5_nextOfColour E [.ref (ea E 13), .int (iI r), .int (iI p), .int (iI c)] σ 0 (st σ 13 (pt (σ 13) 0 1)) := by
  refine Ki_of (rm := rm_X5_nextOfColour) (mL := 5) (b := cX5_nextOfColour) RX5 rfl (by decide +kernel) rfl rfl [(0, .ref (ea E 13)), (1, .int (iI r)), (2, .int (iI p)), (3, .int (iI c))] rfl (Nat.le_of_ble_eq_true rfl) (fun p_ e_ s_ m_ a_ b_ h_ c_ Q A C hret => ?_)
  have hB := bP_iff f r p
  have hB1 := bP_01 f r p
  have hcs := fP_cs f r p
  refine g_aload_n C dX5_nextOfColour_0 0 rfl rfl (q := 1) rfl ?_
  refine g_aload_n C dX5_nextOfColour_1 0 rfl rfl (q := 2) rfl ?_
  refine g_iload_n C dX5_nextOfColour_2 1 rfl rfl (q := 3) rfl ?_
  refine g_iload_n C dX5_nextOfColour_3 2 rfl rfl (q := 4) rfl ?_
  refine g_cV_i C (As := [.int (iI r), .int (iI p)]) (c_X5_isSegment l E _ r p f (by assumption) (by omega) (by omega)) ml_X5_90 mf_X5_isSegment (o := 13) (ci := 5) rfl rfl rfl rfl ⟨(Nat.le_of_ble_eq_true rfl), (Nat.le_of_ble_eq_true rfl)⟩ rfl rfl rfl (Nat.le_of_ble_eq_true rfl) ⟨(Nat.le_of_ble_eq_true rfl), (Nat.le_of_ble_eq_true rfl)⟩ dX5_nextOfColour_4 (q := 7) rfl ?_
  refine g_if_ne C dX5_nextOfColour_7 (by omega) (q2 := 14) rfl (q := 10) rfl (fun hb1 => ?_) (fun hb1 => ?_)
  · skip
    exfalso; omega
  · skip
    refine g_iconst C dX5_nextOfColour_10 (q := 11) rfl ?_
    refine g_goto C dX5_nextOfColour_11 (q := 26) rfl ?_
    refine gp_X5_38 C dX5_nextOfColour_26 (q := 29) rfl ?_
    refine g_iload_n C dX5_nextOfColour_29 2 rfl rfl (q := 30) rfl ?_
    refine g_istore C (L' := [(4, .int (iI p)), (0, .ref (ea E 13)), (1, .int (iI r)), (2, .int (iI p)), (3, .int (iI c))]) dX5_nextOfColour_30 (by decide) rfl (q := 32) rfl ?_
    refine g_aload_n C dX5_nextOfColour_32 1 rfl rfl (q := 33) rfl ?_
    refine gf_X5_38 C dX5_nextOfColour_33 (q := 36) rfl ?_
    refine g_top (b := 1) rfl ?_
    refine g_if_ne C dX5_nextOfColour_36 (by omega) (q2 := 70) rfl (q := 39) rfl (fun hb2 => ?_) (fun hb2 => ?_)
    · skip
      refine g_aload_n C dX5_nextOfColour_70 1 rfl rfl (q := 71) rfl ?_
      refine gf_X5_38 C dX5_nextOfColour_71 (q := 74) rfl ?_
      refine g_top (b := 1) rfl ?_
      refine g_if_le C dX5_nextOfColour_74 (by omega) (q2 := 81) rfl (q := 77) rfl (fun hb3 => ?_) (fun hb3 => ?_)
      · skip
        exfalso; omega
      · skip
        refine g_iconst C dX5_nextOfColour_77 (q := 78) rfl ?_
        refine g_goto C dX5_nextOfColour_78 (q := 86) rfl ?_
        exact hret _ _ _ dX5_nextOfColour_86 rfl
    · skip
      exfalso; omega
abbrev rm_X5_colourLength : Room := { frames := 2, cells := 0, slots := 0, locals := 47 }
set_option maxRecDepth 100000 in
set_option maxHeartbeats 4000000 in
theorem c_X5_colourLength (l : Launch) (E : EV) (σ : SS) (r c : Int) (f : Int → Int) (hM : MS f (σ 14)) (hr_r : -2147483648 ≤ r ∧ r ≤ 2147483647) (hr_c : -2147483648 ≤ c ∧ c ≤ 2147483647) (hF1 : fR r = 0) (hF2 : fC c = 0) : Ki l yX5_colourLength (cw yX5_colourLength cX5_colourLength 3 (some .int)) rm_X5_colourLength E [.ref (ea E 13), .int (iI r), .int (iI c)] σ (sc f r c) (st σ 13 (pt (σ 13) 0 0)) := by
  refine Ki_of (rm := rm_X5_colourLength) (mL := 3) (b := cX5_colourLength) RX5 rfl (by decide +kernel) rfl rfl [(0, .ref (ea E 13)), (1, .int (iI r)), (2, .int (iI c))] rfl (Nat.le_of_ble_eq_true rfl) (fun p_ e_ s_ m_ a_ b_ h_ c_ Q A C hret => ?_)
  have hB := bR_iff r
  have hB1 := bR_01 r
  have hD := bC_iff c
  have hD1 := bC_01 c
  have hG1 := fR_0 hF1
  have hG2 := fC_0 hF2
  refine g_aload_n C dX5_colourLength_0 0 rfl rfl (q := 1) rfl ?_
  refine g_iload_n C dX5_colourLength_1 1 rfl rfl (q := 2) rfl ?_
  refine g_cS_i C (As := [.int (iI r)]) (c_X5_isReel l E _ r  (by omega)) ml_X5_58 mf_X5_isReel rfl rfl ⟨(Nat.le_of_ble_eq_true rfl), (Nat.le_of_ble_eq_true rfl)⟩ rfl rfl rfl (Nat.le_of_ble_eq_true rfl) ⟨(Nat.le_of_ble_eq_true rfl), (Nat.le_of_ble_eq_true rfl)⟩ dX5_colourLength_2 (q := 5) rfl ?_
  refine g_if_ne C dX5_colourLength_5 (by omega) (q2 := 12) rfl (q := 8) rfl (fun hb1 => ?_) (fun hb1 => ?_)
  · skip
    refine g_iload_n C dX5_colourLength_12 2 rfl rfl (q := 13) rfl ?_
    refine g_cS_i C (As := [.int (iI c)]) (c_X5_isColour l E _ c  (by omega)) ml_X5_72 mf_X5_isColour rfl rfl ⟨(Nat.le_of_ble_eq_true rfl), (Nat.le_of_ble_eq_true rfl)⟩ rfl rfl rfl (Nat.le_of_ble_eq_true rfl) ⟨(Nat.le_of_ble_eq_true rfl), (Nat.le_of_ble_eq_true rfl)⟩ dX5_colourLength_13 (q := 16) rfl ?_
    refine g_if_eq C dX5_colourLength_16 (by omega) (q2 := 23) rfl (q := 19) rfl (fun hb2 => ?_) (fun hb2 => ?_)
    · skip
      exfalso; omega
    · skip
      refine g_iconst C dX5_colourLength_19 (q := 20) rfl ?_
      refine g_goto C dX5_colourLength_20 (q := 24) rfl ?_
      refine gp_X5_38 C dX5_colourLength_24 (q := 27) rfl ?_
      refine g_aload_n C dX5_colourLength_27 0 rfl rfl (q := 28) rfl ?_
      refine gf_X5_38 C dX5_colourLength_28 (q := 31) rfl ?_
      refine g_top (b := 0) rfl ?_
      refine g_if_le C dX5_colourLength_31 (by omega) (q2 := 38) rfl (q := 34) rfl (fun hb3 => ?_) (fun hb3 => ?_)
      · skip
        refine g_aload_n C dX5_colourLength_38 0 rfl rfl (q := 39) rfl ?_
        refine g_iload_n C dX5_colourLength_39 1 rfl rfl (q := 40) rfl ?_
        refine g_iload_n C dX5_colourLength_40 2 rfl rfl (q := 41) rfl ?_
        refine g_cV_i C (As := [.int (iI r), .int (iI c)]) (c_X5_dyed l E _ r c f (by show MS f (σ 14); assumption) (by omega) (by omega)) ml_X5_149 mf_X5_dyed (o := 13) (ci := 5) rfl rfl rfl rfl ⟨(Nat.le_of_ble_eq_true rfl), (Nat.le_of_ble_eq_true rfl)⟩ rfl rfl rfl (Nat.le_of_ble_eq_true rfl) ⟨(Nat.le_of_ble_eq_true rfl), (Nat.le_of_ble_eq_true rfl)⟩ dX5_colourLength_41 (q := 44) rfl ?_
        exact hret _ _ _ dX5_colourLength_44 rfl
      · skip
        exfalso; omega
  · skip
    exfalso; omega
set_option maxRecDepth 100000 in
set_option maxHeartbeats 4000000 in
theorem c_X5_colourLength_22 (l : Launch) (E : EV) (σ : SS) (r c : Int) (f : Int → Int) (hM : MS f (σ 14)) (hr_r : -2147483648 ≤ r ∧ r ≤ 2147483647) (hr_c : -2147483648 ≤ c ∧ c ≤ 2147483647) (hF1 : fR r = 0) (hF2 : fC c = 2) : Ki l yX5_colourLength (cw yX5_colourLength cX5_colourLength 3 (some .int)) rm_X5_colourLength E [.ref (ea E 13), .int (iI r), .int (iI c)] σ 0 (st σ 13 (pt (σ 13) 0 2)) := by
  refine Ki_of (rm := rm_X5_colourLength) (mL := 3) (b := cX5_colourLength) RX5 rfl (by decide +kernel) rfl rfl [(0, .ref (ea E 13)), (1, .int (iI r)), (2, .int (iI c))] rfl (Nat.le_of_ble_eq_true rfl) (fun p_ e_ s_ m_ a_ b_ h_ c_ Q A C hret => ?_)
  have hB := bR_iff r
  have hB1 := bR_01 r
  have hD := bC_iff c
  have hD1 := bC_01 c
  have hG1 := fR_0 hF1
  have hnc : ¬ (0 ≤ c ∧ c < 8) := by intro h9; unfold fC at hF2; rw [if_pos h9] at hF2; omega
  refine g_aload_n C dX5_colourLength_0 0 rfl rfl (q := 1) rfl ?_
  refine g_iload_n C dX5_colourLength_1 1 rfl rfl (q := 2) rfl ?_
  refine g_cS_i C (As := [.int (iI r)]) (c_X5_isReel l E _ r  (by omega)) ml_X5_58 mf_X5_isReel rfl rfl ⟨(Nat.le_of_ble_eq_true rfl), (Nat.le_of_ble_eq_true rfl)⟩ rfl rfl rfl (Nat.le_of_ble_eq_true rfl) ⟨(Nat.le_of_ble_eq_true rfl), (Nat.le_of_ble_eq_true rfl)⟩ dX5_colourLength_2 (q := 5) rfl ?_
  refine g_if_ne C dX5_colourLength_5 (by omega) (q2 := 12) rfl (q := 8) rfl (fun hb1 => ?_) (fun hb1 => ?_)
  · skip
    refine g_iload_n C dX5_colourLength_12 2 rfl rfl (q := 13) rfl ?_
    refine g_cS_i C (As := [.int (iI c)]) (c_X5_isColour l E _ c  (by omega)) ml_X5_72 mf_X5_isColour rfl rfl ⟨(Nat.le_of_ble_eq_true rfl), (Nat.le_of_ble_eq_true rfl)⟩ rfl rfl rfl (Nat.le_of_ble_eq_true rfl) ⟨(Nat.le_of_ble_eq_true rfl), (Nat.le_of_ble_eq_true rfl)⟩ dX5_colourLength_13 (q := 16) rfl ?_
    refine g_if_eq C dX5_colourLength_16 (by omega) (q2 := 23) rfl (q := 19) rfl (fun hb2 => ?_) (fun hb2 => ?_)
    · skip
      refine g_iconst C dX5_colourLength_23 (q := 24) rfl ?_
      refine gp_X5_38 C dX5_colourLength_24 (q := 27) rfl ?_
      refine g_aload_n C dX5_colourLength_27 0 rfl rfl (q := 28) rfl ?_
      refine gf_X5_38 C dX5_colourLength_28 (q := 31) rfl ?_
      refine g_top (b := 2) rfl ?_
      refine g_if_le C dX5_colourLength_31 (by omega) (q2 := 38) rfl (q := 34) rfl (fun hb3 => ?_) (fun hb3 => ?_)
      · skip
        exfalso; omega
      · skip
        refine g_iconst C dX5_colourLength_34 (q := 35) rfl ?_
        refine g_goto C dX5_colourLength_35 (q := 44) rfl ?_
        exact hret _ _ _ dX5_colourLength_44 rfl
    · skip
      exfalso; omega
  · skip
    exfalso; omega
set_option maxRecDepth 100000 in
set_option maxHeartbeats 4000000 in
theorem c_X5_colourLength_11 (l : Launch) (E : EV) (σ : SS) (r c : Int) (f : Int → Int) (hM : MS f (σ 14)) (hr_r : -2147483648 ≤ r ∧ r ≤ 2147483647) (hr_c : -2147483648 ≤ c ∧ c ≤ 2147483647) (hF1 : fR r = 1) : Ki l yX5_colourLength (cw yX5_colourLength cX5_colourLength 3 (some .int)) rm_X5_colourLength E [.ref (ea E 13), .int (iI r), .int (iI c)] σ 0 (st σ 13 (pt (σ 13) 0 1)) := by
  refine Ki_of (rm := rm_X5_colourLength) (mL := 3) (b := cX5_colourLength) RX5 rfl (by decide +kernel) rfl rfl [(0, .ref (ea E 13)), (1, .int (iI r)), (2, .int (iI c))] rfl (Nat.le_of_ble_eq_true rfl) (fun p_ e_ s_ m_ a_ b_ h_ c_ Q A C hret => ?_)
  have hB := bR_iff r
  have hB1 := bR_01 r
  have hnr : ¬ (0 ≤ r ∧ r < 4) := by intro h9; unfold fR at hF1; rw [if_pos h9] at hF1; omega
  refine g_aload_n C dX5_colourLength_0 0 rfl rfl (q := 1) rfl ?_
  refine g_iload_n C dX5_colourLength_1 1 rfl rfl (q := 2) rfl ?_
  refine g_cS_i C (As := [.int (iI r)]) (c_X5_isReel l E _ r  (by omega)) ml_X5_58 mf_X5_isReel rfl rfl ⟨(Nat.le_of_ble_eq_true rfl), (Nat.le_of_ble_eq_true rfl)⟩ rfl rfl rfl (Nat.le_of_ble_eq_true rfl) ⟨(Nat.le_of_ble_eq_true rfl), (Nat.le_of_ble_eq_true rfl)⟩ dX5_colourLength_2 (q := 5) rfl ?_
  refine g_if_ne C dX5_colourLength_5 (by omega) (q2 := 12) rfl (q := 8) rfl (fun hb1 => ?_) (fun hb1 => ?_)
  · skip
    exfalso; omega
  · skip
    refine g_iconst C dX5_colourLength_8 (q := 9) rfl ?_
    refine g_goto C dX5_colourLength_9 (q := 24) rfl ?_
    refine gp_X5_38 C dX5_colourLength_24 (q := 27) rfl ?_
    refine g_aload_n C dX5_colourLength_27 0 rfl rfl (q := 28) rfl ?_
    refine gf_X5_38 C dX5_colourLength_28 (q := 31) rfl ?_
    refine g_top (b := 1) rfl ?_
    refine g_if_le C dX5_colourLength_31 (by omega) (q2 := 38) rfl (q := 34) rfl (fun hb2 => ?_) (fun hb2 => ?_)
    · skip
      exfalso; omega
    · skip
      refine g_iconst C dX5_colourLength_34 (q := 35) rfl ?_
      refine g_goto C dX5_colourLength_35 (q := 44) rfl ?_
      exact hret _ _ _ dX5_colourLength_44 rfl
abbrev rm_X5_colourAtRank : Room := { frames := 2, cells := 0, slots := 0, locals := 47 }
set_option maxRecDepth 100000 in
set_option maxHeartbeats 4000000 in
theorem c_X5_colourAtRank (l : Launch) (E : EV) (σ : SS) (r k : Int) (f : Int → Int) (hM : MS f (σ 14)) (hr_r : -2147483648 ≤ r ∧ r ≤ 2147483647) (hr_k : -2147483648 ≤ k ∧ k ≤ 2147483647) (hF1 : fR r = 0) (hne : fI (rcP f r k) 0 8 ≠ -1) : Ki l yX5_colourAtRank (cw yX5_colourAtRank cX5_colourAtRank 6 (some .int)) rm_X5_colourAtRank E [.ref (ea E 13), .int (iI r), .int (iI k)] σ (fI (rcP f r k) 0 8) (st σ 13 (pt (σ 13) 0 0)) := by
  refine Ki_of (rm := rm_X5_colourAtRank) (mL := 6) (b := cX5_colourAtRank) RX5 rfl (by decide +kernel) rfl rfl [(0, .ref (ea E 13)), (1, .int (iI r)), (2, .int (iI k))] rfl (Nat.le_of_ble_eq_true rfl) (fun p_ e_ s_ m_ a_ b_ h_ c_ Q A C hret => ?_)
  have hB := bR_iff r
  have hB1 := bR_01 r
  have hG1 := fR_0 hF1
  have hm_r := (hM.2.1 r (by omega)).1
  have hn_r := (hM.1 r (by omega)).1
  refine g_aload_n C dX5_colourAtRank_0 0 rfl rfl (q := 1) rfl ?_
  refine g_iload_n C dX5_colourAtRank_1 1 rfl rfl (q := 2) rfl ?_
  refine g_cS_i C (As := [.int (iI r)]) (c_X5_isReel l E _ r  (by omega)) ml_X5_58 mf_X5_isReel rfl rfl ⟨(Nat.le_of_ble_eq_true rfl), (Nat.le_of_ble_eq_true rfl)⟩ rfl rfl rfl (Nat.le_of_ble_eq_true rfl) ⟨(Nat.le_of_ble_eq_true rfl), (Nat.le_of_ble_eq_true rfl)⟩ dX5_colourAtRank_2 (q := 5) rfl ?_
  refine g_if_eq C dX5_colourAtRank_5 (by omega) (q2 := 12) rfl (q := 8) rfl (fun hb1 => ?_) (fun hb1 => ?_)
  · skip
    exfalso; omega
  · skip
    refine g_iconst C dX5_colourAtRank_8 (q := 9) rfl ?_
    refine g_goto C dX5_colourAtRank_9 (q := 13) rfl ?_
    refine gp_X5_38 C dX5_colourAtRank_13 (q := 16) rfl ?_
    refine g_iconst C dX5_colourAtRank_16 (q := 17) rfl ?_
    refine g_istore_n C (L' := [(3, .int (iI 0)), (0, .ref (ea E 13)), (1, .int (iI r)), (2, .int (iI k))]) dX5_colourAtRank_17 rfl (by decide) rfl (q := 18) rfl ?_
    refine g_sub [1, 2, 3, 0] (L' := [(0, .ref (ea E 13)), (1, .int (iI r)), (2, .int (iI k)), (3, .int (iI 0))]) rfl ?_
    have lp18 : ∀ (k9 : Nat) (a : Int), (8 - a).toNat < k9 → (0 ≤ a ∧ a ≤ 8) → (fI (rcP f r k) 0 8 = fI (rcP f r k) a 8) → GG p_ l e_ rm_X5_colourAtRank s_ m_ a_ b_ h_ c_ Q E A 6 (st σ 13 (pt (σ 13) 0 0)) 0 0 18 [(0, .ref (ea E 13)), (1, .int (iI r)), (2, .int (iI k)), (3, .int (iI a))] [] := by
      intro k9
      induction k9 with
      | zero => intro a hk9; omega
      | succ k9 ih18 =>
        intro a hk9 ha hR
        refine g_aload_n C dX5_colourAtRank_18 0 rfl rfl (q := 19) rfl ?_
        refine gf_X5_38 C dX5_colourAtRank_19 (q := 22) rfl ?_
        refine g_top (b := 0) rfl ?_
        refine g_if_ne C dX5_colourAtRank_22 (by omega) (q2 := 124) rfl (q := 25) rfl (fun hb2 => ?_) (fun hb2 => ?_)
        · skip
          exfalso; omega
        · skip
          refine g_iload_n C dX5_colourAtRank_25 3 rfl rfl (q := 26) rfl ?_
          refine g_bipush C dX5_colourAtRank_26 (by decide) (q := 28) rfl ?_
          refine g_icmp_ge C dX5_colourAtRank_28 (by omega) (q2 := 124) rfl (q := 31) rfl (fun hb3 => ?_) (fun hb3 => ?_)
          · skip
            exfalso; rw [hR, fI_nil (by omega)] at hne; omega
          · skip
            have hsa := sc_rg hM.1 hG1 a
            have hrr := rkc_rg f r a (sc f r a)
            refine g_aload_n C dX5_colourAtRank_31 0 rfl rfl (q := 32) rfl ?_
            refine g_iload_n C dX5_colourAtRank_32 1 rfl rfl (q := 33) rfl ?_
            refine g_iload_n C dX5_colourAtRank_33 3 rfl rfl (q := 34) rfl ?_
            refine g_cV_i C (As := [.int (iI r), .int (iI a)]) (c_X5_dyed l E _ r a f (by show MS f (σ 14); assumption) (by omega) (by omega)) ml_X5_149 mf_X5_dyed (o := 13) (ci := 5) rfl rfl rfl rfl ⟨(Nat.le_of_ble_eq_true rfl), (Nat.le_of_ble_eq_true rfl)⟩ rfl rfl rfl (Nat.le_of_ble_eq_true rfl) ⟨(Nat.le_of_ble_eq_true rfl), (Nat.le_of_ble_eq_true rfl)⟩ dX5_colourAtRank_34 (q := 37) rfl ?_
            refine g_if_ne C dX5_colourAtRank_37 (by omega) (q2 := 43) rfl (q := 40) rfl (fun hb4 => ?_) (fun hb4 => ?_)
            · skip
              refine g_iconst C dX5_colourAtRank_43 (q := 44) rfl ?_
              refine g_istore C (L' := [(4, .int (iI 0)), (0, .ref (ea E 13)), (1, .int (iI r)), (2, .int (iI k)), (3, .int (iI a))]) dX5_colourAtRank_44 (by decide) rfl (q := 46) rfl ?_
              refine g_iconst C dX5_colourAtRank_46 (q := 47) rfl ?_
              refine g_istore C (L' := [(5, .int (iI 0)), (4, .int (iI 0)), (0, .ref (ea E 13)), (1, .int (iI r)), (2, .int (iI k)), (3, .int (iI a))]) dX5_colourAtRank_47 (by decide) rfl (q := 49) rfl ?_
              refine g_sub [2, 3, 4, 5, 1, 0] (L' := [(0, .ref (ea E 13)), (1, .int (iI r)), (2, .int (iI k)), (3, .int (iI a)), (4, .int (iI 0)), (5, .int (iI 0))]) rfl ?_
              have lp49 : ∀ (k9 : Nat) (acc : Int) (b : Int), (8 - b).toNat < k9 → (0 ≤ b ∧ b ≤ 8) → (rkc f r a (sc f r a) = acc + sI (rci f r a (sc f r a)) b 8) → GG p_ l e_ rm_X5_colourAtRank s_ m_ a_ b_ h_ c_ Q E A 6 (st σ 13 (pt (σ 13) 0 0)) 0 0 49 [(0, .ref (ea E 13)), (1, .int (iI r)), (2, .int (iI k)), (3, .int (iI a)), (4, .int (iI acc)), (5, .int (iI b))] [] := by
                intro k9
                induction k9 with
                | zero => intro acc b hk9; omega
                | succ k9 ih49 =>
                  intro acc b hk9 hb hA
                  refine g_iload C dX5_colourAtRank_49 5 rfl (q := 51) rfl ?_
                  refine g_bipush C dX5_colourAtRank_51 (by decide) (q := 53) rfl ?_
                  refine g_icmp_ge C dX5_colourAtRank_53 (by omega) (q2 := 110) rfl (q := 56) rfl (fun hb5 => ?_) (fun hb5 => ?_)
                  · skip
                    have hA2 : rkc f r a (sc f r a) = acc := by rw [hA, sI_nil (by omega)]; omega
                    refine g_iload C dX5_colourAtRank_110 4 rfl (q := 112) rfl ?_
                    refine g_iload_n C dX5_colourAtRank_112 2 rfl rfl (q := 113) rfl ?_
                    refine g_icmp_ne C dX5_colourAtRank_113 (by omega) (q2 := 118) rfl (q := 116) rfl (fun hb6 => ?_) (fun hb6 => ?_)
                    · skip
                      refine g_iinc C (L' := [(3, .int (iI (a + 1))), (0, .ref (ea E 13)), (1, .int (iI r)), (2, .int (iI k)), (4, .int (iI acc)), (5, .int (iI b))]) dX5_colourAtRank_118 3 rfl (by decide) rfl (q := 121) rfl ?_
                      refine g_goto C dX5_colourAtRank_121 (q := 18) rfl ?_
                      refine g_sub [1, 2, 3, 0] (L' := [(0, .ref (ea E 13)), (1, .int (iI r)), (2, .int (iI k)), (3, .int (iI (a + 1)))]) rfl ?_
                      exact ih18 (a + 1) (by omega) (by omega) (by rw [hR, fI_no]; unfold rcP; simp only [decide_eq_true_eq]; omega)
                    · skip
                      refine g_iload_n C dX5_colourAtRank_116 3 rfl rfl (q := 117) rfl ?_
                      exact hret _ _ _ dX5_colourAtRank_117 (by rw [hR, fI_yes (by omega)]; unfold rcP; simp only [decide_eq_true_eq]; omega)
                  · skip
                    have hsb := sc_rg hM.1 hG1 b
                    refine g_iload C dX5_colourAtRank_56 4 rfl (q := 58) rfl ?_
                    refine g_aload_n C dX5_colourAtRank_58 0 rfl rfl (q := 59) rfl ?_
                    refine g_iload_n C dX5_colourAtRank_59 1 rfl rfl (q := 60) rfl ?_
                    refine g_iload C dX5_colourAtRank_60 5 rfl (q := 62) rfl ?_
                    refine g_cV_i C (As := [.int (iI r), .int (iI b)]) (c_X5_dyed l E _ r b f (by show MS f (σ 14); assumption) (by omega) (by omega)) ml_X5_149 mf_X5_dyed (o := 13) (ci := 5) rfl rfl rfl rfl ⟨(Nat.le_of_ble_eq_true rfl), (Nat.le_of_ble_eq_true rfl)⟩ rfl rfl rfl (Nat.le_of_ble_eq_true rfl) ⟨(Nat.le_of_ble_eq_true rfl), (Nat.le_of_ble_eq_true rfl)⟩ dX5_colourAtRank_62 (q := 65) rfl ?_
                    refine g_aload_n C dX5_colourAtRank_65 0 rfl rfl (q := 66) rfl ?_
                    refine g_iload_n C dX5_colourAtRank_66 1 rfl rfl (q := 67) rfl ?_
                    refine g_iload_n C dX5_colourAtRank_67 3 rfl rfl (q := 68) rfl ?_
                    refine g_cV_i C (As := [.int (iI r), .int (iI a)]) (c_X5_dyed l E _ r a f (by show MS f (σ 14); assumption) (by omega) (by omega)) ml_X5_149 mf_X5_dyed (o := 13) (ci := 5) rfl rfl rfl rfl ⟨(Nat.le_of_ble_eq_true rfl), (Nat.le_of_ble_eq_true rfl)⟩ rfl rfl rfl (Nat.le_of_ble_eq_true rfl) ⟨(Nat.le_of_ble_eq_true rfl), (Nat.le_of_ble_eq_true rfl)⟩ dX5_colourAtRank_68 (q := 71) rfl ?_
                    refine g_icmp_gt C dX5_colourAtRank_71 (by omega) (q2 := 96) rfl (q := 74) rfl (fun hb7 => ?_) (fun hb7 => ?_)
                    · skip
                      refine g_iconst C dX5_colourAtRank_96 (q := 97) rfl ?_
                      refine g_goto C dX5_colourAtRank_97 (q := 101) rfl ?_
                      refine g_iadd C dX5_colourAtRank_101 (q := 102) rfl ?_
                      refine g_istore C (L' := [(4, .int (iI (acc + 1))), (0, .ref (ea E 13)), (1, .int (iI r)), (2, .int (iI k)), (3, .int (iI a)), (5, .int (iI b))]) dX5_colourAtRank_102 (by decide) rfl (q := 104) rfl ?_
                      refine g_iinc C (L' := [(5, .int (iI (b + 1))), (4, .int (iI (acc + 1))), (0, .ref (ea E 13)), (1, .int (iI r)), (2, .int (iI k)), (3, .int (iI a))]) dX5_colourAtRank_104 5 rfl (by decide) rfl (q := 107) rfl ?_
                      refine g_goto C dX5_colourAtRank_107 (q := 49) rfl ?_
                      refine g_sub [2, 3, 4, 5, 1, 0] (L' := [(0, .ref (ea E 13)), (1, .int (iI r)), (2, .int (iI k)), (3, .int (iI a)), (4, .int (iI (acc + 1))), (5, .int (iI (b + 1)))]) rfl ?_
                      exact ih49 (acc + 1) (b + 1) (by omega) (by omega) (by first | (rw [hA, sI_cons (by omega), show rci f r a (sc f r a) b = 1 from if_pos (by omega)]; omega) | (rw [hA, sI_cons (by omega), show rci f r a (sc f r a) b = 0 from if_neg (by omega)]; omega))
                    · skip
                      refine g_aload_n C dX5_colourAtRank_74 0 rfl rfl (q := 75) rfl ?_
                      refine g_iload_n C dX5_colourAtRank_75 1 rfl rfl (q := 76) rfl ?_
                      refine g_iload C dX5_colourAtRank_76 5 rfl (q := 78) rfl ?_
                      refine g_cV_i C (As := [.int (iI r), .int (iI b)]) (c_X5_dyed l E _ r b f (by show MS f (σ 14); assumption) (by omega) (by omega)) ml_X5_149 mf_X5_dyed (o := 13) (ci := 5) rfl rfl rfl rfl ⟨(Nat.le_of_ble_eq_true rfl), (Nat.le_of_ble_eq_true rfl)⟩ rfl rfl rfl (Nat.le_of_ble_eq_true rfl) ⟨(Nat.le_of_ble_eq_true rfl), (Nat.le_of_ble_eq_true rfl)⟩ dX5_colourAtRank_78 (q := 81) rfl ?_
                      refine g_aload_n C dX5_colourAtRank_81 0 rfl rfl (q := 82) rfl ?_
                      refine g_iload_n C dX5_colourAtRank_82 1 rfl rfl (q := 83) rfl ?_
                      refine g_iload_n C dX5_colourAtRank_83 3 rfl rfl (q := 84) rfl ?_
                      refine g_cV_i C (As := [.int (iI r), .int (iI a)]) (c_X5_dyed l E _ r a f (by show MS f (σ 14); assumption) (by omega) (by omega)) ml_X5_149 mf_X5_dyed (o := 13) (ci := 5) rfl rfl rfl rfl ⟨(Nat.le_of_ble_eq_true rfl), (Nat.le_of_ble_eq_true rfl)⟩ rfl rfl rfl (Nat.le_of_ble_eq_true rfl) ⟨(Nat.le_of_ble_eq_true rfl), (Nat.le_of_ble_eq_true rfl)⟩ dX5_colourAtRank_84 (q := 87) rfl ?_
                      refine g_icmp_ne C dX5_colourAtRank_87 (by omega) (q2 := 100) rfl (q := 90) rfl (fun hb8 => ?_) (fun hb8 => ?_)
                      · skip
                        refine g_iconst C dX5_colourAtRank_100 (q := 101) rfl ?_
                        refine g_iadd C dX5_colourAtRank_101 (q := 102) rfl ?_
                        refine g_istore C (L' := [(4, .int (iI (acc + 0))), (0, .ref (ea E 13)), (1, .int (iI r)), (2, .int (iI k)), (3, .int (iI a)), (5, .int (iI b))]) dX5_colourAtRank_102 (by decide) rfl (q := 104) rfl ?_
                        refine g_iinc C (L' := [(5, .int (iI (b + 1))), (4, .int (iI (acc + 0))), (0, .ref (ea E 13)), (1, .int (iI r)), (2, .int (iI k)), (3, .int (iI a))]) dX5_colourAtRank_104 5 rfl (by decide) rfl (q := 107) rfl ?_
                        refine g_goto C dX5_colourAtRank_107 (q := 49) rfl ?_
                        refine g_sub [2, 3, 4, 5, 1, 0] (L' := [(0, .ref (ea E 13)), (1, .int (iI r)), (2, .int (iI k)), (3, .int (iI a)), (4, .int (iI (acc + 0))), (5, .int (iI (b + 1)))]) rfl ?_
                        exact ih49 (acc + 0) (b + 1) (by omega) (by omega) (by first | (rw [hA, sI_cons (by omega), show rci f r a (sc f r a) b = 1 from if_pos (by omega)]; omega) | (rw [hA, sI_cons (by omega), show rci f r a (sc f r a) b = 0 from if_neg (by omega)]; omega))
                      · skip
                        refine g_iload C dX5_colourAtRank_90 5 rfl (q := 92) rfl ?_
                        refine g_iload_n C dX5_colourAtRank_92 3 rfl rfl (q := 93) rfl ?_
                        refine g_icmp_ge C dX5_colourAtRank_93 (by omega) (q2 := 100) rfl (q := 96) rfl (fun hb9 => ?_) (fun hb9 => ?_)
                        · skip
                          refine g_iconst C dX5_colourAtRank_100 (q := 101) rfl ?_
                          refine g_iadd C dX5_colourAtRank_101 (q := 102) rfl ?_
                          refine g_istore C (L' := [(4, .int (iI (acc + 0))), (0, .ref (ea E 13)), (1, .int (iI r)), (2, .int (iI k)), (3, .int (iI a)), (5, .int (iI b))]) dX5_colourAtRank_102 (by decide) rfl (q := 104) rfl ?_
                          refine g_iinc C (L' := [(5, .int (iI (b + 1))), (4, .int (iI (acc + 0))), (0, .ref (ea E 13)), (1, .int (iI r)), (2, .int (iI k)), (3, .int (iI a))]) dX5_colourAtRank_104 5 rfl (by decide) rfl (q := 107) rfl ?_
                          refine g_goto C dX5_colourAtRank_107 (q := 49) rfl ?_
                          refine g_sub [2, 3, 4, 5, 1, 0] (L' := [(0, .ref (ea E 13)), (1, .int (iI r)), (2, .int (iI k)), (3, .int (iI a)), (4, .int (iI (acc + 0))), (5, .int (iI (b + 1)))]) rfl ?_
                          exact ih49 (acc + 0) (b + 1) (by omega) (by omega) (by first | (rw [hA, sI_cons (by omega), show rci f r a (sc f r a) b = 1 from if_pos (by omega)]; omega) | (rw [hA, sI_cons (by omega), show rci f r a (sc f r a) b = 0 from if_neg (by omega)]; omega))
                        · skip
                          refine g_iconst C dX5_colourAtRank_96 (q := 97) rfl ?_
                          refine g_goto C dX5_colourAtRank_97 (q := 101) rfl ?_
                          refine g_iadd C dX5_colourAtRank_101 (q := 102) rfl ?_
                          refine g_istore C (L' := [(4, .int (iI (acc + 1))), (0, .ref (ea E 13)), (1, .int (iI r)), (2, .int (iI k)), (3, .int (iI a)), (5, .int (iI b))]) dX5_colourAtRank_102 (by decide) rfl (q := 104) rfl ?_
                          refine g_iinc C (L' := [(5, .int (iI (b + 1))), (4, .int (iI (acc + 1))), (0, .ref (ea E 13)), (1, .int (iI r)), (2, .int (iI k)), (3, .int (iI a))]) dX5_colourAtRank_104 5 rfl (by decide) rfl (q := 107) rfl ?_
                          refine g_goto C dX5_colourAtRank_107 (q := 49) rfl ?_
                          refine g_sub [2, 3, 4, 5, 1, 0] (L' := [(0, .ref (ea E 13)), (1, .int (iI r)), (2, .int (iI k)), (3, .int (iI a)), (4, .int (iI (acc + 1))), (5, .int (iI (b + 1)))]) rfl ?_
                          exact ih49 (acc + 1) (b + 1) (by omega) (by omega) (by first | (rw [hA, sI_cons (by omega), show rci f r a (sc f r a) b = 1 from if_pos (by omega)]; omega) | (rw [hA, sI_cons (by omega), show rci f r a (sc f r a) b = 0 from if_neg (by omega)]; omega))
              exact lp49 _ 0 0 (Nat.lt_succ_self _) (by omega) (by unfold rkc; omega)
            · skip
              refine g_goto C dX5_colourAtRank_40 (q := 118) rfl ?_
              refine g_iinc C (L' := [(3, .int (iI (a + 1))), (0, .ref (ea E 13)), (1, .int (iI r)), (2, .int (iI k))]) dX5_colourAtRank_118 3 rfl (by decide) rfl (q := 121) rfl ?_
              refine g_goto C dX5_colourAtRank_121 (q := 18) rfl ?_
              refine g_sub [1, 2, 3, 0] (L' := [(0, .ref (ea E 13)), (1, .int (iI r)), (2, .int (iI k)), (3, .int (iI (a + 1)))]) rfl ?_
              exact ih18 (a + 1) (by omega) (by omega) (by rw [hR, fI_no]; unfold rcP; simp only [decide_eq_true_eq]; omega)
    exact lp18 _ 0 (Nat.lt_succ_self _) (by omega) (by rfl)
set_option maxRecDepth 100000 in
set_option maxHeartbeats 4000000 in
theorem c_X5_colourAtRank_n (l : Launch) (E : EV) (σ : SS) (r k : Int) (f : Int → Int) (hM : MS f (σ 14)) (hr_r : -2147483648 ≤ r ∧ r ≤ 2147483647) (hr_k : -2147483648 ≤ k ∧ k ≤ 2147483647) (hF1 : fR r = 0) (hne : fI (rcP f r k) 0 8 = -1) : Ki l yX5_colourAtRank (cw yX5_colourAtRank cX5_colourAtRank 6 (some .int)) rm_X5_colourAtRank E [.ref (ea E 13), .int (iI r), .int (iI k)] σ 0 (st σ 13 (pt (σ 13) 0 2)) := by
  refine Ki_of (rm := rm_X5_colourAtRank) (mL := 6) (b := cX5_colourAtRank) RX5 rfl (by decide +kernel) rfl rfl [(0, .ref (ea E 13)), (1, .int (iI r)), (2, .int (iI k))] rfl (Nat.le_of_ble_eq_true rfl) (fun p_ e_ s_ m_ a_ b_ h_ c_ Q A C hret => ?_)
  have hB := bR_iff r
  have hB1 := bR_01 r
  have hG1 := fR_0 hF1
  have hm_r := (hM.2.1 r (by omega)).1
  have hn_r := (hM.1 r (by omega)).1
  refine g_aload_n C dX5_colourAtRank_0 0 rfl rfl (q := 1) rfl ?_
  refine g_iload_n C dX5_colourAtRank_1 1 rfl rfl (q := 2) rfl ?_
  refine g_cS_i C (As := [.int (iI r)]) (c_X5_isReel l E _ r  (by omega)) ml_X5_58 mf_X5_isReel rfl rfl ⟨(Nat.le_of_ble_eq_true rfl), (Nat.le_of_ble_eq_true rfl)⟩ rfl rfl rfl (Nat.le_of_ble_eq_true rfl) ⟨(Nat.le_of_ble_eq_true rfl), (Nat.le_of_ble_eq_true rfl)⟩ dX5_colourAtRank_2 (q := 5) rfl ?_
  refine g_if_eq C dX5_colourAtRank_5 (by omega) (q2 := 12) rfl (q := 8) rfl (fun hb1 => ?_) (fun hb1 => ?_)
  · skip
    exfalso; omega
  · skip
    refine g_iconst C dX5_colourAtRank_8 (q := 9) rfl ?_
    refine g_goto C dX5_colourAtRank_9 (q := 13) rfl ?_
    refine gp_X5_38 C dX5_colourAtRank_13 (q := 16) rfl ?_
    refine g_iconst C dX5_colourAtRank_16 (q := 17) rfl ?_
    refine g_istore_n C (L' := [(3, .int (iI 0)), (0, .ref (ea E 13)), (1, .int (iI r)), (2, .int (iI k))]) dX5_colourAtRank_17 rfl (by decide) rfl (q := 18) rfl ?_
    refine g_sub [1, 2, 3, 0] (L' := [(0, .ref (ea E 13)), (1, .int (iI r)), (2, .int (iI k)), (3, .int (iI 0))]) rfl ?_
    have lp18 : ∀ (k9 : Nat) (a : Int), (8 - a).toNat < k9 → (0 ≤ a ∧ a ≤ 8) → (fI (rcP f r k) 0 8 = fI (rcP f r k) a 8) → GG p_ l e_ rm_X5_colourAtRank s_ m_ a_ b_ h_ c_ Q E A 6 (st σ 13 (pt (σ 13) 0 0)) 0 0 18 [(0, .ref (ea E 13)), (1, .int (iI r)), (2, .int (iI k)), (3, .int (iI a))] [] := by
      intro k9
      induction k9 with
      | zero => intro a hk9; omega
      | succ k9 ih18 =>
        intro a hk9 ha hR
        refine g_aload_n C dX5_colourAtRank_18 0 rfl rfl (q := 19) rfl ?_
        refine gf_X5_38 C dX5_colourAtRank_19 (q := 22) rfl ?_
        refine g_top (b := 0) rfl ?_
        refine g_if_ne C dX5_colourAtRank_22 (by omega) (q2 := 124) rfl (q := 25) rfl (fun hb2 => ?_) (fun hb2 => ?_)
        · skip
          exfalso; omega
        · skip
          refine g_iload_n C dX5_colourAtRank_25 3 rfl rfl (q := 26) rfl ?_
          refine g_bipush C dX5_colourAtRank_26 (by decide) (q := 28) rfl ?_
          refine g_icmp_ge C dX5_colourAtRank_28 (by omega) (q2 := 124) rfl (q := 31) rfl (fun hb3 => ?_) (fun hb3 => ?_)
          · skip
            refine g_aload_n C dX5_colourAtRank_124 0 rfl rfl (q := 125) rfl ?_
            refine gf_X5_38 C dX5_colourAtRank_125 (q := 128) rfl ?_
            refine g_top (b := 0) rfl ?_
            refine g_if_le C dX5_colourAtRank_128 (by omega) (q2 := 135) rfl (q := 131) rfl (fun hb4 => ?_) (fun hb4 => ?_)
            · skip
              refine g_aload_n C dX5_colourAtRank_135 0 rfl rfl (q := 136) rfl ?_
              refine g_iconst C dX5_colourAtRank_136 (q := 137) rfl ?_
              refine g_cV_i C (As := [.int (iI 2)]) (c_X5_fails l E _ 2) ml_X5_51 mf_X5_fails (o := 13) (ci := 5) rfl rfl rfl rfl ⟨(Nat.le_of_ble_eq_true rfl), (Nat.le_of_ble_eq_true rfl)⟩ rfl rfl rfl (Nat.le_of_ble_eq_true rfl) ⟨(Nat.le_of_ble_eq_true rfl), (Nat.le_of_ble_eq_true rfl)⟩ dX5_colourAtRank_137 (q := 140) rfl ?_
              refine g_st (σ2 := (st σ 13 (pt (σ 13) 0 2))) ((congrArg (st (st σ 13 (pt (σ 13) 0 0)) 13) (pt_pt _ _ _ _)).trans (st_st _ _ _ _)) ?_
              exact hret _ _ _ dX5_colourAtRank_140 rfl
            · skip
              exfalso; omega
          · skip
            have hsa := sc_rg hM.1 hG1 a
            have hrr := rkc_rg f r a (sc f r a)
            refine g_aload_n C dX5_colourAtRank_31 0 rfl rfl (q := 32) rfl ?_
            refine g_iload_n C dX5_colourAtRank_32 1 rfl rfl (q := 33) rfl ?_
            refine g_iload_n C dX5_colourAtRank_33 3 rfl rfl (q := 34) rfl ?_
            refine g_cV_i C (As := [.int (iI r), .int (iI a)]) (c_X5_dyed l E _ r a f (by show MS f (σ 14); assumption) (by omega) (by omega)) ml_X5_149 mf_X5_dyed (o := 13) (ci := 5) rfl rfl rfl rfl ⟨(Nat.le_of_ble_eq_true rfl), (Nat.le_of_ble_eq_true rfl)⟩ rfl rfl rfl (Nat.le_of_ble_eq_true rfl) ⟨(Nat.le_of_ble_eq_true rfl), (Nat.le_of_ble_eq_true rfl)⟩ dX5_colourAtRank_34 (q := 37) rfl ?_
            refine g_if_ne C dX5_colourAtRank_37 (by omega) (q2 := 43) rfl (q := 40) rfl (fun hb5 => ?_) (fun hb5 => ?_)
            · skip
              refine g_iconst C dX5_colourAtRank_43 (q := 44) rfl ?_
              refine g_istore C (L' := [(4, .int (iI 0)), (0, .ref (ea E 13)), (1, .int (iI r)), (2, .int (iI k)), (3, .int (iI a))]) dX5_colourAtRank_44 (by decide) rfl (q := 46) rfl ?_
              refine g_iconst C dX5_colourAtRank_46 (q := 47) rfl ?_
              refine g_istore C (L' := [(5, .int (iI 0)), (4, .int (iI 0)), (0, .ref (ea E 13)), (1, .int (iI r)), (2, .int (iI k)), (3, .int (iI a))]) dX5_colourAtRank_47 (by decide) rfl (q := 49) rfl ?_
              refine g_sub [2, 3, 4, 5, 1, 0] (L' := [(0, .ref (ea E 13)), (1, .int (iI r)), (2, .int (iI k)), (3, .int (iI a)), (4, .int (iI 0)), (5, .int (iI 0))]) rfl ?_
              have lp49 : ∀ (k9 : Nat) (acc : Int) (b : Int), (8 - b).toNat < k9 → (0 ≤ b ∧ b ≤ 8) → (rkc f r a (sc f r a) = acc + sI (rci f r a (sc f r a)) b 8) → GG p_ l e_ rm_X5_colourAtRank s_ m_ a_ b_ h_ c_ Q E A 6 (st σ 13 (pt (σ 13) 0 0)) 0 0 49 [(0, .ref (ea E 13)), (1, .int (iI r)), (2, .int (iI k)), (3, .int (iI a)), (4, .int (iI acc)), (5, .int (iI b))] [] := by
                intro k9
                induction k9 with
                | zero => intro acc b hk9; omega
                | succ k9 ih49 =>
                  intro acc b hk9 hb hA
                  refine g_iload C dX5_colourAtRank_49 5 rfl (q := 51) rfl ?_
                  refine g_bipush C dX5_colourAtRank_51 (by decide) (q := 53) rfl ?_
                  refine g_icmp_ge C dX5_colourAtRank_53 (by omega) (q2 := 110) rfl (q := 56) rfl (fun hb6 => ?_) (fun hb6 => ?_)
                  · skip
                    have hA2 : rkc f r a (sc f r a) = acc := by rw [hA, sI_nil (by omega)]; omega
                    refine g_iload C dX5_colourAtRank_110 4 rfl (q := 112) rfl ?_
                    refine g_iload_n C dX5_colourAtRank_112 2 rfl rfl (q := 113) rfl ?_
                    refine g_icmp_ne C dX5_colourAtRank_113 (by omega) (q2 := 118) rfl (q := 116) rfl (fun hb7 => ?_) (fun hb7 => ?_)
                    · skip
                      refine g_iinc C (L' := [(3, .int (iI (a + 1))), (0, .ref (ea E 13)), (1, .int (iI r)), (2, .int (iI k)), (4, .int (iI acc)), (5, .int (iI b))]) dX5_colourAtRank_118 3 rfl (by decide) rfl (q := 121) rfl ?_
                      refine g_goto C dX5_colourAtRank_121 (q := 18) rfl ?_
                      refine g_sub [1, 2, 3, 0] (L' := [(0, .ref (ea E 13)), (1, .int (iI r)), (2, .int (iI k)), (3, .int (iI (a + 1)))]) rfl ?_
                      exact ih18 (a + 1) (by omega) (by omega) (by rw [hR, fI_no]; unfold rcP; simp only [decide_eq_true_eq]; omega)
                    · skip
                      exfalso; rw [hR, fI_yes (by omega) (by unfold rcP; simp only [decide_eq_true_eq]; omega)] at hne; omega
                  · skip
                    have hsb := sc_rg hM.1 hG1 b
                    refine g_iload C dX5_colourAtRank_56 4 rfl (q := 58) rfl ?_
                    refine g_aload_n C dX5_colourAtRank_58 0 rfl rfl (q := 59) rfl ?_
                    refine g_iload_n C dX5_colourAtRank_59 1 rfl rfl (q := 60) rfl ?_
                    refine g_iload C dX5_colourAtRank_60 5 rfl (q := 62) rfl ?_
                    refine g_cV_i C (As := [.int (iI r), .int (iI b)]) (c_X5_dyed l E _ r b f (by show MS f (σ 14); assumption) (by omega) (by omega)) ml_X5_149 mf_X5_dyed (o := 13) (ci := 5) rfl rfl rfl rfl ⟨(Nat.le_of_ble_eq_true rfl), (Nat.le_of_ble_eq_true rfl)⟩ rfl rfl rfl (Nat.le_of_ble_eq_true rfl) ⟨(Nat.le_of_ble_eq_true rfl), (Nat.le_of_ble_eq_true rfl)⟩ dX5_colourAtRank_62 (q := 65) rfl ?_
                    refine g_aload_n C dX5_colourAtRank_65 0 rfl rfl (q := 66) rfl ?_
                    refine g_iload_n C dX5_colourAtRank_66 1 rfl rfl (q := 67) rfl ?_
                    refine g_iload_n C dX5_colourAtRank_67 3 rfl rfl (q := 68) rfl ?_
                    refine g_cV_i C (As := [.int (iI r), .int (iI a)]) (c_X5_dyed l E _ r a f (by show MS f (σ 14); assumption) (by omega) (by omega)) ml_X5_149 mf_X5_dyed (o := 13) (ci := 5) rfl rfl rfl rfl ⟨(Nat.le_of_ble_eq_true rfl), (Nat.le_of_ble_eq_true rfl)⟩ rfl rfl rfl (Nat.le_of_ble_eq_true rfl) ⟨(Nat.le_of_ble_eq_true rfl), (Nat.le_of_ble_eq_true rfl)⟩ dX5_colourAtRank_68 (q := 71) rfl ?_
                    refine g_icmp_gt C dX5_colourAtRank_71 (by omega) (q2 := 96) rfl (q := 74) rfl (fun hb8 => ?_) (fun hb8 => ?_)
                    · skip
                      refine g_iconst C dX5_colourAtRank_96 (q := 97) rfl ?_
                      refine g_goto C dX5_colourAtRank_97 (q := 101) rfl ?_
                      refine g_iadd C dX5_colourAtRank_101 (q := 102) rfl ?_
                      refine g_istore C (L' := [(4, .int (iI (acc + 1))), (0, .ref (ea E 13)), (1, .int (iI r)), (2, .int (iI k)), (3, .int (iI a)), (5, .int (iI b))]) dX5_colourAtRank_102 (by decide) rfl (q := 104) rfl ?_
                      refine g_iinc C (L' := [(5, .int (iI (b + 1))), (4, .int (iI (acc + 1))), (0, .ref (ea E 13)), (1, .int (iI r)), (2, .int (iI k)), (3, .int (iI a))]) dX5_colourAtRank_104 5 rfl (by decide) rfl (q := 107) rfl ?_
                      refine g_goto C dX5_colourAtRank_107 (q := 49) rfl ?_
                      refine g_sub [2, 3, 4, 5, 1, 0] (L' := [(0, .ref (ea E 13)), (1, .int (iI r)), (2, .int (iI k)), (3, .int (iI a)), (4, .int (iI (acc + 1))), (5, .int (iI (b + 1)))]) rfl ?_
                      exact ih49 (acc + 1) (b + 1) (by omega) (by omega) (by first | (rw [hA, sI_cons (by omega), show rci f r a (sc f r a) b = 1 from if_pos (by omega)]; omega) | (rw [hA, sI_cons (by omega), show rci f r a (sc f r a) b = 0 from if_neg (by omega)]; omega))
                    · skip
                      refine g_aload_n C dX5_colourAtRank_74 0 rfl rfl (q := 75) rfl ?_
                      refine g_iload_n C dX5_colourAtRank_75 1 rfl rfl (q := 76) rfl ?_
                      refine g_iload C dX5_colourAtRank_76 5 rfl (q := 78) rfl ?_
                      refine g_cV_i C (As := [.int (iI r), .int (iI b)]) (c_X5_dyed l E _ r b f (by show MS f (σ 14); assumption) (by omega) (by omega)) ml_X5_149 mf_X5_dyed (o := 13) (ci := 5) rfl rfl rfl rfl ⟨(Nat.le_of_ble_eq_true rfl), (Nat.le_of_ble_eq_true rfl)⟩ rfl rfl rfl (Nat.le_of_ble_eq_true rfl) ⟨(Nat.le_of_ble_eq_true rfl), (Nat.le_of_ble_eq_true rfl)⟩ dX5_colourAtRank_78 (q := 81) rfl ?_
                      refine g_aload_n C dX5_colourAtRank_81 0 rfl rfl (q := 82) rfl ?_
                      refine g_iload_n C dX5_colourAtRank_82 1 rfl rfl (q := 83) rfl ?_
                      refine g_iload_n C dX5_colourAtRank_83 3 rfl rfl (q := 84) rfl ?_
                      refine g_cV_i C (As := [.int (iI r), .int (iI a)]) (c_X5_dyed l E _ r a f (by show MS f (σ 14); assumption) (by omega) (by omega)) ml_X5_149 mf_X5_dyed (o := 13) (ci := 5) rfl rfl rfl rfl ⟨(Nat.le_of_ble_eq_true rfl), (Nat.le_of_ble_eq_true rfl)⟩ rfl rfl rfl (Nat.le_of_ble_eq_true rfl) ⟨(Nat.le_of_ble_eq_true rfl), (Nat.le_of_ble_eq_true rfl)⟩ dX5_colourAtRank_84 (q := 87) rfl ?_
                      refine g_icmp_ne C dX5_colourAtRank_87 (by omega) (q2 := 100) rfl (q := 90) rfl (fun hb9 => ?_) (fun hb9 => ?_)
                      · skip
                        refine g_iconst C dX5_colourAtRank_100 (q := 101) rfl ?_
                        refine g_iadd C dX5_colourAtRank_101 (q := 102) rfl ?_
                        refine g_istore C (L' := [(4, .int (iI (acc + 0))), (0, .ref (ea E 13)), (1, .int (iI r)), (2, .int (iI k)), (3, .int (iI a)), (5, .int (iI b))]) dX5_colourAtRank_102 (by decide) rfl (q := 104) rfl ?_
                        refine g_iinc C (L' := [(5, .int (iI (b + 1))), (4, .int (iI (acc + 0))), (0, .ref (ea E 13)), (1, .int (iI r)), (2, .int (iI k)), (3, .int (iI a))]) dX5_colourAtRank_104 5 rfl (by decide) rfl (q := 107) rfl ?_
                        refine g_goto C dX5_colourAtRank_107 (q := 49) rfl ?_
                        refine g_sub [2, 3, 4, 5, 1, 0] (L' := [(0, .ref (ea E 13)), (1, .int (iI r)), (2, .int (iI k)), (3, .int (iI a)), (4, .int (iI (acc + 0))), (5, .int (iI (b + 1)))]) rfl ?_
                        exact ih49 (acc + 0) (b + 1) (by omega) (by omega) (by first | (rw [hA, sI_cons (by omega), show rci f r a (sc f r a) b = 1 from if_pos (by omega)]; omega) | (rw [hA, sI_cons (by omega), show rci f r a (sc f r a) b = 0 from if_neg (by omega)]; omega))
                      · skip
                        refine g_iload C dX5_colourAtRank_90 5 rfl (q := 92) rfl ?_
                        refine g_iload_n C dX5_colourAtRank_92 3 rfl rfl (q := 93) rfl ?_
                        refine g_icmp_ge C dX5_colourAtRank_93 (by omega) (q2 := 100) rfl (q := 96) rfl (fun hb10 => ?_) (fun hb10 => ?_)
                        · skip
                          refine g_iconst C dX5_colourAtRank_100 (q := 101) rfl ?_
                          refine g_iadd C dX5_colourAtRank_101 (q := 102) rfl ?_
                          refine g_istore C (L' := [(4, .int (iI (acc + 0))), (0, .ref (ea E 13)), (1, .int (iI r)), (2, .int (iI k)), (3, .int (iI a)), (5, .int (iI b))]) dX5_colourAtRank_102 (by decide) rfl (q := 104) rfl ?_
                          refine g_iinc C (L' := [(5, .int (iI (b + 1))), (4, .int (iI (acc + 0))), (0, .ref (ea E 13)), (1, .int (iI r)), (2, .int (iI k)), (3, .int (iI a))]) dX5_colourAtRank_104 5 rfl (by decide) rfl (q := 107) rfl ?_
                          refine g_goto C dX5_colourAtRank_107 (q := 49) rfl ?_
                          refine g_sub [2, 3, 4, 5, 1, 0] (L' := [(0, .ref (ea E 13)), (1, .int (iI r)), (2, .int (iI k)), (3, .int (iI a)), (4, .int (iI (acc + 0))), (5, .int (iI (b + 1)))]) rfl ?_
                          exact ih49 (acc + 0) (b + 1) (by omega) (by omega) (by first | (rw [hA, sI_cons (by omega), show rci f r a (sc f r a) b = 1 from if_pos (by omega)]; omega) | (rw [hA, sI_cons (by omega), show rci f r a (sc f r a) b = 0 from if_neg (by omega)]; omega))
                        · skip
                          refine g_iconst C dX5_colourAtRank_96 (q := 97) rfl ?_
                          refine g_goto C dX5_colourAtRank_97 (q := 101) rfl ?_
                          refine g_iadd C dX5_colourAtRank_101 (q := 102) rfl ?_
                          refine g_istore C (L' := [(4, .int (iI (acc + 1))), (0, .ref (ea E 13)), (1, .int (iI r)), (2, .int (iI k)), (3, .int (iI a)), (5, .int (iI b))]) dX5_colourAtRank_102 (by decide) rfl (q := 104) rfl ?_
                          refine g_iinc C (L' := [(5, .int (iI (b + 1))), (4, .int (iI (acc + 1))), (0, .ref (ea E 13)), (1, .int (iI r)), (2, .int (iI k)), (3, .int (iI a))]) dX5_colourAtRank_104 5 rfl (by decide) rfl (q := 107) rfl ?_
                          refine g_goto C dX5_colourAtRank_107 (q := 49) rfl ?_
                          refine g_sub [2, 3, 4, 5, 1, 0] (L' := [(0, .ref (ea E 13)), (1, .int (iI r)), (2, .int (iI k)), (3, .int (iI a)), (4, .int (iI (acc + 1))), (5, .int (iI (b + 1)))]) rfl ?_
                          exact ih49 (acc + 1) (b + 1) (by omega) (by omega) (by first | (rw [hA, sI_cons (by omega), show rci f r a (sc f r a) b = 1 from if_pos (by omega)]; omega) | (rw [hA, sI_cons (by omega), show rci f r a (sc f r a) b = 0 from if_neg (by omega)]; omega))
              exact lp49 _ 0 0 (Nat.lt_succ_self _) (by omega) (by unfold rkc; omega)
            · skip
              refine g_goto C dX5_colourAtRank_40 (q := 118) rfl ?_
              refine g_iinc C (L' := [(3, .int (iI (a + 1))), (0, .ref (ea E 13)), (1, .int (iI r)), (2, .int (iI k))]) dX5_colourAtRank_118 3 rfl (by decide) rfl (q := 121) rfl ?_
              refine g_goto C dX5_colourAtRank_121 (q := 18) rfl ?_
              refine g_sub [1, 2, 3, 0] (L' := [(0, .ref (ea E 13)), (1, .int (iI r)), (2, .int (iI k)), (3, .int (iI (a + 1)))]) rfl ?_
              exact ih18 (a + 1) (by omega) (by omega) (by rw [hR, fI_no]; unfold rcP; simp only [decide_eq_true_eq]; omega)
    exact lp18 _ 0 (Nat.lt_succ_self _) (by omega) (by rfl)
set_option maxRecDepth 100000 in
set_option maxHeartbeats 4000000 in
theorem c_X5_colourAtRank_11 (l : Launch) (E : EV) (σ : SS) (r k : Int) (f : Int → Int) (hM : MS f (σ 14)) (hr_r : -2147483648 ≤ r ∧ r ≤ 2147483647) (hr_k : -2147483648 ≤ k ∧ k ≤ 2147483647) (hF1 : fR r = 1) : Ki l yX5_colourAtRank (cw yX5_colourAtRank cX5_colourAtRank 6 (some .int)) rm_X5_colourAtRank E [.ref (ea E 13), .int (iI r), .int (iI k)] σ 0 (st σ 13 (pt (σ 13) 0 1)) := by
  refine Ki_of (rm := rm_X5_colourAtRank) (mL := 6) (b := cX5_colourAtRank) RX5 rfl (by decide +kernel) rfl rfl [(0, .ref (ea E 13)), (1, .int (iI r)), (2, .int (iI k))] rfl (Nat.le_of_ble_eq_true rfl) (fun p_ e_ s_ m_ a_ b_ h_ c_ Q A C hret => ?_)
  have hB := bR_iff r
  have hB1 := bR_01 r
  have hnr : ¬ (0 ≤ r ∧ r < 4) := by intro h9; unfold fR at hF1; rw [if_pos h9] at hF1; omega
  refine g_aload_n C dX5_colourAtRank_0 0 rfl rfl (q := 1) rfl ?_
  refine g_iload_n C dX5_colourAtRank_1 1 rfl rfl (q := 2) rfl ?_
  refine g_cS_i C (As := [.int (iI r)]) (c_X5_isReel l E _ r  (by omega)) ml_X5_58 mf_X5_isReel rfl rfl ⟨(Nat.le_of_ble_eq_true rfl), (Nat.le_of_ble_eq_true rfl)⟩ rfl rfl rfl (Nat.le_of_ble_eq_true rfl) ⟨(Nat.le_of_ble_eq_true rfl), (Nat.le_of_ble_eq_true rfl)⟩ dX5_colourAtRank_2 (q := 5) rfl ?_
  refine g_if_eq C dX5_colourAtRank_5 (by omega) (q2 := 12) rfl (q := 8) rfl (fun hb1 => ?_) (fun hb1 => ?_)
  · skip
    refine g_iconst C dX5_colourAtRank_12 (q := 13) rfl ?_
    refine gp_X5_38 C dX5_colourAtRank_13 (q := 16) rfl ?_
    refine g_iconst C dX5_colourAtRank_16 (q := 17) rfl ?_
    refine g_istore_n C (L' := [(3, .int (iI 0)), (0, .ref (ea E 13)), (1, .int (iI r)), (2, .int (iI k))]) dX5_colourAtRank_17 rfl (by decide) rfl (q := 18) rfl ?_
    refine g_aload_n C dX5_colourAtRank_18 1 rfl rfl (q := 19) rfl ?_
    refine gf_X5_38 C dX5_colourAtRank_19 (q := 22) rfl ?_
    refine g_top (b := 1) rfl ?_
    refine g_if_ne C dX5_colourAtRank_22 (by omega) (q2 := 124) rfl (q := 25) rfl (fun hb2 => ?_) (fun hb2 => ?_)
    · skip
      refine g_aload_n C dX5_colourAtRank_124 1 rfl rfl (q := 125) rfl ?_
      refine gf_X5_38 C dX5_colourAtRank_125 (q := 128) rfl ?_
      refine g_top (b := 1) rfl ?_
      refine g_if_le C dX5_colourAtRank_128 (by omega) (q2 := 135) rfl (q := 131) rfl (fun hb3 => ?_) (fun hb3 => ?_)
      · skip
        exfalso; omega
      · skip
        refine g_iconst C dX5_colourAtRank_131 (q := 132) rfl ?_
        refine g_goto C dX5_colourAtRank_132 (q := 140) rfl ?_
        exact hret _ _ _ dX5_colourAtRank_140 rfl
    · skip
      exfalso; omega
  · skip
    exfalso; omega
abbrev rm_X5_isSymmetric : Room := { frames := 2, cells := 0, slots := 0, locals := 47 }
set_option maxRecDepth 100000 in
set_option maxHeartbeats 4000000 in
theorem c_X5_isSymmetric (l : Launch) (E : EV) (σ : SS) (r : Int) (f : Int → Int) (hM : MS f (σ 14)) (hr_r : -2147483648 ≤ r ∧ r ≤ 2147483647) (hF1 : fR r = 0) : Ki l yX5_isSymmetric (cw yX5_isSymmetric cX5_isSymmetric 3 (some .boolean)) rm_X5_isSymmetric E [.ref (ea E 13), .int (iI r)] σ (bk f r) (st σ 13 (pt (σ 13) 0 0)) := by
  refine Kz_of (rm := rm_X5_isSymmetric) (mL := 3) (b := cX5_isSymmetric) RX5 rfl (by decide +kernel) rfl rfl [(0, .ref (ea E 13)), (1, .int (iI r))] rfl (Nat.le_of_ble_eq_true rfl) (fun p_ e_ s_ m_ a_ b_ h_ c_ Q A C hret => ?_)
  have hB := bR_iff r
  have hB1 := bR_01 r
  have hG1 := fR_0 hF1
  have hm_r := (hM.2.1 r (by omega)).1
  have hn_r := (hM.1 r (by omega)).1
  refine g_aload_n C dX5_isSymmetric_0 0 rfl rfl (q := 1) rfl ?_
  refine g_iload_n C dX5_isSymmetric_1 1 rfl rfl (q := 2) rfl ?_
  refine g_cS_i C (As := [.int (iI r)]) (c_X5_isReel l E _ r  (by omega)) ml_X5_58 mf_X5_isReel rfl rfl ⟨(Nat.le_of_ble_eq_true rfl), (Nat.le_of_ble_eq_true rfl)⟩ rfl rfl rfl (Nat.le_of_ble_eq_true rfl) ⟨(Nat.le_of_ble_eq_true rfl), (Nat.le_of_ble_eq_true rfl)⟩ dX5_isSymmetric_2 (q := 5) rfl ?_
  refine g_if_eq C dX5_isSymmetric_5 (by omega) (q2 := 12) rfl (q := 8) rfl (fun hb1 => ?_) (fun hb1 => ?_)
  · skip
    exfalso; omega
  · skip
    refine g_iconst C dX5_isSymmetric_8 (q := 9) rfl ?_
    refine g_goto C dX5_isSymmetric_9 (q := 13) rfl ?_
    refine gp_X5_38 C dX5_isSymmetric_13 (q := 16) rfl ?_
    refine g_iconst C dX5_isSymmetric_16 (q := 17) rfl ?_
    refine g_istore_n C (L' := [(2, .int (iI 0)), (0, .ref (ea E 13)), (1, .int (iI r))]) dX5_isSymmetric_17 rfl (by decide) rfl (q := 18) rfl ?_
    refine g_sub [1, 2, 0] (L' := [(0, .ref (ea E 13)), (1, .int (iI r)), (2, .int (iI 0))]) rfl ?_
    have lp18 : ∀ (k9 : Nat) (i : Int), (f (240 + r) - i).toNat < k9 → (0 ≤ i ∧ i ≤ f (240 + r)) → (∀ q : Int, 0 ≤ q ∧ q < i → f (r * 60 + q) = f (r * 60 + (f (240 + r) - 1 - q))) → GG p_ l e_ rm_X5_isSymmetric s_ m_ a_ b_ h_ c_ Q E A 3 (st σ 13 (pt (σ 13) 0 0)) 0 0 18 [(0, .ref (ea E 13)), (1, .int (iI r)), (2, .int (iI i))] [] := by
      intro k9
      induction k9 with
      | zero => intro i hk9; omega
      | succ k9 ih18 =>
        intro i hk9 hi hR
        refine g_aload_n C dX5_isSymmetric_18 0 rfl rfl (q := 19) rfl ?_
        refine gf_X5_38 C dX5_isSymmetric_19 (q := 22) rfl ?_
        refine g_top (b := 0) rfl ?_
        refine g_if_ne C dX5_isSymmetric_22 (by omega) (q2 := 61) rfl (q := 25) rfl (fun hb2 => ?_) (fun hb2 => ?_)
        · skip
          exfalso; omega
        · skip
          refine g_iload_n C dX5_isSymmetric_25 2 rfl rfl (q := 26) rfl ?_
          refine g_aload_n C dX5_isSymmetric_26 0 rfl rfl (q := 27) rfl ?_
          refine g_iload_n C dX5_isSymmetric_27 1 rfl rfl (q := 28) rfl ?_
          refine g_cV_i C (As := [.int (iI r)]) (c_X5_many l E _ r  (by omega)) ml_X5_62 mf_X5_many (o := 13) (ci := 5) rfl rfl rfl rfl ⟨(Nat.le_of_ble_eq_true rfl), (Nat.le_of_ble_eq_true rfl)⟩ rfl rfl rfl (Nat.le_of_ble_eq_true rfl) ⟨(Nat.le_of_ble_eq_true rfl), (Nat.le_of_ble_eq_true rfl)⟩ dX5_isSymmetric_28 (q := 31) rfl ?_
          refine g_top (b := (σ 14) (2 + 121 * r)) rfl ?_
          refine g_icmp_ge C dX5_isSymmetric_31 (by omega) (q2 := 61) rfl (q := 34) rfl (fun hb3 => ?_) (fun hb3 => ?_)
          · skip
            refine g_aload_n C dX5_isSymmetric_61 0 rfl rfl (q := 62) rfl ?_
            refine gf_X5_38 C dX5_isSymmetric_62 (q := 65) rfl ?_
            refine g_top (b := 0) rfl ?_
            refine g_if_ne C dX5_isSymmetric_65 (by omega) (q2 := 72) rfl (q := 68) rfl (fun hb4 => ?_) (fun hb4 => ?_)
            · skip
              exfalso; omega
            · skip
              refine g_iconst C dX5_isSymmetric_68 (q := 69) rfl ?_
              refine g_goto C dX5_isSymmetric_69 (q := 73) rfl ?_
              exact hret _ _ _ dX5_isSymmetric_73 (by omega) (by first | exact (bk_1 (fun q hq => hR q (by omega))).symm | exact (bk_0 (p := i) (by omega) (by omega)).symm)
          · skip
            have hE := bE_01 (f (r * 60 + i)) (f (r * 60 + (f (240 + r) - 1 - i)))
            have hE1 := bE_iff (f (r * 60 + i)) (f (r * 60 + (f (240 + r) - 1 - i)))
            refine g_aload_n C dX5_isSymmetric_34 0 rfl rfl (q := 35) rfl ?_
            refine g_iload_n C dX5_isSymmetric_35 1 rfl rfl (q := 36) rfl ?_
            refine g_iload_n C dX5_isSymmetric_36 2 rfl rfl (q := 37) rfl ?_
            refine g_iload_n C dX5_isSymmetric_37 1 rfl rfl (q := 38) rfl ?_
            refine g_aload_n C dX5_isSymmetric_38 0 rfl rfl (q := 39) rfl ?_
            refine g_iload_n C dX5_isSymmetric_39 1 rfl rfl (q := 40) rfl ?_
            refine g_cV_i C (As := [.int (iI r)]) (c_X5_many l E _ r  (by omega)) ml_X5_62 mf_X5_many (o := 13) (ci := 5) rfl rfl rfl rfl ⟨(Nat.le_of_ble_eq_true rfl), (Nat.le_of_ble_eq_true rfl)⟩ rfl rfl rfl (Nat.le_of_ble_eq_true rfl) ⟨(Nat.le_of_ble_eq_true rfl), (Nat.le_of_ble_eq_true rfl)⟩ dX5_isSymmetric_40 (q := 43) rfl ?_
            refine g_top (b := (σ 14) (2 + 121 * r)) rfl ?_
            refine g_top (b := f (240 + r)) (by exact hm_r) ?_
            refine g_iconst C dX5_isSymmetric_43 (q := 44) rfl ?_
            refine g_isub C dX5_isSymmetric_44 (q := 45) rfl ?_
            refine g_iload_n C dX5_isSymmetric_45 2 rfl rfl (q := 46) rfl ?_
            refine g_isub C dX5_isSymmetric_46 (q := 47) rfl ?_
            refine g_cV_i C (As := [.int (iI r), .int (iI i), .int (iI r), .int (iI (f (240 + r) - 1 - i))]) (c_X5_isLike l E _ r i r (f (240 + r) - 1 - i) f (by show MS f (σ 14); assumption) (by omega) (by omega) (by omega) (by omega)) ml_X5_152 mf_X5_isLike (o := 13) (ci := 5) rfl rfl rfl rfl ⟨(Nat.le_of_ble_eq_true rfl), (Nat.le_of_ble_eq_true rfl)⟩ rfl rfl rfl (Nat.le_of_ble_eq_true rfl) ⟨(Nat.le_of_ble_eq_true rfl), (Nat.le_of_ble_eq_true rfl)⟩ dX5_isSymmetric_47 (q := 50) rfl ?_
            refine g_if_ne C dX5_isSymmetric_50 (by omega) (q2 := 55) rfl (q := 53) rfl (fun hb5 => ?_) (fun hb5 => ?_)
            · skip
              refine g_iinc C (L' := [(2, .int (iI (i + 1))), (0, .ref (ea E 13)), (1, .int (iI r))]) dX5_isSymmetric_55 2 rfl (by decide) rfl (q := 58) rfl ?_
              refine g_goto C dX5_isSymmetric_58 (q := 18) rfl ?_
              refine g_sub [1, 2, 0] (L' := [(0, .ref (ea E 13)), (1, .int (iI r)), (2, .int (iI (i + 1)))]) rfl ?_
              exact ih18 (i + 1) (by omega) (by omega) (by intro q hq; (by_cases h9 : q = i; (rw [h9]; omega); exact hR q (by omega)))
            · skip
              refine g_iconst C dX5_isSymmetric_53 (q := 54) rfl ?_
              exact hret _ _ _ dX5_isSymmetric_54 (by omega) (by first | exact (bk_1 (fun q hq => hR q (by omega))).symm | exact (bk_0 (p := i) (by omega) (by omega)).symm)
    exact lp18 _ 0 (Nat.lt_succ_self _) (by omega) (by intro q hq; omega)
set_option maxRecDepth 100000 in
set_option maxHeartbeats 4000000 in
theorem c_X5_isSymmetric_11 (l : Launch) (E : EV) (σ : SS) (r : Int) (f : Int → Int) (hM : MS f (σ 14)) (hr_r : -2147483648 ≤ r ∧ r ≤ 2147483647) (hF1 : fR r = 1) : Ki l yX5_isSymmetric (cw yX5_isSymmetric cX5_isSymmetric 3 (some .boolean)) rm_X5_isSymmetric E [.ref (ea E 13), .int (iI r)] σ 0 (st σ 13 (pt (σ 13) 0 1)) := by
  refine Kz_of (rm := rm_X5_isSymmetric) (mL := 3) (b := cX5_isSymmetric) RX5 rfl (by decide +kernel) rfl rfl [(0, .ref (ea E 13)), (1, .int (iI r))] rfl (Nat.le_of_ble_eq_true rfl) (fun p_ e_ s_ m_ a_ b_ h_ c_ Q A C hret => ?_)
  have hB := bR_iff r
  have hB1 := bR_01 r
  have hnr : ¬ (0 ≤ r ∧ r < 4) := by intro h9; unfold fR at hF1; rw [if_pos h9] at hF1; omega
  refine g_aload_n C dX5_isSymmetric_0 0 rfl rfl (q := 1) rfl ?_
  refine g_iload_n C dX5_isSymmetric_1 1 rfl rfl (q := 2) rfl ?_
  refine g_cS_i C (As := [.int (iI r)]) (c_X5_isReel l E _ r  (by omega)) ml_X5_58 mf_X5_isReel rfl rfl ⟨(Nat.le_of_ble_eq_true rfl), (Nat.le_of_ble_eq_true rfl)⟩ rfl rfl rfl (Nat.le_of_ble_eq_true rfl) ⟨(Nat.le_of_ble_eq_true rfl), (Nat.le_of_ble_eq_true rfl)⟩ dX5_isSymmetric_2 (q := 5) rfl ?_
  refine g_if_eq C dX5_isSymmetric_5 (by omega) (q2 := 12) rfl (q := 8) rfl (fun hb1 => ?_) (fun hb1 => ?_)
  · skip
    refine g_iconst C dX5_isSymmetric_12 (q := 13) rfl ?_
    refine gp_X5_38 C dX5_isSymmetric_13 (q := 16) rfl ?_
    refine g_iconst C dX5_isSymmetric_16 (q := 17) rfl ?_
    refine g_istore_n C (L' := [(2, .int (iI 0)), (0, .ref (ea E 13)), (1, .int (iI r))]) dX5_isSymmetric_17 rfl (by decide) rfl (q := 18) rfl ?_
    refine g_aload_n C dX5_isSymmetric_18 1 rfl rfl (q := 19) rfl ?_
    refine gf_X5_38 C dX5_isSymmetric_19 (q := 22) rfl ?_
    refine g_top (b := 1) rfl ?_
    refine g_if_ne C dX5_isSymmetric_22 (by omega) (q2 := 61) rfl (q := 25) rfl (fun hb2 => ?_) (fun hb2 => ?_)
    · skip
      refine g_aload_n C dX5_isSymmetric_61 1 rfl rfl (q := 62) rfl ?_
      refine gf_X5_38 C dX5_isSymmetric_62 (q := 65) rfl ?_
      refine g_top (b := 1) rfl ?_
      refine g_if_ne C dX5_isSymmetric_65 (by omega) (q2 := 72) rfl (q := 68) rfl (fun hb3 => ?_) (fun hb3 => ?_)
      · skip
        refine g_iconst C dX5_isSymmetric_72 (q := 73) rfl ?_
        exact hret _ _ _ dX5_isSymmetric_73 (by omega) rfl
      · skip
        exfalso; omega
    · skip
      exfalso; omega
  · skip
    exfalso; omega
abbrev rm_X5_commonBeginning : Room := { frames := 3, cells := 0, slots := 0, locals := 70 }
set_option maxRecDepth 100000 in
set_option maxHeartbeats 4000000 in
theorem c_X5_commonBeginning (l : Launch) (E : EV) (σ : SS) (r o : Int) (f : Int → Int) (hM : MS f (σ 14)) (hr_r : -2147483648 ≤ r ∧ r ≤ 2147483647) (hr_o : -2147483648 ≤ o ∧ o ≤ 2147483647) (hF1 : fRR r o = 0) : Ki l yX5_commonBeginning (cw yX5_commonBeginning cX5_commonBeginning 3 (some .int)) rm_X5_commonBeginning E [.ref (ea E 13), .int (iI r), .int (iI o)] σ (sh f r o) (st σ 13 (pt (σ 13) 0 0)) := by
  refine Ki_of (rm := rm_X5_commonBeginning) (mL := 3) (b := cX5_commonBeginning) RX5 rfl (by decide +kernel) rfl rfl [(0, .ref (ea E 13)), (1, .int (iI r)), (2, .int (iI o))] rfl (Nat.le_of_ble_eq_true rfl) (fun p_ e_ s_ m_ a_ b_ h_ c_ Q A C hret => ?_)
  have hB := bR_iff r
  have hB1 := bR_01 r
  have hC := bR_iff o
  have hC1 := bR_01 o
  have hcs := fRR_iff r o
  refine g_aload_n C dX5_commonBeginning_0 0 rfl rfl (q := 1) rfl ?_
  refine g_iload_n C dX5_commonBeginning_1 1 rfl rfl (q := 2) rfl ?_
  refine g_cS_i C (As := [.int (iI r)]) (c_X5_isReel l E _ r  (by omega)) ml_X5_58 mf_X5_isReel rfl rfl ⟨(Nat.le_of_ble_eq_true rfl), (Nat.le_of_ble_eq_true rfl)⟩ rfl rfl rfl (Nat.le_of_ble_eq_true rfl) ⟨(Nat.le_of_ble_eq_true rfl), (Nat.le_of_ble_eq_true rfl)⟩ dX5_commonBeginning_2 (q := 5) rfl ?_
  refine g_if_eq C dX5_commonBeginning_5 (by omega) (q2 := 19) rfl (q := 8) rfl (fun hb1 => ?_) (fun hb1 => ?_)
  · skip
    exfalso; omega
  · skip
    refine g_iload_n C dX5_commonBeginning_8 2 rfl rfl (q := 9) rfl ?_
    refine g_cS_i C (As := [.int (iI o)]) (c_X5_isReel l E _ o  (by omega)) ml_X5_58 mf_X5_isReel rfl rfl ⟨(Nat.le_of_ble_eq_true rfl), (Nat.le_of_ble_eq_true rfl)⟩ rfl rfl rfl (Nat.le_of_ble_eq_true rfl) ⟨(Nat.le_of_ble_eq_true rfl), (Nat.le_of_ble_eq_true rfl)⟩ dX5_commonBeginning_9 (q := 12) rfl ?_
    refine g_if_eq C dX5_commonBeginning_12 (by omega) (q2 := 19) rfl (q := 15) rfl (fun hb2 => ?_) (fun hb2 => ?_)
    · skip
      exfalso; omega
    · skip
      refine g_iconst C dX5_commonBeginning_15 (q := 16) rfl ?_
      refine g_goto C dX5_commonBeginning_16 (q := 20) rfl ?_
      refine gp_X5_38 C dX5_commonBeginning_20 (q := 23) rfl ?_
      refine g_aload_n C dX5_commonBeginning_23 0 rfl rfl (q := 24) rfl ?_
      refine gf_X5_38 C dX5_commonBeginning_24 (q := 27) rfl ?_
      refine g_top (b := 0) rfl ?_
      refine g_if_le C dX5_commonBeginning_27 (by omega) (q2 := 34) rfl (q := 30) rfl (fun hb3 => ?_) (fun hb3 => ?_)
      · skip
        refine g_aload_n C dX5_commonBeginning_34 0 rfl rfl (q := 35) rfl ?_
        refine g_iload_n C dX5_commonBeginning_35 1 rfl rfl (q := 36) rfl ?_
        refine g_iload_n C dX5_commonBeginning_36 2 rfl rfl (q := 37) rfl ?_
        refine g_cV_i C (As := [.int (iI r), .int (iI o)]) (c_X5_alike l E _ r o f (by show MS f (σ 14); assumption) (by omega) (by omega)) ml_X5_156 mf_X5_alike (o := 13) (ci := 5) rfl rfl rfl rfl ⟨(Nat.le_of_ble_eq_true rfl), (Nat.le_of_ble_eq_true rfl)⟩ rfl rfl rfl (Nat.le_of_ble_eq_true rfl) ⟨(Nat.le_of_ble_eq_true rfl), (Nat.le_of_ble_eq_true rfl)⟩ dX5_commonBeginning_37 (q := 40) rfl ?_
        exact hret _ _ _ dX5_commonBeginning_40 rfl
      · skip
        exfalso; omega
set_option maxRecDepth 100000 in
set_option maxHeartbeats 4000000 in
theorem c_X5_commonBeginning_11 (l : Launch) (E : EV) (σ : SS) (r o : Int) (f : Int → Int) (hM : MS f (σ 14)) (hr_r : -2147483648 ≤ r ∧ r ≤ 2147483647) (hr_o : -2147483648 ≤ o ∧ o ≤ 2147483647) (hF1 : fRR r o = 1) : Ki l yX5_commonBeginning (cw yX5_commonBeginning cX5_commonBeginning 3 (some .int)) rm_X5_commonBeginning E [.ref (ea E 13), .int (iI r), .int (iI o)] σ 0 (st σ 13 (pt (σ 13) 0 1)) := by
  refine Ki_of (rm := rm_X5_commonBeginning) (mL := 3) (b := cX5_commonBeginning) RX5 rfl (by decide +kernel) rfl rfl [(0, .ref (ea E 13)), (1, .int (iI r)), (2, .int (iI o))] rfl (Nat.le_of_ble_eq_true rfl) (fun p_ e_ s_ m_ a_ b_ h_ c_ Q A C hret => ?_)
  have hB := bR_iff r
  have hB1 := bR_01 r
  have hC := bR_iff o
  have hC1 := bR_01 o
  have hcs := fRR_iff r o
  refine g_aload_n C dX5_commonBeginning_0 0 rfl rfl (q := 1) rfl ?_
  refine g_iload_n C dX5_commonBeginning_1 1 rfl rfl (q := 2) rfl ?_
  refine g_cS_i C (As := [.int (iI r)]) (c_X5_isReel l E _ r  (by omega)) ml_X5_58 mf_X5_isReel rfl rfl ⟨(Nat.le_of_ble_eq_true rfl), (Nat.le_of_ble_eq_true rfl)⟩ rfl rfl rfl (Nat.le_of_ble_eq_true rfl) ⟨(Nat.le_of_ble_eq_true rfl), (Nat.le_of_ble_eq_true rfl)⟩ dX5_commonBeginning_2 (q := 5) rfl ?_
  refine g_if_eq C dX5_commonBeginning_5 (by omega) (q2 := 19) rfl (q := 8) rfl (fun hb1 => ?_) (fun hb1 => ?_)
  · skip
    refine g_iconst C dX5_commonBeginning_19 (q := 20) rfl ?_
    refine gp_X5_38 C dX5_commonBeginning_20 (q := 23) rfl ?_
    refine g_aload_n C dX5_commonBeginning_23 0 rfl rfl (q := 24) rfl ?_
    refine gf_X5_38 C dX5_commonBeginning_24 (q := 27) rfl ?_
    refine g_top (b := 1) rfl ?_
    refine g_if_le C dX5_commonBeginning_27 (by omega) (q2 := 34) rfl (q := 30) rfl (fun hb2 => ?_) (fun hb2 => ?_)
    · skip
      exfalso; omega
    · skip
      refine g_iconst C dX5_commonBeginning_30 (q := 31) rfl ?_
      refine g_goto C dX5_commonBeginning_31 (q := 40) rfl ?_
      exact hret _ _ _ dX5_commonBeginning_40 rfl
  · skip
    refine g_iload_n C dX5_commonBeginning_8 2 rfl rfl (q := 9) rfl ?_
    refine g_cS_i C (As := [.int (iI o)]) (c_X5_isReel l E _ o  (by omega)) ml_X5_58 mf_X5_isReel rfl rfl ⟨(Nat.le_of_ble_eq_true rfl), (Nat.le_of_ble_eq_true rfl)⟩ rfl rfl rfl (Nat.le_of_ble_eq_true rfl) ⟨(Nat.le_of_ble_eq_true rfl), (Nat.le_of_ble_eq_true rfl)⟩ dX5_commonBeginning_9 (q := 12) rfl ?_
    refine g_if_eq C dX5_commonBeginning_12 (by omega) (q2 := 19) rfl (q := 15) rfl (fun hb3 => ?_) (fun hb3 => ?_)
    · skip
      refine g_iconst C dX5_commonBeginning_19 (q := 20) rfl ?_
      refine gp_X5_38 C dX5_commonBeginning_20 (q := 23) rfl ?_
      refine g_aload_n C dX5_commonBeginning_23 0 rfl rfl (q := 24) rfl ?_
      refine gf_X5_38 C dX5_commonBeginning_24 (q := 27) rfl ?_
      refine g_top (b := 1) rfl ?_
      refine g_if_le C dX5_commonBeginning_27 (by omega) (q2 := 34) rfl (q := 30) rfl (fun hb4 => ?_) (fun hb4 => ?_)
      · skip
        exfalso; omega
      · skip
        refine g_iconst C dX5_commonBeginning_30 (q := 31) rfl ?_
        refine g_goto C dX5_commonBeginning_31 (q := 40) rfl ?_
        exact hret _ _ _ dX5_commonBeginning_40 rfl
    · skip
      exfalso; omega
abbrev rm_X5_areEqual : Room := { frames := 3, cells := 0, slots := 0, locals := 70 }
set_option maxRecDepth 100000 in
set_option maxHeartbeats 4000000 in
theorem c_X5_areEqual (l : Launch) (E : EV) (σ : SS) (r o : Int) (f : Int → Int) (hM : MS f (σ 14)) (hr_r : -2147483648 ≤ r ∧ r ≤ 2147483647) (hr_o : -2147483648 ≤ o ∧ o ≤ 2147483647) (hF1 : fRR r o = 0) : Ki l yX5_areEqual (cw yX5_areEqual cX5_areEqual 3 (some .boolean)) rm_X5_areEqual E [.ref (ea E 13), .int (iI r), .int (iI o)] σ (eqR f r o) (st σ 13 (pt (σ 13) 0 0)) := by
  refine Kz_of (rm := rm_X5_areEqual) (mL := 3) (b := cX5_areEqual) RX5 rfl (by decide +kernel) rfl rfl [(0, .ref (ea E 13)), (1, .int (iI r)), (2, .int (iI o))] rfl (Nat.le_of_ble_eq_true rfl) (fun p_ e_ s_ m_ a_ b_ h_ c_ Q A C hret => ?_)
  have hB := bR_iff r
  have hB1 := bR_01 r
  have hC := bR_iff o
  have hC1 := bR_01 o
  have hcs := fRR_iff r o
  have hm_r := (hM.2.1 r (by omega)).1
  have hn_r := (hM.1 r (by omega)).1
  have hm_o := (hM.2.1 o (by omega)).1
  have hn_o := (hM.1 o (by omega)).1
  have hg := sh_rg hM.1 (r := r) (o := o) (by omega) (by omega)
  refine g_aload_n C dX5_areEqual_0 0 rfl rfl (q := 1) rfl ?_
  refine g_iload_n C dX5_areEqual_1 1 rfl rfl (q := 2) rfl ?_
  refine g_cS_i C (As := [.int (iI r)]) (c_X5_isReel l E _ r  (by omega)) ml_X5_58 mf_X5_isReel rfl rfl ⟨(Nat.le_of_ble_eq_true rfl), (Nat.le_of_ble_eq_true rfl)⟩ rfl rfl rfl (Nat.le_of_ble_eq_true rfl) ⟨(Nat.le_of_ble_eq_true rfl), (Nat.le_of_ble_eq_true rfl)⟩ dX5_areEqual_2 (q := 5) rfl ?_
  refine g_if_eq C dX5_areEqual_5 (by omega) (q2 := 19) rfl (q := 8) rfl (fun hb1 => ?_) (fun hb1 => ?_)
  · skip
    exfalso; omega
  · skip
    refine g_iload_n C dX5_areEqual_8 2 rfl rfl (q := 9) rfl ?_
    refine g_cS_i C (As := [.int (iI o)]) (c_X5_isReel l E _ o  (by omega)) ml_X5_58 mf_X5_isReel rfl rfl ⟨(Nat.le_of_ble_eq_true rfl), (Nat.le_of_ble_eq_true rfl)⟩ rfl rfl rfl (Nat.le_of_ble_eq_true rfl) ⟨(Nat.le_of_ble_eq_true rfl), (Nat.le_of_ble_eq_true rfl)⟩ dX5_areEqual_9 (q := 12) rfl ?_
    refine g_if_eq C dX5_areEqual_12 (by omega) (q2 := 19) rfl (q := 15) rfl (fun hb2 => ?_) (fun hb2 => ?_)
    · skip
      exfalso; omega
    · skip
      refine g_iconst C dX5_areEqual_15 (q := 16) rfl ?_
      refine g_goto C dX5_areEqual_16 (q := 20) rfl ?_
      refine gp_X5_38 C dX5_areEqual_20 (q := 23) rfl ?_
      refine g_aload_n C dX5_areEqual_23 0 rfl rfl (q := 24) rfl ?_
      refine gf_X5_38 C dX5_areEqual_24 (q := 27) rfl ?_
      refine g_top (b := 0) rfl ?_
      refine g_if_ne C dX5_areEqual_27 (by omega) (q2 := 61) rfl (q := 30) rfl (fun hb3 => ?_) (fun hb3 => ?_)
      · skip
        exfalso; omega
      · skip
        refine g_aload_n C dX5_areEqual_30 0 rfl rfl (q := 31) rfl ?_
        refine g_iload_n C dX5_areEqual_31 1 rfl rfl (q := 32) rfl ?_
        refine g_cV_i C (As := [.int (iI r)]) (c_X5_many l E _ r  (by omega)) ml_X5_62 mf_X5_many (o := 13) (ci := 5) rfl rfl rfl rfl ⟨(Nat.le_of_ble_eq_true rfl), (Nat.le_of_ble_eq_true rfl)⟩ rfl rfl rfl (Nat.le_of_ble_eq_true rfl) ⟨(Nat.le_of_ble_eq_true rfl), (Nat.le_of_ble_eq_true rfl)⟩ dX5_areEqual_32 (q := 35) rfl ?_
        refine g_top (b := (σ 14) (2 + 121 * r)) rfl ?_
        refine g_aload_n C dX5_areEqual_35 0 rfl rfl (q := 36) rfl ?_
        refine g_iload_n C dX5_areEqual_36 2 rfl rfl (q := 37) rfl ?_
        refine g_cV_i C (As := [.int (iI o)]) (c_X5_many l E _ o  (by omega)) ml_X5_62 mf_X5_many (o := 13) (ci := 5) rfl rfl rfl rfl ⟨(Nat.le_of_ble_eq_true rfl), (Nat.le_of_ble_eq_true rfl)⟩ rfl rfl rfl (Nat.le_of_ble_eq_true rfl) ⟨(Nat.le_of_ble_eq_true rfl), (Nat.le_of_ble_eq_true rfl)⟩ dX5_areEqual_37 (q := 40) rfl ?_
        refine g_top (b := (σ 14) (2 + 121 * o)) rfl ?_
        refine g_icmp_ne C dX5_areEqual_40 (by omega) (q2 := 61) rfl (q := 43) rfl (fun hb4 => ?_) (fun hb4 => ?_)
        · skip
          refine g_iconst C dX5_areEqual_61 (q := 62) rfl ?_
          exact hret _ _ _ dX5_areEqual_62 (by omega) (by unfold eqR; first | rw [if_pos (by omega)] | rw [if_neg (by omega)])
        · skip
          refine g_aload_n C dX5_areEqual_43 0 rfl rfl (q := 44) rfl ?_
          refine g_iload_n C dX5_areEqual_44 1 rfl rfl (q := 45) rfl ?_
          refine g_iload_n C dX5_areEqual_45 2 rfl rfl (q := 46) rfl ?_
          refine g_cV_i C (As := [.int (iI r), .int (iI o)]) (c_X5_alike l E _ r o f (by show MS f (σ 14); assumption) (by omega) (by omega)) ml_X5_156 mf_X5_alike (o := 13) (ci := 5) rfl rfl rfl rfl ⟨(Nat.le_of_ble_eq_true rfl), (Nat.le_of_ble_eq_true rfl)⟩ rfl rfl rfl (Nat.le_of_ble_eq_true rfl) ⟨(Nat.le_of_ble_eq_true rfl), (Nat.le_of_ble_eq_true rfl)⟩ dX5_areEqual_46 (q := 49) rfl ?_
          refine g_aload_n C dX5_areEqual_49 0 rfl rfl (q := 50) rfl ?_
          refine g_iload_n C dX5_areEqual_50 1 rfl rfl (q := 51) rfl ?_
          refine g_cV_i C (As := [.int (iI r)]) (c_X5_many l E _ r  (by omega)) ml_X5_62 mf_X5_many (o := 13) (ci := 5) rfl rfl rfl rfl ⟨(Nat.le_of_ble_eq_true rfl), (Nat.le_of_ble_eq_true rfl)⟩ rfl rfl rfl (Nat.le_of_ble_eq_true rfl) ⟨(Nat.le_of_ble_eq_true rfl), (Nat.le_of_ble_eq_true rfl)⟩ dX5_areEqual_51 (q := 54) rfl ?_
          refine g_top (b := (σ 14) (2 + 121 * r)) rfl ?_
          refine g_icmp_ne C dX5_areEqual_54 (by omega) (q2 := 61) rfl (q := 57) rfl (fun hb5 => ?_) (fun hb5 => ?_)
          · skip
            refine g_iconst C dX5_areEqual_61 (q := 62) rfl ?_
            exact hret _ _ _ dX5_areEqual_62 (by omega) (by unfold eqR; first | rw [if_pos (by omega)] | rw [if_neg (by omega)])
          · skip
            refine g_iconst C dX5_areEqual_57 (q := 58) rfl ?_
            refine g_goto C dX5_areEqual_58 (q := 62) rfl ?_
            exact hret _ _ _ dX5_areEqual_62 (by omega) (by unfold eqR; first | rw [if_pos (by omega)] | rw [if_neg (by omega)])
set_option maxRecDepth 100000 in
set_option maxHeartbeats 4000000 in
theorem c_X5_areEqual_11 (l : Launch) (E : EV) (σ : SS) (r o : Int) (f : Int → Int) (hM : MS f (σ 14)) (hr_r : -2147483648 ≤ r ∧ r ≤ 2147483647) (hr_o : -2147483648 ≤ o ∧ o ≤ 2147483647) (hF1 : fRR r o = 1) : Ki l yX5_areEqual (cw yX5_areEqual cX5_areEqual 3 (some .boolean)) rm_X5_areEqual E [.ref (ea E 13), .int (iI r), .int (iI o)] σ 0 (st σ 13 (pt (σ 13) 0 1)) := by
  refine Kz_of (rm := rm_X5_areEqual) (mL := 3) (b := cX5_areEqual) RX5 rfl (by decide +kernel) rfl rfl [(0, .ref (ea E 13)), (1, .int (iI r)), (2, .int (iI o))] rfl (Nat.le_of_ble_eq_true rfl) (fun p_ e_ s_ m_ a_ b_ h_ c_ Q A C hret => ?_)
  have hB := bR_iff r
  have hB1 := bR_01 r
  have hC := bR_iff o
  have hC1 := bR_01 o
  have hcs := fRR_iff r o
  refine g_aload_n C dX5_areEqual_0 0 rfl rfl (q := 1) rfl ?_
  refine g_iload_n C dX5_areEqual_1 1 rfl rfl (q := 2) rfl ?_
  refine g_cS_i C (As := [.int (iI r)]) (c_X5_isReel l E _ r  (by omega)) ml_X5_58 mf_X5_isReel rfl rfl ⟨(Nat.le_of_ble_eq_true rfl), (Nat.le_of_ble_eq_true rfl)⟩ rfl rfl rfl (Nat.le_of_ble_eq_true rfl) ⟨(Nat.le_of_ble_eq_true rfl), (Nat.le_of_ble_eq_true rfl)⟩ dX5_areEqual_2 (q := 5) rfl ?_
  refine g_if_eq C dX5_areEqual_5 (by omega) (q2 := 19) rfl (q := 8) rfl (fun hb1 => ?_) (fun hb1 => ?_)
  · skip
    refine g_iconst C dX5_areEqual_19 (q := 20) rfl ?_
    refine gp_X5_38 C dX5_areEqual_20 (q := 23) rfl ?_
    refine g_aload_n C dX5_areEqual_23 0 rfl rfl (q := 24) rfl ?_
    refine gf_X5_38 C dX5_areEqual_24 (q := 27) rfl ?_
    refine g_top (b := 1) rfl ?_
    refine g_if_ne C dX5_areEqual_27 (by omega) (q2 := 61) rfl (q := 30) rfl (fun hb2 => ?_) (fun hb2 => ?_)
    · skip
      refine g_iconst C dX5_areEqual_61 (q := 62) rfl ?_
      exact hret _ _ _ dX5_areEqual_62 (by omega) rfl
    · skip
      exfalso; omega
  · skip
    refine g_iload_n C dX5_areEqual_8 2 rfl rfl (q := 9) rfl ?_
    refine g_cS_i C (As := [.int (iI o)]) (c_X5_isReel l E _ o  (by omega)) ml_X5_58 mf_X5_isReel rfl rfl ⟨(Nat.le_of_ble_eq_true rfl), (Nat.le_of_ble_eq_true rfl)⟩ rfl rfl rfl (Nat.le_of_ble_eq_true rfl) ⟨(Nat.le_of_ble_eq_true rfl), (Nat.le_of_ble_eq_true rfl)⟩ dX5_areEqual_9 (q := 12) rfl ?_
    refine g_if_eq C dX5_areEqual_12 (by omega) (q2 := 19) rfl (q := 15) rfl (fun hb3 => ?_) (fun hb3 => ?_)
    · skip
      refine g_iconst C dX5_areEqual_19 (q := 20) rfl ?_
      refine gp_X5_38 C dX5_areEqual_20 (q := 23) rfl ?_
      refine g_aload_n C dX5_areEqual_23 0 rfl rfl (q := 24) rfl ?_
      refine gf_X5_38 C dX5_areEqual_24 (q := 27) rfl ?_
      refine g_top (b := 1) rfl ?_
      refine g_if_ne C dX5_areEqual_27 (by omega) (q2 := 61) rfl (q := 30) rfl (fun hb4 => ?_) (fun hb4 => ?_)
      · skip
        refine g_iconst C dX5_areEqual_61 (q := 62) rfl ?_
        exact hret _ _ _ dX5_areEqual_62 (by omega) rfl
      · skip
        exfalso; omega
    · skip
      exfalso; omega
abbrev rm_X5_type : Room := { frames := 1, cells := 0, slots := 0, locals := 22 }
set_option maxRecDepth 100000 in
set_option maxHeartbeats 4000000 in
theorem c_X5_type (l : Launch) (E : EV) (σ : SS) (c : Int) (hc : 32 ≤ c ∧ c ≤ 126) (hn : 0 ≤ (σ 13 10) ∧ (σ 13 10) < 60) : Ki l yX5_type (cw yX5_type cX5_type 2 (some .int)) rm_X5_type E [.ref (ea E 13), .int (iI c)] σ ((σ 13 10) + 1) (st (st σ 13 (pt (pt (σ 13) 0 0) 10 ((σ 13 10) + 1))) 18 (pt (σ 18) (σ 13 10) c)) := by
  refine Ki_of (rm := rm_X5_type) (mL := 2) (b := cX5_type) RX5 rfl (by decide +kernel) rfl rfl [(0, .ref (ea E 13)), (1, .int (iI c))] rfl (Nat.le_of_ble_eq_true rfl) (fun p_ e_ s_ m_ a_ b_ h_ c_ Q A C hret => ?_)
  have hI := bI_01 c 32 126
  have hI1 := bI_iff c 32 126
  refine g_aload_n C dX5_type_0 0 rfl rfl (q := 1) rfl ?_
  refine g_iload_n C dX5_type_1 1 rfl rfl (q := 2) rfl ?_
  refine g_bipush C dX5_type_2 (by decide) (q := 4) rfl ?_
  refine g_bipush C dX5_type_4 (by decide) (q := 6) rfl ?_
  refine g_cS_i C (As := [.int (iI c), .int (iI 32), .int (iI 126)]) (c_X5_in l E _ c 32 126  (by omega) (by omega) (by omega)) ml_X5_54 mf_X5_in rfl rfl ⟨(Nat.le_of_ble_eq_true rfl), (Nat.le_of_ble_eq_true rfl)⟩ rfl rfl rfl (Nat.le_of_ble_eq_true rfl) ⟨(Nat.le_of_ble_eq_true rfl), (Nat.le_of_ble_eq_true rfl)⟩ dX5_type_6 (q := 9) rfl ?_
  refine g_if_ne C dX5_type_9 (by omega) (q2 := 16) rfl (q := 12) rfl (fun hb1 => ?_) (fun hb1 => ?_)
  · skip
    refine g_aload_n C dX5_type_16 0 rfl rfl (q := 17) rfl ?_
    refine gf_X5_159 C dX5_type_17 (q := 20) rfl ?_
    refine g_bipush C dX5_type_20 (by decide) (q := 22) rfl ?_
    refine g_icmp_ne C dX5_type_22 (by omega) (q2 := 29) rfl (q := 25) rfl (fun hb2 => ?_) (fun hb2 => ?_)
    · skip
      refine g_iconst C dX5_type_29 (q := 30) rfl ?_
      refine gp_X5_38 C dX5_type_30 (q := 33) rfl ?_
      refine g_aload_n C dX5_type_33 0 rfl rfl (q := 34) rfl ?_
      refine gf_X5_38 C dX5_type_34 (q := 37) rfl ?_
      refine g_top (b := 0) rfl ?_
      refine g_if_le C dX5_type_37 (by omega) (q2 := 42) rfl (q := 40) rfl (fun hb3 => ?_) (fun hb3 => ?_)
      · skip
        refine g_aload_n C dX5_type_42 0 rfl rfl (q := 43) rfl ?_
        refine gf_X5_22 C dX5_type_43 (q := 46) rfl ?_
        refine g_aload_n C dX5_type_46 0 rfl rfl (q := 47) rfl ?_
        refine gf_X5_159 C dX5_type_47 (q := 50) rfl ?_
        refine g_top (b := (σ 13 10)) rfl ?_
        refine g_iload_n C dX5_type_50 1 rfl rfl (q := 51) rfl ?_
        refine gs_18 C (by omega) dX5_type_51 (q := 52) rfl ?_
        refine g_st (σ2 := (st (st σ 13 (pt (σ 13) 0 0)) 18 (pt (σ 18) (σ 13 10) c))) rfl ?_
        refine g_aload_n C dX5_type_52 0 rfl rfl (q := 53) rfl ?_
        refine g_dup C dX5_type_53 rfl (q := 54) rfl ?_
        refine gf_X5_159 C dX5_type_54 (q := 57) rfl ?_
        refine g_top (b := (σ 13 10)) rfl ?_
        refine g_iconst C dX5_type_57 (q := 58) rfl ?_
        refine g_iadd C dX5_type_58 (q := 59) rfl ?_
        refine gp_X5_159 C dX5_type_59 (q := 62) rfl ?_
        refine g_st (σ2 := (st (st σ 13 (pt (pt (σ 13) 0 0) 10 ((σ 13 10) + 1))) 18 (pt (σ 18) (σ 13 10) c))) ((st_cm (st σ 13 (pt (σ 13) 0 0)) (o := 18) (q := 13) (pt (σ 18) (σ 13 10) c) (pt (pt (σ 13) 0 0) 10 ((σ 13 10) + 1)) (by decide)).trans (congrArg (fun g9 => st g9 18 (pt (σ 18) (σ 13 10) c)) (st_st _ _ _ _))) ?_
        refine g_aload_n C dX5_type_62 0 rfl rfl (q := 63) rfl ?_
        refine gf_X5_159 C dX5_type_63 (q := 66) rfl ?_
        refine g_top (b := (σ 13 10) + 1) rfl ?_
        exact hret _ _ _ dX5_type_66 rfl
      · skip
        exfalso; omega
    · skip
      exfalso; omega
  · skip
    exfalso; omega
set_option maxRecDepth 100000 in
set_option maxHeartbeats 4000000 in
theorem c_X5_type_1 (l : Launch) (E : EV) (σ : SS) (c : Int) (hc : 0 ≤ c ∧ c < 65536) (hb : ¬ (32 ≤ c ∧ c ≤ 126)) : Ki l yX5_type (cw yX5_type cX5_type 2 (some .int)) rm_X5_type E [.ref (ea E 13), .int (iI c)] σ 0 (st σ 13 (pt (σ 13) 0 1)) := by
  refine Ki_of (rm := rm_X5_type) (mL := 2) (b := cX5_type) RX5 rfl (by decide +kernel) rfl rfl [(0, .ref (ea E 13)), (1, .int (iI c))] rfl (Nat.le_of_ble_eq_true rfl) (fun p_ e_ s_ m_ a_ b_ h_ c_ Q A C hret => ?_)
  have hI := bI_01 c 32 126
  have hI1 := bI_iff c 32 126
  refine g_aload_n C dX5_type_0 0 rfl rfl (q := 1) rfl ?_
  refine g_iload_n C dX5_type_1 1 rfl rfl (q := 2) rfl ?_
  refine g_bipush C dX5_type_2 (by decide) (q := 4) rfl ?_
  refine g_bipush C dX5_type_4 (by decide) (q := 6) rfl ?_
  refine g_cS_i C (As := [.int (iI c), .int (iI 32), .int (iI 126)]) (c_X5_in l E _ c 32 126  (by omega) (by omega) (by omega)) ml_X5_54 mf_X5_in rfl rfl ⟨(Nat.le_of_ble_eq_true rfl), (Nat.le_of_ble_eq_true rfl)⟩ rfl rfl rfl (Nat.le_of_ble_eq_true rfl) ⟨(Nat.le_of_ble_eq_true rfl), (Nat.le_of_ble_eq_true rfl)⟩ dX5_type_6 (q := 9) rfl ?_
  refine g_if_ne C dX5_type_9 (by omega) (q2 := 16) rfl (q := 12) rfl (fun hb1 => ?_) (fun hb1 => ?_)
  · skip
    exfalso; omega
  · skip
    refine g_iconst C dX5_type_12 (q := 13) rfl ?_
    refine g_goto C dX5_type_13 (q := 30) rfl ?_
    refine gp_X5_38 C dX5_type_30 (q := 33) rfl ?_
    refine g_aload_n C dX5_type_33 0 rfl rfl (q := 34) rfl ?_
    refine gf_X5_38 C dX5_type_34 (q := 37) rfl ?_
    refine g_top (b := 1) rfl ?_
    refine g_if_le C dX5_type_37 (by omega) (q2 := 42) rfl (q := 40) rfl (fun hb2 => ?_) (fun hb2 => ?_)
    · skip
      exfalso; omega
    · skip
      refine g_iconst C dX5_type_40 (q := 41) rfl ?_
      exact hret _ _ _ dX5_type_41 rfl
set_option maxRecDepth 100000 in
set_option maxHeartbeats 4000000 in
theorem c_X5_type_2 (l : Launch) (E : EV) (σ : SS) (c : Int) (hc : 32 ≤ c ∧ c ≤ 126) (hn : (σ 13 10) = 60) : Ki l yX5_type (cw yX5_type cX5_type 2 (some .int)) rm_X5_type E [.ref (ea E 13), .int (iI c)] σ 0 (st σ 13 (pt (σ 13) 0 2)) := by
  refine Ki_of (rm := rm_X5_type) (mL := 2) (b := cX5_type) RX5 rfl (by decide +kernel) rfl rfl [(0, .ref (ea E 13)), (1, .int (iI c))] rfl (Nat.le_of_ble_eq_true rfl) (fun p_ e_ s_ m_ a_ b_ h_ c_ Q A C hret => ?_)
  have hI := bI_01 c 32 126
  have hI1 := bI_iff c 32 126
  refine g_aload_n C dX5_type_0 0 rfl rfl (q := 1) rfl ?_
  refine g_iload_n C dX5_type_1 1 rfl rfl (q := 2) rfl ?_
  refine g_bipush C dX5_type_2 (by decide) (q := 4) rfl ?_
  refine g_bipush C dX5_type_4 (by decide) (q := 6) rfl ?_
  refine g_cS_i C (As := [.int (iI c), .int (iI 32), .int (iI 126)]) (c_X5_in l E _ c 32 126  (by omega) (by omega) (by omega)) ml_X5_54 mf_X5_in rfl rfl ⟨(Nat.le_of_ble_eq_true rfl), (Nat.le_of_ble_eq_true rfl)⟩ rfl rfl rfl (Nat.le_of_ble_eq_true rfl) ⟨(Nat.le_of_ble_eq_true rfl), (Nat.le_of_ble_eq_true rfl)⟩ dX5_type_6 (q := 9) rfl ?_
  refine g_if_ne C dX5_type_9 (by omega) (q2 := 16) rfl (q := 12) rfl (fun hb1 => ?_) (fun hb1 => ?_)
  · skip
    refine g_aload_n C dX5_type_16 0 rfl rfl (q := 17) rfl ?_
    refine gf_X5_159 C dX5_type_17 (q := 20) rfl ?_
    refine g_bipush C dX5_type_20 (by decide) (q := 22) rfl ?_
    refine g_icmp_ne C dX5_type_22 (by omega) (q2 := 29) rfl (q := 25) rfl (fun hb2 => ?_) (fun hb2 => ?_)
    · skip
      exfalso; omega
    · skip
      refine g_iconst C dX5_type_25 (q := 26) rfl ?_
      refine g_goto C dX5_type_26 (q := 30) rfl ?_
      refine gp_X5_38 C dX5_type_30 (q := 33) rfl ?_
      refine g_aload_n C dX5_type_33 0 rfl rfl (q := 34) rfl ?_
      refine gf_X5_38 C dX5_type_34 (q := 37) rfl ?_
      refine g_top (b := 2) rfl ?_
      refine g_if_le C dX5_type_37 (by omega) (q2 := 42) rfl (q := 40) rfl (fun hb3 => ?_) (fun hb3 => ?_)
      · skip
        exfalso; omega
      · skip
        refine g_iconst C dX5_type_40 (q := 41) rfl ?_
        exact hret _ _ _ dX5_type_41 rfl
  · skip
    exfalso; omega
abbrev rm_X5_errorPosition : Room := { frames := 1, cells := 0, slots := 0, locals := 21 }
set_option maxRecDepth 100000 in
set_option maxHeartbeats 4000000 in
theorem c_X5_errorPosition (l : Launch) (E : EV) (σ : SS) (hi : -2147483648 ≤ (σ 13 12) ∧ (σ 13 12) ≤ 2147483647) (hne : (σ 13 12) ≠ -1) : Ki l yX5_errorPosition (cw yX5_errorPosition cX5_errorPosition 1 (some .int)) rm_X5_errorPosition E [.ref (ea E 13)] σ (σ 13 12) (st σ 13 (pt (σ 13) 0 0)) := by
  refine Ki_of (rm := rm_X5_errorPosition) (mL := 1) (b := cX5_errorPosition) RX5 rfl (by decide +kernel) rfl rfl [(0, .ref (ea E 13))] rfl (Nat.le_of_ble_eq_true rfl) (fun p_ e_ s_ m_ a_ b_ h_ c_ Q A C hret => ?_)
  refine g_aload_n C dX5_errorPosition_0 0 rfl rfl (q := 1) rfl ?_
  refine g_iconst C dX5_errorPosition_1 (q := 2) rfl ?_
  refine gp_X5_38 C dX5_errorPosition_2 (q := 5) rfl ?_
  refine g_aload_n C dX5_errorPosition_5 0 rfl rfl (q := 6) rfl ?_
  refine gf_X5_31 C dX5_errorPosition_6 (q := 9) rfl ?_
  refine g_top (b := (σ 13 12)) rfl ?_
  refine g_iconst C dX5_errorPosition_9 (q := 10) rfl ?_
  refine g_icmp_ne C dX5_errorPosition_10 (by omega) (q2 := 21) rfl (q := 13) rfl (fun hb1 => ?_) (fun hb1 => ?_)
  · skip
    refine g_aload_n C dX5_errorPosition_21 0 rfl rfl (q := 22) rfl ?_
    refine gf_X5_31 C dX5_errorPosition_22 (q := 25) rfl ?_
    refine g_top (b := (σ 13 12)) rfl ?_
    exact hret _ _ _ dX5_errorPosition_25 rfl
  · skip
    exfalso; omega
set_option maxRecDepth 100000 in
set_option maxHeartbeats 4000000 in
theorem c_X5_errorPosition_n (l : Launch) (E : EV) (σ : SS) (hne : (σ 13 12) = -1) : Ki l yX5_errorPosition (cw yX5_errorPosition cX5_errorPosition 1 (some .int)) rm_X5_errorPosition E [.ref (ea E 13)] σ 0 (st σ 13 (pt (σ 13) 0 1)) := by
  refine Ki_of (rm := rm_X5_errorPosition) (mL := 1) (b := cX5_errorPosition) RX5 rfl (by decide +kernel) rfl rfl [(0, .ref (ea E 13))] rfl (Nat.le_of_ble_eq_true rfl) (fun p_ e_ s_ m_ a_ b_ h_ c_ Q A C hret => ?_)
  refine g_aload_n C dX5_errorPosition_0 0 rfl rfl (q := 1) rfl ?_
  refine g_iconst C dX5_errorPosition_1 (q := 2) rfl ?_
  refine gp_X5_38 C dX5_errorPosition_2 (q := 5) rfl ?_
  refine g_aload_n C dX5_errorPosition_5 0 rfl rfl (q := 6) rfl ?_
  refine gf_X5_31 C dX5_errorPosition_6 (q := 9) rfl ?_
  refine g_top (b := (σ 13 12)) rfl ?_
  refine g_iconst C dX5_errorPosition_9 (q := 10) rfl ?_
  refine g_icmp_ne C dX5_errorPosition_10 (by omega) (q2 := 21) rfl (q := 13) rfl (fun hb1 => ?_) (fun hb1 => ?_)
  · skip
    exfalso; omega
  · skip
    refine g_aload_n C dX5_errorPosition_13 0 rfl rfl (q := 14) rfl ?_
    refine g_iconst C dX5_errorPosition_14 (q := 15) rfl ?_
    refine g_cV_i C (As := [.int (iI 1)]) (c_X5_fails l E _ 1) ml_X5_51 mf_X5_fails (o := 13) (ci := 5) rfl rfl rfl rfl ⟨(Nat.le_of_ble_eq_true rfl), (Nat.le_of_ble_eq_true rfl)⟩ rfl rfl rfl (Nat.le_of_ble_eq_true rfl) ⟨(Nat.le_of_ble_eq_true rfl), (Nat.le_of_ble_eq_true rfl)⟩ dX5_errorPosition_15 (q := 18) rfl ?_
    refine g_st (σ2 := (st σ 13 (pt (σ 13) 0 1))) ((congrArg (st (st σ 13 (pt (σ 13) 0 0)) 13) (pt_pt _ _ _ _)).trans (st_st _ _ _ _)) ?_
    refine g_goto C dX5_errorPosition_18 (q := 25) rfl ?_
    exact hret _ _ _ dX5_errorPosition_25 rfl
abbrev rm_X5_failedCommand : Room := { frames := 1, cells := 0, slots := 0, locals := 21 }
set_option maxRecDepth 100000 in
set_option maxHeartbeats 4000000 in
theorem c_X5_failedCommand (l : Launch) (E : EV) (σ : SS) (hi : -2147483648 ≤ (σ 13 13) ∧ (σ 13 13) ≤ 2147483647) (hne : (σ 13 13) ≠ -1) : Ki l yX5_failedCommand (cw yX5_failedCommand cX5_failedCommand 1 (some .int)) rm_X5_failedCommand E [.ref (ea E 13)] σ (σ 13 13) (st σ 13 (pt (σ 13) 0 0)) := by
  refine Ki_of (rm := rm_X5_failedCommand) (mL := 1) (b := cX5_failedCommand) RX5 rfl (by decide +kernel) rfl rfl [(0, .ref (ea E 13))] rfl (Nat.le_of_ble_eq_true rfl) (fun p_ e_ s_ m_ a_ b_ h_ c_ Q A C hret => ?_)
  refine g_aload_n C dX5_failedCommand_0 0 rfl rfl (q := 1) rfl ?_
  refine g_iconst C dX5_failedCommand_1 (q := 2) rfl ?_
  refine gp_X5_38 C dX5_failedCommand_2 (q := 5) rfl ?_
  refine g_aload_n C dX5_failedCommand_5 0 rfl rfl (q := 6) rfl ?_
  refine gf_X5_35 C dX5_failedCommand_6 (q := 9) rfl ?_
  refine g_top (b := (σ 13 13)) rfl ?_
  refine g_iconst C dX5_failedCommand_9 (q := 10) rfl ?_
  refine g_icmp_ne C dX5_failedCommand_10 (by omega) (q2 := 21) rfl (q := 13) rfl (fun hb1 => ?_) (fun hb1 => ?_)
  · skip
    refine g_aload_n C dX5_failedCommand_21 0 rfl rfl (q := 22) rfl ?_
    refine gf_X5_35 C dX5_failedCommand_22 (q := 25) rfl ?_
    refine g_top (b := (σ 13 13)) rfl ?_
    exact hret _ _ _ dX5_failedCommand_25 rfl
  · skip
    exfalso; omega
set_option maxRecDepth 100000 in
set_option maxHeartbeats 4000000 in
theorem c_X5_failedCommand_n (l : Launch) (E : EV) (σ : SS) (hne : (σ 13 13) = -1) : Ki l yX5_failedCommand (cw yX5_failedCommand cX5_failedCommand 1 (some .int)) rm_X5_failedCommand E [.ref (ea E 13)] σ 0 (st σ 13 (pt (σ 13) 0 1)) := by
  refine Ki_of (rm := rm_X5_failedCommand) (mL := 1) (b := cX5_failedCommand) RX5 rfl (by decide +kernel) rfl rfl [(0, .ref (ea E 13))] rfl (Nat.le_of_ble_eq_true rfl) (fun p_ e_ s_ m_ a_ b_ h_ c_ Q A C hret => ?_)
  refine g_aload_n C dX5_failedCommand_0 0 rfl rfl (q := 1) rfl ?_
  refine g_iconst C dX5_failedCommand_1 (q := 2) rfl ?_
  refine gp_X5_38 C dX5_failedCommand_2 (q := 5) rfl ?_
  refine g_aload_n C dX5_failedCommand_5 0 rfl rfl (q := 6) rfl ?_
  refine gf_X5_35 C dX5_failedCommand_6 (q := 9) rfl ?_
  refine g_top (b := (σ 13 13)) rfl ?_
  refine g_iconst C dX5_failedCommand_9 (q := 10) rfl ?_
  refine g_icmp_ne C dX5_failedCommand_10 (by omega) (q2 := 21) rfl (q := 13) rfl (fun hb1 => ?_) (fun hb1 => ?_)
  · skip
    exfalso; omega
  · skip
    refine g_aload_n C dX5_failedCommand_13 0 rfl rfl (q := 14) rfl ?_
    refine g_iconst C dX5_failedCommand_14 (q := 15) rfl ?_
    refine g_cV_i C (As := [.int (iI 1)]) (c_X5_fails l E _ 1) ml_X5_51 mf_X5_fails (o := 13) (ci := 5) rfl rfl rfl rfl ⟨(Nat.le_of_ble_eq_true rfl), (Nat.le_of_ble_eq_true rfl)⟩ rfl rfl rfl (Nat.le_of_ble_eq_true rfl) ⟨(Nat.le_of_ble_eq_true rfl), (Nat.le_of_ble_eq_true rfl)⟩ dX5_failedCommand_15 (q := 18) rfl ?_
    refine g_st (σ2 := (st σ 13 (pt (σ 13) 0 1))) ((congrArg (st (st σ 13 (pt (σ 13) 0 0)) 13) (pt_pt _ _ _ _)).trans (st_st _ _ _ _)) ?_
    refine g_goto C dX5_failedCommand_18 (q := 25) rfl ?_
    exact hret _ _ _ dX5_failedCommand_25 rfl
abbrev rm_X5_writes : Room := { frames := 0, cells := 0, slots := 0, locals := 0 }
set_option maxRecDepth 100000 in
set_option maxHeartbeats 4000000 in
theorem c_X5_writes (l : Launch) (E : EV) (σ : SS) (c : Int) (hn : 0 ≤ (σ 13 11) ∧ (σ 13 11) < 240) : Kv l yX5_writes (cw yX5_writes cX5_writes 2 none) rm_X5_writes E [.ref (ea E 13), .int (iI c)] σ (st (st σ 13 (pt (σ 13) 11 ((σ 13 11) + 1))) 20 (pt (σ 20) (σ 13 11) c)) := by
  refine Kv_of (rm := rm_X5_writes) (mL := 2) (b := cX5_writes) RX5 rfl (by decide +kernel) rfl rfl [(0, .ref (ea E 13)), (1, .int (iI c))] rfl (Nat.le_of_ble_eq_true rfl) (fun p_ e_ s_ m_ a_ b_ h_ c_ Q A C hret => ?_)
  refine g_aload_n C dX5_writes_0 0 rfl rfl (q := 1) rfl ?_
  refine gf_X5_28 C dX5_writes_1 (q := 4) rfl ?_
  refine g_aload_n C dX5_writes_4 0 rfl rfl (q := 5) rfl ?_
  refine gf_X5_248 C dX5_writes_5 (q := 8) rfl ?_
  refine g_iload_n C dX5_writes_8 1 rfl rfl (q := 9) rfl ?_
  refine gs_20 C (by omega) dX5_writes_9 (q := 10) rfl ?_
  refine g_aload_n C dX5_writes_10 0 rfl rfl (q := 11) rfl ?_
  refine g_dup C dX5_writes_11 rfl (q := 12) rfl ?_
  refine gf_X5_248 C dX5_writes_12 (q := 15) rfl ?_
  refine g_top (b := (σ 13 11)) rfl ?_
  refine g_iconst C dX5_writes_15 (q := 16) rfl ?_
  refine g_iadd C dX5_writes_16 (q := 17) rfl ?_
  refine gp_X5_248 C dX5_writes_17 (q := 20) rfl ?_
  refine g_st (σ2 := (st (st σ 13 (pt (σ 13) 11 ((σ 13 11) + 1))) 20 (pt (σ 20) (σ 13 11) c))) (st_cm σ (o := 20) (q := 13) (pt (σ 20) (σ 13 11) c) (pt (σ 13) 11 ((σ 13 11) + 1)) (by decide)) ?_
  exact hret _ _ dX5_writes_20
abbrev rm_X5_describeReel : Room := { frames := 2, cells := 0, slots := 0, locals := 45 }
set_option maxRecDepth 100000 in
set_option maxHeartbeats 4000000 in
theorem c_X5_describeReel (l : Launch) (E : EV) (σ : SS) (r : Int) (f : Int → Int) (hM : MS f (σ 14)) (hr_r : -2147483648 ≤ r ∧ r ≤ 2147483647) (hF1 : fR r = 0) : Ki l yX5_describeReel (cw yX5_describeReel cX5_describeReel 4 (some .int)) rm_X5_describeReel E [.ref (ea E 13), .int (iI r)] σ ((dsI f r 0 (σ 20) 0 (f (240 + r))).2) (st (st σ 13 (pt (pt (σ 13) 0 0) 11 ((dsI f r 0 (σ 20) 0 (f (240 + r))).2))) 20 ((dsI f r 0 (σ 20) 0 (f (240 + r))).1)) := by
  refine Ki_of (rm := rm_X5_describeReel) (mL := 4) (b := cX5_describeReel) RX5 rfl (by decide +kernel) rfl rfl [(0, .ref (ea E 13)), (1, .int (iI r))] rfl (Nat.le_of_ble_eq_true rfl) (fun p_ e_ s_ m_ a_ b_ h_ c_ Q A C hret => ?_)
  have hB := bR_iff r
  have hB1 := bR_01 r
  have hG1 := fR_0 hF1
  have hm_r := (hM.2.1 r (by omega)).1
  have hn_r := (hM.1 r (by omega)).1
  refine g_aload_n C dX5_describeReel_0 0 rfl rfl (q := 1) rfl ?_
  refine g_iload_n C dX5_describeReel_1 1 rfl rfl (q := 2) rfl ?_
  refine g_cS_i C (As := [.int (iI r)]) (c_X5_isReel l E _ r  (by omega)) ml_X5_58 mf_X5_isReel rfl rfl ⟨(Nat.le_of_ble_eq_true rfl), (Nat.le_of_ble_eq_true rfl)⟩ rfl rfl rfl (Nat.le_of_ble_eq_true rfl) ⟨(Nat.le_of_ble_eq_true rfl), (Nat.le_of_ble_eq_true rfl)⟩ dX5_describeReel_2 (q := 5) rfl ?_
  refine g_if_eq C dX5_describeReel_5 (by omega) (q2 := 12) rfl (q := 8) rfl (fun hb1 => ?_) (fun hb1 => ?_)
  · skip
    exfalso; omega
  · skip
    refine g_iconst C dX5_describeReel_8 (q := 9) rfl ?_
    refine g_goto C dX5_describeReel_9 (q := 13) rfl ?_
    refine gp_X5_38 C dX5_describeReel_13 (q := 16) rfl ?_
    refine g_aload_n C dX5_describeReel_16 0 rfl rfl (q := 17) rfl ?_
    refine gf_X5_38 C dX5_describeReel_17 (q := 20) rfl ?_
    refine g_top (b := 0) rfl ?_
    refine g_if_le C dX5_describeReel_20 (by omega) (q2 := 25) rfl (q := 23) rfl (fun hb2 => ?_) (fun hb2 => ?_)
    · skip
      refine g_aload_n C dX5_describeReel_25 0 rfl rfl (q := 26) rfl ?_
      refine g_iconst C dX5_describeReel_26 (q := 27) rfl ?_
      refine gp_X5_248 C dX5_describeReel_27 (q := 30) rfl ?_
      refine g_st (σ2 := (st σ 13 (pt (pt (σ 13) 0 0) 11 0))) (st_st _ _ _ _) ?_
      refine g_iconst C dX5_describeReel_30 (q := 31) rfl ?_
      refine g_istore_n C (L' := [(2, .int (iI 0)), (0, .ref (ea E 13)), (1, .int (iI r))]) dX5_describeReel_31 rfl (by decide) rfl (q := 32) rfl ?_
      refine g_sub [1, 2, 0] (L' := [(0, .ref (ea E 13)), (1, .int (iI r)), (2, .int (iI 0))]) rfl ?_
      have lp32 : ∀ (k9 : Nat) (p : Int) (s : Int) (o : Int → Int), (f (240 + r) - p).toNat < k9 → (0 ≤ p ∧ p ≤ f (240 + r)) → (0 ≤ s ∧ s ≤ 4 * p) → (dsI f r 0 (σ 20) 0 (f (240 + r)) = dsI f r p o s (f (240 + r))) → GG p_ l e_ rm_X5_describeReel s_ m_ a_ b_ h_ c_ Q E A 4 (st (st σ 13 (pt (pt (σ 13) 0 0) 11 s)) 20 o) 0 0 32 [(0, .ref (ea E 13)), (1, .int (iI r)), (2, .int (iI p))] [] := by
        intro k9
        induction k9 with
        | zero => intro p s o hk9; omega
        | succ k9 ih32 =>
          intro p s o hk9 hp hs hR
          refine g_iload_n C dX5_describeReel_32 2 rfl rfl (q := 33) rfl ?_
          refine g_aload_n C dX5_describeReel_33 0 rfl rfl (q := 34) rfl ?_
          refine g_iload_n C dX5_describeReel_34 1 rfl rfl (q := 35) rfl ?_
          refine g_cV_i C (As := [.int (iI r)]) (c_X5_many l E _ r  (by omega)) ml_X5_62 mf_X5_many (o := 13) (ci := 5) rfl rfl rfl rfl ⟨(Nat.le_of_ble_eq_true rfl), (Nat.le_of_ble_eq_true rfl)⟩ rfl rfl rfl (Nat.le_of_ble_eq_true rfl) ⟨(Nat.le_of_ble_eq_true rfl), (Nat.le_of_ble_eq_true rfl)⟩ dX5_describeReel_35 (q := 38) rfl ?_
          refine g_top (b := (σ 14) (2 + 121 * r)) rfl ?_
          refine g_icmp_ge C dX5_describeReel_38 (by omega) (q2 := 123) rfl (q := 41) rfl (fun hb3 => ?_) (fun hb3 => ?_)
          · skip
            have hE : dsI f r 0 (σ 20) 0 (f (240 + r)) = (o, s) := by rw [hR]; exact dsI_nil (by omega)
            refine g_aload_n C dX5_describeReel_123 0 rfl rfl (q := 124) rfl ?_
            refine gf_X5_248 C dX5_describeReel_124 (q := 127) rfl ?_
            refine g_top (b := s) rfl ?_
            refine g_st (σ2 := (st (st σ 13 (pt (pt (σ 13) 0 0) 11 ((dsI f r 0 (σ 20) 0 (f (240 + r))).2))) 20 ((dsI f r 0 (σ 20) 0 (f (240 + r))).1))) (by rw [hE]) ?_
            exact hret _ _ _ dX5_describeReel_127 (by rw [hE])
          · skip
            have hsg := (hM.2.1 r hG1).2 p (by omega)
            have hsw := (hM.1 r hG1).2 p (by omega)
            have htg := tg_01 f r (p - 1)
            refine g_iload_n C dX5_describeReel_41 2 rfl rfl (q := 42) rfl ?_
            refine g_if_le C dX5_describeReel_42 (by omega) (q2 := 67) rfl (q := 45) rfl (fun hb4 => ?_) (fun hb4 => ?_)
            · skip
              refine g_aload_n C dX5_describeReel_67 0 rfl rfl (q := 68) rfl ?_
              refine g_iload_n C dX5_describeReel_68 1 rfl rfl (q := 69) rfl ?_
              refine g_iload_n C dX5_describeReel_69 2 rfl rfl (q := 70) rfl ?_
              refine g_iconst C dX5_describeReel_70 (q := 71) rfl ?_
              refine g_cV_i C (As := [.int (iI r), .int (iI p), .int (iI 0)]) (c_X5_at_0 l E _ r p  (by omega) (by omega)) ml_X5_75 mf_X5_at (o := 13) (ci := 5) rfl rfl rfl rfl ⟨(Nat.le_of_ble_eq_true rfl), (Nat.le_of_ble_eq_true rfl)⟩ rfl rfl rfl (Nat.le_of_ble_eq_true rfl) ⟨(Nat.le_of_ble_eq_true rfl), (Nat.le_of_ble_eq_true rfl)⟩ dX5_describeReel_71 (q := 74) rfl ?_
              refine g_top (b := (σ 14) (3 + 121 * r + 2 * p)) rfl ?_
              refine g_top (b := f (r * 60 + p) / 8) (by exact hsg.1) ?_
              refine g_istore_n C (L' := [(3, .int (iI (f (r * 60 + p) / 8))), (0, .ref (ea E 13)), (1, .int (iI r)), (2, .int (iI p))]) dX5_describeReel_74 rfl (by decide) rfl (q := 75) rfl ?_
              refine g_iload_n C dX5_describeReel_75 0 rfl rfl (q := 76) rfl ?_
              refine g_bipush C dX5_describeReel_76 (by decide) (q := 78) rfl ?_
              refine g_icmp_le C dX5_describeReel_78 (by omega) (q2 := 92) rfl (q := 81) rfl (fun hb5 => ?_) (fun hb5 => ?_)
              · skip
                refine g_aload_n C dX5_describeReel_92 1 rfl rfl (q := 93) rfl ?_
                refine g_bipush C dX5_describeReel_93 (by decide) (q := 95) rfl ?_
                refine g_iload_n C dX5_describeReel_95 0 rfl rfl (q := 96) rfl ?_
                refine g_bipush C dX5_describeReel_96 (by decide) (q := 98) rfl ?_
                refine g_irem C dX5_describeReel_98 (by omega) (q := 99) rfl ?_
                refine g_iadd C dX5_describeReel_99 (q := 100) rfl ?_
                refine g_cV_v C (As := [.int (iI (48 + ((f (r * 60 + p) / 8) % 10)))]) (c_X5_writes l E _ (48 + ((f (r * 60 + p) / 8) % 10))  (by show 0 ≤ s ∧ s < 240; omega)) ml_X5_251 mf_X5_writes (o := 13) (ci := 5) rfl rfl rfl rfl ⟨(Nat.le_of_ble_eq_true rfl), (Nat.le_of_ble_eq_true rfl)⟩ rfl rfl rfl (Nat.le_of_ble_eq_true rfl) ⟨(Nat.le_of_ble_eq_true rfl), (Nat.le_of_ble_eq_true rfl)⟩ dX5_describeReel_100 (q := 103) rfl ?_
                refine g_st (σ2 := (st (st σ 13 (pt (pt (σ 13) 0 0) 11 (s + 1))) 20 (pt o s (48 + ((f (r * 60 + p) / 8) % 10))))) ((congrArg (fun g9 => st g9 20 (pt o s (48 + ((f (r * 60 + p) / 8) % 10)))) ((congrArg (st (st (st σ 13 (pt (pt (σ 13) 0 0) 11 s)) 20 o) 13) (pt_pt _ _ _ _)).trans ((st_cm (st σ 13 (pt (pt (σ 13) 0 0) 11 s)) (o := 20) (q := 13) o (pt (pt (σ 13) 0 0) 11 (s + 1)) (by decide)).trans (congrArg (fun g9 => st g9 20 o) (st_st _ _ _ _))))).trans (st_st _ _ _ _)) ?_
                refine g_aload_n C dX5_describeReel_103 1 rfl rfl (q := 104) rfl ?_
                refine g_bipush C dX5_describeReel_104 (by decide) (q := 106) rfl ?_
                refine g_aload_n C dX5_describeReel_106 1 rfl rfl (q := 107) rfl ?_
                refine g_iload_n C dX5_describeReel_107 2 rfl rfl (q := 108) rfl ?_
                refine g_iload_n C dX5_describeReel_108 3 rfl rfl (q := 109) rfl ?_
                refine g_iconst C dX5_describeReel_109 (q := 110) rfl ?_
                refine g_cV_i C (As := [.int (iI r), .int (iI p), .int (iI 1)]) (c_X5_at_1 l E _ r p  (by omega) (by omega)) ml_X5_75 mf_X5_at (o := 13) (ci := 5) rfl rfl rfl rfl ⟨(Nat.le_of_ble_eq_true rfl), (Nat.le_of_ble_eq_true rfl)⟩ rfl rfl rfl (Nat.le_of_ble_eq_true rfl) ⟨(Nat.le_of_ble_eq_true rfl), (Nat.le_of_ble_eq_true rfl)⟩ dX5_describeReel_110 (q := 113) rfl ?_
                refine g_top (b := (σ 14) (4 + 121 * r + 2 * p)) rfl ?_
                refine g_top (b := f (r * 60 + p) % 8) (by exact hsg.2) ?_
                refine g_iadd C dX5_describeReel_113 (q := 114) rfl ?_
                refine g_cV_v C (As := [.int (iI (97 + (f (r * 60 + p) % 8)))]) (c_X5_writes l E _ (97 + (f (r * 60 + p) % 8))  (by show 0 ≤ (s + 1) ∧ (s + 1) < 240; omega)) ml_X5_251 mf_X5_writes (o := 13) (ci := 5) rfl rfl rfl rfl ⟨(Nat.le_of_ble_eq_true rfl), (Nat.le_of_ble_eq_true rfl)⟩ rfl rfl rfl (Nat.le_of_ble_eq_true rfl) ⟨(Nat.le_of_ble_eq_true rfl), (Nat.le_of_ble_eq_true rfl)⟩ dX5_describeReel_114 (q := 117) rfl ?_
                refine g_st (σ2 := (st (st σ 13 (pt (pt (σ 13) 0 0) 11 ((s + 1) + 1))) 20 (pt (pt o s (48 + ((f (r * 60 + p) / 8) % 10))) (s + 1) (97 + (f (r * 60 + p) % 8))))) ((congrArg (fun g9 => st g9 20 (pt (pt o s (48 + ((f (r * 60 + p) / 8) % 10))) (s + 1) (97 + (f (r * 60 + p) % 8)))) ((congrArg (st (st (st σ 13 (pt (pt (σ 13) 0 0) 11 (s + 1))) 20 (pt o s (48 + ((f (r * 60 + p) / 8) % 10)))) 13) (pt_pt _ _ _ _)).trans ((st_cm (st σ 13 (pt (pt (σ 13) 0 0) 11 (s + 1))) (o := 20) (q := 13) (pt o s (48 + ((f (r * 60 + p) / 8) % 10))) (pt (pt (σ 13) 0 0) 11 ((s + 1) + 1)) (by decide)).trans (congrArg (fun g9 => st g9 20 (pt o s (48 + ((f (r * 60 + p) / 8) % 10)))) (st_st _ _ _ _))))).trans (st_st _ _ _ _)) ?_
                refine g_iinc C (L' := [(2, .int (iI (p + 1))), (3, .int (iI (f (r * 60 + p) / 8))), (0, .ref (ea E 13)), (1, .int (iI r))]) dX5_describeReel_117 3 rfl (by decide) rfl (q := 120) rfl ?_
                refine g_goto C dX5_describeReel_120 (q := 32) rfl ?_
                refine g_sub [2, 3, 0] (L' := [(0, .ref (ea E 13)), (1, .int (iI r)), (2, .int (iI (p + 1)))]) rfl ?_
                exact ih32 (p + 1) ((s + 1) + 1) (pt (pt o s (48 + ((f (r * 60 + p) / 8) % 10))) (s + 1) (97 + (f (r * 60 + p) % 8))) (by omega) (by omega) (by omega) (by first | (rw [hR, dsI_cons (by omega), sgc_0 (by omega), sgs_0 (by omega), show nm12 o s (f (r * 60 + p) / 8) = _ from if_pos (by omega), if_pos (by omega)]; done) | (rw [hR, dsI_cons (by omega), sgc_0 (by omega), sgs_0 (by omega), show nm12 o s (f (r * 60 + p) / 8) = _ from if_neg (by omega), if_neg (by omega), show s + 2 = s + 1 + 1 by omega]; done) | (rw [hR, dsI_cons (by omega), sgc_1 (by omega) (by omega), sgs_1 (by omega), show nm12 (pt o s 45) (s + 1) (f (r * 60 + p) / 8) = _ from if_pos (by omega), if_pos (by omega)]; done) | (rw [hR, dsI_cons (by omega), sgc_1 (by omega) (by omega), sgs_1 (by omega), show nm12 (pt o s 45) (s + 1) (f (r * 60 + p) / 8) = _ from if_neg (by omega), if_neg (by omega), show s + 1 + 2 = s + 1 + 1 + 1 by omega]; done) | (rw [hR, dsI_cons (by omega), sgc_2 (by omega) (by omega), sgs_1 (by omega), show nm12 (pt o s 61) (s + 1) (f (r * 60 + p) / 8) = _ from if_pos (by omega), if_pos (by omega)]; done) | (rw [hR, dsI_cons (by omega), sgc_2 (by omega) (by omega), sgs_1 (by omega), show nm12 (pt o s 61) (s + 1) (f (r * 60 + p) / 8) = _ from if_neg (by omega), if_neg (by omega), show s + 1 + 2 = s + 1 + 1 + 1 by omega]; done))
              · skip
                refine g_aload_n C dX5_describeReel_81 1 rfl rfl (q := 82) rfl ?_
                refine g_bipush C dX5_describeReel_82 (by decide) (q := 84) rfl ?_
                refine g_iload_n C dX5_describeReel_84 0 rfl rfl (q := 85) rfl ?_
                refine g_bipush C dX5_describeReel_85 (by decide) (q := 87) rfl ?_
                refine g_idiv C dX5_describeReel_87 (by omega) (q := 88) rfl ?_
                refine g_iadd C dX5_describeReel_88 (q := 89) rfl ?_
                refine g_cV_v C (As := [.int (iI (48 + ((f (r * 60 + p) / 8) / 10)))]) (c_X5_writes l E _ (48 + ((f (r * 60 + p) / 8) / 10))  (by show 0 ≤ s ∧ s < 240; omega)) ml_X5_251 mf_X5_writes (o := 13) (ci := 5) rfl rfl rfl rfl ⟨(Nat.le_of_ble_eq_true rfl), (Nat.le_of_ble_eq_true rfl)⟩ rfl rfl rfl (Nat.le_of_ble_eq_true rfl) ⟨(Nat.le_of_ble_eq_true rfl), (Nat.le_of_ble_eq_true rfl)⟩ dX5_describeReel_89 (q := 92) rfl ?_
                refine g_st (σ2 := (st (st σ 13 (pt (pt (σ 13) 0 0) 11 (s + 1))) 20 (pt o s (48 + ((f (r * 60 + p) / 8) / 10))))) ((congrArg (fun g9 => st g9 20 (pt o s (48 + ((f (r * 60 + p) / 8) / 10)))) ((congrArg (st (st (st σ 13 (pt (pt (σ 13) 0 0) 11 s)) 20 o) 13) (pt_pt _ _ _ _)).trans ((st_cm (st σ 13 (pt (pt (σ 13) 0 0) 11 s)) (o := 20) (q := 13) o (pt (pt (σ 13) 0 0) 11 (s + 1)) (by decide)).trans (congrArg (fun g9 => st g9 20 o) (st_st _ _ _ _))))).trans (st_st _ _ _ _)) ?_
                refine g_aload_n C dX5_describeReel_92 1 rfl rfl (q := 93) rfl ?_
                refine g_bipush C dX5_describeReel_93 (by decide) (q := 95) rfl ?_
                refine g_iload_n C dX5_describeReel_95 0 rfl rfl (q := 96) rfl ?_
                refine g_bipush C dX5_describeReel_96 (by decide) (q := 98) rfl ?_
                refine g_irem C dX5_describeReel_98 (by omega) (q := 99) rfl ?_
                refine g_iadd C dX5_describeReel_99 (q := 100) rfl ?_
                refine g_cV_v C (As := [.int (iI (48 + ((f (r * 60 + p) / 8) % 10)))]) (c_X5_writes l E _ (48 + ((f (r * 60 + p) / 8) % 10))  (by show 0 ≤ (s + 1) ∧ (s + 1) < 240; omega)) ml_X5_251 mf_X5_writes (o := 13) (ci := 5) rfl rfl rfl rfl ⟨(Nat.le_of_ble_eq_true rfl), (Nat.le_of_ble_eq_true rfl)⟩ rfl rfl rfl (Nat.le_of_ble_eq_true rfl) ⟨(Nat.le_of_ble_eq_true rfl), (Nat.le_of_ble_eq_true rfl)⟩ dX5_describeReel_100 (q := 103) rfl ?_
                refine g_st (σ2 := (st (st σ 13 (pt (pt (σ 13) 0 0) 11 ((s + 1) + 1))) 20 (pt (pt o s (48 + ((f (r * 60 + p) / 8) / 10))) (s + 1) (48 + ((f (r * 60 + p) / 8) % 10))))) ((congrArg (fun g9 => st g9 20 (pt (pt o s (48 + ((f (r * 60 + p) / 8) / 10))) (s + 1) (48 + ((f (r * 60 + p) / 8) % 10)))) ((congrArg (st (st (st σ 13 (pt (pt (σ 13) 0 0) 11 (s + 1))) 20 (pt o s (48 + ((f (r * 60 + p) / 8) / 10)))) 13) (pt_pt _ _ _ _)).trans ((st_cm (st σ 13 (pt (pt (σ 13) 0 0) 11 (s + 1))) (o := 20) (q := 13) (pt o s (48 + ((f (r * 60 + p) / 8) / 10))) (pt (pt (σ 13) 0 0) 11 ((s + 1) + 1)) (by decide)).trans (congrArg (fun g9 => st g9 20 (pt o s (48 + ((f (r * 60 + p) / 8) / 10)))) (st_st _ _ _ _))))).trans (st_st _ _ _ _)) ?_
                refine g_aload_n C dX5_describeReel_103 1 rfl rfl (q := 104) rfl ?_
                refine g_bipush C dX5_describeReel_104 (by decide) (q := 106) rfl ?_
                refine g_aload_n C dX5_describeReel_106 1 rfl rfl (q := 107) rfl ?_
                refine g_iload_n C dX5_describeReel_107 2 rfl rfl (q := 108) rfl ?_
                refine g_iload_n C dX5_describeReel_108 3 rfl rfl (q := 109) rfl ?_
                refine g_iconst C dX5_describeReel_109 (q := 110) rfl ?_
                refine g_cV_i C (As := [.int (iI r), .int (iI p), .int (iI 1)]) (c_X5_at_1 l E _ r p  (by omega) (by omega)) ml_X5_75 mf_X5_at (o := 13) (ci := 5) rfl rfl rfl rfl ⟨(Nat.le_of_ble_eq_true rfl), (Nat.le_of_ble_eq_true rfl)⟩ rfl rfl rfl (Nat.le_of_ble_eq_true rfl) ⟨(Nat.le_of_ble_eq_true rfl), (Nat.le_of_ble_eq_true rfl)⟩ dX5_describeReel_110 (q := 113) rfl ?_
                refine g_top (b := (σ 14) (4 + 121 * r + 2 * p)) rfl ?_
                refine g_top (b := f (r * 60 + p) % 8) (by exact hsg.2) ?_
                refine g_iadd C dX5_describeReel_113 (q := 114) rfl ?_
                refine g_cV_v C (As := [.int (iI (97 + (f (r * 60 + p) % 8)))]) (c_X5_writes l E _ (97 + (f (r * 60 + p) % 8))  (by show 0 ≤ ((s + 1) + 1) ∧ ((s + 1) + 1) < 240; omega)) ml_X5_251 mf_X5_writes (o := 13) (ci := 5) rfl rfl rfl rfl ⟨(Nat.le_of_ble_eq_true rfl), (Nat.le_of_ble_eq_true rfl)⟩ rfl rfl rfl (Nat.le_of_ble_eq_true rfl) ⟨(Nat.le_of_ble_eq_true rfl), (Nat.le_of_ble_eq_true rfl)⟩ dX5_describeReel_114 (q := 117) rfl ?_
                refine g_st (σ2 := (st (st σ 13 (pt (pt (σ 13) 0 0) 11 (((s + 1) + 1) + 1))) 20 (pt (pt (pt o s (48 + ((f (r * 60 + p) / 8) / 10))) (s + 1) (48 + ((f (r * 60 + p) / 8) % 10))) ((s + 1) + 1) (97 + (f (r * 60 + p) % 8))))) ((congrArg (fun g9 => st g9 20 (pt (pt (pt o s (48 + ((f (r * 60 + p) / 8) / 10))) (s + 1) (48 + ((f (r * 60 + p) / 8) % 10))) ((s + 1) + 1) (97 + (f (r * 60 + p) % 8)))) ((congrArg (st (st (st σ 13 (pt (pt (σ 13) 0 0) 11 ((s + 1) + 1))) 20 (pt (pt o s (48 + ((f (r * 60 + p) / 8) / 10))) (s + 1) (48 + ((f (r * 60 + p) / 8) % 10)))) 13) (pt_pt _ _ _ _)).trans ((st_cm (st σ 13 (pt (pt (σ 13) 0 0) 11 ((s + 1) + 1))) (o := 20) (q := 13) (pt (pt o s (48 + ((f (r * 60 + p) / 8) / 10))) (s + 1) (48 + ((f (r * 60 + p) / 8) % 10))) (pt (pt (σ 13) 0 0) 11 (((s + 1) + 1) + 1)) (by decide)).trans (congrArg (fun g9 => st g9 20 (pt (pt o s (48 + ((f (r * 60 + p) / 8) / 10))) (s + 1) (48 + ((f (r * 60 + p) / 8) % 10)))) (st_st _ _ _ _))))).trans (st_st _ _ _ _)) ?_
                refine g_iinc C (L' := [(2, .int (iI (p + 1))), (3, .int (iI (f (r * 60 + p) / 8))), (0, .ref (ea E 13)), (1, .int (iI r))]) dX5_describeReel_117 3 rfl (by decide) rfl (q := 120) rfl ?_
                refine g_goto C dX5_describeReel_120 (q := 32) rfl ?_
                refine g_sub [2, 3, 0] (L' := [(0, .ref (ea E 13)), (1, .int (iI r)), (2, .int (iI (p + 1)))]) rfl ?_
                exact ih32 (p + 1) (((s + 1) + 1) + 1) (pt (pt (pt o s (48 + ((f (r * 60 + p) / 8) / 10))) (s + 1) (48 + ((f (r * 60 + p) / 8) % 10))) ((s + 1) + 1) (97 + (f (r * 60 + p) % 8))) (by omega) (by omega) (by omega) (by first | (rw [hR, dsI_cons (by omega), sgc_0 (by omega), sgs_0 (by omega), show nm12 o s (f (r * 60 + p) / 8) = _ from if_pos (by omega), if_pos (by omega)]; done) | (rw [hR, dsI_cons (by omega), sgc_0 (by omega), sgs_0 (by omega), show nm12 o s (f (r * 60 + p) / 8) = _ from if_neg (by omega), if_neg (by omega), show s + 2 = s + 1 + 1 by omega]; done) | (rw [hR, dsI_cons (by omega), sgc_1 (by omega) (by omega), sgs_1 (by omega), show nm12 (pt o s 45) (s + 1) (f (r * 60 + p) / 8) = _ from if_pos (by omega), if_pos (by omega)]; done) | (rw [hR, dsI_cons (by omega), sgc_1 (by omega) (by omega), sgs_1 (by omega), show nm12 (pt o s 45) (s + 1) (f (r * 60 + p) / 8) = _ from if_neg (by omega), if_neg (by omega), show s + 1 + 2 = s + 1 + 1 + 1 by omega]; done) | (rw [hR, dsI_cons (by omega), sgc_2 (by omega) (by omega), sgs_1 (by omega), show nm12 (pt o s 61) (s + 1) (f (r * 60 + p) / 8) = _ from if_pos (by omega), if_pos (by omega)]; done) | (rw [hR, dsI_cons (by omega), sgc_2 (by omega) (by omega), sgs_1 (by omega), show nm12 (pt o s 61) (s + 1) (f (r * 60 + p) / 8) = _ from if_neg (by omega), if_neg (by omega), show s + 1 + 2 = s + 1 + 1 + 1 by omega]; done))
            · skip
              refine g_aload_n C dX5_describeReel_45 0 rfl rfl (q := 46) rfl ?_
              refine g_aload_n C dX5_describeReel_46 0 rfl rfl (q := 47) rfl ?_
              refine g_iload_n C dX5_describeReel_47 1 rfl rfl (q := 48) rfl ?_
              refine g_iload_n C dX5_describeReel_48 2 rfl rfl (q := 49) rfl ?_
              refine g_iconst C dX5_describeReel_49 (q := 50) rfl ?_
              refine g_isub C dX5_describeReel_50 (q := 51) rfl ?_
              refine g_cV_i C (As := [.int (iI r), .int (iI (p - 1))]) (c_X5_isTangle l E _ r (p - 1) f (by show MS f (σ 14); assumption) (by omega) (by omega)) ml_X5_143 mf_X5_isTangle (o := 13) (ci := 5) rfl rfl rfl rfl ⟨(Nat.le_of_ble_eq_true rfl), (Nat.le_of_ble_eq_true rfl)⟩ rfl rfl rfl (Nat.le_of_ble_eq_true rfl) ⟨(Nat.le_of_ble_eq_true rfl), (Nat.le_of_ble_eq_true rfl)⟩ dX5_describeReel_51 (q := 54) rfl ?_
              refine g_if_eq C dX5_describeReel_54 (by omega) (q2 := 62) rfl (q := 57) rfl (fun hb6 => ?_) (fun hb6 => ?_)
              · skip
                refine g_bipush C dX5_describeReel_62 (by decide) (q := 64) rfl ?_
                refine g_cV_v C (As := [.int (iI 45)]) (c_X5_writes l E _ 45  (by show 0 ≤ s ∧ s < 240; omega)) ml_X5_251 mf_X5_writes (o := 13) (ci := 5) rfl rfl rfl rfl ⟨(Nat.le_of_ble_eq_true rfl), (Nat.le_of_ble_eq_true rfl)⟩ rfl rfl rfl (Nat.le_of_ble_eq_true rfl) ⟨(Nat.le_of_ble_eq_true rfl), (Nat.le_of_ble_eq_true rfl)⟩ dX5_describeReel_64 (q := 67) rfl ?_
                refine g_st (σ2 := (st (st σ 13 (pt (pt (σ 13) 0 0) 11 (s + 1))) 20 (pt o s 45))) ((congrArg (fun g9 => st g9 20 (pt o s 45)) ((congrArg (st (st (st σ 13 (pt (pt (σ 13) 0 0) 11 s)) 20 o) 13) (pt_pt _ _ _ _)).trans ((st_cm (st σ 13 (pt (pt (σ 13) 0 0) 11 s)) (o := 20) (q := 13) o (pt (pt (σ 13) 0 0) 11 (s + 1)) (by decide)).trans (congrArg (fun g9 => st g9 20 o) (st_st _ _ _ _))))).trans (st_st _ _ _ _)) ?_
                refine g_aload_n C dX5_describeReel_67 0 rfl rfl (q := 68) rfl ?_
                refine g_iload_n C dX5_describeReel_68 1 rfl rfl (q := 69) rfl ?_
                refine g_iload_n C dX5_describeReel_69 2 rfl rfl (q := 70) rfl ?_
                refine g_iconst C dX5_describeReel_70 (q := 71) rfl ?_
                refine g_cV_i C (As := [.int (iI r), .int (iI p), .int (iI 0)]) (c_X5_at_0 l E _ r p  (by omega) (by omega)) ml_X5_75 mf_X5_at (o := 13) (ci := 5) rfl rfl rfl rfl ⟨(Nat.le_of_ble_eq_true rfl), (Nat.le_of_ble_eq_true rfl)⟩ rfl rfl rfl (Nat.le_of_ble_eq_true rfl) ⟨(Nat.le_of_ble_eq_true rfl), (Nat.le_of_ble_eq_true rfl)⟩ dX5_describeReel_71 (q := 74) rfl ?_
                refine g_top (b := (σ 14) (3 + 121 * r + 2 * p)) rfl ?_
                refine g_top (b := f (r * 60 + p) / 8) (by exact hsg.1) ?_
                refine g_istore_n C (L' := [(3, .int (iI (f (r * 60 + p) / 8))), (0, .ref (ea E 13)), (1, .int (iI r)), (2, .int (iI p))]) dX5_describeReel_74 rfl (by decide) rfl (q := 75) rfl ?_
                refine g_iload_n C dX5_describeReel_75 0 rfl rfl (q := 76) rfl ?_
                refine g_bipush C dX5_describeReel_76 (by decide) (q := 78) rfl ?_
                refine g_icmp_le C dX5_describeReel_78 (by omega) (q2 := 92) rfl (q := 81) rfl (fun hb7 => ?_) (fun hb7 => ?_)
                · skip
                  refine g_aload_n C dX5_describeReel_92 1 rfl rfl (q := 93) rfl ?_
                  refine g_bipush C dX5_describeReel_93 (by decide) (q := 95) rfl ?_
                  refine g_iload_n C dX5_describeReel_95 0 rfl rfl (q := 96) rfl ?_
                  refine g_bipush C dX5_describeReel_96 (by decide) (q := 98) rfl ?_
                  refine g_irem C dX5_describeReel_98 (by omega) (q := 99) rfl ?_
                  refine g_iadd C dX5_describeReel_99 (q := 100) rfl ?_
                  refine g_cV_v C (As := [.int (iI (48 + ((f (r * 60 + p) / 8) % 10)))]) (c_X5_writes l E _ (48 + ((f (r * 60 + p) / 8) % 10))  (by show 0 ≤ (s + 1) ∧ (s + 1) < 240; omega)) ml_X5_251 mf_X5_writes (o := 13) (ci := 5) rfl rfl rfl rfl ⟨(Nat.le_of_ble_eq_true rfl), (Nat.le_of_ble_eq_true rfl)⟩ rfl rfl rfl (Nat.le_of_ble_eq_true rfl) ⟨(Nat.le_of_ble_eq_true rfl), (Nat.le_of_ble_eq_true rfl)⟩ dX5_describeReel_100 (q := 103) rfl ?_
                  refine g_st (σ2 := (st (st σ 13 (pt (pt (σ 13) 0 0) 11 ((s + 1) + 1))) 20 (pt (pt o s 45) (s + 1) (48 + ((f (r * 60 + p) / 8) % 10))))) ((congrArg (fun g9 => st g9 20 (pt (pt o s 45) (s + 1) (48 + ((f (r * 60 + p) / 8) % 10)))) ((congrArg (st (st (st σ 13 (pt (pt (σ 13) 0 0) 11 (s + 1))) 20 (pt o s 45)) 13) (pt_pt _ _ _ _)).trans ((st_cm (st σ 13 (pt (pt (σ 13) 0 0) 11 (s + 1))) (o := 20) (q := 13) (pt o s 45) (pt (pt (σ 13) 0 0) 11 ((s + 1) + 1)) (by decide)).trans (congrArg (fun g9 => st g9 20 (pt o s 45)) (st_st _ _ _ _))))).trans (st_st _ _ _ _)) ?_
                  refine g_aload_n C dX5_describeReel_103 1 rfl rfl (q := 104) rfl ?_
                  refine g_bipush C dX5_describeReel_104 (by decide) (q := 106) rfl ?_
                  refine g_aload_n C dX5_describeReel_106 1 rfl rfl (q := 107) rfl ?_
                  refine g_iload_n C dX5_describeReel_107 2 rfl rfl (q := 108) rfl ?_
                  refine g_iload_n C dX5_describeReel_108 3 rfl rfl (q := 109) rfl ?_
                  refine g_iconst C dX5_describeReel_109 (q := 110) rfl ?_
                  refine g_cV_i C (As := [.int (iI r), .int (iI p), .int (iI 1)]) (c_X5_at_1 l E _ r p  (by omega) (by omega)) ml_X5_75 mf_X5_at (o := 13) (ci := 5) rfl rfl rfl rfl ⟨(Nat.le_of_ble_eq_true rfl), (Nat.le_of_ble_eq_true rfl)⟩ rfl rfl rfl (Nat.le_of_ble_eq_true rfl) ⟨(Nat.le_of_ble_eq_true rfl), (Nat.le_of_ble_eq_true rfl)⟩ dX5_describeReel_110 (q := 113) rfl ?_
                  refine g_top (b := (σ 14) (4 + 121 * r + 2 * p)) rfl ?_
                  refine g_top (b := f (r * 60 + p) % 8) (by exact hsg.2) ?_
                  refine g_iadd C dX5_describeReel_113 (q := 114) rfl ?_
                  refine g_cV_v C (As := [.int (iI (97 + (f (r * 60 + p) % 8)))]) (c_X5_writes l E _ (97 + (f (r * 60 + p) % 8))  (by show 0 ≤ ((s + 1) + 1) ∧ ((s + 1) + 1) < 240; omega)) ml_X5_251 mf_X5_writes (o := 13) (ci := 5) rfl rfl rfl rfl ⟨(Nat.le_of_ble_eq_true rfl), (Nat.le_of_ble_eq_true rfl)⟩ rfl rfl rfl (Nat.le_of_ble_eq_true rfl) ⟨(Nat.le_of_ble_eq_true rfl), (Nat.le_of_ble_eq_true rfl)⟩ dX5_describeReel_114 (q := 117) rfl ?_
                  refine g_st (σ2 := (st (st σ 13 (pt (pt (σ 13) 0 0) 11 (((s + 1) + 1) + 1))) 20 (pt (pt (pt o s 45) (s + 1) (48 + ((f (r * 60 + p) / 8) % 10))) ((s + 1) + 1) (97 + (f (r * 60 + p) % 8))))) ((congrArg (fun g9 => st g9 20 (pt (pt (pt o s 45) (s + 1) (48 + ((f (r * 60 + p) / 8) % 10))) ((s + 1) + 1) (97 + (f (r * 60 + p) % 8)))) ((congrArg (st (st (st σ 13 (pt (pt (σ 13) 0 0) 11 ((s + 1) + 1))) 20 (pt (pt o s 45) (s + 1) (48 + ((f (r * 60 + p) / 8) % 10)))) 13) (pt_pt _ _ _ _)).trans ((st_cm (st σ 13 (pt (pt (σ 13) 0 0) 11 ((s + 1) + 1))) (o := 20) (q := 13) (pt (pt o s 45) (s + 1) (48 + ((f (r * 60 + p) / 8) % 10))) (pt (pt (σ 13) 0 0) 11 (((s + 1) + 1) + 1)) (by decide)).trans (congrArg (fun g9 => st g9 20 (pt (pt o s 45) (s + 1) (48 + ((f (r * 60 + p) / 8) % 10)))) (st_st _ _ _ _))))).trans (st_st _ _ _ _)) ?_
                  refine g_iinc C (L' := [(2, .int (iI (p + 1))), (3, .int (iI (f (r * 60 + p) / 8))), (0, .ref (ea E 13)), (1, .int (iI r))]) dX5_describeReel_117 3 rfl (by decide) rfl (q := 120) rfl ?_
                  refine g_goto C dX5_describeReel_120 (q := 32) rfl ?_
                  refine g_sub [2, 3, 0] (L' := [(0, .ref (ea E 13)), (1, .int (iI r)), (2, .int (iI (p + 1)))]) rfl ?_
                  exact ih32 (p + 1) (((s + 1) + 1) + 1) (pt (pt (pt o s 45) (s + 1) (48 + ((f (r * 60 + p) / 8) % 10))) ((s + 1) + 1) (97 + (f (r * 60 + p) % 8))) (by omega) (by omega) (by omega) (by first | (rw [hR, dsI_cons (by omega), sgc_0 (by omega), sgs_0 (by omega), show nm12 o s (f (r * 60 + p) / 8) = _ from if_pos (by omega), if_pos (by omega)]; done) | (rw [hR, dsI_cons (by omega), sgc_0 (by omega), sgs_0 (by omega), show nm12 o s (f (r * 60 + p) / 8) = _ from if_neg (by omega), if_neg (by omega), show s + 2 = s + 1 + 1 by omega]; done) | (rw [hR, dsI_cons (by omega), sgc_1 (by omega) (by omega), sgs_1 (by omega), show nm12 (pt o s 45) (s + 1) (f (r * 60 + p) / 8) = _ from if_pos (by omega), if_pos (by omega)]; done) | (rw [hR, dsI_cons (by omega), sgc_1 (by omega) (by omega), sgs_1 (by omega), show nm12 (pt o s 45) (s + 1) (f (r * 60 + p) / 8) = _ from if_neg (by omega), if_neg (by omega), show s + 1 + 2 = s + 1 + 1 + 1 by omega]; done) | (rw [hR, dsI_cons (by omega), sgc_2 (by omega) (by omega), sgs_1 (by omega), show nm12 (pt o s 61) (s + 1) (f (r * 60 + p) / 8) = _ from if_pos (by omega), if_pos (by omega)]; done) | (rw [hR, dsI_cons (by omega), sgc_2 (by omega) (by omega), sgs_1 (by omega), show nm12 (pt o s 61) (s + 1) (f (r * 60 + p) / 8) = _ from if_neg (by omega), if_neg (by omega), show s + 1 + 2 = s + 1 + 1 + 1 by omega]; done))
                · skip
                  refine g_aload_n C dX5_describeReel_81 1 rfl rfl (q := 82) rfl ?_
                  refine g_bipush C dX5_describeReel_82 (by decide) (q := 84) rfl ?_
                  refine g_iload_n C dX5_describeReel_84 0 rfl rfl (q := 85) rfl ?_
                  refine g_bipush C dX5_describeReel_85 (by decide) (q := 87) rfl ?_
                  refine g_idiv C dX5_describeReel_87 (by omega) (q := 88) rfl ?_
                  refine g_iadd C dX5_describeReel_88 (q := 89) rfl ?_
                  refine g_cV_v C (As := [.int (iI (48 + ((f (r * 60 + p) / 8) / 10)))]) (c_X5_writes l E _ (48 + ((f (r * 60 + p) / 8) / 10))  (by show 0 ≤ (s + 1) ∧ (s + 1) < 240; omega)) ml_X5_251 mf_X5_writes (o := 13) (ci := 5) rfl rfl rfl rfl ⟨(Nat.le_of_ble_eq_true rfl), (Nat.le_of_ble_eq_true rfl)⟩ rfl rfl rfl (Nat.le_of_ble_eq_true rfl) ⟨(Nat.le_of_ble_eq_true rfl), (Nat.le_of_ble_eq_true rfl)⟩ dX5_describeReel_89 (q := 92) rfl ?_
                  refine g_st (σ2 := (st (st σ 13 (pt (pt (σ 13) 0 0) 11 ((s + 1) + 1))) 20 (pt (pt o s 45) (s + 1) (48 + ((f (r * 60 + p) / 8) / 10))))) ((congrArg (fun g9 => st g9 20 (pt (pt o s 45) (s + 1) (48 + ((f (r * 60 + p) / 8) / 10)))) ((congrArg (st (st (st σ 13 (pt (pt (σ 13) 0 0) 11 (s + 1))) 20 (pt o s 45)) 13) (pt_pt _ _ _ _)).trans ((st_cm (st σ 13 (pt (pt (σ 13) 0 0) 11 (s + 1))) (o := 20) (q := 13) (pt o s 45) (pt (pt (σ 13) 0 0) 11 ((s + 1) + 1)) (by decide)).trans (congrArg (fun g9 => st g9 20 (pt o s 45)) (st_st _ _ _ _))))).trans (st_st _ _ _ _)) ?_
                  refine g_aload_n C dX5_describeReel_92 1 rfl rfl (q := 93) rfl ?_
                  refine g_bipush C dX5_describeReel_93 (by decide) (q := 95) rfl ?_
                  refine g_iload_n C dX5_describeReel_95 0 rfl rfl (q := 96) rfl ?_
                  refine g_bipush C dX5_describeReel_96 (by decide) (q := 98) rfl ?_
                  refine g_irem C dX5_describeReel_98 (by omega) (q := 99) rfl ?_
                  refine g_iadd C dX5_describeReel_99 (q := 100) rfl ?_
                  refine g_cV_v C (As := [.int (iI (48 + ((f (r * 60 + p) / 8) % 10)))]) (c_X5_writes l E _ (48 + ((f (r * 60 + p) / 8) % 10))  (by show 0 ≤ ((s + 1) + 1) ∧ ((s + 1) + 1) < 240; omega)) ml_X5_251 mf_X5_writes (o := 13) (ci := 5) rfl rfl rfl rfl ⟨(Nat.le_of_ble_eq_true rfl), (Nat.le_of_ble_eq_true rfl)⟩ rfl rfl rfl (Nat.le_of_ble_eq_true rfl) ⟨(Nat.le_of_ble_eq_true rfl), (Nat.le_of_ble_eq_true rfl)⟩ dX5_describeReel_100 (q := 103) rfl ?_
                  refine g_st (σ2 := (st (st σ 13 (pt (pt (σ 13) 0 0) 11 (((s + 1) + 1) + 1))) 20 (pt (pt (pt o s 45) (s + 1) (48 + ((f (r * 60 + p) / 8) / 10))) ((s + 1) + 1) (48 + ((f (r * 60 + p) / 8) % 10))))) ((congrArg (fun g9 => st g9 20 (pt (pt (pt o s 45) (s + 1) (48 + ((f (r * 60 + p) / 8) / 10))) ((s + 1) + 1) (48 + ((f (r * 60 + p) / 8) % 10)))) ((congrArg (st (st (st σ 13 (pt (pt (σ 13) 0 0) 11 ((s + 1) + 1))) 20 (pt (pt o s 45) (s + 1) (48 + ((f (r * 60 + p) / 8) / 10)))) 13) (pt_pt _ _ _ _)).trans ((st_cm (st σ 13 (pt (pt (σ 13) 0 0) 11 ((s + 1) + 1))) (o := 20) (q := 13) (pt (pt o s 45) (s + 1) (48 + ((f (r * 60 + p) / 8) / 10))) (pt (pt (σ 13) 0 0) 11 (((s + 1) + 1) + 1)) (by decide)).trans (congrArg (fun g9 => st g9 20 (pt (pt o s 45) (s + 1) (48 + ((f (r * 60 + p) / 8) / 10)))) (st_st _ _ _ _))))).trans (st_st _ _ _ _)) ?_
                  refine g_aload_n C dX5_describeReel_103 1 rfl rfl (q := 104) rfl ?_
                  refine g_bipush C dX5_describeReel_104 (by decide) (q := 106) rfl ?_
                  refine g_aload_n C dX5_describeReel_106 1 rfl rfl (q := 107) rfl ?_
                  refine g_iload_n C dX5_describeReel_107 2 rfl rfl (q := 108) rfl ?_
                  refine g_iload_n C dX5_describeReel_108 3 rfl rfl (q := 109) rfl ?_
                  refine g_iconst C dX5_describeReel_109 (q := 110) rfl ?_
                  refine g_cV_i C (As := [.int (iI r), .int (iI p), .int (iI 1)]) (c_X5_at_1 l E _ r p  (by omega) (by omega)) ml_X5_75 mf_X5_at (o := 13) (ci := 5) rfl rfl rfl rfl ⟨(Nat.le_of_ble_eq_true rfl), (Nat.le_of_ble_eq_true rfl)⟩ rfl rfl rfl (Nat.le_of_ble_eq_true rfl) ⟨(Nat.le_of_ble_eq_true rfl), (Nat.le_of_ble_eq_true rfl)⟩ dX5_describeReel_110 (q := 113) rfl ?_
                  refine g_top (b := (σ 14) (4 + 121 * r + 2 * p)) rfl ?_
                  refine g_top (b := f (r * 60 + p) % 8) (by exact hsg.2) ?_
                  refine g_iadd C dX5_describeReel_113 (q := 114) rfl ?_
                  refine g_cV_v C (As := [.int (iI (97 + (f (r * 60 + p) % 8)))]) (c_X5_writes l E _ (97 + (f (r * 60 + p) % 8))  (by show 0 ≤ (((s + 1) + 1) + 1) ∧ (((s + 1) + 1) + 1) < 240; omega)) ml_X5_251 mf_X5_writes (o := 13) (ci := 5) rfl rfl rfl rfl ⟨(Nat.le_of_ble_eq_true rfl), (Nat.le_of_ble_eq_true rfl)⟩ rfl rfl rfl (Nat.le_of_ble_eq_true rfl) ⟨(Nat.le_of_ble_eq_true rfl), (Nat.le_of_ble_eq_true rfl)⟩ dX5_describeReel_114 (q := 117) rfl ?_
                  refine g_st (σ2 := (st (st σ 13 (pt (pt (σ 13) 0 0) 11 ((((s + 1) + 1) + 1) + 1))) 20 (pt (pt (pt (pt o s 45) (s + 1) (48 + ((f (r * 60 + p) / 8) / 10))) ((s + 1) + 1) (48 + ((f (r * 60 + p) / 8) % 10))) (((s + 1) + 1) + 1) (97 + (f (r * 60 + p) % 8))))) ((congrArg (fun g9 => st g9 20 (pt (pt (pt (pt o s 45) (s + 1) (48 + ((f (r * 60 + p) / 8) / 10))) ((s + 1) + 1) (48 + ((f (r * 60 + p) / 8) % 10))) (((s + 1) + 1) + 1) (97 + (f (r * 60 + p) % 8)))) ((congrArg (st (st (st σ 13 (pt (pt (σ 13) 0 0) 11 (((s + 1) + 1) + 1))) 20 (pt (pt (pt o s 45) (s + 1) (48 + ((f (r * 60 + p) / 8) / 10))) ((s + 1) + 1) (48 + ((f (r * 60 + p) / 8) % 10)))) 13) (pt_pt _ _ _ _)).trans ((st_cm (st σ 13 (pt (pt (σ 13) 0 0) 11 (((s + 1) + 1) + 1))) (o := 20) (q := 13) (pt (pt (pt o s 45) (s + 1) (48 + ((f (r * 60 + p) / 8) / 10))) ((s + 1) + 1) (48 + ((f (r * 60 + p) / 8) % 10))) (pt (pt (σ 13) 0 0) 11 ((((s + 1) + 1) + 1) + 1)) (by decide)).trans (congrArg (fun g9 => st g9 20 (pt (pt (pt o s 45) (s + 1) (48 + ((f (r * 60 + p) / 8) / 10))) ((s + 1) + 1) (48 + ((f (r * 60 + p) / 8) % 10)))) (st_st _ _ _ _))))).trans (st_st _ _ _ _)) ?_
                  refine g_iinc C (L' := [(2, .int (iI (p + 1))), (3, .int (iI (f (r * 60 + p) / 8))), (0, .ref (ea E 13)), (1, .int (iI r))]) dX5_describeReel_117 3 rfl (by decide) rfl (q := 120) rfl ?_
                  refine g_goto C dX5_describeReel_120 (q := 32) rfl ?_
                  refine g_sub [2, 3, 0] (L' := [(0, .ref (ea E 13)), (1, .int (iI r)), (2, .int (iI (p + 1)))]) rfl ?_
                  exact ih32 (p + 1) ((((s + 1) + 1) + 1) + 1) (pt (pt (pt (pt o s 45) (s + 1) (48 + ((f (r * 60 + p) / 8) / 10))) ((s + 1) + 1) (48 + ((f (r * 60 + p) / 8) % 10))) (((s + 1) + 1) + 1) (97 + (f (r * 60 + p) % 8))) (by omega) (by omega) (by omega) (by first | (rw [hR, dsI_cons (by omega), sgc_0 (by omega), sgs_0 (by omega), show nm12 o s (f (r * 60 + p) / 8) = _ from if_pos (by omega), if_pos (by omega)]; done) | (rw [hR, dsI_cons (by omega), sgc_0 (by omega), sgs_0 (by omega), show nm12 o s (f (r * 60 + p) / 8) = _ from if_neg (by omega), if_neg (by omega), show s + 2 = s + 1 + 1 by omega]; done) | (rw [hR, dsI_cons (by omega), sgc_1 (by omega) (by omega), sgs_1 (by omega), show nm12 (pt o s 45) (s + 1) (f (r * 60 + p) / 8) = _ from if_pos (by omega), if_pos (by omega)]; done) | (rw [hR, dsI_cons (by omega), sgc_1 (by omega) (by omega), sgs_1 (by omega), show nm12 (pt o s 45) (s + 1) (f (r * 60 + p) / 8) = _ from if_neg (by omega), if_neg (by omega), show s + 1 + 2 = s + 1 + 1 + 1 by omega]; done) | (rw [hR, dsI_cons (by omega), sgc_2 (by omega) (by omega), sgs_1 (by omega), show nm12 (pt o s 61) (s + 1) (f (r * 60 + p) / 8) = _ from if_pos (by omega), if_pos (by omega)]; done) | (rw [hR, dsI_cons (by omega), sgc_2 (by omega) (by omega), sgs_1 (by omega), show nm12 (pt o s 61) (s + 1) (f (r * 60 + p) / 8) = _ from if_neg (by omega), if_neg (by omega), show s + 1 + 2 = s + 1 + 1 + 1 by omega]; done))
              · skip
                refine g_bipush C dX5_describeReel_57 (by decide) (q := 59) rfl ?_
                refine g_goto C dX5_describeReel_59 (q := 64) rfl ?_
                refine g_cV_v C (As := [.int (iI 61)]) (c_X5_writes l E _ 61  (by show 0 ≤ s ∧ s < 240; omega)) ml_X5_251 mf_X5_writes (o := 13) (ci := 5) rfl rfl rfl rfl ⟨(Nat.le_of_ble_eq_true rfl), (Nat.le_of_ble_eq_true rfl)⟩ rfl rfl rfl (Nat.le_of_ble_eq_true rfl) ⟨(Nat.le_of_ble_eq_true rfl), (Nat.le_of_ble_eq_true rfl)⟩ dX5_describeReel_64 (q := 67) rfl ?_
                refine g_st (σ2 := (st (st σ 13 (pt (pt (σ 13) 0 0) 11 (s + 1))) 20 (pt o s 61))) ((congrArg (fun g9 => st g9 20 (pt o s 61)) ((congrArg (st (st (st σ 13 (pt (pt (σ 13) 0 0) 11 s)) 20 o) 13) (pt_pt _ _ _ _)).trans ((st_cm (st σ 13 (pt (pt (σ 13) 0 0) 11 s)) (o := 20) (q := 13) o (pt (pt (σ 13) 0 0) 11 (s + 1)) (by decide)).trans (congrArg (fun g9 => st g9 20 o) (st_st _ _ _ _))))).trans (st_st _ _ _ _)) ?_
                refine g_aload_n C dX5_describeReel_67 0 rfl rfl (q := 68) rfl ?_
                refine g_iload_n C dX5_describeReel_68 1 rfl rfl (q := 69) rfl ?_
                refine g_iload_n C dX5_describeReel_69 2 rfl rfl (q := 70) rfl ?_
                refine g_iconst C dX5_describeReel_70 (q := 71) rfl ?_
                refine g_cV_i C (As := [.int (iI r), .int (iI p), .int (iI 0)]) (c_X5_at_0 l E _ r p  (by omega) (by omega)) ml_X5_75 mf_X5_at (o := 13) (ci := 5) rfl rfl rfl rfl ⟨(Nat.le_of_ble_eq_true rfl), (Nat.le_of_ble_eq_true rfl)⟩ rfl rfl rfl (Nat.le_of_ble_eq_true rfl) ⟨(Nat.le_of_ble_eq_true rfl), (Nat.le_of_ble_eq_true rfl)⟩ dX5_describeReel_71 (q := 74) rfl ?_
                refine g_top (b := (σ 14) (3 + 121 * r + 2 * p)) rfl ?_
                refine g_top (b := f (r * 60 + p) / 8) (by exact hsg.1) ?_
                refine g_istore_n C (L' := [(3, .int (iI (f (r * 60 + p) / 8))), (0, .ref (ea E 13)), (1, .int (iI r)), (2, .int (iI p))]) dX5_describeReel_74 rfl (by decide) rfl (q := 75) rfl ?_
                refine g_iload_n C dX5_describeReel_75 0 rfl rfl (q := 76) rfl ?_
                refine g_bipush C dX5_describeReel_76 (by decide) (q := 78) rfl ?_
                refine g_icmp_le C dX5_describeReel_78 (by omega) (q2 := 92) rfl (q := 81) rfl (fun hb8 => ?_) (fun hb8 => ?_)
                · skip
                  refine g_aload_n C dX5_describeReel_92 1 rfl rfl (q := 93) rfl ?_
                  refine g_bipush C dX5_describeReel_93 (by decide) (q := 95) rfl ?_
                  refine g_iload_n C dX5_describeReel_95 0 rfl rfl (q := 96) rfl ?_
                  refine g_bipush C dX5_describeReel_96 (by decide) (q := 98) rfl ?_
                  refine g_irem C dX5_describeReel_98 (by omega) (q := 99) rfl ?_
                  refine g_iadd C dX5_describeReel_99 (q := 100) rfl ?_
                  refine g_cV_v C (As := [.int (iI (48 + ((f (r * 60 + p) / 8) % 10)))]) (c_X5_writes l E _ (48 + ((f (r * 60 + p) / 8) % 10))  (by show 0 ≤ (s + 1) ∧ (s + 1) < 240; omega)) ml_X5_251 mf_X5_writes (o := 13) (ci := 5) rfl rfl rfl rfl ⟨(Nat.le_of_ble_eq_true rfl), (Nat.le_of_ble_eq_true rfl)⟩ rfl rfl rfl (Nat.le_of_ble_eq_true rfl) ⟨(Nat.le_of_ble_eq_true rfl), (Nat.le_of_ble_eq_true rfl)⟩ dX5_describeReel_100 (q := 103) rfl ?_
                  refine g_st (σ2 := (st (st σ 13 (pt (pt (σ 13) 0 0) 11 ((s + 1) + 1))) 20 (pt (pt o s 61) (s + 1) (48 + ((f (r * 60 + p) / 8) % 10))))) ((congrArg (fun g9 => st g9 20 (pt (pt o s 61) (s + 1) (48 + ((f (r * 60 + p) / 8) % 10)))) ((congrArg (st (st (st σ 13 (pt (pt (σ 13) 0 0) 11 (s + 1))) 20 (pt o s 61)) 13) (pt_pt _ _ _ _)).trans ((st_cm (st σ 13 (pt (pt (σ 13) 0 0) 11 (s + 1))) (o := 20) (q := 13) (pt o s 61) (pt (pt (σ 13) 0 0) 11 ((s + 1) + 1)) (by decide)).trans (congrArg (fun g9 => st g9 20 (pt o s 61)) (st_st _ _ _ _))))).trans (st_st _ _ _ _)) ?_
                  refine g_aload_n C dX5_describeReel_103 1 rfl rfl (q := 104) rfl ?_
                  refine g_bipush C dX5_describeReel_104 (by decide) (q := 106) rfl ?_
                  refine g_aload_n C dX5_describeReel_106 1 rfl rfl (q := 107) rfl ?_
                  refine g_iload_n C dX5_describeReel_107 2 rfl rfl (q := 108) rfl ?_
                  refine g_iload_n C dX5_describeReel_108 3 rfl rfl (q := 109) rfl ?_
                  refine g_iconst C dX5_describeReel_109 (q := 110) rfl ?_
                  refine g_cV_i C (As := [.int (iI r), .int (iI p), .int (iI 1)]) (c_X5_at_1 l E _ r p  (by omega) (by omega)) ml_X5_75 mf_X5_at (o := 13) (ci := 5) rfl rfl rfl rfl ⟨(Nat.le_of_ble_eq_true rfl), (Nat.le_of_ble_eq_true rfl)⟩ rfl rfl rfl (Nat.le_of_ble_eq_true rfl) ⟨(Nat.le_of_ble_eq_true rfl), (Nat.le_of_ble_eq_true rfl)⟩ dX5_describeReel_110 (q := 113) rfl ?_
                  refine g_top (b := (σ 14) (4 + 121 * r + 2 * p)) rfl ?_
                  refine g_top (b := f (r * 60 + p) % 8) (by exact hsg.2) ?_
                  refine g_iadd C dX5_describeReel_113 (q := 114) rfl ?_
                  refine g_cV_v C (As := [.int (iI (97 + (f (r * 60 + p) % 8)))]) (c_X5_writes l E _ (97 + (f (r * 60 + p) % 8))  (by show 0 ≤ ((s + 1) + 1) ∧ ((s + 1) + 1) < 240; omega)) ml_X5_251 mf_X5_writes (o := 13) (ci := 5) rfl rfl rfl rfl ⟨(Nat.le_of_ble_eq_true rfl), (Nat.le_of_ble_eq_true rfl)⟩ rfl rfl rfl (Nat.le_of_ble_eq_true rfl) ⟨(Nat.le_of_ble_eq_true rfl), (Nat.le_of_ble_eq_true rfl)⟩ dX5_describeReel_114 (q := 117) rfl ?_
                  refine g_st (σ2 := (st (st σ 13 (pt (pt (σ 13) 0 0) 11 (((s + 1) + 1) + 1))) 20 (pt (pt (pt o s 61) (s + 1) (48 + ((f (r * 60 + p) / 8) % 10))) ((s + 1) + 1) (97 + (f (r * 60 + p) % 8))))) ((congrArg (fun g9 => st g9 20 (pt (pt (pt o s 61) (s + 1) (48 + ((f (r * 60 + p) / 8) % 10))) ((s + 1) + 1) (97 + (f (r * 60 + p) % 8)))) ((congrArg (st (st (st σ 13 (pt (pt (σ 13) 0 0) 11 ((s + 1) + 1))) 20 (pt (pt o s 61) (s + 1) (48 + ((f (r * 60 + p) / 8) % 10)))) 13) (pt_pt _ _ _ _)).trans ((st_cm (st σ 13 (pt (pt (σ 13) 0 0) 11 ((s + 1) + 1))) (o := 20) (q := 13) (pt (pt o s 61) (s + 1) (48 + ((f (r * 60 + p) / 8) % 10))) (pt (pt (σ 13) 0 0) 11 (((s + 1) + 1) + 1)) (by decide)).trans (congrArg (fun g9 => st g9 20 (pt (pt o s 61) (s + 1) (48 + ((f (r * 60 + p) / 8) % 10)))) (st_st _ _ _ _))))).trans (st_st _ _ _ _)) ?_
                  refine g_iinc C (L' := [(2, .int (iI (p + 1))), (3, .int (iI (f (r * 60 + p) / 8))), (0, .ref (ea E 13)), (1, .int (iI r))]) dX5_describeReel_117 3 rfl (by decide) rfl (q := 120) rfl ?_
                  refine g_goto C dX5_describeReel_120 (q := 32) rfl ?_
                  refine g_sub [2, 3, 0] (L' := [(0, .ref (ea E 13)), (1, .int (iI r)), (2, .int (iI (p + 1)))]) rfl ?_
                  exact ih32 (p + 1) (((s + 1) + 1) + 1) (pt (pt (pt o s 61) (s + 1) (48 + ((f (r * 60 + p) / 8) % 10))) ((s + 1) + 1) (97 + (f (r * 60 + p) % 8))) (by omega) (by omega) (by omega) (by first | (rw [hR, dsI_cons (by omega), sgc_0 (by omega), sgs_0 (by omega), show nm12 o s (f (r * 60 + p) / 8) = _ from if_pos (by omega), if_pos (by omega)]; done) | (rw [hR, dsI_cons (by omega), sgc_0 (by omega), sgs_0 (by omega), show nm12 o s (f (r * 60 + p) / 8) = _ from if_neg (by omega), if_neg (by omega), show s + 2 = s + 1 + 1 by omega]; done) | (rw [hR, dsI_cons (by omega), sgc_1 (by omega) (by omega), sgs_1 (by omega), show nm12 (pt o s 45) (s + 1) (f (r * 60 + p) / 8) = _ from if_pos (by omega), if_pos (by omega)]; done) | (rw [hR, dsI_cons (by omega), sgc_1 (by omega) (by omega), sgs_1 (by omega), show nm12 (pt o s 45) (s + 1) (f (r * 60 + p) / 8) = _ from if_neg (by omega), if_neg (by omega), show s + 1 + 2 = s + 1 + 1 + 1 by omega]; done) | (rw [hR, dsI_cons (by omega), sgc_2 (by omega) (by omega), sgs_1 (by omega), show nm12 (pt o s 61) (s + 1) (f (r * 60 + p) / 8) = _ from if_pos (by omega), if_pos (by omega)]; done) | (rw [hR, dsI_cons (by omega), sgc_2 (by omega) (by omega), sgs_1 (by omega), show nm12 (pt o s 61) (s + 1) (f (r * 60 + p) / 8) = _ from if_neg (by omega), if_neg (by omega), show s + 1 + 2 = s + 1 + 1 + 1 by omega]; done))
                · skip
                  refine g_aload_n C dX5_describeReel_81 1 rfl rfl (q := 82) rfl ?_
                  refine g_bipush C dX5_describeReel_82 (by decide) (q := 84) rfl ?_
                  refine g_iload_n C dX5_describeReel_84 0 rfl rfl (q := 85) rfl ?_
                  refine g_bipush C dX5_describeReel_85 (by decide) (q := 87) rfl ?_
                  refine g_idiv C dX5_describeReel_87 (by omega) (q := 88) rfl ?_
                  refine g_iadd C dX5_describeReel_88 (q := 89) rfl ?_
                  refine g_cV_v C (As := [.int (iI (48 + ((f (r * 60 + p) / 8) / 10)))]) (c_X5_writes l E _ (48 + ((f (r * 60 + p) / 8) / 10))  (by show 0 ≤ (s + 1) ∧ (s + 1) < 240; omega)) ml_X5_251 mf_X5_writes (o := 13) (ci := 5) rfl rfl rfl rfl ⟨(Nat.le_of_ble_eq_true rfl), (Nat.le_of_ble_eq_true rfl)⟩ rfl rfl rfl (Nat.le_of_ble_eq_true rfl) ⟨(Nat.le_of_ble_eq_true rfl), (Nat.le_of_ble_eq_true rfl)⟩ dX5_describeReel_89 (q := 92) rfl ?_
                  refine g_st (σ2 := (st (st σ 13 (pt (pt (σ 13) 0 0) 11 ((s + 1) + 1))) 20 (pt (pt o s 61) (s + 1) (48 + ((f (r * 60 + p) / 8) / 10))))) ((congrArg (fun g9 => st g9 20 (pt (pt o s 61) (s + 1) (48 + ((f (r * 60 + p) / 8) / 10)))) ((congrArg (st (st (st σ 13 (pt (pt (σ 13) 0 0) 11 (s + 1))) 20 (pt o s 61)) 13) (pt_pt _ _ _ _)).trans ((st_cm (st σ 13 (pt (pt (σ 13) 0 0) 11 (s + 1))) (o := 20) (q := 13) (pt o s 61) (pt (pt (σ 13) 0 0) 11 ((s + 1) + 1)) (by decide)).trans (congrArg (fun g9 => st g9 20 (pt o s 61)) (st_st _ _ _ _))))).trans (st_st _ _ _ _)) ?_
                  refine g_aload_n C dX5_describeReel_92 1 rfl rfl (q := 93) rfl ?_
                  refine g_bipush C dX5_describeReel_93 (by decide) (q := 95) rfl ?_
                  refine g_iload_n C dX5_describeReel_95 0 rfl rfl (q := 96) rfl ?_
                  refine g_bipush C dX5_describeReel_96 (by decide) (q := 98) rfl ?_
                  refine g_irem C dX5_describeReel_98 (by omega) (q := 99) rfl ?_
                  refine g_iadd C dX5_describeReel_99 (q := 100) rfl ?_
                  refine g_cV_v C (As := [.int (iI (48 + ((f (r * 60 + p) / 8) % 10)))]) (c_X5_writes l E _ (48 + ((f (r * 60 + p) / 8) % 10))  (by show 0 ≤ ((s + 1) + 1) ∧ ((s + 1) + 1) < 240; omega)) ml_X5_251 mf_X5_writes (o := 13) (ci := 5) rfl rfl rfl rfl ⟨(Nat.le_of_ble_eq_true rfl), (Nat.le_of_ble_eq_true rfl)⟩ rfl rfl rfl (Nat.le_of_ble_eq_true rfl) ⟨(Nat.le_of_ble_eq_true rfl), (Nat.le_of_ble_eq_true rfl)⟩ dX5_describeReel_100 (q := 103) rfl ?_
                  refine g_st (σ2 := (st (st σ 13 (pt (pt (σ 13) 0 0) 11 (((s + 1) + 1) + 1))) 20 (pt (pt (pt o s 61) (s + 1) (48 + ((f (r * 60 + p) / 8) / 10))) ((s + 1) + 1) (48 + ((f (r * 60 + p) / 8) % 10))))) ((congrArg (fun g9 => st g9 20 (pt (pt (pt o s 61) (s + 1) (48 + ((f (r * 60 + p) / 8) / 10))) ((s + 1) + 1) (48 + ((f (r * 60 + p) / 8) % 10)))) ((congrArg (st (st (st σ 13 (pt (pt (σ 13) 0 0) 11 ((s + 1) + 1))) 20 (pt (pt o s 61) (s + 1) (48 + ((f (r * 60 + p) / 8) / 10)))) 13) (pt_pt _ _ _ _)).trans ((st_cm (st σ 13 (pt (pt (σ 13) 0 0) 11 ((s + 1) + 1))) (o := 20) (q := 13) (pt (pt o s 61) (s + 1) (48 + ((f (r * 60 + p) / 8) / 10))) (pt (pt (σ 13) 0 0) 11 (((s + 1) + 1) + 1)) (by decide)).trans (congrArg (fun g9 => st g9 20 (pt (pt o s 61) (s + 1) (48 + ((f (r * 60 + p) / 8) / 10)))) (st_st _ _ _ _))))).trans (st_st _ _ _ _)) ?_
                  refine g_aload_n C dX5_describeReel_103 1 rfl rfl (q := 104) rfl ?_
                  refine g_bipush C dX5_describeReel_104 (by decide) (q := 106) rfl ?_
                  refine g_aload_n C dX5_describeReel_106 1 rfl rfl (q := 107) rfl ?_
                  refine g_iload_n C dX5_describeReel_107 2 rfl rfl (q := 108) rfl ?_
                  refine g_iload_n C dX5_describeReel_108 3 rfl rfl (q := 109) rfl ?_
                  refine g_iconst C dX5_describeReel_109 (q := 110) rfl ?_
                  refine g_cV_i C (As := [.int (iI r), .int (iI p), .int (iI 1)]) (c_X5_at_1 l E _ r p  (by omega) (by omega)) ml_X5_75 mf_X5_at (o := 13) (ci := 5) rfl rfl rfl rfl ⟨(Nat.le_of_ble_eq_true rfl), (Nat.le_of_ble_eq_true rfl)⟩ rfl rfl rfl (Nat.le_of_ble_eq_true rfl) ⟨(Nat.le_of_ble_eq_true rfl), (Nat.le_of_ble_eq_true rfl)⟩ dX5_describeReel_110 (q := 113) rfl ?_
                  refine g_top (b := (σ 14) (4 + 121 * r + 2 * p)) rfl ?_
                  refine g_top (b := f (r * 60 + p) % 8) (by exact hsg.2) ?_
                  refine g_iadd C dX5_describeReel_113 (q := 114) rfl ?_
                  refine g_cV_v C (As := [.int (iI (97 + (f (r * 60 + p) % 8)))]) (c_X5_writes l E _ (97 + (f (r * 60 + p) % 8))  (by show 0 ≤ (((s + 1) + 1) + 1) ∧ (((s + 1) + 1) + 1) < 240; omega)) ml_X5_251 mf_X5_writes (o := 13) (ci := 5) rfl rfl rfl rfl ⟨(Nat.le_of_ble_eq_true rfl), (Nat.le_of_ble_eq_true rfl)⟩ rfl rfl rfl (Nat.le_of_ble_eq_true rfl) ⟨(Nat.le_of_ble_eq_true rfl), (Nat.le_of_ble_eq_true rfl)⟩ dX5_describeReel_114 (q := 117) rfl ?_
                  refine g_st (σ2 := (st (st σ 13 (pt (pt (σ 13) 0 0) 11 ((((s + 1) + 1) + 1) + 1))) 20 (pt (pt (pt (pt o s 61) (s + 1) (48 + ((f (r * 60 + p) / 8) / 10))) ((s + 1) + 1) (48 + ((f (r * 60 + p) / 8) % 10))) (((s + 1) + 1) + 1) (97 + (f (r * 60 + p) % 8))))) ((congrArg (fun g9 => st g9 20 (pt (pt (pt (pt o s 61) (s + 1) (48 + ((f (r * 60 + p) / 8) / 10))) ((s + 1) + 1) (48 + ((f (r * 60 + p) / 8) % 10))) (((s + 1) + 1) + 1) (97 + (f (r * 60 + p) % 8)))) ((congrArg (st (st (st σ 13 (pt (pt (σ 13) 0 0) 11 (((s + 1) + 1) + 1))) 20 (pt (pt (pt o s 61) (s + 1) (48 + ((f (r * 60 + p) / 8) / 10))) ((s + 1) + 1) (48 + ((f (r * 60 + p) / 8) % 10)))) 13) (pt_pt _ _ _ _)).trans ((st_cm (st σ 13 (pt (pt (σ 13) 0 0) 11 (((s + 1) + 1) + 1))) (o := 20) (q := 13) (pt (pt (pt o s 61) (s + 1) (48 + ((f (r * 60 + p) / 8) / 10))) ((s + 1) + 1) (48 + ((f (r * 60 + p) / 8) % 10))) (pt (pt (σ 13) 0 0) 11 ((((s + 1) + 1) + 1) + 1)) (by decide)).trans (congrArg (fun g9 => st g9 20 (pt (pt (pt o s 61) (s + 1) (48 + ((f (r * 60 + p) / 8) / 10))) ((s + 1) + 1) (48 + ((f (r * 60 + p) / 8) % 10)))) (st_st _ _ _ _))))).trans (st_st _ _ _ _)) ?_
                  refine g_iinc C (L' := [(2, .int (iI (p + 1))), (3, .int (iI (f (r * 60 + p) / 8))), (0, .ref (ea E 13)), (1, .int (iI r))]) dX5_describeReel_117 3 rfl (by decide) rfl (q := 120) rfl ?_
                  refine g_goto C dX5_describeReel_120 (q := 32) rfl ?_
                  refine g_sub [2, 3, 0] (L' := [(0, .ref (ea E 13)), (1, .int (iI r)), (2, .int (iI (p + 1)))]) rfl ?_
                  exact ih32 (p + 1) ((((s + 1) + 1) + 1) + 1) (pt (pt (pt (pt o s 61) (s + 1) (48 + ((f (r * 60 + p) / 8) / 10))) ((s + 1) + 1) (48 + ((f (r * 60 + p) / 8) % 10))) (((s + 1) + 1) + 1) (97 + (f (r * 60 + p) % 8))) (by omega) (by omega) (by omega) (by first | (rw [hR, dsI_cons (by omega), sgc_0 (by omega), sgs_0 (by omega), show nm12 o s (f (r * 60 + p) / 8) = _ from if_pos (by omega), if_pos (by omega)]; done) | (rw [hR, dsI_cons (by omega), sgc_0 (by omega), sgs_0 (by omega), show nm12 o s (f (r * 60 + p) / 8) = _ from if_neg (by omega), if_neg (by omega), show s + 2 = s + 1 + 1 by omega]; done) | (rw [hR, dsI_cons (by omega), sgc_1 (by omega) (by omega), sgs_1 (by omega), show nm12 (pt o s 45) (s + 1) (f (r * 60 + p) / 8) = _ from if_pos (by omega), if_pos (by omega)]; done) | (rw [hR, dsI_cons (by omega), sgc_1 (by omega) (by omega), sgs_1 (by omega), show nm12 (pt o s 45) (s + 1) (f (r * 60 + p) / 8) = _ from if_neg (by omega), if_neg (by omega), show s + 1 + 2 = s + 1 + 1 + 1 by omega]; done) | (rw [hR, dsI_cons (by omega), sgc_2 (by omega) (by omega), sgs_1 (by omega), show nm12 (pt o s 61) (s + 1) (f (r * 60 + p) / 8) = _ from if_pos (by omega), if_pos (by omega)]; done) | (rw [hR, dsI_cons (by omega), sgc_2 (by omega) (by omega), sgs_1 (by omega), show nm12 (pt o s 61) (s + 1) (f (r * 60 + p) / 8) = _ from if_neg (by omega), if_neg (by omega), show s + 1 + 2 = s + 1 + 1 + 1 by omega]; done))
      exact lp32 _ 0 0 (σ 20) (Nat.lt_succ_self _) (by omega) (by omega) (by rfl)
    · skip
      exfalso; omega
set_option maxRecDepth 100000 in
set_option maxHeartbeats 4000000 in
theorem c_X5_describeReel_11 (l : Launch) (E : EV) (σ : SS) (r : Int) (f : Int → Int) (hM : MS f (σ 14)) (hr_r : -2147483648 ≤ r ∧ r ≤ 2147483647) (hF1 : fR r = 1) : Ki l yX5_describeReel (cw yX5_describeReel cX5_describeReel 4 (some .int)) rm_X5_describeReel E [.ref (ea E 13), .int (iI r)] σ 0 (st σ 13 (pt (σ 13) 0 1)) := by
  refine Ki_of (rm := rm_X5_describeReel) (mL := 4) (b := cX5_describeReel) RX5 rfl (by decide +kernel) rfl rfl [(0, .ref (ea E 13)), (1, .int (iI r))] rfl (Nat.le_of_ble_eq_true rfl) (fun p_ e_ s_ m_ a_ b_ h_ c_ Q A C hret => ?_)
  have hB := bR_iff r
  have hB1 := bR_01 r
  have hnr : ¬ (0 ≤ r ∧ r < 4) := by intro h9; unfold fR at hF1; rw [if_pos h9] at hF1; omega
  refine g_aload_n C dX5_describeReel_0 0 rfl rfl (q := 1) rfl ?_
  refine g_iload_n C dX5_describeReel_1 1 rfl rfl (q := 2) rfl ?_
  refine g_cS_i C (As := [.int (iI r)]) (c_X5_isReel l E _ r  (by omega)) ml_X5_58 mf_X5_isReel rfl rfl ⟨(Nat.le_of_ble_eq_true rfl), (Nat.le_of_ble_eq_true rfl)⟩ rfl rfl rfl (Nat.le_of_ble_eq_true rfl) ⟨(Nat.le_of_ble_eq_true rfl), (Nat.le_of_ble_eq_true rfl)⟩ dX5_describeReel_2 (q := 5) rfl ?_
  refine g_if_eq C dX5_describeReel_5 (by omega) (q2 := 12) rfl (q := 8) rfl (fun hb1 => ?_) (fun hb1 => ?_)
  · skip
    refine g_iconst C dX5_describeReel_12 (q := 13) rfl ?_
    refine gp_X5_38 C dX5_describeReel_13 (q := 16) rfl ?_
    refine g_aload_n C dX5_describeReel_16 0 rfl rfl (q := 17) rfl ?_
    refine gf_X5_38 C dX5_describeReel_17 (q := 20) rfl ?_
    refine g_top (b := 1) rfl ?_
    refine g_if_le C dX5_describeReel_20 (by omega) (q2 := 25) rfl (q := 23) rfl (fun hb2 => ?_) (fun hb2 => ?_)
    · skip
      exfalso; omega
    · skip
      refine g_iconst C dX5_describeReel_23 (q := 24) rfl ?_
      exact hret _ _ _ dX5_describeReel_24 rfl
  · skip
    exfalso; omega
abbrev rm_X5_lineAt : Room := { frames := 1, cells := 0, slots := 0, locals := 22 }
set_option maxRecDepth 100000 in
set_option maxHeartbeats 4000000 in
theorem c_X5_lineAt (l : Launch) (E : EV) (σ : SS) (i : Int) (hr_i : -2147483648 ≤ i ∧ i ≤ 2147483647) (hl : 0 ≤ (σ 13 11) ∧ (σ 13 11) ≤ 240) (hi : 0 ≤ i ∧ i < (σ 13 11)) (hv : 0 ≤ (σ 20) i ∧ (σ 20) i < 65536) : Ki l yX5_lineAt (cw yX5_lineAt cX5_lineAt 2 (some .char)) rm_X5_lineAt E [.ref (ea E 13), .int (iI i)] σ ((σ 20) i) (st σ 13 (pt (σ 13) 0 0)) := by
  refine Kc_of (rm := rm_X5_lineAt) (mL := 2) (b := cX5_lineAt) RX5 rfl (by decide +kernel) rfl rfl [(0, .ref (ea E 13)), (1, .int (iI i))] rfl (Nat.le_of_ble_eq_true rfl) (fun p_ e_ s_ m_ a_ b_ h_ c_ Q A C hret => ?_)
  have hI := bI_01 i 0 (σ 13 11 - 1)
  have hI1 := bI_iff i 0 (σ 13 11 - 1)
  refine g_aload_n C dX5_lineAt_0 0 rfl rfl (q := 1) rfl ?_
  refine g_iload_n C dX5_lineAt_1 1 rfl rfl (q := 2) rfl ?_
  refine g_iconst C dX5_lineAt_2 (q := 3) rfl ?_
  refine g_aload_n C dX5_lineAt_3 0 rfl rfl (q := 4) rfl ?_
  refine gf_X5_248 C dX5_lineAt_4 (q := 7) rfl ?_
  refine g_iconst C dX5_lineAt_7 (q := 8) rfl ?_
  refine g_isub C dX5_lineAt_8 (q := 9) rfl ?_
  refine g_cS_i C (As := [.int (iI i), .int (iI 0), .int (iI ((σ 13 11) - 1))]) (c_X5_in l E _ i 0 ((σ 13 11) - 1)  (by omega) (by omega) (by omega)) ml_X5_54 mf_X5_in rfl rfl ⟨(Nat.le_of_ble_eq_true rfl), (Nat.le_of_ble_eq_true rfl)⟩ rfl rfl rfl (Nat.le_of_ble_eq_true rfl) ⟨(Nat.le_of_ble_eq_true rfl), (Nat.le_of_ble_eq_true rfl)⟩ dX5_lineAt_9 (q := 12) rfl ?_
  refine g_if_eq C dX5_lineAt_12 (by omega) (q2 := 19) rfl (q := 15) rfl (fun hb1 => ?_) (fun hb1 => ?_)
  · skip
    exfalso; omega
  · skip
    refine g_iconst C dX5_lineAt_15 (q := 16) rfl ?_
    refine g_goto C dX5_lineAt_16 (q := 20) rfl ?_
    refine gp_X5_38 C dX5_lineAt_20 (q := 23) rfl ?_
    refine g_aload_n C dX5_lineAt_23 0 rfl rfl (q := 24) rfl ?_
    refine gf_X5_38 C dX5_lineAt_24 (q := 27) rfl ?_
    refine g_top (b := 0) rfl ?_
    refine g_if_le C dX5_lineAt_27 (by omega) (q2 := 34) rfl (q := 30) rfl (fun hb2 => ?_) (fun hb2 => ?_)
    · skip
      refine g_aload_n C dX5_lineAt_34 0 rfl rfl (q := 35) rfl ?_
      refine gf_X5_28 C dX5_lineAt_35 (q := 38) rfl ?_
      refine g_iload_n C dX5_lineAt_38 1 rfl rfl (q := 39) rfl ?_
      refine gl_20 C (by omega) dX5_lineAt_39 (q := 40) rfl ?_
      refine g_top (b := (σ 20) i) rfl ?_
      refine g_i2c C dX5_lineAt_40 (q := 41) rfl ?_
      refine g_top (b := (σ 20) i) (by omega) ?_
      exact hret _ _ _ dX5_lineAt_41 (by omega) rfl
    · skip
      exfalso; omega
set_option maxRecDepth 100000 in
set_option maxHeartbeats 4000000 in
theorem c_X5_lineAt_1 (l : Launch) (E : EV) (σ : SS) (i : Int) (hr_i : -2147483648 ≤ i ∧ i ≤ 2147483647) (hl : 0 ≤ (σ 13 11) ∧ (σ 13 11) ≤ 240) (hi : ¬ (0 ≤ i ∧ i < (σ 13 11))) : Ki l yX5_lineAt (cw yX5_lineAt cX5_lineAt 2 (some .char)) rm_X5_lineAt E [.ref (ea E 13), .int (iI i)] σ 0 (st σ 13 (pt (σ 13) 0 1)) := by
  refine Kc_of (rm := rm_X5_lineAt) (mL := 2) (b := cX5_lineAt) RX5 rfl (by decide +kernel) rfl rfl [(0, .ref (ea E 13)), (1, .int (iI i))] rfl (Nat.le_of_ble_eq_true rfl) (fun p_ e_ s_ m_ a_ b_ h_ c_ Q A C hret => ?_)
  have hI := bI_01 i 0 (σ 13 11 - 1)
  have hI1 := bI_iff i 0 (σ 13 11 - 1)
  refine g_aload_n C dX5_lineAt_0 0 rfl rfl (q := 1) rfl ?_
  refine g_iload_n C dX5_lineAt_1 1 rfl rfl (q := 2) rfl ?_
  refine g_iconst C dX5_lineAt_2 (q := 3) rfl ?_
  refine g_aload_n C dX5_lineAt_3 0 rfl rfl (q := 4) rfl ?_
  refine gf_X5_248 C dX5_lineAt_4 (q := 7) rfl ?_
  refine g_iconst C dX5_lineAt_7 (q := 8) rfl ?_
  refine g_isub C dX5_lineAt_8 (q := 9) rfl ?_
  refine g_cS_i C (As := [.int (iI i), .int (iI 0), .int (iI ((σ 13 11) - 1))]) (c_X5_in l E _ i 0 ((σ 13 11) - 1)  (by omega) (by omega) (by omega)) ml_X5_54 mf_X5_in rfl rfl ⟨(Nat.le_of_ble_eq_true rfl), (Nat.le_of_ble_eq_true rfl)⟩ rfl rfl rfl (Nat.le_of_ble_eq_true rfl) ⟨(Nat.le_of_ble_eq_true rfl), (Nat.le_of_ble_eq_true rfl)⟩ dX5_lineAt_9 (q := 12) rfl ?_
  refine g_if_eq C dX5_lineAt_12 (by omega) (q2 := 19) rfl (q := 15) rfl (fun hb1 => ?_) (fun hb1 => ?_)
  · skip
    refine g_iconst C dX5_lineAt_19 (q := 20) rfl ?_
    refine gp_X5_38 C dX5_lineAt_20 (q := 23) rfl ?_
    refine g_aload_n C dX5_lineAt_23 0 rfl rfl (q := 24) rfl ?_
    refine gf_X5_38 C dX5_lineAt_24 (q := 27) rfl ?_
    refine g_top (b := 1) rfl ?_
    refine g_if_le C dX5_lineAt_27 (by omega) (q2 := 34) rfl (q := 30) rfl (fun hb2 => ?_) (fun hb2 => ?_)
    · skip
      exfalso; omega
    · skip
      refine g_iconst C dX5_lineAt_30 (q := 31) rfl ?_
      refine g_goto C dX5_lineAt_31 (q := 41) rfl ?_
      exact hret _ _ _ dX5_lineAt_41 (by omega) rfl
  · skip
    exfalso; omega
abbrev rm_X5_isConsistent : Room := { frames := 0, cells := 0, slots := 0, locals := 0 }
set_option maxRecDepth 100000 in
set_option maxHeartbeats 4000000 in
theorem c_X5_isConsistent (l : Launch) (E : EV) (σ : SS)  : Ki l yX5_isConsistent (cw yX5_isConsistent cX5_isConsistent 1 (some .boolean)) rm_X5_isConsistent E [.ref (ea E 13)] σ 1 (st σ 13 (pt (σ 13) 0 0)) := by
  refine Kz_of (rm := rm_X5_isConsistent) (mL := 1) (b := cX5_isConsistent) RX5 rfl (by decide +kernel) rfl rfl [(0, .ref (ea E 13))] rfl (Nat.le_of_ble_eq_true rfl) (fun p_ e_ s_ m_ a_ b_ h_ c_ Q A C hret => ?_)
  refine g_aload_n C dX5_isConsistent_0 0 rfl rfl (q := 1) rfl ?_
  refine g_iconst C dX5_isConsistent_1 (q := 2) rfl ?_
  refine gp_X5_38 C dX5_isConsistent_2 (q := 5) rfl ?_
  refine g_iconst C dX5_isConsistent_5 (q := 6) rfl ?_
  exact hret _ _ _ dX5_isConsistent_6 (by omega) rfl
abbrev rm_X5_undo : Room := { frames := 1, cells := 0, slots := 0, locals := 21 }
set_option maxRecDepth 100000 in
set_option maxHeartbeats 4000000 in
theorem c_X5_undo (l : Launch) (E : EV) (σ : SS) (hk0 : 0 < (σ 13 5) ∧ (σ 13 5) ≤ 8) : Ki l yX5_undo (cw yX5_undo cX5_undo 2 (some .int)) rm_X5_undo E [.ref (ea E 13)] σ ((σ 13 5) - 1) (st (st σ 13 (pt (pt (σ 13) 0 0) 5 ((σ 13 5) - 1))) 14 (cpf (σ 17) (σ 14) (486 * ((σ 13 5) - 1)) 0 486)) := by
  refine Ki_of (rm := rm_X5_undo) (mL := 2) (b := cX5_undo) RX5 rfl (by decide +kernel) rfl rfl [(0, .ref (ea E 13))] rfl (Nat.le_of_ble_eq_true rfl) (fun p_ e_ s_ m_ a_ b_ h_ c_ Q A C hret => ?_)
  refine g_aload_n C dX5_undo_0 0 rfl rfl (q := 1) rfl ?_
  refine g_iconst C dX5_undo_1 (q := 2) rfl ?_
  refine gp_X5_38 C dX5_undo_2 (q := 5) rfl ?_
  refine g_aload_n C dX5_undo_5 0 rfl rfl (q := 6) rfl ?_
  refine gf_X5_41 C dX5_undo_6 (q := 9) rfl ?_
  refine g_top (b := (σ 13 5)) rfl ?_
  refine g_if_ne C dX5_undo_9 (by omega) (q2 := 18) rfl (q := 12) rfl (fun hb1 => ?_) (fun hb1 => ?_)
  · skip
    refine g_aload_n C dX5_undo_18 0 rfl rfl (q := 19) rfl ?_
    refine g_dup C dX5_undo_19 rfl (q := 20) rfl ?_
    refine gf_X5_41 C dX5_undo_20 (q := 23) rfl ?_
    refine g_top (b := (σ 13 5)) rfl ?_
    refine g_iconst C dX5_undo_23 (q := 24) rfl ?_
    refine g_isub C dX5_undo_24 (q := 25) rfl ?_
    refine gp_X5_41 C dX5_undo_25 (q := 28) rfl ?_
    refine g_st (σ2 := (st σ 13 (pt (pt (σ 13) 0 0) 5 ((σ 13 5) - 1)))) (st_st _ _ _ _) ?_
    refine g_iconst C dX5_undo_28 (q := 29) rfl ?_
    refine g_istore_n C (L' := [(1, .int (iI 0)), (0, .ref (ea E 13))]) dX5_undo_29 rfl (by decide) rfl (q := 30) rfl ?_
    refine g_sub [1, 0] (L' := [(0, .ref (ea E 13)), (1, .int (iI 0))]) rfl ?_
    refine g_st (σ2 := (st (st σ 13 (pt (pt (σ 13) 0 0) 5 ((σ 13 5) - 1))) 14 (cpf (σ 17) (σ 14) (486 * ((σ 13 5) - 1)) 0 0))) (by rw [cpf_0]; exact (st_id (st σ 13 _) 14).symm) ?_
    have lp30 : ∀ (k9 : Nat) (k : Int), (486 - k).toNat < k9 → (0 ≤ k ∧ k ≤ 486) → GG p_ l e_ rm_X5_undo s_ m_ a_ b_ h_ c_ Q E A 2 (st (st σ 13 (pt (pt (σ 13) 0 0) 5 ((σ 13 5) - 1))) 14 (cpf (σ 17) (σ 14) (486 * ((σ 13 5) - 1)) 0 k)) 0 0 30 [(0, .ref (ea E 13)), (1, .int (iI k))] [] := by
      intro k9
      induction k9 with
      | zero => intro k hk9; omega
      | succ k9 ih30 =>
        intro k hk9 hk
        refine g_iload_n C dX5_undo_30 1 rfl rfl (q := 31) rfl ?_
        refine g_sipush C dX5_undo_31 (by decide) (q := 34) rfl ?_
        refine g_icmp_ge C dX5_undo_34 (by omega) (q2 := 64) rfl (q := 37) rfl (fun hb2 => ?_) (fun hb2 => ?_)
        · skip
          refine g_aload_n C dX5_undo_64 0 rfl rfl (q := 65) rfl ?_
          refine gf_X5_41 C dX5_undo_65 (q := 68) rfl ?_
          refine g_top (b := (σ 13 5) - 1) rfl ?_
          refine g_st (σ2 := (st (st σ 13 (pt (pt (σ 13) 0 0) 5 ((σ 13 5) - 1))) 14 (cpf (σ 17) (σ 14) (486 * ((σ 13 5) - 1)) 0 486))) (by rw [show k = 486 by omega]) ?_
          exact hret _ _ _ dX5_undo_68 rfl
        · skip
          refine g_aload_n C dX5_undo_37 0 rfl rfl (q := 38) rfl ?_
          refine gf_X5_7 C dX5_undo_38 (q := 41) rfl ?_
          refine g_iload_n C dX5_undo_41 1 rfl rfl (q := 42) rfl ?_
          refine g_aload_n C dX5_undo_42 0 rfl rfl (q := 43) rfl ?_
          refine gf_X5_19 C dX5_undo_43 (q := 46) rfl ?_
          refine g_sipush C dX5_undo_46 (by decide) (q := 49) rfl ?_
          refine g_aload_n C dX5_undo_49 0 rfl rfl (q := 50) rfl ?_
          refine gf_X5_41 C dX5_undo_50 (q := 53) rfl ?_
          refine g_top (b := (σ 13 5) - 1) rfl ?_
          refine g_imul C dX5_undo_53 (q := 54) rfl ?_
          refine g_iload_n C dX5_undo_54 1 rfl rfl (q := 55) rfl ?_
          refine g_iadd C dX5_undo_55 (q := 56) rfl ?_
          refine gl_17 C (by omega) dX5_undo_56 (q := 57) rfl ?_
          refine g_top (b := (σ 17) (486 * ((σ 13 5) - 1) + k)) rfl ?_
          refine gs_14 C (by omega) dX5_undo_57 (q := 58) rfl ?_
          refine g_st (σ2 := (st (st σ 13 (pt (pt (σ 13) 0 0) 5 ((σ 13 5) - 1))) 14 (pt (cpf (σ 17) (σ 14) (486 * ((σ 13 5) - 1)) 0 k) k ((σ 17) (486 * ((σ 13 5) - 1) + k))))) (st_st _ _ _ _) ?_
          refine g_iinc C (L' := [(1, .int (iI (k + 1))), (0, .ref (ea E 13))]) dX5_undo_58 1 rfl (by decide) rfl (q := 61) rfl ?_
          refine g_goto C dX5_undo_61 (q := 30) rfl ?_
          refine g_sub [1, 0] (L' := [(0, .ref (ea E 13)), (1, .int (iI (k + 1)))]) rfl ?_
          refine g_st (σ2 := (st (st σ 13 (pt (pt (σ 13) 0 0) 5 ((σ 13 5) - 1))) 14 (cpf (σ 17) (σ 14) (486 * ((σ 13 5) - 1)) 0 (k + 1)))) (congrArg (st _ 14) (by funext z9; simp only [pt, cpf]; (repeat' split) <;> first | rfl | omega | (congr 1; omega))) ?_
          exact ih30 (k + 1) (by omega) (by omega)
    exact lp30 _ 0 (Nat.lt_succ_self _) (by omega)
  · skip
    exfalso; omega
set_option maxRecDepth 100000 in
set_option maxHeartbeats 4000000 in
theorem c_X5_undo_1 (l : Launch) (E : EV) (σ : SS) (hk0 : (σ 13 5) = 0) : Ki l yX5_undo (cw yX5_undo cX5_undo 2 (some .int)) rm_X5_undo E [.ref (ea E 13)] σ 0 (st σ 13 (pt (σ 13) 0 1)) := by
  refine Ki_of (rm := rm_X5_undo) (mL := 2) (b := cX5_undo) RX5 rfl (by decide +kernel) rfl rfl [(0, .ref (ea E 13))] rfl (Nat.le_of_ble_eq_true rfl) (fun p_ e_ s_ m_ a_ b_ h_ c_ Q A C hret => ?_)
  refine g_aload_n C dX5_undo_0 0 rfl rfl (q := 1) rfl ?_
  refine g_iconst C dX5_undo_1 (q := 2) rfl ?_
  refine gp_X5_38 C dX5_undo_2 (q := 5) rfl ?_
  refine g_aload_n C dX5_undo_5 0 rfl rfl (q := 6) rfl ?_
  refine gf_X5_41 C dX5_undo_6 (q := 9) rfl ?_
  refine g_top (b := (σ 13 5)) rfl ?_
  refine g_if_ne C dX5_undo_9 (by omega) (q2 := 18) rfl (q := 12) rfl (fun hb1 => ?_) (fun hb1 => ?_)
  · skip
    exfalso; omega
  · skip
    refine g_aload_n C dX5_undo_12 0 rfl rfl (q := 13) rfl ?_
    refine g_iconst C dX5_undo_13 (q := 14) rfl ?_
    refine g_cV_i C (As := [.int (iI 1)]) (c_X5_fails l E _ 1) ml_X5_51 mf_X5_fails (o := 13) (ci := 5) rfl rfl rfl rfl ⟨(Nat.le_of_ble_eq_true rfl), (Nat.le_of_ble_eq_true rfl)⟩ rfl rfl rfl (Nat.le_of_ble_eq_true rfl) ⟨(Nat.le_of_ble_eq_true rfl), (Nat.le_of_ble_eq_true rfl)⟩ dX5_undo_14 (q := 17) rfl ?_
    refine g_st (σ2 := (st σ 13 (pt (σ 13) 0 1))) ((congrArg (st (st σ 13 (pt (σ 13) 0 0)) 13) (pt_pt _ _ _ _)).trans (st_st _ _ _ _)) ?_
    exact hret _ _ _ dX5_undo_17 rfl
abbrev rm_X5_save : Room := { frames := 2, cells := 0, slots := 0, locals := 41 }
set_option maxRecDepth 100000 in
set_option maxHeartbeats 4000000 in
theorem c_X5_save (l : Launch) (E : EV) (σ : SS)  : Ki l yX5_save (cw yX5_save cX5_save 2 (some .int)) rm_X5_save E [.ref (ea E 13)] σ ((σ 14) (2 + 121 * 0) + (σ 14) (2 + 121 * 1) + (σ 14) (2 + 121 * 2) + (σ 14) (2 + 121 * 3)) (st (st σ 13 (pt (pt (σ 13) 0 0) 6 1)) 16 (cpf (σ 14) (σ 16) 0 0 486)) := by
  refine Ki_of (rm := rm_X5_save) (mL := 2) (b := cX5_save) RX5 rfl (by decide +kernel) rfl rfl [(0, .ref (ea E 13))] rfl (Nat.le_of_ble_eq_true rfl) (fun p_ e_ s_ m_ a_ b_ h_ c_ Q A C hret => ?_)
  refine g_aload_n C dX5_save_0 0 rfl rfl (q := 1) rfl ?_
  refine g_iconst C dX5_save_1 (q := 2) rfl ?_
  refine gp_X5_38 C dX5_save_2 (q := 5) rfl ?_
  refine g_iconst C dX5_save_5 (q := 6) rfl ?_
  refine g_istore_n C (L' := [(1, .int (iI 0)), (0, .ref (ea E 13))]) dX5_save_6 rfl (by decide) rfl (q := 7) rfl ?_
  refine g_sub [1, 0] (L' := [(0, .ref (ea E 13)), (1, .int (iI 0))]) rfl ?_
  refine g_st (σ2 := (st (st σ 13 (pt (σ 13) 0 0)) 16 (cpf (σ 14) (σ 16) 0 0 0))) (by rw [cpf_0]; exact (st_id (st σ 13 _) 16).symm) ?_
  have lp7 : ∀ (k9 : Nat) (k : Int), (486 - k).toNat < k9 → (0 ≤ k ∧ k ≤ 486) → GG p_ l e_ rm_X5_save s_ m_ a_ b_ h_ c_ Q E A 2 (st (st σ 13 (pt (σ 13) 0 0)) 16 (cpf (σ 14) (σ 16) 0 0 k)) 0 0 7 [(0, .ref (ea E 13)), (1, .int (iI k))] [] := by
    intro k9
    induction k9 with
    | zero => intro k hk9; omega
    | succ k9 ih7 =>
      intro k hk9 hk
      refine g_iload_n C dX5_save_7 1 rfl rfl (q := 8) rfl ?_
      refine g_sipush C dX5_save_8 (by decide) (q := 11) rfl ?_
      refine g_icmp_ge C dX5_save_11 (by omega) (q2 := 32) rfl (q := 14) rfl (fun hb1 => ?_) (fun hb1 => ?_)
      · skip
        refine g_st (σ2 := (st (st σ 13 (pt (σ 13) 0 0)) 16 (cpf (σ 14) (σ 16) 0 0 486))) (by rw [show k = 486 by omega]) ?_
        refine g_aload_n C dX5_save_32 0 rfl rfl (q := 33) rfl ?_
        refine g_iconst C dX5_save_33 (q := 34) rfl ?_
        refine gp_X5_254 C (by omega) dX5_save_34 (q := 37) rfl ?_
        refine g_st (σ2 := (st (st σ 13 (pt (pt (σ 13) 0 0) 6 1)) 16 (cpf (σ 14) (σ 16) 0 0 486))) ((st_cm (st σ 13 (pt (σ 13) 0 0)) (o := 16) (q := 13) (cpf (σ 14) (σ 16) 0 0 486) (pt (pt (σ 13) 0 0) 6 1) (by decide)).trans (congrArg (fun g9 => st g9 16 (cpf (σ 14) (σ 16) 0 0 486)) (st_st _ _ _ _))) ?_
        refine g_aload_n C dX5_save_37 0 rfl rfl (q := 38) rfl ?_
        refine g_cV_i C (As := []) (c_X5_segments l E _) ml_X5_257 mf_X5_segments (o := 13) (ci := 5) rfl rfl rfl rfl ⟨(Nat.le_of_ble_eq_true rfl), (Nat.le_of_ble_eq_true rfl)⟩ rfl rfl rfl (Nat.le_of_ble_eq_true rfl) ⟨(Nat.le_of_ble_eq_true rfl), (Nat.le_of_ble_eq_true rfl)⟩ dX5_save_38 (q := 41) rfl ?_
        refine g_top (b := (σ 14) (2 + 121 * 0) + (σ 14) (2 + 121 * 1) + (σ 14) (2 + 121 * 2) + (σ 14) (2 + 121 * 3)) rfl ?_
        exact hret _ _ _ dX5_save_41 rfl
      · skip
        refine g_aload_n C dX5_save_14 0 rfl rfl (q := 15) rfl ?_
        refine gf_X5_16 C dX5_save_15 (q := 18) rfl ?_
        refine g_iload_n C dX5_save_18 1 rfl rfl (q := 19) rfl ?_
        refine g_aload_n C dX5_save_19 0 rfl rfl (q := 20) rfl ?_
        refine gf_X5_7 C dX5_save_20 (q := 23) rfl ?_
        refine g_iload_n C dX5_save_23 1 rfl rfl (q := 24) rfl ?_
        refine gl_14 C (by omega) dX5_save_24 (q := 25) rfl ?_
        refine g_top (b := (σ 14) k) rfl ?_
        refine gs_16 C (by omega) dX5_save_25 (q := 26) rfl ?_
        refine g_st (σ2 := (st (st σ 13 (pt (σ 13) 0 0)) 16 (pt (cpf (σ 14) (σ 16) 0 0 k) k ((σ 14) k)))) (st_st _ _ _ _) ?_
        refine g_iinc C (L' := [(1, .int (iI (k + 1))), (0, .ref (ea E 13))]) dX5_save_26 1 rfl (by decide) rfl (q := 29) rfl ?_
        refine g_goto C dX5_save_29 (q := 7) rfl ?_
        refine g_sub [1, 0] (L' := [(0, .ref (ea E 13)), (1, .int (iI (k + 1)))]) rfl ?_
        refine g_st (σ2 := (st (st σ 13 (pt (σ 13) 0 0)) 16 (cpf (σ 14) (σ 16) 0 0 (k + 1)))) (congrArg (st _ 16) (by funext z9; simp only [pt, cpf]; (repeat' split) <;> first | rfl | omega | (congr 1; omega))) ?_
        exact ih7 (k + 1) (by omega) (by omega)
  exact lp7 _ 0 (Nat.lt_succ_self _) (by omega)
abbrev rm_X5_restore : Room := { frames := 2, cells := 0, slots := 0, locals := 41 }
set_option maxRecDepth 100000 in
set_option maxHeartbeats 4000000 in
theorem c_X5_restore (l : Launch) (E : EV) (σ : SS) (hs : (σ 13 6) = 1) : Ki l yX5_restore (cw yX5_restore cX5_restore 2 (some .int)) rm_X5_restore E [.ref (ea E 13)] σ ((cpf (σ 16) (σ 14) 0 0 486) (2 + 121 * 0) + (cpf (σ 16) (σ 14) 0 0 486) (2 + 121 * 1) + (cpf (σ 16) (σ 14) 0 0 486) (2 + 121 * 2) + (cpf (σ 16) (σ 14) 0 0 486) (2 + 121 * 3)) (st (st σ 13 (pt (pt (σ 13) 0 0) 5 0)) 14 (cpf (σ 16) (σ 14) 0 0 486)) := by
  refine Ki_of (rm := rm_X5_restore) (mL := 2) (b := cX5_restore) RX5 rfl (by decide +kernel) rfl rfl [(0, .ref (ea E 13))] rfl (Nat.le_of_ble_eq_true rfl) (fun p_ e_ s_ m_ a_ b_ h_ c_ Q A C hret => ?_)
  refine g_aload_n C dX5_restore_0 0 rfl rfl (q := 1) rfl ?_
  refine g_iconst C dX5_restore_1 (q := 2) rfl ?_
  refine gp_X5_38 C dX5_restore_2 (q := 5) rfl ?_
  refine g_aload_n C dX5_restore_5 0 rfl rfl (q := 6) rfl ?_
  refine gf_X5_254 C dX5_restore_6 (q := 9) rfl ?_
  refine g_top (b := (σ 13 6)) rfl ?_
  refine g_if_ne C dX5_restore_9 (by omega) (q2 := 18) rfl (q := 12) rfl (fun hb1 => ?_) (fun hb1 => ?_)
  · skip
    refine g_iconst C dX5_restore_18 (q := 19) rfl ?_
    refine g_istore_n C (L' := [(1, .int (iI 0)), (0, .ref (ea E 13))]) dX5_restore_19 rfl (by decide) rfl (q := 20) rfl ?_
    refine g_sub [1, 0] (L' := [(0, .ref (ea E 13)), (1, .int (iI 0))]) rfl ?_
    refine g_st (σ2 := (st (st σ 13 (pt (σ 13) 0 0)) 14 (cpf (σ 16) (σ 14) 0 0 0))) (by rw [cpf_0]; exact (st_id (st σ 13 _) 14).symm) ?_
    have lp20 : ∀ (k9 : Nat) (k : Int), (486 - k).toNat < k9 → (0 ≤ k ∧ k ≤ 486) → GG p_ l e_ rm_X5_restore s_ m_ a_ b_ h_ c_ Q E A 2 (st (st σ 13 (pt (σ 13) 0 0)) 14 (cpf (σ 16) (σ 14) 0 0 k)) 0 0 20 [(0, .ref (ea E 13)), (1, .int (iI k))] [] := by
      intro k9
      induction k9 with
      | zero => intro k hk9; omega
      | succ k9 ih20 =>
        intro k hk9 hk
        refine g_iload_n C dX5_restore_20 1 rfl rfl (q := 21) rfl ?_
        refine g_sipush C dX5_restore_21 (by decide) (q := 24) rfl ?_
        refine g_icmp_ge C dX5_restore_24 (by omega) (q2 := 45) rfl (q := 27) rfl (fun hb2 => ?_) (fun hb2 => ?_)
        · skip
          refine g_st (σ2 := (st (st σ 13 (pt (σ 13) 0 0)) 14 (cpf (σ 16) (σ 14) 0 0 486))) (by rw [show k = 486 by omega]) ?_
          refine g_aload_n C dX5_restore_45 0 rfl rfl (q := 46) rfl ?_
          refine g_iconst C dX5_restore_46 (q := 47) rfl ?_
          refine gp_X5_41 C dX5_restore_47 (q := 50) rfl ?_
          refine g_st (σ2 := (st (st σ 13 (pt (pt (σ 13) 0 0) 5 0)) 14 (cpf (σ 16) (σ 14) 0 0 486))) ((st_cm (st σ 13 (pt (σ 13) 0 0)) (o := 14) (q := 13) (cpf (σ 16) (σ 14) 0 0 486) (pt (pt (σ 13) 0 0) 5 0) (by decide)).trans (congrArg (fun g9 => st g9 14 (cpf (σ 16) (σ 14) 0 0 486)) (st_st _ _ _ _))) ?_
          refine g_aload_n C dX5_restore_50 0 rfl rfl (q := 51) rfl ?_
          refine g_cV_i C (As := []) (c_X5_segments l E _) ml_X5_257 mf_X5_segments (o := 13) (ci := 5) rfl rfl rfl rfl ⟨(Nat.le_of_ble_eq_true rfl), (Nat.le_of_ble_eq_true rfl)⟩ rfl rfl rfl (Nat.le_of_ble_eq_true rfl) ⟨(Nat.le_of_ble_eq_true rfl), (Nat.le_of_ble_eq_true rfl)⟩ dX5_restore_51 (q := 54) rfl ?_
          refine g_top (b := (cpf (σ 16) (σ 14) 0 0 486) (2 + 121 * 0) + (cpf (σ 16) (σ 14) 0 0 486) (2 + 121 * 1) + (cpf (σ 16) (σ 14) 0 0 486) (2 + 121 * 2) + (cpf (σ 16) (σ 14) 0 0 486) (2 + 121 * 3)) rfl ?_
          exact hret _ _ _ dX5_restore_54 rfl
        · skip
          refine g_aload_n C dX5_restore_27 0 rfl rfl (q := 28) rfl ?_
          refine gf_X5_7 C dX5_restore_28 (q := 31) rfl ?_
          refine g_iload_n C dX5_restore_31 1 rfl rfl (q := 32) rfl ?_
          refine g_aload_n C dX5_restore_32 0 rfl rfl (q := 33) rfl ?_
          refine gf_X5_16 C dX5_restore_33 (q := 36) rfl ?_
          refine g_iload_n C dX5_restore_36 1 rfl rfl (q := 37) rfl ?_
          refine gl_16 C (by omega) dX5_restore_37 (q := 38) rfl ?_
          refine g_top (b := (σ 16) k) rfl ?_
          refine gs_14 C (by omega) dX5_restore_38 (q := 39) rfl ?_
          refine g_st (σ2 := (st (st σ 13 (pt (σ 13) 0 0)) 14 (pt (cpf (σ 16) (σ 14) 0 0 k) k ((σ 16) k)))) (st_st _ _ _ _) ?_
          refine g_iinc C (L' := [(1, .int (iI (k + 1))), (0, .ref (ea E 13))]) dX5_restore_39 1 rfl (by decide) rfl (q := 42) rfl ?_
          refine g_goto C dX5_restore_42 (q := 20) rfl ?_
          refine g_sub [1, 0] (L' := [(0, .ref (ea E 13)), (1, .int (iI (k + 1)))]) rfl ?_
          refine g_st (σ2 := (st (st σ 13 (pt (σ 13) 0 0)) 14 (cpf (σ 16) (σ 14) 0 0 (k + 1)))) (congrArg (st _ 14) (by funext z9; simp only [pt, cpf]; (repeat' split) <;> first | rfl | omega | (congr 1; omega))) ?_
          exact ih20 (k + 1) (by omega) (by omega)
    exact lp20 _ 0 (Nat.lt_succ_self _) (by omega)
  · skip
    exfalso; omega
set_option maxRecDepth 100000 in
set_option maxHeartbeats 4000000 in
theorem c_X5_restore_1 (l : Launch) (E : EV) (σ : SS) (hs : (σ 13 6) = 0) : Ki l yX5_restore (cw yX5_restore cX5_restore 2 (some .int)) rm_X5_restore E [.ref (ea E 13)] σ 0 (st σ 13 (pt (σ 13) 0 1)) := by
  refine Ki_of (rm := rm_X5_restore) (mL := 2) (b := cX5_restore) RX5 rfl (by decide +kernel) rfl rfl [(0, .ref (ea E 13))] rfl (Nat.le_of_ble_eq_true rfl) (fun p_ e_ s_ m_ a_ b_ h_ c_ Q A C hret => ?_)
  refine g_aload_n C dX5_restore_0 0 rfl rfl (q := 1) rfl ?_
  refine g_iconst C dX5_restore_1 (q := 2) rfl ?_
  refine gp_X5_38 C dX5_restore_2 (q := 5) rfl ?_
  refine g_aload_n C dX5_restore_5 0 rfl rfl (q := 6) rfl ?_
  refine gf_X5_254 C dX5_restore_6 (q := 9) rfl ?_
  refine g_top (b := (σ 13 6)) rfl ?_
  refine g_if_ne C dX5_restore_9 (by omega) (q2 := 18) rfl (q := 12) rfl (fun hb1 => ?_) (fun hb1 => ?_)
  · skip
    exfalso; omega
  · skip
    refine g_aload_n C dX5_restore_12 0 rfl rfl (q := 13) rfl ?_
    refine g_iconst C dX5_restore_13 (q := 14) rfl ?_
    refine g_cV_i C (As := [.int (iI 1)]) (c_X5_fails l E _ 1) ml_X5_51 mf_X5_fails (o := 13) (ci := 5) rfl rfl rfl rfl ⟨(Nat.le_of_ble_eq_true rfl), (Nat.le_of_ble_eq_true rfl)⟩ rfl rfl rfl (Nat.le_of_ble_eq_true rfl) ⟨(Nat.le_of_ble_eq_true rfl), (Nat.le_of_ble_eq_true rfl)⟩ dX5_restore_14 (q := 17) rfl ?_
    refine g_st (σ2 := (st σ 13 (pt (σ 13) 0 1))) ((congrArg (st (st σ 13 (pt (σ 13) 0 0)) 13) (pt_pt _ _ _ _)).trans (st_st _ _ _ _)) ?_
    exact hret _ _ _ dX5_restore_17 rfl
