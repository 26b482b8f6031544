abbrev rm_X3_countOfAll : Room := { frames := 2, cells := 0, slots := 0, locals := 42 }
set_option maxRecDepth 100000 in
set_option maxHeartbeats 4000000 in
theorem c_X3_countOfAll (l : Launch) (E : EV) (σ : SS)  : Ki l yX3_countOfAll (cw yX3_countOfAll cX3_countOfAll 3 (some .int)) rm_X3_countOfAll E [.ref (ea E 1)] σ (0 + (σ 2) (240 + 0) + (σ 2) (240 + 1) + (σ 2) (240 + 2) + (σ 2) (240 + 3)) σ := by
  refine Ki_of (rm := rm_X3_countOfAll) (mL := 3) (b := cX3_countOfAll) RX3 rfl (by decide +kernel) rfl rfl [(0, .ref (ea E 1))] rfl (Nat.le_of_ble_eq_true rfl) (fun p_ e_ s_ m_ a_ b_ h_ c_ Q A C hret => ?_)
  refine g_iconst C dX3_countOfAll_0 (q := 1) rfl ?_
  refine g_istore_n C (L' := [(1, .int (iI 0)), (0, .ref (ea E 1))]) dX3_countOfAll_1 rfl (by decide) rfl (q := 2) rfl ?_
  refine g_iconst C dX3_countOfAll_2 (q := 3) rfl ?_
  refine g_istore_n C (L' := [(2, .int (iI 0)), (1, .int (iI 0)), (0, .ref (ea E 1))]) dX3_countOfAll_3 rfl (by decide) rfl (q := 4) rfl ?_
  refine g_iload_n C dX3_countOfAll_4 0 rfl rfl (q := 5) rfl ?_
  refine g_iconst C dX3_countOfAll_5 (q := 6) rfl ?_
  refine g_icmp_ge C dX3_countOfAll_6 (by omega) (q2 := 23) rfl (q := 9) rfl (fun hb1 => ?_) (fun hb1 => ?_)
  · skip
    exfalso; omega
  · skip
    refine g_iload_n C dX3_countOfAll_9 1 rfl rfl (q := 10) rfl ?_
    refine g_aload_n C dX3_countOfAll_10 2 rfl rfl (q := 11) rfl ?_
    refine g_iload_n C dX3_countOfAll_11 0 rfl rfl (q := 12) rfl ?_
    refine g_cV_i C (As := [.int (iI 0)]) (c_X3_countOf l E _ 0  (by omega)) ml_X3_27 mf_X3_countOf (o := 1) (ci := 3) rfl rfl rfl rfl ⟨(Nat.le_of_ble_eq_true rfl), (Nat.le_of_ble_eq_true rfl)⟩ rfl rfl rfl (Nat.le_of_ble_eq_true rfl) ⟨(Nat.le_of_ble_eq_true rfl), (Nat.le_of_ble_eq_true rfl)⟩ dX3_countOfAll_12 (q := 15) rfl ?_
    refine g_iadd C dX3_countOfAll_15 (q := 16) rfl ?_
    refine g_istore_n C (L' := [(1, .int (iI (0 + ((σ 2) (240 + 0))))), (2, .int (iI 0)), (0, .ref (ea E 1))]) dX3_countOfAll_16 rfl (by decide) rfl (q := 17) rfl ?_
    refine g_iinc C (L' := [(2, .int (iI (0 + 1))), (1, .int (iI (0 + ((σ 2) (240 + 0))))), (0, .ref (ea E 1))]) dX3_countOfAll_17 1 rfl (by decide) rfl (q := 20) rfl ?_
    refine g_loc (L' := [(2, .int (iI 1)), (1, .int (iI (0 + ((σ 2) (240 + 0))))), (0, .ref (ea E 1))]) rfl ?_
    refine g_goto C dX3_countOfAll_20 (q := 4) rfl ?_
    refine g_iload_n C dX3_countOfAll_4 0 rfl rfl (q := 5) rfl ?_
    refine g_iconst C dX3_countOfAll_5 (q := 6) rfl ?_
    refine g_icmp_ge C dX3_countOfAll_6 (by omega) (q2 := 23) rfl (q := 9) rfl (fun hb2 => ?_) (fun hb2 => ?_)
    · skip
      exfalso; omega
    · skip
      refine g_iload_n C dX3_countOfAll_9 1 rfl rfl (q := 10) rfl ?_
      refine g_aload_n C dX3_countOfAll_10 2 rfl rfl (q := 11) rfl ?_
      refine g_iload_n C dX3_countOfAll_11 0 rfl rfl (q := 12) rfl ?_
      refine g_cV_i C (As := [.int (iI 1)]) (c_X3_countOf l E _ 1  (by omega)) ml_X3_27 mf_X3_countOf (o := 1) (ci := 3) rfl rfl rfl rfl ⟨(Nat.le_of_ble_eq_true rfl), (Nat.le_of_ble_eq_true rfl)⟩ rfl rfl rfl (Nat.le_of_ble_eq_true rfl) ⟨(Nat.le_of_ble_eq_true rfl), (Nat.le_of_ble_eq_true rfl)⟩ dX3_countOfAll_12 (q := 15) rfl ?_
      refine g_iadd C dX3_countOfAll_15 (q := 16) rfl ?_
      refine g_istore_n C (L' := [(1, .int (iI (0 + ((σ 2) (240 + 0)) + ((σ 2) (240 + 1))))), (2, .int (iI 1)), (0, .ref (ea E 1))]) dX3_countOfAll_16 rfl (by decide) rfl (q := 17) rfl ?_
      refine g_iinc C (L' := [(2, .int (iI (1 + 1))), (1, .int (iI (0 + ((σ 2) (240 + 0)) + ((σ 2) (240 + 1))))), (0, .ref (ea E 1))]) dX3_countOfAll_17 1 rfl (by decide) rfl (q := 20) rfl ?_
      refine g_loc (L' := [(2, .int (iI 2)), (1, .int (iI (0 + ((σ 2) (240 + 0)) + ((σ 2) (240 + 1))))), (0, .ref (ea E 1))]) rfl ?_
      refine g_goto C dX3_countOfAll_20 (q := 4) rfl ?_
      refine g_iload_n C dX3_countOfAll_4 0 rfl rfl (q := 5) rfl ?_
      refine g_iconst C dX3_countOfAll_5 (q := 6) rfl ?_
      refine g_icmp_ge C dX3_countOfAll_6 (by omega) (q2 := 23) rfl (q := 9) rfl (fun hb3 => ?_) (fun hb3 => ?_)
      · skip
        exfalso; omega
      · skip
        refine g_iload_n C dX3_countOfAll_9 1 rfl rfl (q := 10) rfl ?_
        refine g_aload_n C dX3_countOfAll_10 2 rfl rfl (q := 11) rfl ?_
        refine g_iload_n C dX3_countOfAll_11 0 rfl rfl (q := 12) rfl ?_
        refine g_cV_i C (As := [.int (iI 2)]) (c_X3_countOf l E _ 2  (by omega)) ml_X3_27 mf_X3_countOf (o := 1) (ci := 3) rfl rfl rfl rfl ⟨(Nat.le_of_ble_eq_true rfl), (Nat.le_of_ble_eq_true rfl)⟩ rfl rfl rfl (Nat.le_of_ble_eq_true rfl) ⟨(Nat.le_of_ble_eq_true rfl), (Nat.le_of_ble_eq_true rfl)⟩ dX3_countOfAll_12 (q := 15) rfl ?_
        refine g_iadd C dX3_countOfAll_15 (q := 16) rfl ?_
        refine g_istore_n C (L' := [(1, .int (iI (0 + ((σ 2) (240 + 0)) + ((σ 2) (240 + 1)) + ((σ 2) (240 + 2))))), (2, .int (iI 2)), (0, .ref (ea E 1))]) dX3_countOfAll_16 rfl (by decide) rfl (q := 17) rfl ?_
        refine g_iinc C (L' := [(2, .int (iI (2 + 1))), (1, .int (iI (0 + ((σ 2) (240 + 0)) + ((σ 2) (240 + 1)) + ((σ 2) (240 + 2))))), (0, .ref (ea E 1))]) dX3_countOfAll_17 1 rfl (by decide) rfl (q := 20) rfl ?_
        refine g_loc (L' := [(2, .int (iI 3)), (1, .int (iI (0 + ((σ 2) (240 + 0)) + ((σ 2) (240 + 1)) + ((σ 2) (240 + 2))))), (0, .ref (ea E 1))]) rfl ?_
        refine g_goto C dX3_countOfAll_20 (q := 4) rfl ?_
        refine g_iload_n C dX3_countOfAll_4 0 rfl rfl (q := 5) rfl ?_
        refine g_iconst C dX3_countOfAll_5 (q := 6) rfl ?_
        refine g_icmp_ge C dX3_countOfAll_6 (by omega) (q2 := 23) rfl (q := 9) rfl (fun hb4 => ?_) (fun hb4 => ?_)
        · skip
          exfalso; omega
        · skip
          refine g_iload_n C dX3_countOfAll_9 1 rfl rfl (q := 10) rfl ?_
          refine g_aload_n C dX3_countOfAll_10 2 rfl rfl (q := 11) rfl ?_
          refine g_iload_n C dX3_countOfAll_11 0 rfl rfl (q := 12) rfl ?_
          refine g_cV_i C (As := [.int (iI 3)]) (c_X3_countOf l E _ 3  (by omega)) ml_X3_27 mf_X3_countOf (o := 1) (ci := 3) rfl rfl rfl rfl ⟨(Nat.le_of_ble_eq_true rfl), (Nat.le_of_ble_eq_true rfl)⟩ rfl rfl rfl (Nat.le_of_ble_eq_true rfl) ⟨(Nat.le_of_ble_eq_true rfl), (Nat.le_of_ble_eq_true rfl)⟩ dX3_countOfAll_12 (q := 15) rfl ?_
          refine g_iadd C dX3_countOfAll_15 (q := 16) rfl ?_
          refine g_istore_n C (L' := [(1, .int (iI (0 + ((σ 2) (240 + 0)) + ((σ 2) (240 + 1)) + ((σ 2) (240 + 2)) + ((σ 2) (240 + 3))))), (2, .int (iI 3)), (0, .ref (ea E 1))]) dX3_countOfAll_16 rfl (by decide) rfl (q := 17) rfl ?_
          refine g_iinc C (L' := [(2, .int (iI (3 + 1))), (1, .int (iI (0 + ((σ 2) (240 + 0)) + ((σ 2) (240 + 1)) + ((σ 2) (240 + 2)) + ((σ 2) (240 + 3))))), (0, .ref (ea E 1))]) dX3_countOfAll_17 1 rfl (by decide) rfl (q := 20) rfl ?_
          refine g_loc (L' := [(2, .int (iI 4)), (1, .int (iI (0 + ((σ 2) (240 + 0)) + ((σ 2) (240 + 1)) + ((σ 2) (240 + 2)) + ((σ 2) (240 + 3))))), (0, .ref (ea E 1))]) rfl ?_
          refine g_goto C dX3_countOfAll_20 (q := 4) rfl ?_
          refine g_iload_n C dX3_countOfAll_4 0 rfl rfl (q := 5) rfl ?_
          refine g_iconst C dX3_countOfAll_5 (q := 6) rfl ?_
          refine g_icmp_ge C dX3_countOfAll_6 (by omega) (q2 := 23) rfl (q := 9) rfl (fun hb5 => ?_) (fun hb5 => ?_)
          · skip
            refine g_iload_n C dX3_countOfAll_23 1 rfl rfl (q := 24) rfl ?_
            exact hret _ _ _ dX3_countOfAll_24 (by omega)
          · skip
            exfalso; omega
abbrev rm_X3_positionOfOffset : Room := { frames := 3, cells := 0, slots := 0, locals := 65 }
set_option maxRecDepth 100000 in
set_option maxHeartbeats 4000000 in
theorem c_X3_positionOfOffset (l : Launch) (E : EV) (σ : SS) (r off : Int) (hr : 0 ≤ r ∧ r < 4) (ho : -2147483648 ≤ off ∧ off ≤ 2147483647) (hW : CW (σ 2)) : Ki l yX3_positionOfOffset (cw yX3_positionOfOffset cX3_positionOfOffset 5 (some .int)) rm_X3_positionOfOffset E [.ref (ea E 1), .int (iI r), .int (iI off)] σ (po (σ 2) r off) σ := by
  refine Ki_of (rm := rm_X3_positionOfOffset) (mL := 5) (b := cX3_positionOfOffset) RX3 rfl (by decide +kernel) rfl rfl [(0, .ref (ea E 1)), (1, .int (iI r)), (2, .int (iI off))] rfl (Nat.le_of_ble_eq_true rfl) (fun p_ e_ s_ m_ a_ b_ h_ c_ Q A C hret => ?_)
  have hn := (hW r hr).1
  refine g_iload_n C dX3_positionOfOffset_0 2 rfl rfl (q := 1) rfl ?_
  refine g_if_ge C dX3_positionOfOffset_1 (by omega) (q2 := 6) rfl (q := 4) rfl (fun hb1 => ?_) (fun hb1 => ?_)
  · skip
    refine g_iconst C dX3_positionOfOffset_6 (q := 7) rfl ?_
    refine g_istore_n C (L' := [(3, .int (iI 0)), (0, .ref (ea E 1)), (1, .int (iI r)), (2, .int (iI off))]) dX3_positionOfOffset_7 rfl (by decide) rfl (q := 8) rfl ?_
    refine g_iconst C dX3_positionOfOffset_8 (q := 9) rfl ?_
    refine g_istore C (L' := [(4, .int (iI 0)), (3, .int (iI 0)), (0, .ref (ea E 1)), (1, .int (iI r)), (2, .int (iI off))]) dX3_positionOfOffset_9 (by decide) rfl (q := 11) rfl ?_
    refine g_sub [2, 3, 4, 1, 0] (L' := [(0, .ref (ea E 1)), (1, .int (iI r)), (2, .int (iI off)), (3, .int (iI 0)), (4, .int (iI 0))]) rfl ?_
    have lp11 : ∀ (k9 : Nat) (acc : Int) (i : Int), ((σ 2) (240 + r) - i).toNat < k9 → (0 ≤ i ∧ i ≤ (σ 2) (240 + r)) → (acc = sI (lgs (σ 2) r) 0 i) → (po (σ 2) r off = fI (poP (σ 2) r off) i ((σ 2) (240 + r))) → GG p_ l e_ rm_X3_positionOfOffset s_ m_ a_ b_ h_ c_ Q E A 5 σ 0 0 11 [(0, .ref (ea E 1)), (1, .int (iI r)), (2, .int (iI off)), (3, .int (iI acc)), (4, .int (iI i))] [] := by
      intro k9
      induction k9 with
      | zero => intro acc i hk9; omega
      | succ k9 ih11 =>
        intro acc i hk9 hi hA hR
        refine g_iload C dX3_positionOfOffset_11 4 rfl (q := 13) rfl ?_
        refine g_aload_n C dX3_positionOfOffset_13 0 rfl rfl (q := 14) rfl ?_
        refine g_iload_n C dX3_positionOfOffset_14 1 rfl rfl (q := 15) rfl ?_
        refine g_cV_i C (As := [.int (iI r)]) (c_X3_countOf l E _ r  (by omega)) ml_X3_27 mf_X3_countOf (o := 1) (ci := 3) rfl rfl rfl rfl ⟨(Nat.le_of_ble_eq_true rfl), (Nat.le_of_ble_eq_true rfl)⟩ rfl rfl rfl (Nat.le_of_ble_eq_true rfl) ⟨(Nat.le_of_ble_eq_true rfl), (Nat.le_of_ble_eq_true rfl)⟩ dX3_positionOfOffset_15 (q := 18) rfl ?_
        refine g_icmp_ge C dX3_positionOfOffset_18 (by omega) (q2 := 45) rfl (q := 21) rfl (fun hb2 => ?_) (fun hb2 => ?_)
        · skip
          refine g_iconst C dX3_positionOfOffset_45 (q := 46) rfl ?_
          exact hret _ _ _ dX3_positionOfOffset_46 (by first | (rw [hR, fI_nil (by omega)]) | (rw [hR, fI_yes (by omega)]; unfold poP; simp only [decide_eq_true_eq]; rw [sI_snoc (by omega), ← hA]; unfold lgs; omega) | (unfold po; rw [if_pos (by omega)]))
        · skip
          have hs := (hW r hr).2 i (by omega)
          have hg := sum_rg hW hr (a := 0) (b := i) (by omega)
          refine g_iload_n C dX3_positionOfOffset_21 3 rfl rfl (q := 22) rfl ?_
          refine g_aload_n C dX3_positionOfOffset_22 0 rfl rfl (q := 23) rfl ?_
          refine g_iload_n C dX3_positionOfOffset_23 1 rfl rfl (q := 24) rfl ?_
          refine g_iload C dX3_positionOfOffset_24 4 rfl (q := 26) rfl ?_
          refine g_cV_i C (As := [.int (iI r), .int (iI i)]) (c_X3_lengthAt l E _ r i  (by omega) (by omega) (by omega)) ml_X3_47 mf_X3_lengthAt (o := 1) (ci := 3) rfl rfl rfl rfl ⟨(Nat.le_of_ble_eq_true rfl), (Nat.le_of_ble_eq_true rfl)⟩ rfl rfl rfl (Nat.le_of_ble_eq_true rfl) ⟨(Nat.le_of_ble_eq_true rfl), (Nat.le_of_ble_eq_true rfl)⟩ dX3_positionOfOffset_26 (q := 29) rfl ?_
          refine g_iadd C dX3_positionOfOffset_29 (q := 30) rfl ?_
          refine g_istore_n C (L' := [(3, .int (iI (acc + ((σ 2) (r * 60 + i) / 8)))), (0, .ref (ea E 1)), (1, .int (iI r)), (2, .int (iI off)), (4, .int (iI i))]) dX3_positionOfOffset_30 rfl (by decide) rfl (q := 31) rfl ?_
          refine g_iload_n C dX3_positionOfOffset_31 3 rfl rfl (q := 32) rfl ?_
          refine g_iload_n C dX3_positionOfOffset_32 0 rfl rfl (q := 33) rfl ?_
          refine g_icmp_ge C dX3_positionOfOffset_33 (by omega) (q2 := 39) rfl (q := 36) rfl (fun hb3 => ?_) (fun hb3 => ?_)
          · skip
            refine g_iinc C (L' := [(4, .int (iI (i + 1))), (3, .int (iI (acc + ((σ 2) (r * 60 + i) / 8)))), (0, .ref (ea E 1)), (1, .int (iI r)), (2, .int (iI off))]) dX3_positionOfOffset_39 4 rfl (by decide) rfl (q := 42) rfl ?_
            refine g_goto C dX3_positionOfOffset_42 (q := 11) rfl ?_
            refine g_sub [2, 3, 4, 1, 0] (L' := [(0, .ref (ea E 1)), (1, .int (iI r)), (2, .int (iI off)), (3, .int (iI (acc + ((σ 2) (r * 60 + i) / 8)))), (4, .int (iI (i + 1)))]) rfl ?_
            exact ih11 (acc + ((σ 2) (r * 60 + i) / 8)) (i + 1) (by omega) (by omega) (by rw [sI_snoc (by omega), hA]; rfl) (by rw [hR, fI_no]; unfold poP; simp only [decide_eq_true_eq]; rw [sI_snoc (by omega), ← hA]; unfold lgs; omega)
          · skip
            refine g_iload C dX3_positionOfOffset_36 4 rfl (q := 38) rfl ?_
            exact hret _ _ _ dX3_positionOfOffset_38 (by first | (rw [hR, fI_nil (by omega)]) | (rw [hR, fI_yes (by omega)]; unfold poP; simp only [decide_eq_true_eq]; rw [sI_snoc (by omega), ← hA]; unfold lgs; omega) | (unfold po; rw [if_pos (by omega)]))
    exact lp11 _ 0 0 (Nat.lt_succ_self _) (by omega) (by rw [sI_nil (by omega)]) (by unfold po; rw [if_neg (by omega)])
  · skip
    refine g_iconst C dX3_positionOfOffset_4 (q := 5) rfl ?_
    exact hret _ _ _ dX3_positionOfOffset_5 (by first | (rw [hR, fI_nil (by omega)]) | (rw [hR, fI_yes (by omega)]; unfold poP; simp only [decide_eq_true_eq]; rw [sI_snoc (by omega), ← hA]; unfold lgs; omega) | (unfold po; rw [if_pos (by omega)]))
abbrev rm_X3_longestOfRange : Room := { frames := 3, cells := 0, slots := 0, locals := 65 }
set_option maxRecDepth 100000 in
set_option maxHeartbeats 4000000 in
theorem c_X3_longestOfRange (l : Launch) (E : EV) (σ : SS) (r a b : Int) (hr : 0 ≤ r ∧ r < 4) (ha : 0 ≤ a ∧ a ≤ b) (hb : b < (σ 2) (240 + r)) (hW : CW (σ 2)) : Ki l yX3_longestOfRange (cw yX3_longestOfRange cX3_longestOfRange 6 (some .int)) rm_X3_longestOfRange E [.ref (ea E 1), .int (iI r), .int (iI a), .int (iI b)] σ (mI (lgs (σ 2) r) a (a + 1) (b + 1)) σ := by
  refine Ki_of (rm := rm_X3_longestOfRange) (mL := 6) (b := cX3_longestOfRange) RX3 rfl (by decide +kernel) rfl rfl [(0, .ref (ea E 1)), (1, .int (iI r)), (2, .int (iI a)), (3, .int (iI b))] rfl (Nat.le_of_ble_eq_true rfl) (fun p_ e_ s_ m_ a_ b_ h_ c_ Q A C hret => ?_)
  have hn := (hW r hr).1
  refine g_iload_n C dX3_longestOfRange_0 2 rfl rfl (q := 1) rfl ?_
  refine g_istore C (L' := [(4, .int (iI a)), (0, .ref (ea E 1)), (1, .int (iI r)), (2, .int (iI a)), (3, .int (iI b))]) dX3_longestOfRange_1 (by decide) rfl (q := 3) rfl ?_
  refine g_iload_n C dX3_longestOfRange_3 3 rfl rfl (q := 4) rfl ?_
  refine g_iconst C dX3_longestOfRange_4 (q := 5) rfl ?_
  refine g_iadd C dX3_longestOfRange_5 (q := 6) rfl ?_
  refine g_istore C (L' := [(5, .int (iI (a + 1))), (4, .int (iI a)), (0, .ref (ea E 1)), (1, .int (iI r)), (2, .int (iI a)), (3, .int (iI b))]) dX3_longestOfRange_6 (by decide) rfl (q := 8) rfl ?_
  refine g_sub [2, 3, 4, 5, 1, 0] (L' := [(0, .ref (ea E 1)), (1, .int (iI r)), (2, .int (iI a)), (3, .int (iI b)), (4, .int (iI a)), (5, .int (iI (a + 1)))]) rfl ?_
  have lp8 : ∀ (k9 : Nat) (x : Int) (i : Int), (b + 1 - i).toNat < k9 → (0 ≤ i ∧ i ≤ 61) → (0 ≤ x ∧ x ≤ b) → (mI (lgs (σ 2) r) a (a + 1) (b + 1) = mI (lgs (σ 2) r) x i (b + 1)) → GG p_ l e_ rm_X3_longestOfRange s_ m_ a_ b_ h_ c_ Q E A 6 σ 0 0 8 [(0, .ref (ea E 1)), (1, .int (iI r)), (2, .int (iI a)), (3, .int (iI b)), (4, .int (iI x)), (5, .int (iI i))] [] := by
    intro k9
    induction k9 with
    | zero => intro x i hk9; omega
    | succ k9 ih8 =>
      intro x i hk9 hi hx hR
      refine g_iload C dX3_longestOfRange_8 5 rfl (q := 10) rfl ?_
      refine g_iload_n C dX3_longestOfRange_10 3 rfl rfl (q := 11) rfl ?_
      refine g_icmp_gt C dX3_longestOfRange_11 (by omega) (q2 := 41) rfl (q := 14) rfl (fun hb1 => ?_) (fun hb1 => ?_)
      · skip
        refine g_iload C dX3_longestOfRange_41 4 rfl (q := 43) rfl ?_
        exact hret _ _ _ dX3_longestOfRange_43 (by rw [hR, mI_nil (by omega)])
      · skip
        have hs := (hW r hr).2 i (by omega)
        have hs2 := (hW r hr).2 x (by omega)
        refine g_aload_n C dX3_longestOfRange_14 0 rfl rfl (q := 15) rfl ?_
        refine g_iload_n C dX3_longestOfRange_15 1 rfl rfl (q := 16) rfl ?_
        refine g_iload C dX3_longestOfRange_16 5 rfl (q := 18) rfl ?_
        refine g_cV_i C (As := [.int (iI r), .int (iI i)]) (c_X3_lengthAt l E _ r i  (by omega) (by omega) (by omega)) ml_X3_47 mf_X3_lengthAt (o := 1) (ci := 3) rfl rfl rfl rfl ⟨(Nat.le_of_ble_eq_true rfl), (Nat.le_of_ble_eq_true rfl)⟩ rfl rfl rfl (Nat.le_of_ble_eq_true rfl) ⟨(Nat.le_of_ble_eq_true rfl), (Nat.le_of_ble_eq_true rfl)⟩ dX3_longestOfRange_18 (q := 21) rfl ?_
        refine g_aload_n C dX3_longestOfRange_21 0 rfl rfl (q := 22) rfl ?_
        refine g_iload_n C dX3_longestOfRange_22 1 rfl rfl (q := 23) rfl ?_
        refine g_iload C dX3_longestOfRange_23 4 rfl (q := 25) rfl ?_
        refine g_cV_i C (As := [.int (iI r), .int (iI x)]) (c_X3_lengthAt l E _ r x  (by omega) (by omega) (by omega)) ml_X3_47 mf_X3_lengthAt (o := 1) (ci := 3) rfl rfl rfl rfl ⟨(Nat.le_of_ble_eq_true rfl), (Nat.le_of_ble_eq_true rfl)⟩ rfl rfl rfl (Nat.le_of_ble_eq_true rfl) ⟨(Nat.le_of_ble_eq_true rfl), (Nat.le_of_ble_eq_true rfl)⟩ dX3_longestOfRange_25 (q := 28) rfl ?_
        refine g_icmp_le C dX3_longestOfRange_28 (by omega) (q2 := 35) rfl (q := 31) rfl (fun hb2 => ?_) (fun hb2 => ?_)
        · skip
          refine g_iinc C (L' := [(5, .int (iI (i + 1))), (0, .ref (ea E 1)), (1, .int (iI r)), (2, .int (iI a)), (3, .int (iI b)), (4, .int (iI x))]) dX3_longestOfRange_35 5 rfl (by decide) rfl (q := 38) rfl ?_
          refine g_goto C dX3_longestOfRange_38 (q := 8) rfl ?_
          refine g_sub [1, 2, 3, 4, 5, 0] (L' := [(0, .ref (ea E 1)), (1, .int (iI r)), (2, .int (iI a)), (3, .int (iI b)), (4, .int (iI x)), (5, .int (iI (i + 1)))]) rfl ?_
          exact ih8 x (i + 1) (by omega) (by omega) (by omega) (by first | (rw [hR, mI_yes (by omega) (by unfold lgs; omega)]) | (rw [hR, mI_no (by omega) (by unfold lgs; omega)]))
        · skip
          refine g_iload C dX3_longestOfRange_31 5 rfl (q := 33) rfl ?_
          refine g_istore C (L' := [(4, .int (iI i)), (0, .ref (ea E 1)), (1, .int (iI r)), (2, .int (iI a)), (3, .int (iI b)), (5, .int (iI i))]) dX3_longestOfRange_33 (by decide) rfl (q := 35) rfl ?_
          refine g_iinc C (L' := [(5, .int (iI (i + 1))), (4, .int (iI i)), (0, .ref (ea E 1)), (1, .int (iI r)), (2, .int (iI a)), (3, .int (iI b))]) dX3_longestOfRange_35 5 rfl (by decide) rfl (q := 38) rfl ?_
          refine g_goto C dX3_longestOfRange_38 (q := 8) rfl ?_
          refine g_sub [2, 3, 4, 5, 1, 0] (L' := [(0, .ref (ea E 1)), (1, .int (iI r)), (2, .int (iI a)), (3, .int (iI b)), (4, .int (iI i)), (5, .int (iI (i + 1)))]) rfl ?_
          exact ih8 i (i + 1) (by omega) (by omega) (by omega) (by first | (rw [hR, mI_yes (by omega) (by unfold lgs; omega)]) | (rw [hR, mI_no (by omega) (by unfold lgs; omega)]))
  exact lp8 _ a (a + 1) (Nat.lt_succ_self _) (by omega) (by omega) (by rfl)
abbrev rm_X3_rankOfSegment : Room := { frames := 3, cells := 0, slots := 0, locals := 65 }
set_option maxRecDepth 100000 in
set_option maxHeartbeats 4000000 in
theorem c_X3_rankOfSegment (l : Launch) (E : EV) (σ : SS) (r p : Int) (hr : 0 ≤ r ∧ r < 4) (hp : 0 ≤ p ∧ p < (σ 2) (240 + r)) (hW : CW (σ 2)) : Ki l yX3_rankOfSegment (cw yX3_rankOfSegment cX3_rankOfSegment 7 (some .int)) rm_X3_rankOfSegment E [.ref (ea E 1), .int (iI r), .int (iI p)] σ (rk (σ 2) r p) σ := by
  refine Ki_of (rm := rm_X3_rankOfSegment) (mL := 7) (b := cX3_rankOfSegment) RX3 rfl (by decide +kernel) rfl rfl [(0, .ref (ea E 1)), (1, .int (iI r)), (2, .int (iI p))] rfl (Nat.le_of_ble_eq_true rfl) (fun p_ e_ s_ m_ a_ b_ h_ c_ Q A C hret => ?_)
  have hn := (hW r hr).1
  have hs2 := (hW r hr).2 p (by omega)
  refine g_aload_n C dX3_rankOfSegment_0 0 rfl rfl (q := 1) rfl ?_
  refine g_iload_n C dX3_rankOfSegment_1 1 rfl rfl (q := 2) rfl ?_
  refine g_iload_n C dX3_rankOfSegment_2 2 rfl rfl (q := 3) rfl ?_
  refine g_cV_i C (As := [.int (iI r), .int (iI p)]) (c_X3_lengthAt l E _ r p  (by omega) (by omega) (by omega)) ml_X3_47 mf_X3_lengthAt (o := 1) (ci := 3) rfl rfl rfl rfl ⟨(Nat.le_of_ble_eq_true rfl), (Nat.le_of_ble_eq_true rfl)⟩ rfl rfl rfl (Nat.le_of_ble_eq_true rfl) ⟨(Nat.le_of_ble_eq_true rfl), (Nat.le_of_ble_eq_true rfl)⟩ dX3_rankOfSegment_3 (q := 6) rfl ?_
  refine g_istore_n C (L' := [(3, .int (iI ((σ 2) (r * 60 + p) / 8))), (0, .ref (ea E 1)), (1, .int (iI r)), (2, .int (iI p))]) dX3_rankOfSegment_6 rfl (by decide) rfl (q := 7) rfl ?_
  refine g_iconst C dX3_rankOfSegment_7 (q := 8) rfl ?_
  refine g_istore C (L' := [(4, .int (iI 0)), (3, .int (iI ((σ 2) (r * 60 + p) / 8))), (0, .ref (ea E 1)), (1, .int (iI r)), (2, .int (iI p))]) dX3_rankOfSegment_8 (by decide) rfl (q := 10) rfl ?_
  refine g_iconst C dX3_rankOfSegment_10 (q := 11) rfl ?_
  refine g_istore C (L' := [(5, .int (iI 0)), (4, .int (iI 0)), (3, .int (iI ((σ 2) (r * 60 + p) / 8))), (0, .ref (ea E 1)), (1, .int (iI r)), (2, .int (iI p))]) dX3_rankOfSegment_11 (by decide) rfl (q := 13) rfl ?_
  refine g_sub [3, 4, 5, 2, 1, 0] (L' := [(0, .ref (ea E 1)), (1, .int (iI r)), (2, .int (iI p)), (3, .int (iI ((σ 2) (r * 60 + p) / 8))), (4, .int (iI 0)), (5, .int (iI 0))]) rfl ?_
  have lp13 : ∀ (k9 : Nat) (acc : Int) (i : Int), ((σ 2) (240 + r) - i).toNat < k9 → (0 ≤ i ∧ i ≤ 60) → (rk (σ 2) r p = acc + sI (ri (σ 2) r p) i ((σ 2) (240 + r))) → GG p_ l e_ rm_X3_rankOfSegment s_ m_ a_ b_ h_ c_ Q E A 7 σ 0 0 13 [(0, .ref (ea E 1)), (1, .int (iI r)), (2, .int (iI p)), (3, .int (iI ((σ 2) (r * 60 + p) / 8))), (4, .int (iI acc)), (5, .int (iI i))] [] := by
    intro k9
    induction k9 with
    | zero => intro acc i hk9; omega
    | succ k9 ih13 =>
      intro acc i hk9 hi hR
      refine g_iload C dX3_rankOfSegment_13 5 rfl (q := 15) rfl ?_
      refine g_aload_n C dX3_rankOfSegment_15 0 rfl rfl (q := 16) rfl ?_
      refine g_iload_n C dX3_rankOfSegment_16 1 rfl rfl (q := 17) rfl ?_
      refine g_cV_i C (As := [.int (iI r)]) (c_X3_countOf l E _ r  (by omega)) ml_X3_27 mf_X3_countOf (o := 1) (ci := 3) rfl rfl rfl rfl ⟨(Nat.le_of_ble_eq_true rfl), (Nat.le_of_ble_eq_true rfl)⟩ rfl rfl rfl (Nat.le_of_ble_eq_true rfl) ⟨(Nat.le_of_ble_eq_true rfl), (Nat.le_of_ble_eq_true rfl)⟩ dX3_rankOfSegment_17 (q := 20) rfl ?_
      refine g_icmp_ge C dX3_rankOfSegment_20 (by omega) (q2 := 59) rfl (q := 23) rfl (fun hb1 => ?_) (fun hb1 => ?_)
      · skip
        refine g_iload C dX3_rankOfSegment_59 4 rfl (q := 61) rfl ?_
        exact hret _ _ _ dX3_rankOfSegment_61 (by rw [hR, sI_nil (by omega)]; omega)
      · skip
        have hs := (hW r hr).2 i (by omega)
        refine g_aload_n C dX3_rankOfSegment_23 0 rfl rfl (q := 24) rfl ?_
        refine g_iload_n C dX3_rankOfSegment_24 1 rfl rfl (q := 25) rfl ?_
        refine g_iload C dX3_rankOfSegment_25 5 rfl (q := 27) rfl ?_
        refine g_cV_i C (As := [.int (iI r), .int (iI i)]) (c_X3_lengthAt l E _ r i  (by omega) (by omega) (by omega)) ml_X3_47 mf_X3_lengthAt (o := 1) (ci := 3) rfl rfl rfl rfl ⟨(Nat.le_of_ble_eq_true rfl), (Nat.le_of_ble_eq_true rfl)⟩ rfl rfl rfl (Nat.le_of_ble_eq_true rfl) ⟨(Nat.le_of_ble_eq_true rfl), (Nat.le_of_ble_eq_true rfl)⟩ dX3_rankOfSegment_27 (q := 30) rfl ?_
        refine g_istore C (L' := [(6, .int (iI ((σ 2) (r * 60 + i) / 8))), (0, .ref (ea E 1)), (1, .int (iI r)), (2, .int (iI p)), (3, .int (iI ((σ 2) (r * 60 + p) / 8))), (4, .int (iI acc)), (5, .int (iI i))]) dX3_rankOfSegment_30 (by decide) rfl (q := 32) rfl ?_
        refine g_iload C dX3_rankOfSegment_32 0 rfl (q := 34) rfl ?_
        refine g_iload_n C dX3_rankOfSegment_34 4 rfl rfl (q := 35) rfl ?_
        refine g_icmp_gt C dX3_rankOfSegment_35 (by omega) (q2 := 50) rfl (q := 38) rfl (fun hb2 => ?_) (fun hb2 => ?_)
        · skip
          refine g_iinc C (L' := [(4, .int (iI (acc + 1))), (6, .int (iI ((σ 2) (r * 60 + i) / 8))), (0, .ref (ea E 1)), (1, .int (iI r)), (2, .int (iI p)), (3, .int (iI ((σ 2) (r * 60 + p) / 8))), (5, .int (iI i))]) dX3_rankOfSegment_50 5 rfl (by decide) rfl (q := 53) rfl ?_
          refine g_iinc C (L' := [(5, .int (iI (i + 1))), (4, .int (iI (acc + 1))), (6, .int (iI ((σ 2) (r * 60 + i) / 8))), (0, .ref (ea E 1)), (1, .int (iI r)), (2, .int (iI p)), (3, .int (iI ((σ 2) (r * 60 + p) / 8)))]) dX3_rankOfSegment_53 6 rfl (by decide) rfl (q := 56) rfl ?_
          refine g_goto C dX3_rankOfSegment_56 (q := 13) rfl ?_
          refine g_sub [3, 4, 5, 6, 1, 0] (L' := [(0, .ref (ea E 1)), (1, .int (iI r)), (2, .int (iI p)), (3, .int (iI ((σ 2) (r * 60 + p) / 8))), (4, .int (iI (acc + 1))), (5, .int (iI (i + 1)))]) rfl ?_
          exact ih13 (acc + 1) (i + 1) (by omega) (by omega) (by first | (rw [hR, sI_cons (by omega), show ri (σ 2) r p i = 1 from if_pos (by omega)]; omega) | (rw [hR, sI_cons (by omega), show ri (σ 2) r p i = 0 from if_neg (by omega)]; omega))
        · skip
          refine g_iload C dX3_rankOfSegment_38 0 rfl (q := 40) rfl ?_
          refine g_iload_n C dX3_rankOfSegment_40 4 rfl rfl (q := 41) rfl ?_
          refine g_icmp_ne C dX3_rankOfSegment_41 (by omega) (q2 := 53) rfl (q := 44) rfl (fun hb3 => ?_) (fun hb3 => ?_)
          · skip
            refine g_iinc C (L' := [(5, .int (iI (i + 1))), (6, .int (iI ((σ 2) (r * 60 + i) / 8))), (0, .ref (ea E 1)), (1, .int (iI r)), (2, .int (iI p)), (3, .int (iI ((σ 2) (r * 60 + p) / 8))), (4, .int (iI acc))]) dX3_rankOfSegment_53 6 rfl (by decide) rfl (q := 56) rfl ?_
            refine g_goto C dX3_rankOfSegment_56 (q := 13) rfl ?_
            refine g_sub [2, 3, 4, 5, 6, 0] (L' := [(0, .ref (ea E 1)), (1, .int (iI r)), (2, .int (iI p)), (3, .int (iI ((σ 2) (r * 60 + p) / 8))), (4, .int (iI acc)), (5, .int (iI (i + 1)))]) rfl ?_
            exact ih13 acc (i + 1) (by omega) (by omega) (by first | (rw [hR, sI_cons (by omega), show ri (σ 2) r p i = 1 from if_pos (by omega)]; omega) | (rw [hR, sI_cons (by omega), show ri (σ 2) r p i = 0 from if_neg (by omega)]; omega))
          · skip
            refine g_iload C dX3_rankOfSegment_44 6 rfl (q := 46) rfl ?_
            refine g_iload_n C dX3_rankOfSegment_46 3 rfl rfl (q := 47) rfl ?_
            refine g_icmp_ge C dX3_rankOfSegment_47 (by omega) (q2 := 53) rfl (q := 50) rfl (fun hb4 => ?_) (fun hb4 => ?_)
            · skip
              refine g_iinc C (L' := [(5, .int (iI (i + 1))), (6, .int (iI ((σ 2) (r * 60 + i) / 8))), (0, .ref (ea E 1)), (1, .int (iI r)), (2, .int (iI p)), (3, .int (iI ((σ 2) (r * 60 + p) / 8))), (4, .int (iI acc))]) dX3_rankOfSegment_53 6 rfl (by decide) rfl (q := 56) rfl ?_
              refine g_goto C dX3_rankOfSegment_56 (q := 13) rfl ?_
              refine g_sub [2, 3, 4, 5, 6, 0] (L' := [(0, .ref (ea E 1)), (1, .int (iI r)), (2, .int (iI p)), (3, .int (iI ((σ 2) (r * 60 + p) / 8))), (4, .int (iI acc)), (5, .int (iI (i + 1)))]) rfl ?_
              exact ih13 acc (i + 1) (by omega) (by omega) (by first | (rw [hR, sI_cons (by omega), show ri (σ 2) r p i = 1 from if_pos (by omega)]; omega) | (rw [hR, sI_cons (by omega), show ri (σ 2) r p i = 0 from if_neg (by omega)]; omega))
            · skip
              refine g_iinc C (L' := [(4, .int (iI (acc + 1))), (6, .int (iI ((σ 2) (r * 60 + i) / 8))), (0, .ref (ea E 1)), (1, .int (iI r)), (2, .int (iI p)), (3, .int (iI ((σ 2) (r * 60 + p) / 8))), (5, .int (iI i))]) dX3_rankOfSegment_50 5 rfl (by decide) rfl (q := 53) rfl ?_
              refine g_iinc C (L' := [(5, .int (iI (i + 1))), (4, .int (iI (acc + 1))), (6, .int (iI ((σ 2) (r * 60 + i) / 8))), (0, .ref (ea E 1)), (1, .int (iI r)), (2, .int (iI p)), (3, .int (iI ((σ 2) (r * 60 + p) / 8)))]) dX3_rankOfSegment_53 6 rfl (by decide) rfl (q := 56) rfl ?_
              refine g_goto C dX3_rankOfSegment_56 (q := 13) rfl ?_
              refine g_sub [3, 4, 5, 6, 1, 0] (L' := [(0, .ref (ea E 1)), (1, .int (iI r)), (2, .int (iI p)), (3, .int (iI ((σ 2) (r * 60 + p) / 8))), (4, .int (iI (acc + 1))), (5, .int (iI (i + 1)))]) rfl ?_
              exact ih13 (acc + 1) (i + 1) (by omega) (by omega) (by first | (rw [hR, sI_cons (by omega), show ri (σ 2) r p i = 1 from if_pos (by omega)]; omega) | (rw [hR, sI_cons (by omega), show ri (σ 2) r p i = 0 from if_neg (by omega)]; omega))
  exact lp13 _ 0 0 (Nat.lt_succ_self _) (by omega) (by unfold rk; omega)
abbrev rm_X3_positionOfRank : Room := { frames := 4, cells := 0, slots := 0, locals := 91 }
set_option maxRecDepth 100000 in
set_option maxHeartbeats 4000000 in
theorem c_X3_positionOfRank (l : Launch) (E : EV) (σ : SS) (r k : Int) (hr : 0 ≤ r ∧ r < 4) (hk : -2147483648 ≤ k ∧ k ≤ 2147483647) (hW : CW (σ 2)) : Ki l yX3_positionOfRank (cw yX3_positionOfRank cX3_positionOfRank 4 (some .int)) rm_X3_positionOfRank E [.ref (ea E 1), .int (iI r), .int (iI k)] σ (fI (rkP (σ 2) r k) 0 ((σ 2) (240 + r))) σ := by
  refine Ki_of (rm := rm_X3_positionOfRank) (mL := 4) (b := cX3_positionOfRank) RX3 rfl (by decide +kernel) rfl rfl [(0, .ref (ea E 1)), (1, .int (iI r)), (2, .int (iI k))] rfl (Nat.le_of_ble_eq_true rfl) (fun p_ e_ s_ m_ a_ b_ h_ c_ Q A C hret => ?_)
  have hn := (hW r hr).1
  refine g_iconst C dX3_positionOfRank_0 (q := 1) rfl ?_
  refine g_istore_n C (L' := [(3, .int (iI 0)), (0, .ref (ea E 1)), (1, .int (iI r)), (2, .int (iI k))]) dX3_positionOfRank_1 rfl (by decide) rfl (q := 2) rfl ?_
  refine g_sub [1, 2, 3, 0] (L' := [(0, .ref (ea E 1)), (1, .int (iI r)), (2, .int (iI k)), (3, .int (iI 0))]) rfl ?_
  have lp2 : ∀ (k9 : Nat) (i : Int), ((σ 2) (240 + r) - i).toNat < k9 → (0 ≤ i ∧ i ≤ (σ 2) (240 + r)) → (fI (rkP (σ 2) r k) 0 ((σ 2) (240 + r)) = fI (rkP (σ 2) r k) i ((σ 2) (240 + r))) → GG p_ l e_ rm_X3_positionOfRank s_ m_ a_ b_ h_ c_ Q E A 4 σ 0 0 2 [(0, .ref (ea E 1)), (1, .int (iI r)), (2, .int (iI k)), (3, .int (iI i))] [] := by
    intro k9
    induction k9 with
    | zero => intro i hk9; omega
    | succ k9 ih2 =>
      intro i hk9 hi hR
      refine g_iload_n C dX3_positionOfRank_2 3 rfl rfl (q := 3) rfl ?_
      refine g_aload_n C dX3_positionOfRank_3 0 rfl rfl (q := 4) rfl ?_
      refine g_iload_n C dX3_positionOfRank_4 1 rfl rfl (q := 5) rfl ?_
      refine g_cV_i C (As := [.int (iI r)]) (c_X3_countOf l E _ r  (by omega)) ml_X3_27 mf_X3_countOf (o := 1) (ci := 3) rfl rfl rfl rfl ⟨(Nat.le_of_ble_eq_true rfl), (Nat.le_of_ble_eq_true rfl)⟩ rfl rfl rfl (Nat.le_of_ble_eq_true rfl) ⟨(Nat.le_of_ble_eq_true rfl), (Nat.le_of_ble_eq_true rfl)⟩ dX3_positionOfRank_5 (q := 8) rfl ?_
      refine g_icmp_ge C dX3_positionOfRank_8 (by omega) (q2 := 29) rfl (q := 11) rfl (fun hb1 => ?_) (fun hb1 => ?_)
      · skip
        refine g_iconst C dX3_positionOfRank_29 (q := 30) rfl ?_
        exact hret _ _ _ dX3_positionOfRank_30 (by first | (rw [hR, fI_nil (by omega)]) | (rw [hR, fI_yes (by omega)]; unfold rkP; simp only [decide_eq_true_eq]; omega))
      · skip
        refine g_aload_n C dX3_positionOfRank_11 0 rfl rfl (q := 12) rfl ?_
        refine g_iload_n C dX3_positionOfRank_12 1 rfl rfl (q := 13) rfl ?_
        refine g_iload_n C dX3_positionOfRank_13 3 rfl rfl (q := 14) rfl ?_
        refine g_cV_i C (As := [.int (iI r), .int (iI i)]) (c_X3_rankOfSegment l E _ r i  (by omega) (by omega) (by assumption)) ml_X3_82 mf_X3_rankOfSegment (o := 1) (ci := 3) rfl rfl rfl rfl ⟨(Nat.le_of_ble_eq_true rfl), (Nat.le_of_ble_eq_true rfl)⟩ rfl rfl rfl (Nat.le_of_ble_eq_true rfl) ⟨(Nat.le_of_ble_eq_true rfl), (Nat.le_of_ble_eq_true rfl)⟩ dX3_positionOfRank_14 (q := 17) rfl ?_
        have hg := rk_rg hW hr i
        refine g_iload_n C dX3_positionOfRank_17 2 rfl rfl (q := 18) rfl ?_
        refine g_icmp_ne C dX3_positionOfRank_18 (by omega) (q2 := 23) rfl (q := 21) rfl (fun hb2 => ?_) (fun hb2 => ?_)
        · skip
          refine g_iinc C (L' := [(3, .int (iI (i + 1))), (0, .ref (ea E 1)), (1, .int (iI r)), (2, .int (iI k))]) dX3_positionOfRank_23 3 rfl (by decide) rfl (q := 26) rfl ?_
          refine g_goto C dX3_positionOfRank_26 (q := 2) rfl ?_
          refine g_sub [1, 2, 3, 0] (L' := [(0, .ref (ea E 1)), (1, .int (iI r)), (2, .int (iI k)), (3, .int (iI (i + 1)))]) rfl ?_
          exact ih2 (i + 1) (by omega) (by omega) (by rw [hR, fI_no]; unfold rkP; simp only [decide_eq_true_eq]; omega)
        · skip
          refine g_iload_n C dX3_positionOfRank_21 3 rfl rfl (q := 22) rfl ?_
          exact hret _ _ _ dX3_positionOfRank_22 (by first | (rw [hR, fI_nil (by omega)]) | (rw [hR, fI_yes (by omega)]; unfold rkP; simp only [decide_eq_true_eq]; omega))
  exact lp2 _ 0 (Nat.lt_succ_self _) (by omega) (by rfl)
abbrev rm_X3_longestRunOf : Room := { frames := 4, cells := 0, slots := 0, locals := 87 }
set_option maxRecDepth 100000 in
set_option maxHeartbeats 4000000 in
theorem c_X3_longestRunOf (l : Launch) (E : EV) (σ : SS) (r : Int) (hr : 0 ≤ r ∧ r < 4) (hW : CW (σ 2)) : Ki l yX3_longestRunOf (cw yX3_longestRunOf cX3_longestRunOf 5 (some .int)) rm_X3_longestRunOf E [.ref (ea E 1), .int (iI r)] σ (lrI (tg (σ 2) r) 0 0 0 ((σ 2) (240 + r))) σ := by
  refine Ki_of (rm := rm_X3_longestRunOf) (mL := 5) (b := cX3_longestRunOf) RX3 rfl (by decide +kernel) rfl rfl [(0, .ref (ea E 1)), (1, .int (iI r))] rfl (Nat.le_of_ble_eq_true rfl) (fun p_ e_ s_ m_ a_ b_ h_ c_ Q A C hret => ?_)
  have hn := (hW r hr).1
  refine g_iconst C dX3_longestRunOf_0 (q := 1) rfl ?_
  refine g_istore_n C (L' := [(2, .int (iI 0)), (0, .ref (ea E 1)), (1, .int (iI r))]) dX3_longestRunOf_1 rfl (by decide) rfl (q := 2) rfl ?_
  refine g_iconst C dX3_longestRunOf_2 (q := 3) rfl ?_
  refine g_istore_n C (L' := [(3, .int (iI 0)), (2, .int (iI 0)), (0, .ref (ea E 1)), (1, .int (iI r))]) dX3_longestRunOf_3 rfl (by decide) rfl (q := 4) rfl ?_
  refine g_iconst C dX3_longestRunOf_4 (q := 5) rfl ?_
  refine g_istore C (L' := [(4, .int (iI 0)), (3, .int (iI 0)), (2, .int (iI 0)), (0, .ref (ea E 1)), (1, .int (iI r))]) dX3_longestRunOf_5 (by decide) rfl (q := 7) rfl ?_
  refine g_sub [3, 4, 2, 1, 0] (L' := [(0, .ref (ea E 1)), (1, .int (iI r)), (2, .int (iI 0)), (3, .int (iI 0)), (4, .int (iI 0))]) rfl ?_
  have lp7 : ∀ (k9 : Nat) (x : Int) (y : Int) (i : Int), ((σ 2) (240 + r) - i).toNat < k9 → (0 ≤ i ∧ i ≤ (σ 2) (240 + r)) → (0 ≤ x ∧ x ≤ i ∧ 0 ≤ y ∧ y ≤ i) → (lrI (tg (σ 2) r) 0 0 0 ((σ 2) (240 + r)) = lrI (tg (σ 2) r) x y i ((σ 2) (240 + r))) → GG p_ l e_ rm_X3_longestRunOf s_ m_ a_ b_ h_ c_ Q E A 5 σ 0 0 7 [(0, .ref (ea E 1)), (1, .int (iI r)), (2, .int (iI x)), (3, .int (iI y)), (4, .int (iI i))] [] := by
    intro k9
    induction k9 with
    | zero => intro x y i hk9; omega
    | succ k9 ih7 =>
      intro x y i hk9 hi hx hR
      refine g_iload C dX3_longestRunOf_7 4 rfl (q := 9) rfl ?_
      refine g_aload_n C dX3_longestRunOf_9 0 rfl rfl (q := 10) rfl ?_
      refine g_iload_n C dX3_longestRunOf_10 1 rfl rfl (q := 11) rfl ?_
      refine g_cV_i C (As := [.int (iI r)]) (c_X3_countOf l E _ r  (by omega)) ml_X3_27 mf_X3_countOf (o := 1) (ci := 3) rfl rfl rfl rfl ⟨(Nat.le_of_ble_eq_true rfl), (Nat.le_of_ble_eq_true rfl)⟩ rfl rfl rfl (Nat.le_of_ble_eq_true rfl) ⟨(Nat.le_of_ble_eq_true rfl), (Nat.le_of_ble_eq_true rfl)⟩ dX3_longestRunOf_11 (q := 14) rfl ?_
      refine g_icmp_ge C dX3_longestRunOf_14 (by omega) (q2 := 49) rfl (q := 17) rfl (fun hb1 => ?_) (fun hb1 => ?_)
      · skip
        refine g_iload_n C dX3_longestRunOf_49 2 rfl rfl (q := 50) rfl ?_
        exact hret _ _ _ dX3_longestRunOf_50 (by rw [hR, lrI_nil (by omega)])
      · skip
        refine g_aload_n C dX3_longestRunOf_17 0 rfl rfl (q := 18) rfl ?_
        refine g_iload_n C dX3_longestRunOf_18 1 rfl rfl (q := 19) rfl ?_
        refine g_iload C dX3_longestRunOf_19 4 rfl (q := 21) rfl ?_
        refine g_iconst C dX3_longestRunOf_21 (q := 22) rfl ?_
        refine g_isub C dX3_longestRunOf_22 (q := 23) rfl ?_
        refine g_cV_i C (As := [.int (iI r), .int (iI (i - 1))]) (c_X3_areTangled l E _ r (i - 1)  (by omega) (by omega) (by assumption)) ml_X3_69 mf_X3_areTangled (o := 1) (ci := 3) rfl rfl rfl rfl ⟨(Nat.le_of_ble_eq_true rfl), (Nat.le_of_ble_eq_true rfl)⟩ rfl rfl rfl (Nat.le_of_ble_eq_true rfl) ⟨(Nat.le_of_ble_eq_true rfl), (Nat.le_of_ble_eq_true rfl)⟩ dX3_longestRunOf_23 (q := 26) rfl ?_
        have ht := tg_01 (σ 2) r (i - 1)
        refine g_if_eq C dX3_longestRunOf_26 (by omega) (q2 := 35) rfl (q := 29) rfl (fun hb2 => ?_) (fun hb2 => ?_)
        · skip
          refine g_iconst C dX3_longestRunOf_35 (q := 36) rfl ?_
          refine g_istore_n C (L' := [(3, .int (iI 1)), (0, .ref (ea E 1)), (1, .int (iI r)), (2, .int (iI x)), (4, .int (iI i))]) dX3_longestRunOf_36 rfl (by decide) rfl (q := 37) rfl ?_
          refine g_iload_n C dX3_longestRunOf_37 3 rfl rfl (q := 38) rfl ?_
          refine g_iload_n C dX3_longestRunOf_38 0 rfl rfl (q := 39) rfl ?_
          refine g_max C ml_X3_85 (by omega) dX3_longestRunOf_39 (Nat.le_of_ble_eq_true rfl) (Nat.le_of_ble_eq_true rfl) (Nat.le_of_ble_eq_true rfl) (Nat.le_of_ble_eq_true rfl) (q := 42) rfl ?_
          refine g_istore_n C (L' := [(2, .int (iI (max x 1))), (3, .int (iI 1)), (0, .ref (ea E 1)), (1, .int (iI r)), (4, .int (iI i))]) dX3_longestRunOf_42 rfl (by decide) rfl (q := 43) rfl ?_
          refine g_iinc C (L' := [(4, .int (iI (i + 1))), (2, .int (iI (max x 1))), (3, .int (iI 1)), (0, .ref (ea E 1)), (1, .int (iI r))]) dX3_longestRunOf_43 4 rfl (by decide) rfl (q := 46) rfl ?_
          refine g_goto C dX3_longestRunOf_46 (q := 7) rfl ?_
          refine g_sub [3, 4, 1, 2, 0] (L' := [(0, .ref (ea E 1)), (1, .int (iI r)), (2, .int (iI (max x 1))), (3, .int (iI 1)), (4, .int (iI (i + 1)))]) rfl ?_
          exact ih7 (max x 1) 1 (i + 1) (by omega) (by omega) (by omega) (by first | (rw [hR, lrI_0 (by omega) (by omega)]) | (rw [hR, lrI_1 (by omega) (by omega)]))
        · skip
          refine g_iload_n C dX3_longestRunOf_29 3 rfl rfl (q := 30) rfl ?_
          refine g_iconst C dX3_longestRunOf_30 (q := 31) rfl ?_
          refine g_iadd C dX3_longestRunOf_31 (q := 32) rfl ?_
          refine g_goto C dX3_longestRunOf_32 (q := 36) rfl ?_
          refine g_istore_n C (L' := [(3, .int (iI (y + 1))), (0, .ref (ea E 1)), (1, .int (iI r)), (2, .int (iI x)), (4, .int (iI i))]) dX3_longestRunOf_36 rfl (by decide) rfl (q := 37) rfl ?_
          refine g_iload_n C dX3_longestRunOf_37 3 rfl rfl (q := 38) rfl ?_
          refine g_iload_n C dX3_longestRunOf_38 0 rfl rfl (q := 39) rfl ?_
          refine g_max C ml_X3_85 (by omega) dX3_longestRunOf_39 (Nat.le_of_ble_eq_true rfl) (Nat.le_of_ble_eq_true rfl) (Nat.le_of_ble_eq_true rfl) (Nat.le_of_ble_eq_true rfl) (q := 42) rfl ?_
          refine g_istore_n C (L' := [(2, .int (iI (max x (y + 1)))), (3, .int (iI (y + 1))), (0, .ref (ea E 1)), (1, .int (iI r)), (4, .int (iI i))]) dX3_longestRunOf_42 rfl (by decide) rfl (q := 43) rfl ?_
          refine g_iinc C (L' := [(4, .int (iI (i + 1))), (2, .int (iI (max x (y + 1)))), (3, .int (iI (y + 1))), (0, .ref (ea E 1)), (1, .int (iI r))]) dX3_longestRunOf_43 4 rfl (by decide) rfl (q := 46) rfl ?_
          refine g_goto C dX3_longestRunOf_46 (q := 7) rfl ?_
          refine g_sub [3, 4, 1, 2, 0] (L' := [(0, .ref (ea E 1)), (1, .int (iI r)), (2, .int (iI (max x (y + 1)))), (3, .int (iI (y + 1))), (4, .int (iI (i + 1)))]) rfl ?_
          exact ih7 (max x (y + 1)) (y + 1) (i + 1) (by omega) (by omega) (by omega) (by first | (rw [hR, lrI_0 (by omega) (by omega)]) | (rw [hR, lrI_1 (by omega) (by omega)]))
  exact lp7 _ 0 0 0 (Nat.lt_succ_self _) (by omega) (by omega) (by rfl)
abbrev rm_X3_positionOfColour : Room := { frames := 3, cells := 0, slots := 0, locals := 65 }
set_option maxRecDepth 100000 in
set_option maxHeartbeats 4000000 in
theorem c_X3_positionOfColour (l : Launch) (E : EV) (σ : SS) (r a c : Int) (hr : 0 ≤ r ∧ r < 4) (ha : 0 ≤ a ∧ a ≤ (σ 2) (240 + r)) (hc : 0 ≤ c ∧ c < 8) (hW : CW (σ 2)) : Ki l yX3_positionOfColour (cw yX3_positionOfColour cX3_positionOfColour 5 (some .int)) rm_X3_positionOfColour E [.ref (ea E 1), .int (iI r), .int (iI a), .int (iI c)] σ (fI (coP (σ 2) r c) a ((σ 2) (240 + r))) σ := by
  refine Ki_of (rm := rm_X3_positionOfColour) (mL := 5) (b := cX3_positionOfColour) RX3 rfl (by decide +kernel) rfl rfl [(0, .ref (ea E 1)), (1, .int (iI r)), (2, .int (iI a)), (3, .int (iI c))] rfl (Nat.le_of_ble_eq_true rfl) (fun p_ e_ s_ m_ a_ b_ h_ c_ Q A C hret => ?_)
  have hn := (hW r hr).1
  refine g_iload_n C dX3_positionOfColour_0 2 rfl rfl (q := 1) rfl ?_
  refine g_istore C (L' := [(4, .int (iI a)), (0, .ref (ea E 1)), (1, .int (iI r)), (2, .int (iI a)), (3, .int (iI c))]) dX3_positionOfColour_1 (by decide) rfl (q := 3) rfl ?_
  refine g_sub [1, 2, 3, 4, 0] (L' := [(0, .ref (ea E 1)), (1, .int (iI r)), (2, .int (iI a)), (3, .int (iI c)), (4, .int (iI a))]) rfl ?_
  have lp3 : ∀ (k9 : Nat) (i : Int), ((σ 2) (240 + r) - i).toNat < k9 → (0 ≤ i ∧ i ≤ (σ 2) (240 + r)) → (fI (coP (σ 2) r c) a ((σ 2) (240 + r)) = fI (coP (σ 2) r c) i ((σ 2) (240 + r))) → GG p_ l e_ rm_X3_positionOfColour s_ m_ a_ b_ h_ c_ Q E A 5 σ 0 0 3 [(0, .ref (ea E 1)), (1, .int (iI r)), (2, .int (iI a)), (3, .int (iI c)), (4, .int (iI i))] [] := by
    intro k9
    induction k9 with
    | zero => intro i hk9; omega
    | succ k9 ih3 =>
      intro i hk9 hi hR
      refine g_iload C dX3_positionOfColour_3 4 rfl (q := 5) rfl ?_
      refine g_aload_n C dX3_positionOfColour_5 0 rfl rfl (q := 6) rfl ?_
      refine g_iload_n C dX3_positionOfColour_6 1 rfl rfl (q := 7) rfl ?_
      refine g_cV_i C (As := [.int (iI r)]) (c_X3_countOf l E _ r  (by omega)) ml_X3_27 mf_X3_countOf (o := 1) (ci := 3) rfl rfl rfl rfl ⟨(Nat.le_of_ble_eq_true rfl), (Nat.le_of_ble_eq_true rfl)⟩ rfl rfl rfl (Nat.le_of_ble_eq_true rfl) ⟨(Nat.le_of_ble_eq_true rfl), (Nat.le_of_ble_eq_true rfl)⟩ dX3_positionOfColour_7 (q := 10) rfl ?_
      refine g_icmp_ge C dX3_positionOfColour_10 (by omega) (q2 := 33) rfl (q := 13) rfl (fun hb1 => ?_) (fun hb1 => ?_)
      · skip
        refine g_iconst C dX3_positionOfColour_33 (q := 34) rfl ?_
        exact hret _ _ _ dX3_positionOfColour_34 (by first | (rw [hR, fI_nil (by omega)]) | (rw [hR, fI_yes (by omega)]; unfold coP; simp only [decide_eq_true_eq]; omega))
      · skip
        have hs := (hW r hr).2 i (by omega)
        refine g_aload_n C dX3_positionOfColour_13 0 rfl rfl (q := 14) rfl ?_
        refine g_iload_n C dX3_positionOfColour_14 1 rfl rfl (q := 15) rfl ?_
        refine g_iload C dX3_positionOfColour_15 4 rfl (q := 17) rfl ?_
        refine g_cV_i C (As := [.int (iI r), .int (iI i)]) (c_X3_colourAt l E _ r i  (by omega) (by omega) (by omega)) ml_X3_37 mf_X3_colourAt (o := 1) (ci := 3) rfl rfl rfl rfl ⟨(Nat.le_of_ble_eq_true rfl), (Nat.le_of_ble_eq_true rfl)⟩ rfl rfl rfl (Nat.le_of_ble_eq_true rfl) ⟨(Nat.le_of_ble_eq_true rfl), (Nat.le_of_ble_eq_true rfl)⟩ dX3_positionOfColour_17 (q := 20) rfl ?_
        refine g_iload_n C dX3_positionOfColour_20 3 rfl rfl (q := 21) rfl ?_
        refine g_icmp_ne C dX3_positionOfColour_21 (by omega) (q2 := 27) rfl (q := 24) rfl (fun hb2 => ?_) (fun hb2 => ?_)
        · skip
          refine g_iinc C (L' := [(4, .int (iI (i + 1))), (0, .ref (ea E 1)), (1, .int (iI r)), (2, .int (iI a)), (3, .int (iI c))]) dX3_positionOfColour_27 4 rfl (by decide) rfl (q := 30) rfl ?_
          refine g_goto C dX3_positionOfColour_30 (q := 3) rfl ?_
          refine g_sub [1, 2, 3, 4, 0] (L' := [(0, .ref (ea E 1)), (1, .int (iI r)), (2, .int (iI a)), (3, .int (iI c)), (4, .int (iI (i + 1)))]) rfl ?_
          exact ih3 (i + 1) (by omega) (by omega) (by rw [hR, fI_no]; unfold coP; simp only [decide_eq_true_eq]; omega)
        · skip
          refine g_iload C dX3_positionOfColour_24 4 rfl (q := 26) rfl ?_
          exact hret _ _ _ dX3_positionOfColour_26 (by first | (rw [hR, fI_nil (by omega)]) | (rw [hR, fI_yes (by omega)]; unfold coP; simp only [decide_eq_true_eq]; omega))
  exact lp3 _ a (Nat.lt_succ_self _) (by omega) (by rfl)
abbrev rm_X3_sumOfColour : Room := { frames := 3, cells := 0, slots := 0, locals := 65 }
set_option maxRecDepth 100000 in
set_option maxHeartbeats 4000000 in
theorem c_X3_sumOfColour (l : Launch) (E : EV) (σ : SS) (r c : Int) (hr : 0 ≤ r ∧ r < 4) (hc : 0 ≤ c ∧ c < 8) (hW : CW (σ 2)) : Ki l yX3_sumOfColour (cw yX3_sumOfColour cX3_sumOfColour 5 (some .int)) rm_X3_sumOfColour E [.ref (ea E 1), .int (iI r), .int (iI c)] σ (sc (σ 2) r c) σ := by
  refine Ki_of (rm := rm_X3_sumOfColour) (mL := 5) (b := cX3_sumOfColour) RX3 rfl (by decide +kernel) rfl rfl [(0, .ref (ea E 1)), (1, .int (iI r)), (2, .int (iI c))] rfl (Nat.le_of_ble_eq_true rfl) (fun p_ e_ s_ m_ a_ b_ h_ c_ Q A C hret => ?_)
  have hn := (hW r hr).1
  refine g_iconst C dX3_sumOfColour_0 (q := 1) rfl ?_
  refine g_istore_n C (L' := [(3, .int (iI 0)), (0, .ref (ea E 1)), (1, .int (iI r)), (2, .int (iI c))]) dX3_sumOfColour_1 rfl (by decide) rfl (q := 2) rfl ?_
  refine g_iconst C dX3_sumOfColour_2 (q := 3) rfl ?_
  refine g_istore C (L' := [(4, .int (iI 0)), (3, .int (iI 0)), (0, .ref (ea E 1)), (1, .int (iI r)), (2, .int (iI c))]) dX3_sumOfColour_3 (by decide) rfl (q := 5) rfl ?_
  refine g_sub [2, 3, 4, 1, 0] (L' := [(0, .ref (ea E 1)), (1, .int (iI r)), (2, .int (iI c)), (3, .int (iI 0)), (4, .int (iI 0))]) rfl ?_
  have lp5 : ∀ (k9 : Nat) (acc : Int) (i : Int), ((σ 2) (240 + r) - i).toNat < k9 → (0 ≤ i ∧ i ≤ (σ 2) (240 + r)) → (sc (σ 2) r c = acc + sI (ci (σ 2) r c) i ((σ 2) (240 + r))) → GG p_ l e_ rm_X3_sumOfColour s_ m_ a_ b_ h_ c_ Q E A 5 σ 0 0 5 [(0, .ref (ea E 1)), (1, .int (iI r)), (2, .int (iI c)), (3, .int (iI acc)), (4, .int (iI i))] [] := by
    intro k9
    induction k9 with
    | zero => intro acc i hk9; omega
    | succ k9 ih5 =>
      intro acc i hk9 hi hR
      refine g_iload C dX3_sumOfColour_5 4 rfl (q := 7) rfl ?_
      refine g_aload_n C dX3_sumOfColour_7 0 rfl rfl (q := 8) rfl ?_
      refine g_iload_n C dX3_sumOfColour_8 1 rfl rfl (q := 9) rfl ?_
      refine g_cV_i C (As := [.int (iI r)]) (c_X3_countOf l E _ r  (by omega)) ml_X3_27 mf_X3_countOf (o := 1) (ci := 3) rfl rfl rfl rfl ⟨(Nat.le_of_ble_eq_true rfl), (Nat.le_of_ble_eq_true rfl)⟩ rfl rfl rfl (Nat.le_of_ble_eq_true rfl) ⟨(Nat.le_of_ble_eq_true rfl), (Nat.le_of_ble_eq_true rfl)⟩ dX3_sumOfColour_9 (q := 12) rfl ?_
      refine g_icmp_ge C dX3_sumOfColour_12 (by omega) (q2 := 42) rfl (q := 15) rfl (fun hb1 => ?_) (fun hb1 => ?_)
      · skip
        refine g_iload_n C dX3_sumOfColour_42 3 rfl rfl (q := 43) rfl ?_
        exact hret _ _ _ dX3_sumOfColour_43 (by rw [hR, sI_nil (by omega)]; omega)
      · skip
        have hs := (hW r hr).2 i (by omega)
        refine g_aload_n C dX3_sumOfColour_15 0 rfl rfl (q := 16) rfl ?_
        refine g_iload_n C dX3_sumOfColour_16 1 rfl rfl (q := 17) rfl ?_
        refine g_iload C dX3_sumOfColour_17 4 rfl (q := 19) rfl ?_
        refine g_cV_i C (As := [.int (iI r), .int (iI i)]) (c_X3_colourAt l E _ r i  (by omega) (by omega) (by omega)) ml_X3_37 mf_X3_colourAt (o := 1) (ci := 3) rfl rfl rfl rfl ⟨(Nat.le_of_ble_eq_true rfl), (Nat.le_of_ble_eq_true rfl)⟩ rfl rfl rfl (Nat.le_of_ble_eq_true rfl) ⟨(Nat.le_of_ble_eq_true rfl), (Nat.le_of_ble_eq_true rfl)⟩ dX3_sumOfColour_19 (q := 22) rfl ?_
        refine g_iload_n C dX3_sumOfColour_22 2 rfl rfl (q := 23) rfl ?_
        refine g_icmp_ne C dX3_sumOfColour_23 (by omega) (q2 := 36) rfl (q := 26) rfl (fun hb2 => ?_) (fun hb2 => ?_)
        · skip
          refine g_iinc C (L' := [(4, .int (iI (i + 1))), (0, .ref (ea E 1)), (1, .int (iI r)), (2, .int (iI c)), (3, .int (iI acc))]) dX3_sumOfColour_36 4 rfl (by decide) rfl (q := 39) rfl ?_
          refine g_goto C dX3_sumOfColour_39 (q := 5) rfl ?_
          refine g_sub [1, 2, 3, 4, 0] (L' := [(0, .ref (ea E 1)), (1, .int (iI r)), (2, .int (iI c)), (3, .int (iI acc)), (4, .int (iI (i + 1)))]) rfl ?_
          exact ih5 acc (i + 1) (by omega) (by omega) (by first | (rw [hR, sI_cons (by omega), show ci (σ 2) r c i = (σ 2) (r * 60 + i) / 8 from if_pos (by omega)]; omega) | (rw [hR, sI_cons (by omega), show ci (σ 2) r c i = 0 from if_neg (by omega)]; omega))
        · skip
          refine g_iload_n C dX3_sumOfColour_26 3 rfl rfl (q := 27) rfl ?_
          refine g_aload_n C dX3_sumOfColour_27 0 rfl rfl (q := 28) rfl ?_
          refine g_iload_n C dX3_sumOfColour_28 1 rfl rfl (q := 29) rfl ?_
          refine g_iload C dX3_sumOfColour_29 4 rfl (q := 31) rfl ?_
          refine g_cV_i C (As := [.int (iI r), .int (iI i)]) (c_X3_lengthAt l E _ r i  (by omega) (by omega) (by omega)) ml_X3_47 mf_X3_lengthAt (o := 1) (ci := 3) rfl rfl rfl rfl ⟨(Nat.le_of_ble_eq_true rfl), (Nat.le_of_ble_eq_true rfl)⟩ rfl rfl rfl (Nat.le_of_ble_eq_true rfl) ⟨(Nat.le_of_ble_eq_true rfl), (Nat.le_of_ble_eq_true rfl)⟩ dX3_sumOfColour_31 (q := 34) rfl ?_
          refine g_iadd C dX3_sumOfColour_34 (q := 35) rfl ?_
          refine g_istore_n C (L' := [(3, .int (iI (acc + ((σ 2) (r * 60 + i) / 8)))), (0, .ref (ea E 1)), (1, .int (iI r)), (2, .int (iI c)), (4, .int (iI i))]) dX3_sumOfColour_35 rfl (by decide) rfl (q := 36) rfl ?_
          refine g_iinc C (L' := [(4, .int (iI (i + 1))), (3, .int (iI (acc + ((σ 2) (r * 60 + i) / 8)))), (0, .ref (ea E 1)), (1, .int (iI r)), (2, .int (iI c))]) dX3_sumOfColour_36 4 rfl (by decide) rfl (q := 39) rfl ?_
          refine g_goto C dX3_sumOfColour_39 (q := 5) rfl ?_
          refine g_sub [2, 3, 4, 1, 0] (L' := [(0, .ref (ea E 1)), (1, .int (iI r)), (2, .int (iI c)), (3, .int (iI (acc + ((σ 2) (r * 60 + i) / 8)))), (4, .int (iI (i + 1)))]) rfl ?_
          exact ih5 (acc + ((σ 2) (r * 60 + i) / 8)) (i + 1) (by omega) (by omega) (by first | (rw [hR, sI_cons (by omega), show ci (σ 2) r c i = (σ 2) (r * 60 + i) / 8 from if_pos (by omega)]; omega) | (rw [hR, sI_cons (by omega), show ci (σ 2) r c i = 0 from if_neg (by omega)]; omega))
  exact lp5 _ 0 0 (Nat.lt_succ_self _) (by omega) (by unfold sc; omega)
abbrev rm_X3_rankOfColour : Room := { frames := 4, cells := 0, slots := 0, locals := 89 }
set_option maxRecDepth 100000 in
set_option maxHeartbeats 4000000 in
theorem c_X3_rankOfColour (l : Launch) (E : EV) (σ : SS) (r c s : Int) (hr : 0 ≤ r ∧ r < 4) (hc : 0 ≤ c ∧ c < 8) (hs : 0 ≤ s ∧ s ≤ 5940) (hW : CW (σ 2)) : Ki l yX3_rankOfColour (cw yX3_rankOfColour cX3_rankOfColour 7 (some .int)) rm_X3_rankOfColour E [.ref (ea E 1), .int (iI r), .int (iI c), .int (iI s)] σ (rkc (σ 2) r c s) σ := by
  refine Ki_of (rm := rm_X3_rankOfColour) (mL := 7) (b := cX3_rankOfColour) RX3 rfl (by decide +kernel) rfl rfl [(0, .ref (ea E 1)), (1, .int (iI r)), (2, .int (iI c)), (3, .int (iI s))] rfl (Nat.le_of_ble_eq_true rfl) (fun p_ e_ s_ m_ a_ b_ h_ c_ Q A C hret => ?_)
  have hn := (hW r hr).1
  refine g_iconst C dX3_rankOfColour_0 (q := 1) rfl ?_
  refine g_istore C (L' := [(4, .int (iI 0)), (0, .ref (ea E 1)), (1, .int (iI r)), (2, .int (iI c)), (3, .int (iI s))]) dX3_rankOfColour_1 (by decide) rfl (q := 3) rfl ?_
  refine g_iconst C dX3_rankOfColour_3 (q := 4) rfl ?_
  refine g_istore C (L' := [(5, .int (iI 0)), (4, .int (iI 0)), (0, .ref (ea E 1)), (1, .int (iI r)), (2, .int (iI c)), (3, .int (iI s))]) dX3_rankOfColour_4 (by decide) rfl (q := 6) rfl ?_
  refine g_sub [2, 3, 4, 5, 1, 0] (L' := [(0, .ref (ea E 1)), (1, .int (iI r)), (2, .int (iI c)), (3, .int (iI s)), (4, .int (iI 0)), (5, .int (iI 0))]) rfl ?_
  have lp6 : ∀ (k9 : Nat) (acc : Int) (i : Int), (8 - i).toNat < k9 → (0 ≤ i ∧ i ≤ 8) → (rkc (σ 2) r c s = acc + sI (rci (σ 2) r c s) i 8) → GG p_ l e_ rm_X3_rankOfColour s_ m_ a_ b_ h_ c_ Q E A 7 σ 0 0 6 [(0, .ref (ea E 1)), (1, .int (iI r)), (2, .int (iI c)), (3, .int (iI s)), (4, .int (iI acc)), (5, .int (iI i))] [] := by
    intro k9
    induction k9 with
    | zero => intro acc i hk9; omega
    | succ k9 ih6 =>
      intro acc i hk9 hi hR
      refine g_iload C dX3_rankOfColour_6 5 rfl (q := 8) rfl ?_
      refine g_bipush C dX3_rankOfColour_8 (by decide) (q := 10) rfl ?_
      refine g_icmp_ge C dX3_rankOfColour_10 (by omega) (q2 := 49) rfl (q := 13) rfl (fun hb1 => ?_) (fun hb1 => ?_)
      · skip
        refine g_iload C dX3_rankOfColour_49 4 rfl (q := 51) rfl ?_
        exact hret _ _ _ dX3_rankOfColour_51 (by rw [hR, sI_nil (by omega)]; omega)
      · skip
        have hg := sc_rg hW hr i
        refine g_aload_n C dX3_rankOfColour_13 0 rfl rfl (q := 14) rfl ?_
        refine g_iload_n C dX3_rankOfColour_14 1 rfl rfl (q := 15) rfl ?_
        refine g_iload C dX3_rankOfColour_15 5 rfl (q := 17) rfl ?_
        refine g_cV_i C (As := [.int (iI r), .int (iI i)]) (c_X3_sumOfColour l E _ r i  (by omega) (by omega) (by assumption)) ml_X3_88 mf_X3_sumOfColour (o := 1) (ci := 3) rfl rfl rfl rfl ⟨(Nat.le_of_ble_eq_true rfl), (Nat.le_of_ble_eq_true rfl)⟩ rfl rfl rfl (Nat.le_of_ble_eq_true rfl) ⟨(Nat.le_of_ble_eq_true rfl), (Nat.le_of_ble_eq_true rfl)⟩ dX3_rankOfColour_17 (q := 20) rfl ?_
        refine g_istore C (L' := [(6, .int (iI (sc (σ 2) r i))), (0, .ref (ea E 1)), (1, .int (iI r)), (2, .int (iI c)), (3, .int (iI s)), (4, .int (iI acc)), (5, .int (iI i))]) dX3_rankOfColour_20 (by decide) rfl (q := 22) rfl ?_
        refine g_iload C dX3_rankOfColour_22 0 rfl (q := 24) rfl ?_
        refine g_iload_n C dX3_rankOfColour_24 4 rfl rfl (q := 25) rfl ?_
        refine g_icmp_gt C dX3_rankOfColour_25 (by omega) (q2 := 40) rfl (q := 28) rfl (fun hb2 => ?_) (fun hb2 => ?_)
        · skip
          refine g_iinc C (L' := [(4, .int (iI (acc + 1))), (6, .int (iI (sc (σ 2) r i))), (0, .ref (ea E 1)), (1, .int (iI r)), (2, .int (iI c)), (3, .int (iI s)), (5, .int (iI i))]) dX3_rankOfColour_40 5 rfl (by decide) rfl (q := 43) rfl ?_
          refine g_iinc C (L' := [(5, .int (iI (i + 1))), (4, .int (iI (acc + 1))), (6, .int (iI (sc (σ 2) r i))), (0, .ref (ea E 1)), (1, .int (iI r)), (2, .int (iI c)), (3, .int (iI s))]) dX3_rankOfColour_43 6 rfl (by decide) rfl (q := 46) rfl ?_
          refine g_goto C dX3_rankOfColour_46 (q := 6) rfl ?_
          refine g_sub [3, 4, 5, 6, 1, 0] (L' := [(0, .ref (ea E 1)), (1, .int (iI r)), (2, .int (iI c)), (3, .int (iI s)), (4, .int (iI (acc + 1))), (5, .int (iI (i + 1)))]) rfl ?_
          exact ih6 (acc + 1) (i + 1) (by omega) (by omega) (by first | (rw [hR, sI_cons (by omega), show rci (σ 2) r c s i = 1 from if_pos (by omega)]; omega) | (rw [hR, sI_cons (by omega), show rci (σ 2) r c s i = 0 from if_neg (by omega)]; omega))
        · skip
          refine g_iload C dX3_rankOfColour_28 0 rfl (q := 30) rfl ?_
          refine g_iload_n C dX3_rankOfColour_30 4 rfl rfl (q := 31) rfl ?_
          refine g_icmp_ne C dX3_rankOfColour_31 (by omega) (q2 := 43) rfl (q := 34) rfl (fun hb3 => ?_) (fun hb3 => ?_)
          · skip
            refine g_iinc C (L' := [(5, .int (iI (i + 1))), (6, .int (iI (sc (σ 2) r i))), (0, .ref (ea E 1)), (1, .int (iI r)), (2, .int (iI c)), (3, .int (iI s)), (4, .int (iI acc))]) dX3_rankOfColour_43 6 rfl (by decide) rfl (q := 46) rfl ?_
            refine g_goto C dX3_rankOfColour_46 (q := 6) rfl ?_
            refine g_sub [2, 3, 4, 5, 6, 0] (L' := [(0, .ref (ea E 1)), (1, .int (iI r)), (2, .int (iI c)), (3, .int (iI s)), (4, .int (iI acc)), (5, .int (iI (i + 1)))]) rfl ?_
            exact ih6 acc (i + 1) (by omega) (by omega) (by first | (rw [hR, sI_cons (by omega), show rci (σ 2) r c s i = 1 from if_pos (by omega)]; omega) | (rw [hR, sI_cons (by omega), show rci (σ 2) r c s i = 0 from if_neg (by omega)]; omega))
          · skip
            refine g_iload C dX3_rankOfColour_34 6 rfl (q := 36) rfl ?_
            refine g_iload_n C dX3_rankOfColour_36 3 rfl rfl (q := 37) rfl ?_
            refine g_icmp_ge C dX3_rankOfColour_37 (by omega) (q2 := 43) rfl (q := 40) rfl (fun hb4 => ?_) (fun hb4 => ?_)
            · skip
              refine g_iinc C (L' := [(5, .int (iI (i + 1))), (6, .int (iI (sc (σ 2) r i))), (0, .ref (ea E 1)), (1, .int (iI r)), (2, .int (iI c)), (3, .int (iI s)), (4, .int (iI acc))]) dX3_rankOfColour_43 6 rfl (by decide) rfl (q := 46) rfl ?_
              refine g_goto C dX3_rankOfColour_46 (q := 6) rfl ?_
              refine g_sub [2, 3, 4, 5, 6, 0] (L' := [(0, .ref (ea E 1)), (1, .int (iI r)), (2, .int (iI c)), (3, .int (iI s)), (4, .int (iI acc)), (5, .int (iI (i + 1)))]) rfl ?_
              exact ih6 acc (i + 1) (by omega) (by omega) (by first | (rw [hR, sI_cons (by omega), show rci (σ 2) r c s i = 1 from if_pos (by omega)]; omega) | (rw [hR, sI_cons (by omega), show rci (σ 2) r c s i = 0 from if_neg (by omega)]; omega))
            · skip
              refine g_iinc C (L' := [(4, .int (iI (acc + 1))), (6, .int (iI (sc (σ 2) r i))), (0, .ref (ea E 1)), (1, .int (iI r)), (2, .int (iI c)), (3, .int (iI s)), (5, .int (iI i))]) dX3_rankOfColour_40 5 rfl (by decide) rfl (q := 43) rfl ?_
              refine g_iinc C (L' := [(5, .int (iI (i + 1))), (4, .int (iI (acc + 1))), (6, .int (iI (sc (σ 2) r i))), (0, .ref (ea E 1)), (1, .int (iI r)), (2, .int (iI c)), (3, .int (iI s))]) dX3_rankOfColour_43 6 rfl (by decide) rfl (q := 46) rfl ?_
              refine g_goto C dX3_rankOfColour_46 (q := 6) rfl ?_
              refine g_sub [3, 4, 5, 6, 1, 0] (L' := [(0, .ref (ea E 1)), (1, .int (iI r)), (2, .int (iI c)), (3, .int (iI s)), (4, .int (iI (acc + 1))), (5, .int (iI (i + 1)))]) rfl ?_
              exact ih6 (acc + 1) (i + 1) (by omega) (by omega) (by first | (rw [hR, sI_cons (by omega), show rci (σ 2) r c s i = 1 from if_pos (by omega)]; omega) | (rw [hR, sI_cons (by omega), show rci (σ 2) r c s i = 0 from if_neg (by omega)]; omega))
  exact lp6 _ 0 0 (Nat.lt_succ_self _) (by omega) (by unfold rkc; omega)
abbrev rm_X3_colourOfRank : Room := { frames := 5, cells := 0, slots := 0, locals := 115 }
set_option maxRecDepth 100000 in
set_option maxHeartbeats 4000000 in
theorem c_X3_colourOfRank (l : Launch) (E : EV) (σ : SS) (r k : Int) (hr : 0 ≤ r ∧ r < 4) (hk : -2147483648 ≤ k ∧ k ≤ 2147483647) (hW : CW (σ 2)) : Ki l yX3_colourOfRank (cw yX3_colourOfRank cX3_colourOfRank 5 (some .int)) rm_X3_colourOfRank E [.ref (ea E 1), .int (iI r), .int (iI k)] σ (fI (rcP (σ 2) r k) 0 8) σ := by
  refine Ki_of (rm := rm_X3_colourOfRank) (mL := 5) (b := cX3_colourOfRank) RX3 rfl (by decide +kernel) rfl rfl [(0, .ref (ea E 1)), (1, .int (iI r)), (2, .int (iI k))] rfl (Nat.le_of_ble_eq_true rfl) (fun p_ e_ s_ m_ a_ b_ h_ c_ Q A C hret => ?_)
  have hn := (hW r hr).1
  refine g_iconst C dX3_colourOfRank_0 (q := 1) rfl ?_
  refine g_istore_n C (L' := [(3, .int (iI 0)), (0, .ref (ea E 1)), (1, .int (iI r)), (2, .int (iI k))]) dX3_colourOfRank_1 rfl (by decide) rfl (q := 2) rfl ?_
  refine g_sub [1, 2, 3, 0] (L' := [(0, .ref (ea E 1)), (1, .int (iI r)), (2, .int (iI k)), (3, .int (iI 0))]) rfl ?_
  have lp2 : ∀ (k9 : Nat) (i : Int), (8 - i).toNat < k9 → (0 ≤ i ∧ i ≤ 8) → (fI (rcP (σ 2) r k) 0 8 = fI (rcP (σ 2) r k) i 8) → GG p_ l e_ rm_X3_colourOfRank s_ m_ a_ b_ h_ c_ Q E A 5 σ 0 0 2 [(0, .ref (ea E 1)), (1, .int (iI r)), (2, .int (iI k)), (3, .int (iI i))] [] := by
    intro k9
    induction k9 with
    | zero => intro i hk9; omega
    | succ k9 ih2 =>
      intro i hk9 hi hR
      refine g_iload_n C dX3_colourOfRank_2 3 rfl rfl (q := 3) rfl ?_
      refine g_bipush C dX3_colourOfRank_3 (by decide) (q := 5) rfl ?_
      refine g_icmp_ge C dX3_colourOfRank_5 (by omega) (q2 := 41) rfl (q := 8) rfl (fun hb1 => ?_) (fun hb1 => ?_)
      · skip
        refine g_iconst C dX3_colourOfRank_41 (q := 42) rfl ?_
        exact hret _ _ _ dX3_colourOfRank_42 (by first | (rw [hR, fI_nil (by omega)]) | (rw [hR, fI_yes (by omega)]; unfold rcP; simp only [decide_eq_true_eq]; omega))
      · skip
        have hg := sc_rg hW hr i
        have hg2 := rkc_rg (σ 2) r i (sc (σ 2) r i)
        refine g_aload_n C dX3_colourOfRank_8 0 rfl rfl (q := 9) rfl ?_
        refine g_iload_n C dX3_colourOfRank_9 1 rfl rfl (q := 10) rfl ?_
        refine g_iload_n C dX3_colourOfRank_10 3 rfl rfl (q := 11) rfl ?_
        refine g_cV_i C (As := [.int (iI r), .int (iI i)]) (c_X3_sumOfColour l E _ r i  (by omega) (by omega) (by assumption)) ml_X3_88 mf_X3_sumOfColour (o := 1) (ci := 3) rfl rfl rfl rfl ⟨(Nat.le_of_ble_eq_true rfl), (Nat.le_of_ble_eq_true rfl)⟩ rfl rfl rfl (Nat.le_of_ble_eq_true rfl) ⟨(Nat.le_of_ble_eq_true rfl), (Nat.le_of_ble_eq_true rfl)⟩ dX3_colourOfRank_11 (q := 14) rfl ?_
        refine g_istore C (L' := [(4, .int (iI (sc (σ 2) r i))), (0, .ref (ea E 1)), (1, .int (iI r)), (2, .int (iI k)), (3, .int (iI i))]) dX3_colourOfRank_14 (by decide) rfl (q := 16) rfl ?_
        refine g_iload C dX3_colourOfRank_16 0 rfl (q := 18) rfl ?_
        refine g_if_le C dX3_colourOfRank_18 (by omega) (q2 := 35) rfl (q := 21) rfl (fun hb2 => ?_) (fun hb2 => ?_)
        · skip
          refine g_iinc C (L' := [(3, .int (iI (i + 1))), (4, .int (iI (sc (σ 2) r i))), (0, .ref (ea E 1)), (1, .int (iI r)), (2, .int (iI k))]) dX3_colourOfRank_35 4 rfl (by decide) rfl (q := 38) rfl ?_
          refine g_goto C dX3_colourOfRank_38 (q := 2) rfl ?_
          refine g_sub [2, 3, 4, 0] (L' := [(0, .ref (ea E 1)), (1, .int (iI r)), (2, .int (iI k)), (3, .int (iI (i + 1)))]) rfl ?_
          exact ih2 (i + 1) (by omega) (by omega) (by rw [hR, fI_no]; unfold rcP; simp only [decide_eq_true_eq]; omega)
        · skip
          refine g_aload_n C dX3_colourOfRank_21 1 rfl rfl (q := 22) rfl ?_
          refine g_iload_n C dX3_colourOfRank_22 2 rfl rfl (q := 23) rfl ?_
          refine g_iload_n C dX3_colourOfRank_23 4 rfl rfl (q := 24) rfl ?_
          refine g_iload C dX3_colourOfRank_24 0 rfl (q := 26) rfl ?_
          refine g_cV_i C (As := [.int (iI r), .int (iI i), .int (iI (sc (σ 2) r i))]) (c_X3_rankOfColour l E _ r i (sc (σ 2) r i)  (by omega) (by omega) (by omega) (by assumption)) ml_X3_91 mf_X3_rankOfColour (o := 1) (ci := 3) rfl rfl rfl rfl ⟨(Nat.le_of_ble_eq_true rfl), (Nat.le_of_ble_eq_true rfl)⟩ rfl rfl rfl (Nat.le_of_ble_eq_true rfl) ⟨(Nat.le_of_ble_eq_true rfl), (Nat.le_of_ble_eq_true rfl)⟩ dX3_colourOfRank_26 (q := 29) rfl ?_
          refine g_iload_n C dX3_colourOfRank_29 3 rfl rfl (q := 30) rfl ?_
          refine g_icmp_ne C dX3_colourOfRank_30 (by omega) (q2 := 35) rfl (q := 33) rfl (fun hb3 => ?_) (fun hb3 => ?_)
          · skip
            refine g_iinc C (L' := [(3, .int (iI (i + 1))), (4, .int (iI (sc (σ 2) r i))), (0, .ref (ea E 1)), (1, .int (iI r)), (2, .int (iI k))]) dX3_colourOfRank_35 4 rfl (by decide) rfl (q := 38) rfl ?_
            refine g_goto C dX3_colourOfRank_38 (q := 2) rfl ?_
            refine g_sub [2, 3, 4, 0] (L' := [(0, .ref (ea E 1)), (1, .int (iI r)), (2, .int (iI k)), (3, .int (iI (i + 1)))]) rfl ?_
            exact ih2 (i + 1) (by omega) (by omega) (by rw [hR, fI_no]; unfold rcP; simp only [decide_eq_true_eq]; omega)
          · skip
            refine g_iload_n C dX3_colourOfRank_33 4 rfl rfl (q := 34) rfl ?_
            exact hret _ _ _ dX3_colourOfRank_34 (by first | (rw [hR, fI_nil (by omega)]) | (rw [hR, fI_yes (by omega)]; unfold rcP; simp only [decide_eq_true_eq]; omega))
  exact lp2 _ 0 (Nat.lt_succ_self _) (by omega) (by rfl)
abbrev rm_X3_readsTheSameBackwards : Room := { frames := 2, cells := 0, slots := 0, locals := 43 }
set_option maxRecDepth 100000 in
set_option maxHeartbeats 4000000 in
theorem c_X3_readsTheSameBackwards (l : Launch) (E : EV) (σ : SS) (r : Int) (hr : 0 ≤ r ∧ r < 4) (hW : CW (σ 2)) : Ki l yX3_readsTheSameBackwards (cw yX3_readsTheSameBackwards cX3_readsTheSameBackwards 4 (some .boolean)) rm_X3_readsTheSameBackwards E [.ref (ea E 1), .int (iI r)] σ (bk (σ 2) r) σ := by
  refine Kz_of (rm := rm_X3_readsTheSameBackwards) (mL := 4) (b := cX3_readsTheSameBackwards) RX3 rfl (by decide +kernel) rfl rfl [(0, .ref (ea E 1)), (1, .int (iI r))] rfl (Nat.le_of_ble_eq_true rfl) (fun p_ e_ s_ m_ a_ b_ h_ c_ Q A C hret => ?_)
  have hn := (hW r hr).1
  refine g_iconst C dX3_readsTheSameBackwards_0 (q := 1) rfl ?_
  refine g_istore_n C (L' := [(2, .int (iI 0)), (0, .ref (ea E 1)), (1, .int (iI r))]) dX3_readsTheSameBackwards_1 rfl (by decide) rfl (q := 2) rfl ?_
  refine g_aload_n C dX3_readsTheSameBackwards_2 1 rfl rfl (q := 3) rfl ?_
  refine g_iload_n C dX3_readsTheSameBackwards_3 2 rfl rfl (q := 4) rfl ?_
  refine g_cV_i C (As := [.int (iI r)]) (c_X3_countOf l E _ r  (by omega)) ml_X3_27 mf_X3_countOf (o := 1) (ci := 3) rfl rfl rfl rfl ⟨(Nat.le_of_ble_eq_true rfl), (Nat.le_of_ble_eq_true rfl)⟩ rfl rfl rfl (Nat.le_of_ble_eq_true rfl) ⟨(Nat.le_of_ble_eq_true rfl), (Nat.le_of_ble_eq_true rfl)⟩ dX3_readsTheSameBackwards_4 (q := 7) rfl ?_
  refine g_iconst C dX3_readsTheSameBackwards_7 (q := 8) rfl ?_
  refine g_isub C dX3_readsTheSameBackwards_8 (q := 9) rfl ?_
  refine g_istore_n C (L' := [(3, .int (iI ((σ 2) (240 + r) - 1))), (2, .int (iI 0)), (0, .ref (ea E 1)), (1, .int (iI r))]) dX3_readsTheSameBackwards_9 rfl (by decide) rfl (q := 10) rfl ?_
  refine g_sub [2, 3, 1, 0] (L' := [(0, .ref (ea E 1)), (1, .int (iI r)), (2, .int (iI 0)), (3, .int (iI ((σ 2) (240 + r) - 1)))]) rfl ?_
  have lp10 : ∀ (k9 : Nat) (x : Int) (y : Int), (y - x).toNat < k9 → (0 ≤ x ∧ y = (σ 2) (240 + r) - 1 - x ∧ x ≤ 60) → (fI (bkP (σ 2) r) 0 ((σ 2) (240 + r) / 2) = fI (bkP (σ 2) r) x ((σ 2) (240 + r) / 2)) → GG p_ l e_ rm_X3_readsTheSameBackwards s_ m_ a_ b_ h_ c_ Q E A 4 σ 0 0 10 [(0, .ref (ea E 1)), (1, .int (iI r)), (2, .int (iI x)), (3, .int (iI y))] [] := by
    intro k9
    induction k9 with
    | zero => intro x y hk9; omega
    | succ k9 ih10 =>
      intro x y hk9 hi hR
      refine g_iload_n C dX3_readsTheSameBackwards_10 2 rfl rfl (q := 11) rfl ?_
      refine g_iload_n C dX3_readsTheSameBackwards_11 3 rfl rfl (q := 12) rfl ?_
      refine g_icmp_ge C dX3_readsTheSameBackwards_12 (by omega) (q2 := 41) rfl (q := 15) rfl (fun hb1 => ?_) (fun hb1 => ?_)
      · skip
        refine g_iconst C dX3_readsTheSameBackwards_41 (q := 42) rfl ?_
        exact hret _ _ _ dX3_readsTheSameBackwards_42 (by omega) (by unfold bk; first | (rw [hR, fI_nil (by omega), if_pos rfl]) | (rw [hR, fI_yes (by omega) (by unfold bkP; simp only [decide_eq_true_eq]; rw [show (σ 2) (240 + r) - 1 - x = y by omega]; omega), if_neg (by omega)]))
      · skip
        have hs := (hW r hr).2 x (by omega)
        have hs2 := (hW r hr).2 y (by omega)
        refine g_aload_n C dX3_readsTheSameBackwards_15 0 rfl rfl (q := 16) rfl ?_
        refine g_iload_n C dX3_readsTheSameBackwards_16 1 rfl rfl (q := 17) rfl ?_
        refine g_iload_n C dX3_readsTheSameBackwards_17 2 rfl rfl (q := 18) rfl ?_
        refine g_cV_i C (As := [.int (iI r), .int (iI x)]) (c_X3_segmentAt l E _ r x  (by omega) (by omega)) ml_X3_34 mf_X3_segmentAt (o := 1) (ci := 3) rfl rfl rfl rfl ⟨(Nat.le_of_ble_eq_true rfl), (Nat.le_of_ble_eq_true rfl)⟩ rfl rfl rfl (Nat.le_of_ble_eq_true rfl) ⟨(Nat.le_of_ble_eq_true rfl), (Nat.le_of_ble_eq_true rfl)⟩ dX3_readsTheSameBackwards_18 (q := 21) rfl ?_
        refine g_aload_n C dX3_readsTheSameBackwards_21 0 rfl rfl (q := 22) rfl ?_
        refine g_iload_n C dX3_readsTheSameBackwards_22 1 rfl rfl (q := 23) rfl ?_
        refine g_iload_n C dX3_readsTheSameBackwards_23 3 rfl rfl (q := 24) rfl ?_
        refine g_cV_i C (As := [.int (iI r), .int (iI y)]) (c_X3_segmentAt l E _ r y  (by omega) (by omega)) ml_X3_34 mf_X3_segmentAt (o := 1) (ci := 3) rfl rfl rfl rfl ⟨(Nat.le_of_ble_eq_true rfl), (Nat.le_of_ble_eq_true rfl)⟩ rfl rfl rfl (Nat.le_of_ble_eq_true rfl) ⟨(Nat.le_of_ble_eq_true rfl), (Nat.le_of_ble_eq_true rfl)⟩ dX3_readsTheSameBackwards_24 (q := 27) rfl ?_
        refine g_icmp_eq C dX3_readsTheSameBackwards_27 (by omega) (q2 := 32) rfl (q := 30) rfl (fun hb2 => ?_) (fun hb2 => ?_)
        · skip
          refine g_iinc C (L' := [(2, .int (iI (x + 1))), (0, .ref (ea E 1)), (1, .int (iI r)), (3, .int (iI y))]) dX3_readsTheSameBackwards_32 2 rfl (by decide) rfl (q := 35) rfl ?_
          refine g_iinc C (L' := [(3, .int (iI (y + (-1)))), (2, .int (iI (x + 1))), (0, .ref (ea E 1)), (1, .int (iI r))]) dX3_readsTheSameBackwards_35 3 rfl (by decide) rfl (q := 38) rfl ?_
          refine g_goto C dX3_readsTheSameBackwards_38 (q := 10) rfl ?_
          refine g_sub [2, 3, 1, 0] (L' := [(0, .ref (ea E 1)), (1, .int (iI r)), (2, .int (iI (x + 1))), (3, .int (iI (y + (-1))))]) rfl ?_
          exact ih10 (x + 1) (y + (-1)) (by omega) (by omega) (by rw [hR, fI_no]; unfold bkP; simp only [decide_eq_true_eq]; rw [show (σ 2) (240 + r) - 1 - x = y by omega]; omega)
        · skip
          refine g_iconst C dX3_readsTheSameBackwards_30 (q := 31) rfl ?_
          exact hret _ _ _ dX3_readsTheSameBackwards_31 (by omega) (by unfold bk; first | (rw [hR, fI_nil (by omega), if_pos rfl]) | (rw [hR, fI_yes (by omega) (by unfold bkP; simp only [decide_eq_true_eq]; rw [show (σ 2) (240 + r) - 1 - x = y by omega]; omega), if_neg (by omega)]))
  exact lp10 _ 0 ((σ 2) (240 + r) - 1) (Nat.lt_succ_self _) (by omega) (by rfl)
abbrev rm_X3_sharedBeginning : Room := { frames := 2, cells := 0, slots := 0, locals := 43 }
set_option maxRecDepth 100000 in
set_option maxHeartbeats 4000000 in
theorem c_X3_sharedBeginning (l : Launch) (E : EV) (σ : SS) (r o : Int) (hr : 0 ≤ r ∧ r < 4) (ho : 0 ≤ o ∧ o < 4) (hW : CW (σ 2)) : Ki l yX3_sharedBeginning (cw yX3_sharedBeginning cX3_sharedBeginning 5 (some .int)) rm_X3_sharedBeginning E [.ref (ea E 1), .int (iI r), .int (iI o)] σ (sh (σ 2) r o) σ := by
  refine Ki_of (rm := rm_X3_sharedBeginning) (mL := 5) (b := cX3_sharedBeginning) RX3 rfl (by decide +kernel) rfl rfl [(0, .ref (ea E 1)), (1, .int (iI r)), (2, .int (iI o))] rfl (Nat.le_of_ble_eq_true rfl) (fun p_ e_ s_ m_ a_ b_ h_ c_ Q A C hret => ?_)
  have hn := (hW r hr).1
  have hn2 := (hW o ho).1
  refine g_aload_n C dX3_sharedBeginning_0 0 rfl rfl (q := 1) rfl ?_
  refine g_iload_n C dX3_sharedBeginning_1 1 rfl rfl (q := 2) rfl ?_
  refine g_cV_i C (As := [.int (iI r)]) (c_X3_countOf l E _ r  (by omega)) ml_X3_27 mf_X3_countOf (o := 1) (ci := 3) rfl rfl rfl rfl ⟨(Nat.le_of_ble_eq_true rfl), (Nat.le_of_ble_eq_true rfl)⟩ rfl rfl rfl (Nat.le_of_ble_eq_true rfl) ⟨(Nat.le_of_ble_eq_true rfl), (Nat.le_of_ble_eq_true rfl)⟩ dX3_sharedBeginning_2 (q := 5) rfl ?_
  refine g_aload_n C dX3_sharedBeginning_5 0 rfl rfl (q := 6) rfl ?_
  refine g_iload_n C dX3_sharedBeginning_6 2 rfl rfl (q := 7) rfl ?_
  refine g_cV_i C (As := [.int (iI o)]) (c_X3_countOf l E _ o  (by omega)) ml_X3_27 mf_X3_countOf (o := 1) (ci := 3) rfl rfl rfl rfl ⟨(Nat.le_of_ble_eq_true rfl), (Nat.le_of_ble_eq_true rfl)⟩ rfl rfl rfl (Nat.le_of_ble_eq_true rfl) ⟨(Nat.le_of_ble_eq_true rfl), (Nat.le_of_ble_eq_true rfl)⟩ dX3_sharedBeginning_7 (q := 10) rfl ?_
  refine g_min C ml_X3_64 (by omega) dX3_sharedBeginning_10 (Nat.le_of_ble_eq_true rfl) (Nat.le_of_ble_eq_true rfl) (Nat.le_of_ble_eq_true rfl) (Nat.le_of_ble_eq_true rfl) (q := 13) rfl ?_
  refine g_istore_n C (L' := [(3, .int (iI (min ((σ 2) (240 + r)) ((σ 2) (240 + o))))), (0, .ref (ea E 1)), (1, .int (iI r)), (2, .int (iI o))]) dX3_sharedBeginning_13 rfl (by decide) rfl (q := 14) rfl ?_
  refine g_iconst C dX3_sharedBeginning_14 (q := 15) rfl ?_
  refine g_istore C (L' := [(4, .int (iI 0)), (3, .int (iI (min ((σ 2) (240 + r)) ((σ 2) (240 + o))))), (0, .ref (ea E 1)), (1, .int (iI r)), (2, .int (iI o))]) dX3_sharedBeginning_15 (by decide) rfl (q := 17) rfl ?_
  refine g_sub [2, 3, 4, 1, 0] (L' := [(0, .ref (ea E 1)), (1, .int (iI r)), (2, .int (iI o)), (3, .int (iI (min ((σ 2) (240 + r)) ((σ 2) (240 + o))))), (4, .int (iI 0))]) rfl ?_
  have lp17 : ∀ (k9 : Nat) (i : Int), (min ((σ 2) (240 + r)) ((σ 2) (240 + o)) - i).toNat < k9 → (0 ≤ i ∧ i ≤ min ((σ 2) (240 + r)) ((σ 2) (240 + o))) → (sh (σ 2) r o = cI (shP (σ 2) r o) i (min ((σ 2) (240 + r)) ((σ 2) (240 + o)))) → GG p_ l e_ rm_X3_sharedBeginning s_ m_ a_ b_ h_ c_ Q E A 5 σ 0 0 17 [(0, .ref (ea E 1)), (1, .int (iI r)), (2, .int (iI o)), (3, .int (iI (min ((σ 2) (240 + r)) ((σ 2) (240 + o))))), (4, .int (iI i))] [] := by
    intro k9
    induction k9 with
    | zero => intro i hk9; omega
    | succ k9 ih17 =>
      intro i hk9 hi hR
      refine g_iload C dX3_sharedBeginning_17 4 rfl (q := 19) rfl ?_
      refine g_iload_n C dX3_sharedBeginning_19 3 rfl rfl (q := 20) rfl ?_
      refine g_icmp_ge C dX3_sharedBeginning_20 (by omega) (q2 := 49) rfl (q := 23) rfl (fun hb1 => ?_) (fun hb1 => ?_)
      · skip
        refine g_iload_n C dX3_sharedBeginning_49 3 rfl rfl (q := 50) rfl ?_
        exact hret _ _ _ dX3_sharedBeginning_50 (by first | (rw [hR, cI_nil (by omega)]; omega) | (rw [hR, cI_no (by omega)]; unfold shP; simp only [decide_eq_true_eq]; omega))
      · skip
        have hs := (hW r hr).2 i (by omega)
        have hs2 := (hW o ho).2 i (by omega)
        refine g_aload_n C dX3_sharedBeginning_23 0 rfl rfl (q := 24) rfl ?_
        refine g_iload_n C dX3_sharedBeginning_24 1 rfl rfl (q := 25) rfl ?_
        refine g_iload C dX3_sharedBeginning_25 4 rfl (q := 27) rfl ?_
        refine g_cV_i C (As := [.int (iI r), .int (iI i)]) (c_X3_segmentAt l E _ r i  (by omega) (by omega)) ml_X3_34 mf_X3_segmentAt (o := 1) (ci := 3) rfl rfl rfl rfl ⟨(Nat.le_of_ble_eq_true rfl), (Nat.le_of_ble_eq_true rfl)⟩ rfl rfl rfl (Nat.le_of_ble_eq_true rfl) ⟨(Nat.le_of_ble_eq_true rfl), (Nat.le_of_ble_eq_true rfl)⟩ dX3_sharedBeginning_27 (q := 30) rfl ?_
        refine g_aload_n C dX3_sharedBeginning_30 0 rfl rfl (q := 31) rfl ?_
        refine g_iload_n C dX3_sharedBeginning_31 2 rfl rfl (q := 32) rfl ?_
        refine g_iload C dX3_sharedBeginning_32 4 rfl (q := 34) rfl ?_
        refine g_cV_i C (As := [.int (iI o), .int (iI i)]) (c_X3_segmentAt l E _ o i  (by omega) (by omega)) ml_X3_34 mf_X3_segmentAt (o := 1) (ci := 3) rfl rfl rfl rfl ⟨(Nat.le_of_ble_eq_true rfl), (Nat.le_of_ble_eq_true rfl)⟩ rfl rfl rfl (Nat.le_of_ble_eq_true rfl) ⟨(Nat.le_of_ble_eq_true rfl), (Nat.le_of_ble_eq_true rfl)⟩ dX3_sharedBeginning_34 (q := 37) rfl ?_
        refine g_icmp_eq C dX3_sharedBeginning_37 (by omega) (q2 := 43) rfl (q := 40) rfl (fun hb2 => ?_) (fun hb2 => ?_)
        · skip
          refine g_iinc C (L' := [(4, .int (iI (i + 1))), (0, .ref (ea E 1)), (1, .int (iI r)), (2, .int (iI o)), (3, .int (iI (min ((σ 2) (240 + r)) ((σ 2) (240 + o)))))]) dX3_sharedBeginning_43 4 rfl (by decide) rfl (q := 46) rfl ?_
          refine g_goto C dX3_sharedBeginning_46 (q := 17) rfl ?_
          refine g_sub [1, 2, 3, 4, 0] (L' := [(0, .ref (ea E 1)), (1, .int (iI r)), (2, .int (iI o)), (3, .int (iI (min ((σ 2) (240 + r)) ((σ 2) (240 + o))))), (4, .int (iI (i + 1)))]) rfl ?_
          exact ih17 (i + 1) (by omega) (by omega) (by rw [hR, cI_yes (by omega)]; unfold shP; simp only [decide_eq_true_eq]; omega)
        · skip
          refine g_iload C dX3_sharedBeginning_40 4 rfl (q := 42) rfl ?_
          exact hret _ _ _ dX3_sharedBeginning_42 (by first | (rw [hR, cI_nil (by omega)]; omega) | (rw [hR, cI_no (by omega)]; unfold shP; simp only [decide_eq_true_eq]; omega))
  exact lp17 _ 0 (Nat.lt_succ_self _) (by omega) (by rfl)
abbrev rm_X3_tanglesByScan : Room := { frames := 4, cells := 0, slots := 0, locals := 87 }
set_option maxRecDepth 100000 in
set_option maxHeartbeats 4000000 in
theorem c_X3_tanglesByScan (l : Launch) (E : EV) (σ : SS) (r : Int) (hr : 0 ≤ r ∧ r < 4) (hW : CW (σ 2)) : Ki l yX3_tanglesByScan (cw yX3_tanglesByScan cX3_tanglesByScan 4 (some .int)) rm_X3_tanglesByScan E [.ref (ea E 1), .int (iI r)] σ (tbs (σ 2) r) σ := by
  refine Ki_of (rm := rm_X3_tanglesByScan) (mL := 4) (b := cX3_tanglesByScan) RX3 rfl (by decide +kernel) rfl rfl [(0, .ref (ea E 1)), (1, .int (iI r))] rfl (Nat.le_of_ble_eq_true rfl) (fun p_ e_ s_ m_ a_ b_ h_ c_ Q A C hret => ?_)
  have hn := (hW r hr).1
  refine g_iconst C dX3_tanglesByScan_0 (q := 1) rfl ?_
  refine g_istore_n C (L' := [(2, .int (iI 0)), (0, .ref (ea E 1)), (1, .int (iI r))]) dX3_tanglesByScan_1 rfl (by decide) rfl (q := 2) rfl ?_
  refine g_iconst C dX3_tanglesByScan_2 (q := 3) rfl ?_
  refine g_istore_n C (L' := [(3, .int (iI 1)), (2, .int (iI 0)), (0, .ref (ea E 1)), (1, .int (iI r))]) dX3_tanglesByScan_3 rfl (by decide) rfl (q := 4) rfl ?_
  refine g_sub [2, 3, 1, 0] (L' := [(0, .ref (ea E 1)), (1, .int (iI r)), (2, .int (iI 0)), (3, .int (iI 1))]) rfl ?_
  have lp4 : ∀ (k9 : Nat) (acc : Int) (i : Int), ((σ 2) (240 + r) - i).toNat < k9 → (1 ≤ i ∧ i ≤ 61) → (tbs (σ 2) r = acc + sI (fun p => tg (σ 2) r (p - 1)) i ((σ 2) (240 + r))) → GG p_ l e_ rm_X3_tanglesByScan s_ m_ a_ b_ h_ c_ Q E A 4 σ 0 0 4 [(0, .ref (ea E 1)), (1, .int (iI r)), (2, .int (iI acc)), (3, .int (iI i))] [] := by
    intro k9
    induction k9 with
    | zero => intro acc i hk9; omega
    | succ k9 ih4 =>
      intro acc i hk9 hi hR
      refine g_iload_n C dX3_tanglesByScan_4 3 rfl rfl (q := 5) rfl ?_
      refine g_aload_n C dX3_tanglesByScan_5 0 rfl rfl (q := 6) rfl ?_
      refine g_iload_n C dX3_tanglesByScan_6 1 rfl rfl (q := 7) rfl ?_
      refine g_cV_i C (As := [.int (iI r)]) (c_X3_countOf l E _ r  (by omega)) ml_X3_27 mf_X3_countOf (o := 1) (ci := 3) rfl rfl rfl rfl ⟨(Nat.le_of_ble_eq_true rfl), (Nat.le_of_ble_eq_true rfl)⟩ rfl rfl rfl (Nat.le_of_ble_eq_true rfl) ⟨(Nat.le_of_ble_eq_true rfl), (Nat.le_of_ble_eq_true rfl)⟩ dX3_tanglesByScan_7 (q := 10) rfl ?_
      refine g_icmp_ge C dX3_tanglesByScan_10 (by omega) (q2 := 33) rfl (q := 13) rfl (fun hb1 => ?_) (fun hb1 => ?_)
      · skip
        refine g_iload_n C dX3_tanglesByScan_33 2 rfl rfl (q := 34) rfl ?_
        exact hret _ _ _ dX3_tanglesByScan_34 (by rw [hR, sI_nil (by omega)]; omega)
      · skip
        refine g_aload_n C dX3_tanglesByScan_13 0 rfl rfl (q := 14) rfl ?_
        refine g_iload_n C dX3_tanglesByScan_14 1 rfl rfl (q := 15) rfl ?_
        refine g_iload_n C dX3_tanglesByScan_15 3 rfl rfl (q := 16) rfl ?_
        refine g_iconst C dX3_tanglesByScan_16 (q := 17) rfl ?_
        refine g_isub C dX3_tanglesByScan_17 (q := 18) rfl ?_
        refine g_cV_i C (As := [.int (iI r), .int (iI (i - 1))]) (c_X3_areTangled l E _ r (i - 1)  (by omega) (by omega) (by assumption)) ml_X3_69 mf_X3_areTangled (o := 1) (ci := 3) rfl rfl rfl rfl ⟨(Nat.le_of_ble_eq_true rfl), (Nat.le_of_ble_eq_true rfl)⟩ rfl rfl rfl (Nat.le_of_ble_eq_true rfl) ⟨(Nat.le_of_ble_eq_true rfl), (Nat.le_of_ble_eq_true rfl)⟩ dX3_tanglesByScan_18 (q := 21) rfl ?_
        have ht := tg_01 (σ 2) r (i - 1)
        refine g_if_eq C dX3_tanglesByScan_21 (by omega) (q2 := 27) rfl (q := 24) rfl (fun hb2 => ?_) (fun hb2 => ?_)
        · skip
          refine g_iinc C (L' := [(3, .int (iI (i + 1))), (0, .ref (ea E 1)), (1, .int (iI r)), (2, .int (iI acc))]) dX3_tanglesByScan_27 3 rfl (by decide) rfl (q := 30) rfl ?_
          refine g_goto C dX3_tanglesByScan_30 (q := 4) rfl ?_
          refine g_sub [1, 2, 3, 0] (L' := [(0, .ref (ea E 1)), (1, .int (iI r)), (2, .int (iI acc)), (3, .int (iI (i + 1)))]) rfl ?_
          exact ih4 acc (i + 1) (by omega) (by omega) (by rw [hR, sI_cons (by omega)]; omega)
        · skip
          refine g_iinc C (L' := [(2, .int (iI (acc + 1))), (0, .ref (ea E 1)), (1, .int (iI r)), (3, .int (iI i))]) dX3_tanglesByScan_24 2 rfl (by decide) rfl (q := 27) rfl ?_
          refine g_iinc C (L' := [(3, .int (iI (i + 1))), (2, .int (iI (acc + 1))), (0, .ref (ea E 1)), (1, .int (iI r))]) dX3_tanglesByScan_27 3 rfl (by decide) rfl (q := 30) rfl ?_
          refine g_goto C dX3_tanglesByScan_30 (q := 4) rfl ?_
          refine g_sub [2, 3, 1, 0] (L' := [(0, .ref (ea E 1)), (1, .int (iI r)), (2, .int (iI (acc + 1))), (3, .int (iI (i + 1)))]) rfl ?_
          exact ih4 (acc + 1) (i + 1) (by omega) (by omega) (by rw [hR, sI_cons (by omega)]; omega)
  exact lp4 _ 0 1 (Nat.lt_succ_self _) (by omega) (by unfold tbs; omega)
abbrev rm_X3_sumBefore : Room := { frames := 4, cells := 0, slots := 0, locals := 90 }
set_option maxRecDepth 100000 in
set_option maxHeartbeats 4000000 in
theorem c_X3_sumBefore (l : Launch) (E : EV) (σ : SS) (r p : Int) (hr : 0 ≤ r ∧ r < 4) (hp : 0 ≤ p ∧ p ≤ (σ 2) (240 + r)) (hW : CW (σ 2)) : Ki l yX3_sumBefore (cw yX3_sumBefore cX3_sumBefore 6 (some .int)) rm_X3_sumBefore E [.ref (ea E 1), .int (iI r), .int (iI p)] σ (sb (σ 2) r p) σ := by
  refine Ki_of (rm := rm_X3_sumBefore) (mL := 6) (b := cX3_sumBefore) RX3 rfl (by decide +kernel) rfl rfl [(0, .ref (ea E 1)), (1, .int (iI r)), (2, .int (iI p))] rfl (Nat.le_of_ble_eq_true rfl) (fun p_ e_ s_ m_ a_ b_ h_ c_ Q A C hret => ?_)
  have hn := (hW r hr).1
  refine g_iload_n C dX3_sumBefore_0 2 rfl rfl (q := 1) rfl ?_
  refine g_bipush C dX3_sumBefore_1 (by decide) (q := 3) rfl ?_
  refine g_idiv C dX3_sumBefore_3 (by omega) (q := 4) rfl ?_
  refine g_istore_n C (L' := [(3, .int (iI (p / 8))), (0, .ref (ea E 1)), (1, .int (iI r)), (2, .int (iI p))]) dX3_sumBefore_4 rfl (by decide) rfl (q := 5) rfl ?_
  refine g_iconst C dX3_sumBefore_5 (q := 6) rfl ?_
  refine g_istore C (L' := [(4, .int (iI 0)), (3, .int (iI (p / 8))), (0, .ref (ea E 1)), (1, .int (iI r)), (2, .int (iI p))]) dX3_sumBefore_6 (by decide) rfl (q := 8) rfl ?_
  refine g_iconst C dX3_sumBefore_8 (q := 9) rfl ?_
  refine g_istore C (L' := [(5, .int (iI 0)), (4, .int (iI 0)), (3, .int (iI (p / 8))), (0, .ref (ea E 1)), (1, .int (iI r)), (2, .int (iI p))]) dX3_sumBefore_9 (by decide) rfl (q := 11) rfl ?_
  refine g_sub [3, 4, 5, 2, 1, 0] (L' := [(0, .ref (ea E 1)), (1, .int (iI r)), (2, .int (iI p)), (3, .int (iI (p / 8))), (4, .int (iI 0)), (5, .int (iI 0))]) rfl ?_
  have lp11 : ∀ (k9 : Nat) (acc : Int) (i : Int), (p / 8 - i).toNat < k9 → (0 ≤ i ∧ i ≤ p / 8) → (sI (sbP (σ 2) r) 0 (p / 8) = acc + sI (sbP (σ 2) r) i (p / 8)) → GG p_ l e_ rm_X3_sumBefore s_ m_ a_ b_ h_ c_ Q E A 6 σ 0 0 11 [(0, .ref (ea E 1)), (1, .int (iI r)), (2, .int (iI p)), (3, .int (iI (p / 8))), (4, .int (iI acc)), (5, .int (iI i))] [] := by
    intro k9
    induction k9 with
    | zero => intro acc i hk9; omega
    | succ k9 ih11 =>
      intro acc i hk9 hi hR
      refine g_iload C dX3_sumBefore_11 5 rfl (q := 13) rfl ?_
      refine g_iload_n C dX3_sumBefore_13 3 rfl rfl (q := 14) rfl ?_
      refine g_icmp_ge C dX3_sumBefore_14 (by omega) (q2 := 43) rfl (q := 17) rfl (fun hb1 => ?_) (fun hb1 => ?_)
      · skip
        refine g_iload C dX3_sumBefore_43 4 rfl (q := 45) rfl ?_
        refine g_aload_n C dX3_sumBefore_45 0 rfl rfl (q := 46) rfl ?_
        refine g_iload_n C dX3_sumBefore_46 1 rfl rfl (q := 47) rfl ?_
        refine g_iload_n C dX3_sumBefore_47 3 rfl rfl (q := 48) rfl ?_
        refine g_bipush C dX3_sumBefore_48 (by decide) (q := 50) rfl ?_
        refine g_imul C dX3_sumBefore_50 (q := 51) rfl ?_
        refine g_iload_n C dX3_sumBefore_51 2 rfl rfl (q := 52) rfl ?_
        refine g_iconst C dX3_sumBefore_52 (q := 53) rfl ?_
        refine g_isub C dX3_sumBefore_53 (q := 54) rfl ?_
        refine g_cV_i C (As := [.int (iI r), .int (iI ((p / 8) * 8)), .int (iI (p - 1))]) (c_X3_sumOfRange l E _ r ((p / 8) * 8) (p - 1)  (by omega) (by omega) (by omega) (by assumption)) ml_X3_57 mf_X3_sumOfRange (o := 1) (ci := 3) rfl rfl rfl rfl ⟨(Nat.le_of_ble_eq_true rfl), (Nat.le_of_ble_eq_true rfl)⟩ rfl rfl rfl (Nat.le_of_ble_eq_true rfl) ⟨(Nat.le_of_ble_eq_true rfl), (Nat.le_of_ble_eq_true rfl)⟩ dX3_sumBefore_54 (q := 57) rfl ?_
        refine g_iadd C dX3_sumBefore_57 (q := 58) rfl ?_
        exact hret _ _ _ dX3_sumBefore_58 (by unfold sb; rw [hR, sI_nil (g := sbP (σ 2) r) (by omega), show p - 1 + 1 = p by omega]; omega)
      · skip
        refine g_iload C dX3_sumBefore_17 4 rfl (q := 19) rfl ?_
        refine g_aload_n C dX3_sumBefore_19 0 rfl rfl (q := 20) rfl ?_
        refine g_sipush C dX3_sumBefore_20 (by decide) (q := 23) rfl ?_
        refine g_iload_n C dX3_sumBefore_23 1 rfl rfl (q := 24) rfl ?_
        refine g_bipush C dX3_sumBefore_24 (by decide) (q := 26) rfl ?_
        refine g_imul C dX3_sumBefore_26 (q := 27) rfl ?_
        refine g_iadd C dX3_sumBefore_27 (q := 28) rfl ?_
        refine g_iload C dX3_sumBefore_28 5 rfl (q := 30) rfl ?_
        refine g_iadd C dX3_sumBefore_30 (q := 31) rfl ?_
        refine g_cV_i C (As := [.int (iI (244 + (r * 8) + i))]) (c_X3_cellAt l E _ (244 + (r * 8) + i)  (by omega)) ml_X3_19 mf_X3_cellAt (o := 1) (ci := 3) rfl rfl rfl rfl ⟨(Nat.le_of_ble_eq_true rfl), (Nat.le_of_ble_eq_true rfl)⟩ rfl rfl rfl (Nat.le_of_ble_eq_true rfl) ⟨(Nat.le_of_ble_eq_true rfl), (Nat.le_of_ble_eq_true rfl)⟩ dX3_sumBefore_31 (q := 34) rfl ?_
        refine g_iadd C dX3_sumBefore_34 (q := 35) rfl ?_
        refine g_istore C (L' := [(4, .int (iI (acc + ((σ 2) (244 + (r * 8) + i))))), (0, .ref (ea E 1)), (1, .int (iI r)), (2, .int (iI p)), (3, .int (iI (p / 8))), (5, .int (iI i))]) dX3_sumBefore_35 (by decide) rfl (q := 37) rfl ?_
        refine g_iinc C (L' := [(5, .int (iI (i + 1))), (4, .int (iI (acc + ((σ 2) (244 + (r * 8) + i))))), (0, .ref (ea E 1)), (1, .int (iI r)), (2, .int (iI p)), (3, .int (iI (p / 8)))]) dX3_sumBefore_37 5 rfl (by decide) rfl (q := 40) rfl ?_
        refine g_goto C dX3_sumBefore_40 (q := 11) rfl ?_
        refine g_sub [2, 3, 4, 5, 1, 0] (L' := [(0, .ref (ea E 1)), (1, .int (iI r)), (2, .int (iI p)), (3, .int (iI (p / 8))), (4, .int (iI (acc + ((σ 2) (244 + (r * 8) + i))))), (5, .int (iI (i + 1)))]) rfl ?_
        exact ih11 (acc + ((σ 2) (244 + (r * 8) + i))) (i + 1) (by omega) (by omega) (by rw [hR, sI_cons (by omega)]; unfold sbP; omega)
  exact lp11 _ 0 0 (Nat.lt_succ_self _) (by omega) (by omega)
abbrev rm_X3_lengthOf : Room := { frames := 5, cells := 0, slots := 0, locals := 115 }
set_option maxRecDepth 100000 in
set_option maxHeartbeats 4000000 in
theorem c_X3_lengthOf (l : Launch) (E : EV) (σ : SS) (r : Int) (hr : 0 ≤ r ∧ r < 4) (hW : CW (σ 2)) : Ki l yX3_lengthOf (cw yX3_lengthOf cX3_lengthOf 2 (some .int)) rm_X3_lengthOf E [.ref (ea E 1), .int (iI r)] σ (sb (σ 2) r ((σ 2) (240 + r))) σ := by
  refine Ki_of (rm := rm_X3_lengthOf) (mL := 2) (b := cX3_lengthOf) RX3 rfl (by decide +kernel) rfl rfl [(0, .ref (ea E 1)), (1, .int (iI r))] rfl (Nat.le_of_ble_eq_true rfl) (fun p_ e_ s_ m_ a_ b_ h_ c_ Q A C hret => ?_)
  have hn := (hW r hr).1
  refine g_aload_n C dX3_lengthOf_0 0 rfl rfl (q := 1) rfl ?_
  refine g_iload_n C dX3_lengthOf_1 1 rfl rfl (q := 2) rfl ?_
  refine g_aload_n C dX3_lengthOf_2 0 rfl rfl (q := 3) rfl ?_
  refine g_iload_n C dX3_lengthOf_3 1 rfl rfl (q := 4) rfl ?_
  refine g_cV_i C (As := [.int (iI r)]) (c_X3_countOf l E _ r  (by omega)) ml_X3_27 mf_X3_countOf (o := 1) (ci := 3) rfl rfl rfl rfl ⟨(Nat.le_of_ble_eq_true rfl), (Nat.le_of_ble_eq_true rfl)⟩ rfl rfl rfl (Nat.le_of_ble_eq_true rfl) ⟨(Nat.le_of_ble_eq_true rfl), (Nat.le_of_ble_eq_true rfl)⟩ dX3_lengthOf_4 (q := 7) rfl ?_
  refine g_cV_i C (As := [.int (iI r), .int (iI ((σ 2) (240 + r)))]) (c_X3_sumBefore l E _ r ((σ 2) (240 + r))  (by omega) (by omega) (by assumption)) ml_X3_73 mf_X3_sumBefore (o := 1) (ci := 3) rfl rfl rfl rfl ⟨(Nat.le_of_ble_eq_true rfl), (Nat.le_of_ble_eq_true rfl)⟩ rfl rfl rfl (Nat.le_of_ble_eq_true rfl) ⟨(Nat.le_of_ble_eq_true rfl), (Nat.le_of_ble_eq_true rfl)⟩ dX3_lengthOf_7 (q := 10) rfl ?_
  exact hret _ _ _ dX3_lengthOf_10 rfl
abbrev rm_X3_tanglesOf : Room := { frames := 4, cells := 0, slots := 0, locals := 87 }
set_option maxRecDepth 100000 in
set_option maxHeartbeats 4000000 in
theorem c_X3_tanglesOf (l : Launch) (E : EV) (σ : SS) (r : Int) (hr : 0 ≤ r ∧ r < 4) (hW : CW (σ 2)) : Ki l yX3_tanglesOf (cw yX3_tanglesOf cX3_tanglesOf 4 (some .int)) rm_X3_tanglesOf E [.ref (ea E 1), .int (iI r)] σ (tt (σ 2) r) σ := by
  refine Ki_of (rm := rm_X3_tanglesOf) (mL := 4) (b := cX3_tanglesOf) RX3 rfl (by decide +kernel) rfl rfl [(0, .ref (ea E 1)), (1, .int (iI r))] rfl (Nat.le_of_ble_eq_true rfl) (fun p_ e_ s_ m_ a_ b_ h_ c_ Q A C hret => ?_)
  have hn := (hW r hr).1
  refine g_iconst C dX3_tanglesOf_0 (q := 1) rfl ?_
  refine g_istore_n C (L' := [(2, .int (iI 0)), (0, .ref (ea E 1)), (1, .int (iI r))]) dX3_tanglesOf_1 rfl (by decide) rfl (q := 2) rfl ?_
  refine g_iconst C dX3_tanglesOf_2 (q := 3) rfl ?_
  refine g_istore_n C (L' := [(3, .int (iI 0)), (2, .int (iI 0)), (0, .ref (ea E 1)), (1, .int (iI r))]) dX3_tanglesOf_3 rfl (by decide) rfl (q := 4) rfl ?_
  refine g_sub [2, 3, 1, 0] (L' := [(0, .ref (ea E 1)), (1, .int (iI r)), (2, .int (iI 0)), (3, .int (iI 0))]) rfl ?_
  have lp4 : ∀ (k9 : Nat) (acc : Int) (i : Int), (8 - i).toNat < k9 → (0 ≤ i ∧ i ≤ 8) → (tt (σ 2) r = acc + sI (ttP (σ 2) r) i 8) → GG p_ l e_ rm_X3_tanglesOf s_ m_ a_ b_ h_ c_ Q E A 4 σ 0 0 4 [(0, .ref (ea E 1)), (1, .int (iI r)), (2, .int (iI acc)), (3, .int (iI i))] [] := by
    intro k9
    induction k9 with
    | zero => intro acc i hk9; omega
    | succ k9 ih4 =>
      intro acc i hk9 hi hR
      refine g_iload_n C dX3_tanglesOf_4 3 rfl rfl (q := 5) rfl ?_
      refine g_bipush C dX3_tanglesOf_5 (by decide) (q := 7) rfl ?_
      refine g_icmp_ge C dX3_tanglesOf_7 (by omega) (q2 := 50) rfl (q := 10) rfl (fun hb1 => ?_) (fun hb1 => ?_)
      · skip
        refine g_iload_n C dX3_tanglesOf_50 2 rfl rfl (q := 51) rfl ?_
        exact hret _ _ _ dX3_tanglesOf_51 (by rw [hR, sI_nil (by omega)]; omega)
      · skip
        refine g_iload_n C dX3_tanglesOf_10 2 rfl rfl (q := 11) rfl ?_
        refine g_aload_n C dX3_tanglesOf_11 0 rfl rfl (q := 12) rfl ?_
        refine g_sipush C dX3_tanglesOf_12 (by decide) (q := 15) rfl ?_
        refine g_iload_n C dX3_tanglesOf_15 1 rfl rfl (q := 16) rfl ?_
        refine g_bipush C dX3_tanglesOf_16 (by decide) (q := 18) rfl ?_
        refine g_imul C dX3_tanglesOf_18 (q := 19) rfl ?_
        refine g_iadd C dX3_tanglesOf_19 (q := 20) rfl ?_
        refine g_iload_n C dX3_tanglesOf_20 3 rfl rfl (q := 21) rfl ?_
        refine g_iadd C dX3_tanglesOf_21 (q := 22) rfl ?_
        refine g_cV_i C (As := [.int (iI (276 + (r * 8) + i))]) (c_X3_cellAt l E _ (276 + (r * 8) + i)  (by omega)) ml_X3_19 mf_X3_cellAt (o := 1) (ci := 3) rfl rfl rfl rfl ⟨(Nat.le_of_ble_eq_true rfl), (Nat.le_of_ble_eq_true rfl)⟩ rfl rfl rfl (Nat.le_of_ble_eq_true rfl) ⟨(Nat.le_of_ble_eq_true rfl), (Nat.le_of_ble_eq_true rfl)⟩ dX3_tanglesOf_22 (q := 25) rfl ?_
        refine g_iadd C dX3_tanglesOf_25 (q := 26) rfl ?_
        refine g_istore_n C (L' := [(2, .int (iI (acc + ((σ 2) (276 + (r * 8) + i))))), (0, .ref (ea E 1)), (1, .int (iI r)), (3, .int (iI i))]) dX3_tanglesOf_26 rfl (by decide) rfl (q := 27) rfl ?_
        refine g_aload_n C dX3_tanglesOf_27 1 rfl rfl (q := 28) rfl ?_
        refine g_iload_n C dX3_tanglesOf_28 2 rfl rfl (q := 29) rfl ?_
        refine g_iload_n C dX3_tanglesOf_29 3 rfl rfl (q := 30) rfl ?_
        refine g_bipush C dX3_tanglesOf_30 (by decide) (q := 32) rfl ?_
        refine g_imul C dX3_tanglesOf_32 (q := 33) rfl ?_
        refine g_iconst C dX3_tanglesOf_33 (q := 34) rfl ?_
        refine g_isub C dX3_tanglesOf_34 (q := 35) rfl ?_
        refine g_cV_i C (As := [.int (iI r), .int (iI (i * 8 - 1))]) (c_X3_areTangled l E _ r (i * 8 - 1)  (by omega) (by omega) (by assumption)) ml_X3_69 mf_X3_areTangled (o := 1) (ci := 3) rfl rfl rfl rfl ⟨(Nat.le_of_ble_eq_true rfl), (Nat.le_of_ble_eq_true rfl)⟩ rfl rfl rfl (Nat.le_of_ble_eq_true rfl) ⟨(Nat.le_of_ble_eq_true rfl), (Nat.le_of_ble_eq_true rfl)⟩ dX3_tanglesOf_35 (q := 38) rfl ?_
        have ht := tg_01 (σ 2) r (i * 8 - 1)
        refine g_if_eq C dX3_tanglesOf_38 (by omega) (q2 := 44) rfl (q := 41) rfl (fun hb2 => ?_) (fun hb2 => ?_)
        · skip
          refine g_iinc C (L' := [(3, .int (iI (i + 1))), (2, .int (iI (acc + ((σ 2) (276 + (r * 8) + i))))), (0, .ref (ea E 1)), (1, .int (iI r))]) dX3_tanglesOf_44 3 rfl (by decide) rfl (q := 47) rfl ?_
          refine g_goto C dX3_tanglesOf_47 (q := 4) rfl ?_
          refine g_sub [2, 3, 1, 0] (L' := [(0, .ref (ea E 1)), (1, .int (iI r)), (2, .int (iI (acc + ((σ 2) (276 + (r * 8) + i))))), (3, .int (iI (i + 1)))]) rfl ?_
          exact ih4 (acc + ((σ 2) (276 + (r * 8) + i))) (i + 1) (by omega) (by omega) (by rw [hR, sI_cons (by omega)]; unfold ttP; omega)
        · skip
          refine g_iinc C (L' := [(2, .int (iI (acc + ((σ 2) (276 + (r * 8) + i)) + 1))), (0, .ref (ea E 1)), (1, .int (iI r)), (3, .int (iI i))]) dX3_tanglesOf_41 0 rfl (by decide) rfl (q := 44) rfl ?_
          refine g_iinc C (L' := [(3, .int (iI (i + 1))), (2, .int (iI (acc + ((σ 2) (276 + (r * 8) + i)) + 1))), (0, .ref (ea E 1)), (1, .int (iI r))]) dX3_tanglesOf_44 3 rfl (by decide) rfl (q := 47) rfl ?_
          refine g_goto C dX3_tanglesOf_47 (q := 4) rfl ?_
          refine g_sub [2, 3, 1, 0] (L' := [(0, .ref (ea E 1)), (1, .int (iI r)), (2, .int (iI (acc + ((σ 2) (276 + (r * 8) + i)) + 1))), (3, .int (iI (i + 1)))]) rfl ?_
          exact ih4 (acc + ((σ 2) (276 + (r * 8) + i)) + 1) (i + 1) (by omega) (by omega) (by rw [hR, sI_cons (by omega)]; unfold ttP; omega)
  exact lp4 _ 0 0 (Nat.lt_succ_self _) (by omega) (by unfold tt; omega)
abbrev rm_X3_partsAgree : Room := { frames := 5, cells := 0, slots := 0, locals := 115 }
set_option maxRecDepth 100000 in
set_option maxHeartbeats 4000000 in
theorem c_X3_partsAgree (l : Launch) (E : EV) (σ : SS) (r : Int) (hr : 0 ≤ r ∧ r < 4) (hW : CW (σ 2)) (h1 : tt (σ 2) r = tbs (σ 2) r) (h2 : -2147483648 ≤ tt (σ 2) r ∧ tt (σ 2) r ≤ 2147483647) (h3 : ∀ p : Int, 0 ≤ p ∧ p ≤ (σ 2) (240 + r) → sb (σ 2) r p = sI (lgs (σ 2) r) 0 p) : Ki l yX3_partsAgree (cw yX3_partsAgree cX3_partsAgree 3 (some .boolean)) rm_X3_partsAgree E [.ref (ea E 1), .int (iI r)] σ 1 σ := by
  refine Kz_of (rm := rm_X3_partsAgree) (mL := 3) (b := cX3_partsAgree) RX3 rfl (by decide +kernel) rfl rfl [(0, .ref (ea E 1)), (1, .int (iI r))] rfl (Nat.le_of_ble_eq_true rfl) (fun p_ e_ s_ m_ a_ b_ h_ c_ Q A C hret => ?_)
  have hn := (hW r hr).1
  refine g_aload_n C dX3_partsAgree_0 0 rfl rfl (q := 1) rfl ?_
  refine g_iload_n C dX3_partsAgree_1 1 rfl rfl (q := 2) rfl ?_
  refine g_cV_i C (As := [.int (iI r)]) (c_X3_tanglesOf l E _ r  (by omega) (by assumption)) ml_X3_76 mf_X3_tanglesOf (o := 1) (ci := 3) rfl rfl rfl rfl ⟨(Nat.le_of_ble_eq_true rfl), (Nat.le_of_ble_eq_true rfl)⟩ rfl rfl rfl (Nat.le_of_ble_eq_true rfl) ⟨(Nat.le_of_ble_eq_true rfl), (Nat.le_of_ble_eq_true rfl)⟩ dX3_partsAgree_2 (q := 5) rfl ?_
  refine g_aload_n C dX3_partsAgree_5 0 rfl rfl (q := 6) rfl ?_
  refine g_iload_n C dX3_partsAgree_6 1 rfl rfl (q := 7) rfl ?_
  refine g_cV_i C (As := [.int (iI r)]) (c_X3_tanglesByScan l E _ r  (by omega) (by assumption)) ml_X3_79 mf_X3_tanglesByScan (o := 1) (ci := 3) rfl rfl rfl rfl ⟨(Nat.le_of_ble_eq_true rfl), (Nat.le_of_ble_eq_true rfl)⟩ rfl rfl rfl (Nat.le_of_ble_eq_true rfl) ⟨(Nat.le_of_ble_eq_true rfl), (Nat.le_of_ble_eq_true rfl)⟩ dX3_partsAgree_7 (q := 10) rfl ?_
  refine g_icmp_eq C dX3_partsAgree_10 (by omega) (q2 := 15) rfl (q := 13) rfl (fun hb1 => ?_) (fun hb1 => ?_)
  · skip
    refine g_iconst C dX3_partsAgree_15 (q := 16) rfl ?_
    refine g_istore_n C (L' := [(2, .int (iI 0)), (0, .ref (ea E 1)), (1, .int (iI r))]) dX3_partsAgree_16 rfl (by decide) rfl (q := 17) rfl ?_
    refine g_sub [1, 2, 0] (L' := [(0, .ref (ea E 1)), (1, .int (iI r)), (2, .int (iI 0))]) rfl ?_
    have lp17 : ∀ (k9 : Nat) (i : Int), ((σ 2) (240 + r) + 1 - i).toNat < k9 → (0 ≤ i ∧ i ≤ (σ 2) (240 + r) + 1) → GG p_ l e_ rm_X3_partsAgree s_ m_ a_ b_ h_ c_ Q E A 3 σ 0 0 17 [(0, .ref (ea E 1)), (1, .int (iI r)), (2, .int (iI i))] [] := by
      intro k9
      induction k9 with
      | zero => intro i hk9; omega
      | succ k9 ih17 =>
        intro i hk9 hi
        refine g_iload_n C dX3_partsAgree_17 2 rfl rfl (q := 18) rfl ?_
        refine g_aload_n C dX3_partsAgree_18 0 rfl rfl (q := 19) rfl ?_
        refine g_iload_n C dX3_partsAgree_19 1 rfl rfl (q := 20) rfl ?_
        refine g_cV_i C (As := [.int (iI r)]) (c_X3_countOf l E _ r  (by omega)) ml_X3_27 mf_X3_countOf (o := 1) (ci := 3) rfl rfl rfl rfl ⟨(Nat.le_of_ble_eq_true rfl), (Nat.le_of_ble_eq_true rfl)⟩ rfl rfl rfl (Nat.le_of_ble_eq_true rfl) ⟨(Nat.le_of_ble_eq_true rfl), (Nat.le_of_ble_eq_true rfl)⟩ dX3_partsAgree_20 (q := 23) rfl ?_
        refine g_icmp_gt C dX3_partsAgree_23 (by omega) (q2 := 52) rfl (q := 26) rfl (fun hb2 => ?_) (fun hb2 => ?_)
        · skip
          refine g_iconst C dX3_partsAgree_52 (q := 53) rfl ?_
          exact hret _ _ _ dX3_partsAgree_53 (by omega) rfl
        · skip
          have he := h3 i (by omega)
          have hg := sum_rg hW hr (a := 0) (b := i) (by omega)
          refine g_aload_n C dX3_partsAgree_26 0 rfl rfl (q := 27) rfl ?_
          refine g_iload_n C dX3_partsAgree_27 1 rfl rfl (q := 28) rfl ?_
          refine g_iload_n C dX3_partsAgree_28 2 rfl rfl (q := 29) rfl ?_
          refine g_cV_i C (As := [.int (iI r), .int (iI i)]) (c_X3_sumBefore l E _ r i  (by omega) (by omega) (by assumption)) ml_X3_73 mf_X3_sumBefore (o := 1) (ci := 3) rfl rfl rfl rfl ⟨(Nat.le_of_ble_eq_true rfl), (Nat.le_of_ble_eq_true rfl)⟩ rfl rfl rfl (Nat.le_of_ble_eq_true rfl) ⟨(Nat.le_of_ble_eq_true rfl), (Nat.le_of_ble_eq_true rfl)⟩ dX3_partsAgree_29 (q := 32) rfl ?_
          refine g_aload_n C dX3_partsAgree_32 0 rfl rfl (q := 33) rfl ?_
          refine g_iload_n C dX3_partsAgree_33 1 rfl rfl (q := 34) rfl ?_
          refine g_iconst C dX3_partsAgree_34 (q := 35) rfl ?_
          refine g_iload_n C dX3_partsAgree_35 2 rfl rfl (q := 36) rfl ?_
          refine g_iconst C dX3_partsAgree_36 (q := 37) rfl ?_
          refine g_isub C dX3_partsAgree_37 (q := 38) rfl ?_
          refine g_cV_i C (As := [.int (iI r), .int (iI 0), .int (iI (i - 1))]) (c_X3_sumOfRange l E _ r 0 (i - 1)  (by omega) (by omega) (by omega) (by assumption)) ml_X3_57 mf_X3_sumOfRange (o := 1) (ci := 3) rfl rfl rfl rfl ⟨(Nat.le_of_ble_eq_true rfl), (Nat.le_of_ble_eq_true rfl)⟩ rfl rfl rfl (Nat.le_of_ble_eq_true rfl) ⟨(Nat.le_of_ble_eq_true rfl), (Nat.le_of_ble_eq_true rfl)⟩ dX3_partsAgree_38 (q := 41) rfl ?_
          rw [show i - 1 + 1 = i by omega]
          refine g_icmp_eq C dX3_partsAgree_41 (by omega) (q2 := 46) rfl (q := 44) rfl (fun hb3 => ?_) (fun hb3 => ?_)
          · skip
            refine g_iinc C (L' := [(2, .int (iI (i + 1))), (0, .ref (ea E 1)), (1, .int (iI r))]) dX3_partsAgree_46 2 rfl (by decide) rfl (q := 49) rfl ?_
            refine g_goto C dX3_partsAgree_49 (q := 17) rfl ?_
            refine g_sub [1, 2, 0] (L' := [(0, .ref (ea E 1)), (1, .int (iI r)), (2, .int (iI (i + 1)))]) rfl ?_
            exact ih17 (i + 1) (by omega) (by omega)
          · skip
            exfalso; omega
    exact lp17 _ 0 (Nat.lt_succ_self _) (by omega)
  · skip
    exfalso; omega
