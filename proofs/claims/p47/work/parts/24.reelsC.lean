abbrev rm_X3_setLength : Room := { frames := 3, cells := 0, slots := 0, locals := 65 }
set_option maxRecDepth 100000 in
set_option maxHeartbeats 4000000 in
theorem c_X3_setLength (l : Launch) (E : EV) (σ : SS) (r p v : Int) (hr : 0 ≤ r ∧ r < 4) (hp : 0 ≤ p ∧ p < 60) (hs : 0 ≤ (σ 2) (r * 60 + p) ∧ (σ 2) (r * 60 + p) < 800) : Ki l yX3_setLength (cw yX3_setLength cX3_setLength 5 (some .int)) rm_X3_setLength E [.ref (ea E 1), .int (iI r), .int (iI p), .int (iI v)] σ ((σ 2) (r * 60 + p) / 8) (st σ 2 (pt (σ 2) (r * 60 + p) (v * 8 + (σ 2) (r * 60 + p) % 8))) := by
  refine Ki_of (rm := rm_X3_setLength) (mL := 5) (b := cX3_setLength) RX3 rfl (by decide +kernel) rfl rfl [(0, .ref (ea E 1)), (1, .int (iI r)), (2, .int (iI p)), (3, .int (iI v))] rfl (Nat.le_of_ble_eq_true rfl) (fun p_ e_ s_ m_ a_ b_ h_ c_ Q A C hret => ?_)
  refine g_aload_n C dX3_setLength_0 0 rfl rfl (q := 1) rfl ?_
  refine g_iload_n C dX3_setLength_1 1 rfl rfl (q := 2) rfl ?_
  refine g_iload_n C dX3_setLength_2 2 rfl rfl (q := 3) rfl ?_
  refine g_cV_i C (As := [.int (iI r), .int (iI p)]) (c_X3_lengthAt l E _ r p  (by omega) (by omega) (by omega)) ml_X3_47 mf_X3_lengthAt (o := 1) (ci := 3) rfl rfl rfl rfl ⟨(Nat.le_of_ble_eq_true rfl), (Nat.le_of_ble_eq_true rfl)⟩ rfl rfl rfl (Nat.le_of_ble_eq_true rfl) ⟨(Nat.le_of_ble_eq_true rfl), (Nat.le_of_ble_eq_true rfl)⟩ dX3_setLength_3 (q := 6) rfl ?_
  refine g_istore C (L' := [(4, .int (iI ((σ 2) (r * 60 + p) / 8))), (0, .ref (ea E 1)), (1, .int (iI r)), (2, .int (iI p)), (3, .int (iI v))]) dX3_setLength_6 (by decide) rfl (q := 8) rfl ?_
  refine g_aload_n C dX3_setLength_8 1 rfl rfl (q := 9) rfl ?_
  refine g_iload_n C dX3_setLength_9 2 rfl rfl (q := 10) rfl ?_
  refine g_iload_n C dX3_setLength_10 3 rfl rfl (q := 11) rfl ?_
  refine g_iload_n C dX3_setLength_11 4 rfl rfl (q := 12) rfl ?_
  refine g_bipush C dX3_setLength_12 (by decide) (q := 14) rfl ?_
  refine g_imul C dX3_setLength_14 (q := 15) rfl ?_
  refine g_aload_n C dX3_setLength_15 1 rfl rfl (q := 16) rfl ?_
  refine g_iload_n C dX3_setLength_16 2 rfl rfl (q := 17) rfl ?_
  refine g_iload_n C dX3_setLength_17 3 rfl rfl (q := 18) rfl ?_
  refine g_cV_i C (As := [.int (iI r), .int (iI p)]) (c_X3_colourAt l E _ r p  (by omega) (by omega) (by omega)) ml_X3_37 mf_X3_colourAt (o := 1) (ci := 3) rfl rfl rfl rfl ⟨(Nat.le_of_ble_eq_true rfl), (Nat.le_of_ble_eq_true rfl)⟩ rfl rfl rfl (Nat.le_of_ble_eq_true rfl) ⟨(Nat.le_of_ble_eq_true rfl), (Nat.le_of_ble_eq_true rfl)⟩ dX3_setLength_18 (q := 21) rfl ?_
  refine g_iadd C dX3_setLength_21 (q := 22) rfl ?_
  refine g_cV_v C (As := [.int (iI r), .int (iI p), .int (iI (v * 8 + ((σ 2) (r * 60 + p) % 8)))]) (c_X3_setSegment l E _ r p (v * 8 + ((σ 2) (r * 60 + p) % 8))  (by omega) (by omega)) ml_X3_40 mf_X3_setSegment (o := 1) (ci := 3) rfl rfl rfl rfl ⟨(Nat.le_of_ble_eq_true rfl), (Nat.le_of_ble_eq_true rfl)⟩ rfl rfl rfl (Nat.le_of_ble_eq_true rfl) ⟨(Nat.le_of_ble_eq_true rfl), (Nat.le_of_ble_eq_true rfl)⟩ dX3_setLength_22 (q := 25) rfl ?_
  refine g_iload C dX3_setLength_25 0 rfl (q := 27) rfl ?_
  refine g_st (σ2 := (st σ 2 (pt (σ 2) (r * 60 + p) (v * 8 + (σ 2) (r * 60 + p) % 8)))) (rfl) ?_
  exact hret _ _ _ dX3_setLength_27 rfl
abbrev rm_X3_swapSegments : Room := { frames := 2, cells := 0, slots := 0, locals := 45 }
set_option maxRecDepth 100000 in
set_option maxHeartbeats 4000000 in
theorem c_X3_swapSegments (l : Launch) (E : EV) (σ : SS) (a x b y : Int) (ha : 0 ≤ a ∧ a < 4) (hx : 0 ≤ x ∧ x < 60) (hb : 0 ≤ b ∧ b < 4) (hy : 0 ≤ y ∧ y < 60) : Kv l yX3_swapSegments (cw yX3_swapSegments cX3_swapSegments 6 none) rm_X3_swapSegments E [.ref (ea E 1), .int (iI a), .int (iI x), .int (iI b), .int (iI y)] σ (st σ 2 (pt (pt (σ 2) (a * 60 + x) ((σ 2) (b * 60 + y))) (b * 60 + y) ((σ 2) (a * 60 + x)))) := by
  refine Kv_of (rm := rm_X3_swapSegments) (mL := 6) (b := cX3_swapSegments) RX3 rfl (by decide +kernel) rfl rfl [(0, .ref (ea E 1)), (1, .int (iI a)), (2, .int (iI x)), (3, .int (iI b)), (4, .int (iI y))] rfl (Nat.le_of_ble_eq_true rfl) (fun p_ e_ s_ m_ a_ b_ h_ c_ Q A C hret => ?_)
  refine g_aload_n C dX3_swapSegments_0 0 rfl rfl (q := 1) rfl ?_
  refine g_iload_n C dX3_swapSegments_1 1 rfl rfl (q := 2) rfl ?_
  refine g_iload_n C dX3_swapSegments_2 2 rfl rfl (q := 3) rfl ?_
  refine g_cV_i C (As := [.int (iI a), .int (iI x)]) (c_X3_segmentAt l E _ a x  (by omega) (by omega)) ml_X3_34 mf_X3_segmentAt (o := 1) (ci := 3) rfl rfl rfl rfl ⟨(Nat.le_of_ble_eq_true rfl), (Nat.le_of_ble_eq_true rfl)⟩ rfl rfl rfl (Nat.le_of_ble_eq_true rfl) ⟨(Nat.le_of_ble_eq_true rfl), (Nat.le_of_ble_eq_true rfl)⟩ dX3_swapSegments_3 (q := 6) rfl ?_
  refine g_istore C (L' := [(5, .int (iI ((σ 2) (a * 60 + x)))), (0, .ref (ea E 1)), (1, .int (iI a)), (2, .int (iI x)), (3, .int (iI b)), (4, .int (iI y))]) dX3_swapSegments_6 (by decide) rfl (q := 8) rfl ?_
  refine g_aload_n C dX3_swapSegments_8 1 rfl rfl (q := 9) rfl ?_
  refine g_iload_n C dX3_swapSegments_9 2 rfl rfl (q := 10) rfl ?_
  refine g_iload_n C dX3_swapSegments_10 3 rfl rfl (q := 11) rfl ?_
  refine g_aload_n C dX3_swapSegments_11 1 rfl rfl (q := 12) rfl ?_
  refine g_iload_n C dX3_swapSegments_12 4 rfl rfl (q := 13) rfl ?_
  refine g_iload C dX3_swapSegments_13 5 rfl (q := 15) rfl ?_
  refine g_cV_i C (As := [.int (iI b), .int (iI y)]) (c_X3_segmentAt l E _ b y  (by omega) (by omega)) ml_X3_34 mf_X3_segmentAt (o := 1) (ci := 3) rfl rfl rfl rfl ⟨(Nat.le_of_ble_eq_true rfl), (Nat.le_of_ble_eq_true rfl)⟩ rfl rfl rfl (Nat.le_of_ble_eq_true rfl) ⟨(Nat.le_of_ble_eq_true rfl), (Nat.le_of_ble_eq_true rfl)⟩ dX3_swapSegments_15 (q := 18) rfl ?_
  refine g_cV_v C (As := [.int (iI a), .int (iI x), .int (iI ((σ 2) (b * 60 + y)))]) (c_X3_setSegment l E _ a x ((σ 2) (b * 60 + y))  (by omega) (by omega)) ml_X3_40 mf_X3_setSegment (o := 1) (ci := 3) rfl rfl rfl rfl ⟨(Nat.le_of_ble_eq_true rfl), (Nat.le_of_ble_eq_true rfl)⟩ rfl rfl rfl (Nat.le_of_ble_eq_true rfl) ⟨(Nat.le_of_ble_eq_true rfl), (Nat.le_of_ble_eq_true rfl)⟩ dX3_swapSegments_18 (q := 21) rfl ?_
  refine g_aload_n C dX3_swapSegments_21 1 rfl rfl (q := 22) rfl ?_
  refine g_iload_n C dX3_swapSegments_22 4 rfl rfl (q := 23) rfl ?_
  refine g_iload C dX3_swapSegments_23 5 rfl (q := 25) rfl ?_
  refine g_iload C dX3_swapSegments_25 0 rfl (q := 27) rfl ?_
  refine g_cV_v C (As := [.int (iI b), .int (iI y), .int (iI ((σ 2) (a * 60 + x)))]) (c_X3_setSegment l E _ b y ((σ 2) (a * 60 + x))  (by omega) (by omega)) ml_X3_40 mf_X3_setSegment (o := 1) (ci := 3) rfl rfl rfl rfl ⟨(Nat.le_of_ble_eq_true rfl), (Nat.le_of_ble_eq_true rfl)⟩ rfl rfl rfl (Nat.le_of_ble_eq_true rfl) ⟨(Nat.le_of_ble_eq_true rfl), (Nat.le_of_ble_eq_true rfl)⟩ dX3_swapSegments_27 (q := 30) rfl ?_
  refine g_st (σ2 := (st σ 2 (pt (pt (σ 2) (a * 60 + x) ((σ 2) (b * 60 + y))) (b * 60 + y) ((σ 2) (a * 60 + x))))) (st_st _ _ _ _) ?_
  exact hret _ _ dX3_swapSegments_30
abbrev rm_X3_putIn : Room := { frames := 2, cells := 0, slots := 0, locals := 45 }
set_option maxRecDepth 100000 in
set_option maxHeartbeats 4000000 in
theorem c_X3_putIn (l : Launch) (E : EV) (σ : SS) (r p v c : Int) (hr : 0 ≤ r ∧ r < 4) (hn : 0 ≤ (σ 2) (240 + r) ∧ (σ 2) (240 + r) < 60) (hp : 0 ≤ p ∧ p ≤ (σ 2) (240 + r)) : Ki l yX3_putIn (cw yX3_putIn cX3_putIn 7 (some .int)) rm_X3_putIn E [.ref (ea E 1), .int (iI r), .int (iI p), .int (iI v), .int (iI c)] σ ((σ 2) (240 + r) + 1) (st σ 2 (putF (σ 2) r p (v * 8 + c))) := by
  refine Ki_of (rm := rm_X3_putIn) (mL := 7) (b := cX3_putIn) RX3 rfl (by decide +kernel) rfl rfl [(0, .ref (ea E 1)), (1, .int (iI r)), (2, .int (iI p)), (3, .int (iI v)), (4, .int (iI c))] rfl (Nat.le_of_ble_eq_true rfl) (fun p_ e_ s_ m_ a_ b_ h_ c_ Q A C hret => ?_)
  refine g_aload_n C dX3_putIn_0 0 rfl rfl (q := 1) rfl ?_
  refine g_iload_n C dX3_putIn_1 1 rfl rfl (q := 2) rfl ?_
  refine g_cV_i C (As := [.int (iI r)]) (c_X3_countOf l E _ r  (by omega)) ml_X3_27 mf_X3_countOf (o := 1) (ci := 3) rfl rfl rfl rfl ⟨(Nat.le_of_ble_eq_true rfl), (Nat.le_of_ble_eq_true rfl)⟩ rfl rfl rfl (Nat.le_of_ble_eq_true rfl) ⟨(Nat.le_of_ble_eq_true rfl), (Nat.le_of_ble_eq_true rfl)⟩ dX3_putIn_2 (q := 5) rfl ?_
  refine g_istore C (L' := [(5, .int (iI ((σ 2) (240 + r)))), (0, .ref (ea E 1)), (1, .int (iI r)), (2, .int (iI p)), (3, .int (iI v)), (4, .int (iI c))]) dX3_putIn_5 (by decide) rfl (q := 7) rfl ?_
  refine g_iload C dX3_putIn_7 0 rfl (q := 9) rfl ?_
  refine g_istore C (L' := [(6, .int (iI ((σ 2) (240 + r)))), (5, .int (iI ((σ 2) (240 + r)))), (0, .ref (ea E 1)), (1, .int (iI r)), (2, .int (iI p)), (3, .int (iI v)), (4, .int (iI c))]) dX3_putIn_9 (by decide) rfl (q := 11) rfl ?_
  refine g_sub [2, 3, 4, 5, 6, 1, 0] (L' := [(0, .ref (ea E 1)), (1, .int (iI r)), (2, .int (iI p)), (3, .int (iI v)), (4, .int (iI c)), (5, .int (iI ((σ 2) (240 + r)))), (6, .int (iI ((σ 2) (240 + r))))]) rfl ?_
  refine g_st (σ2 := (st σ 2 (putL (σ 2) r ((σ 2) (240 + r)) ((σ 2) (240 + r))))) (by rw [show putL (σ 2) r (σ 2 (240 + r)) (σ 2 (240 + r)) = σ 2 from by funext z9; simp only [putL]; (repeat' split) <;> first | rfl | omega | (congr 1; omega)]; exact (st_id σ 2).symm) ?_
  have lp11 : ∀ (k9 : Nat) (k : Int), (k - p).toNat < k9 → (p ≤ k ∧ k ≤ (σ 2) (240 + r)) → GG p_ l e_ rm_X3_putIn s_ m_ a_ b_ h_ c_ Q E A 7 (st σ 2 (putL (σ 2) r ((σ 2) (240 + r)) k)) 0 0 11 [(0, .ref (ea E 1)), (1, .int (iI r)), (2, .int (iI p)), (3, .int (iI v)), (4, .int (iI c)), (5, .int (iI ((σ 2) (240 + r)))), (6, .int (iI k))] [] := by
    intro k9
    induction k9 with
    | zero => intro k hk9; omega
    | succ k9 ih11 =>
      intro k hk9 hk
      refine g_iload C dX3_putIn_11 6 rfl (q := 13) rfl ?_
      refine g_iload_n C dX3_putIn_13 2 rfl rfl (q := 14) rfl ?_
      refine g_icmp_le C dX3_putIn_14 (by omega) (q2 := 39) rfl (q := 17) rfl (fun hb1 => ?_) (fun hb1 => ?_)
      · skip
        refine g_aload_n C dX3_putIn_39 0 rfl rfl (q := 40) rfl ?_
        refine g_iload_n C dX3_putIn_40 1 rfl rfl (q := 41) rfl ?_
        refine g_iload_n C dX3_putIn_41 2 rfl rfl (q := 42) rfl ?_
        refine g_iload_n C dX3_putIn_42 3 rfl rfl (q := 43) rfl ?_
        refine g_bipush C dX3_putIn_43 (by decide) (q := 45) rfl ?_
        refine g_imul C dX3_putIn_45 (q := 46) rfl ?_
        refine g_iload C dX3_putIn_46 4 rfl (q := 48) rfl ?_
        refine g_iadd C dX3_putIn_48 (q := 49) rfl ?_
        refine g_cV_v C (As := [.int (iI r), .int (iI p), .int (iI (v * 8 + c))]) (c_X3_setSegment l E _ r p (v * 8 + c)  (by omega) (by omega)) ml_X3_40 mf_X3_setSegment (o := 1) (ci := 3) rfl rfl rfl rfl ⟨(Nat.le_of_ble_eq_true rfl), (Nat.le_of_ble_eq_true rfl)⟩ rfl rfl rfl (Nat.le_of_ble_eq_true rfl) ⟨(Nat.le_of_ble_eq_true rfl), (Nat.le_of_ble_eq_true rfl)⟩ dX3_putIn_49 (q := 52) rfl ?_
        refine g_st (σ2 := (st σ 2 (pt (putL (σ 2) r ((σ 2) (240 + r)) k) (r * 60 + p) (v * 8 + c)))) (st_st _ _ _ _) ?_
        refine g_aload_n C dX3_putIn_52 0 rfl rfl (q := 53) rfl ?_
        refine g_iload_n C dX3_putIn_53 1 rfl rfl (q := 54) rfl ?_
        refine g_iload C dX3_putIn_54 5 rfl (q := 56) rfl ?_
        refine g_iconst C dX3_putIn_56 (q := 57) rfl ?_
        refine g_iadd C dX3_putIn_57 (q := 58) rfl ?_
        refine g_cV_v C (As := [.int (iI r), .int (iI ((σ 2) (240 + r) + 1))]) (c_X3_setCount l E _ r ((σ 2) (240 + r) + 1)  (by omega)) ml_X3_44 mf_X3_setCount (o := 1) (ci := 3) rfl rfl rfl rfl ⟨(Nat.le_of_ble_eq_true rfl), (Nat.le_of_ble_eq_true rfl)⟩ rfl rfl rfl (Nat.le_of_ble_eq_true rfl) ⟨(Nat.le_of_ble_eq_true rfl), (Nat.le_of_ble_eq_true rfl)⟩ dX3_putIn_58 (q := 61) rfl ?_
        refine g_st (σ2 := (st σ 2 (pt (pt (putL (σ 2) r ((σ 2) (240 + r)) k) (r * 60 + p) (v * 8 + c)) (240 + r) ((σ 2) (240 + r) + 1)))) (st_st _ _ _ _) ?_
        refine g_iload C dX3_putIn_61 5 rfl (q := 63) rfl ?_
        refine g_iconst C dX3_putIn_63 (q := 64) rfl ?_
        refine g_iadd C dX3_putIn_64 (q := 65) rfl ?_
        refine g_st (σ2 := (st σ 2 (putF (σ 2) r p (v * 8 + c)))) (by rw [show k = p by omega]; rfl) ?_
        exact hret _ _ _ dX3_putIn_65 rfl
      · skip
        refine g_aload_n C dX3_putIn_17 0 rfl rfl (q := 18) rfl ?_
        refine g_iload_n C dX3_putIn_18 1 rfl rfl (q := 19) rfl ?_
        refine g_iload C dX3_putIn_19 6 rfl (q := 21) rfl ?_
        refine g_aload_n C dX3_putIn_21 0 rfl rfl (q := 22) rfl ?_
        refine g_iload_n C dX3_putIn_22 1 rfl rfl (q := 23) rfl ?_
        refine g_iload C dX3_putIn_23 6 rfl (q := 25) rfl ?_
        refine g_iconst C dX3_putIn_25 (q := 26) rfl ?_
        refine g_isub C dX3_putIn_26 (q := 27) rfl ?_
        refine g_cV_i C (As := [.int (iI r), .int (iI (k - 1))]) (c_X3_segmentAt l E _ r (k - 1)  (by omega) (by omega)) ml_X3_34 mf_X3_segmentAt (o := 1) (ci := 3) rfl rfl rfl rfl ⟨(Nat.le_of_ble_eq_true rfl), (Nat.le_of_ble_eq_true rfl)⟩ rfl rfl rfl (Nat.le_of_ble_eq_true rfl) ⟨(Nat.le_of_ble_eq_true rfl), (Nat.le_of_ble_eq_true rfl)⟩ dX3_putIn_27 (q := 30) rfl ?_
        refine g_top (b := (putL (σ 2) r ((σ 2) (240 + r)) k) (r * 60 + (k - 1))) rfl ?_
        refine g_cV_v C (As := [.int (iI r), .int (iI k), .int (iI ((putL (σ 2) r ((σ 2) (240 + r)) k) (r * 60 + (k - 1))))]) (c_X3_setSegment l E _ r k ((putL (σ 2) r ((σ 2) (240 + r)) k) (r * 60 + (k - 1)))  (by omega) (by omega)) ml_X3_40 mf_X3_setSegment (o := 1) (ci := 3) rfl rfl rfl rfl ⟨(Nat.le_of_ble_eq_true rfl), (Nat.le_of_ble_eq_true rfl)⟩ rfl rfl rfl (Nat.le_of_ble_eq_true rfl) ⟨(Nat.le_of_ble_eq_true rfl), (Nat.le_of_ble_eq_true rfl)⟩ dX3_putIn_30 (q := 33) rfl ?_
        refine g_st (σ2 := (st σ 2 (pt (putL (σ 2) r ((σ 2) (240 + r)) k) (r * 60 + k) ((putL (σ 2) r ((σ 2) (240 + r)) k) (r * 60 + (k - 1)))))) (st_st _ _ _ _) ?_
        refine g_iinc C (L' := [(6, .int (iI (k + (-1)))), (0, .ref (ea E 1)), (1, .int (iI r)), (2, .int (iI p)), (3, .int (iI v)), (4, .int (iI c)), (5, .int (iI ((σ 2) (240 + r))))]) dX3_putIn_33 6 rfl (by decide) rfl (q := 36) rfl ?_
        refine g_goto C dX3_putIn_36 (q := 11) rfl ?_
        refine g_sub [1, 2, 3, 4, 5, 6, 0] (L' := [(0, .ref (ea E 1)), (1, .int (iI r)), (2, .int (iI p)), (3, .int (iI v)), (4, .int (iI c)), (5, .int (iI ((σ 2) (240 + r)))), (6, .int (iI (k + (-1))))]) rfl ?_
        refine g_st (σ2 := (st σ 2 (putL (σ 2) r ((σ 2) (240 + r)) (k + (-1))))) (congrArg (st _ 2) (by funext z9; simp only [pt, putL]; (repeat' split) <;> first | rfl | omega | (congr 1; omega))) ?_
        exact ih11 (k + (-1)) (by omega) (by omega)
  exact lp11 _ ((σ 2) (240 + r)) (Nat.lt_succ_self _) (by omega)
abbrev rm_X3_takeOut : Room := { frames := 3, cells := 0, slots := 0, locals := 65 }
set_option maxRecDepth 100000 in
set_option maxHeartbeats 4000000 in
theorem c_X3_takeOut (l : Launch) (E : EV) (σ : SS) (r p : Int) (hr : 0 ≤ r ∧ r < 4) (hn : 0 ≤ (σ 2) (240 + r) ∧ (σ 2) (240 + r) ≤ 60) (hp : 0 ≤ p ∧ p < (σ 2) (240 + r)) (hs : 0 ≤ (σ 2) (r * 60 + p) ∧ (σ 2) (r * 60 + p) < 800) : Ki l yX3_takeOut (cw yX3_takeOut cX3_takeOut 6 (some .int)) rm_X3_takeOut E [.ref (ea E 1), .int (iI r), .int (iI p)] σ ((σ 2) (r * 60 + p) / 8) (st σ 2 (takeF (σ 2) r p)) := by
  refine Ki_of (rm := rm_X3_takeOut) (mL := 6) (b := cX3_takeOut) RX3 rfl (by decide +kernel) rfl rfl [(0, .ref (ea E 1)), (1, .int (iI r)), (2, .int (iI p))] rfl (Nat.le_of_ble_eq_true rfl) (fun p_ e_ s_ m_ a_ b_ h_ c_ Q A C hret => ?_)
  refine g_aload_n C dX3_takeOut_0 0 rfl rfl (q := 1) rfl ?_
  refine g_iload_n C dX3_takeOut_1 1 rfl rfl (q := 2) rfl ?_
  refine g_iload_n C dX3_takeOut_2 2 rfl rfl (q := 3) rfl ?_
  refine g_cV_i C (As := [.int (iI r), .int (iI p)]) (c_X3_lengthAt l E _ r p  (by omega) (by omega) (by omega)) ml_X3_47 mf_X3_lengthAt (o := 1) (ci := 3) rfl rfl rfl rfl ⟨(Nat.le_of_ble_eq_true rfl), (Nat.le_of_ble_eq_true rfl)⟩ rfl rfl rfl (Nat.le_of_ble_eq_true rfl) ⟨(Nat.le_of_ble_eq_true rfl), (Nat.le_of_ble_eq_true rfl)⟩ dX3_takeOut_3 (q := 6) rfl ?_
  refine g_istore_n C (L' := [(3, .int (iI ((σ 2) (r * 60 + p) / 8))), (0, .ref (ea E 1)), (1, .int (iI r)), (2, .int (iI p))]) dX3_takeOut_6 rfl (by decide) rfl (q := 7) rfl ?_
  refine g_aload_n C dX3_takeOut_7 1 rfl rfl (q := 8) rfl ?_
  refine g_iload_n C dX3_takeOut_8 2 rfl rfl (q := 9) rfl ?_
  refine g_cV_i C (As := [.int (iI r)]) (c_X3_countOf l E _ r  (by omega)) ml_X3_27 mf_X3_countOf (o := 1) (ci := 3) rfl rfl rfl rfl ⟨(Nat.le_of_ble_eq_true rfl), (Nat.le_of_ble_eq_true rfl)⟩ rfl rfl rfl (Nat.le_of_ble_eq_true rfl) ⟨(Nat.le_of_ble_eq_true rfl), (Nat.le_of_ble_eq_true rfl)⟩ dX3_takeOut_9 (q := 12) rfl ?_
  refine g_iconst C dX3_takeOut_12 (q := 13) rfl ?_
  refine g_isub C dX3_takeOut_13 (q := 14) rfl ?_
  refine g_istore C (L' := [(4, .int (iI ((σ 2) (240 + r) - 1))), (3, .int (iI ((σ 2) (r * 60 + p) / 8))), (0, .ref (ea E 1)), (1, .int (iI r)), (2, .int (iI p))]) dX3_takeOut_14 (by decide) rfl (q := 16) rfl ?_
  refine g_iload_n C dX3_takeOut_16 4 rfl rfl (q := 17) rfl ?_
  refine g_istore C (L' := [(5, .int (iI p)), (4, .int (iI ((σ 2) (240 + r) - 1))), (3, .int (iI ((σ 2) (r * 60 + p) / 8))), (0, .ref (ea E 1)), (1, .int (iI r)), (2, .int (iI p))]) dX3_takeOut_17 (by decide) rfl (q := 19) rfl ?_
  refine g_sub [3, 4, 5, 2, 1, 0] (L' := [(0, .ref (ea E 1)), (1, .int (iI r)), (2, .int (iI p)), (3, .int (iI ((σ 2) (r * 60 + p) / 8))), (4, .int (iI ((σ 2) (240 + r) - 1))), (5, .int (iI p))]) rfl ?_
  refine g_st (σ2 := (st σ 2 (takeL (σ 2) r p p))) (by rw [show takeL (σ 2) r p p = σ 2 from by funext z9; simp only [takeL]; (repeat' split) <;> first | rfl | omega | (congr 1; omega)]; exact (st_id σ 2).symm) ?_
  have lp19 : ∀ (k9 : Nat) (k : Int), ((σ 2) (240 + r) - k).toNat < k9 → (p ≤ k ∧ k ≤ (σ 2) (240 + r) - 1) → GG p_ l e_ rm_X3_takeOut s_ m_ a_ b_ h_ c_ Q E A 6 (st σ 2 (takeL (σ 2) r p k)) 0 0 19 [(0, .ref (ea E 1)), (1, .int (iI r)), (2, .int (iI p)), (3, .int (iI ((σ 2) (r * 60 + p) / 8))), (4, .int (iI ((σ 2) (240 + r) - 1))), (5, .int (iI k))] [] := by
    intro k9
    induction k9 with
    | zero => intro k hk9; omega
    | succ k9 ih19 =>
      intro k hk9 hk
      refine g_iload C dX3_takeOut_19 5 rfl (q := 21) rfl ?_
      refine g_iload C dX3_takeOut_21 4 rfl (q := 23) rfl ?_
      refine g_icmp_ge C dX3_takeOut_23 (by omega) (q2 := 48) rfl (q := 26) rfl (fun hb1 => ?_) (fun hb1 => ?_)
      · skip
        refine g_aload_n C dX3_takeOut_48 0 rfl rfl (q := 49) rfl ?_
        refine g_iload_n C dX3_takeOut_49 1 rfl rfl (q := 50) rfl ?_
        refine g_iload C dX3_takeOut_50 4 rfl (q := 52) rfl ?_
        refine g_cV_v C (As := [.int (iI r), .int (iI ((σ 2) (240 + r) - 1))]) (c_X3_setCount l E _ r ((σ 2) (240 + r) - 1)  (by omega)) ml_X3_44 mf_X3_setCount (o := 1) (ci := 3) rfl rfl rfl rfl ⟨(Nat.le_of_ble_eq_true rfl), (Nat.le_of_ble_eq_true rfl)⟩ rfl rfl rfl (Nat.le_of_ble_eq_true rfl) ⟨(Nat.le_of_ble_eq_true rfl), (Nat.le_of_ble_eq_true rfl)⟩ dX3_takeOut_52 (q := 55) rfl ?_
        refine g_st (σ2 := (st σ 2 (pt (takeL (σ 2) r p k) (240 + r) ((σ 2) (240 + r) - 1)))) (st_st _ _ _ _) ?_
        refine g_iload_n C dX3_takeOut_55 3 rfl rfl (q := 56) rfl ?_
        refine g_st (σ2 := (st σ 2 (takeF (σ 2) r p))) (by rw [show k = σ 2 (240 + r) - 1 by omega]; rfl) ?_
        exact hret _ _ _ dX3_takeOut_56 rfl
      · skip
        refine g_aload_n C dX3_takeOut_26 0 rfl rfl (q := 27) rfl ?_
        refine g_iload_n C dX3_takeOut_27 1 rfl rfl (q := 28) rfl ?_
        refine g_iload C dX3_takeOut_28 5 rfl (q := 30) rfl ?_
        refine g_aload_n C dX3_takeOut_30 0 rfl rfl (q := 31) rfl ?_
        refine g_iload_n C dX3_takeOut_31 1 rfl rfl (q := 32) rfl ?_
        refine g_iload C dX3_takeOut_32 5 rfl (q := 34) rfl ?_
        refine g_iconst C dX3_takeOut_34 (q := 35) rfl ?_
        refine g_iadd C dX3_takeOut_35 (q := 36) rfl ?_
        refine g_cV_i C (As := [.int (iI r), .int (iI (k + 1))]) (c_X3_segmentAt l E _ r (k + 1)  (by omega) (by omega)) ml_X3_34 mf_X3_segmentAt (o := 1) (ci := 3) rfl rfl rfl rfl ⟨(Nat.le_of_ble_eq_true rfl), (Nat.le_of_ble_eq_true rfl)⟩ rfl rfl rfl (Nat.le_of_ble_eq_true rfl) ⟨(Nat.le_of_ble_eq_true rfl), (Nat.le_of_ble_eq_true rfl)⟩ dX3_takeOut_36 (q := 39) rfl ?_
        refine g_top (b := (takeL (σ 2) r p k) (r * 60 + (k + 1))) rfl ?_
        refine g_cV_v C (As := [.int (iI r), .int (iI k), .int (iI ((takeL (σ 2) r p k) (r * 60 + (k + 1))))]) (c_X3_setSegment l E _ r k ((takeL (σ 2) r p k) (r * 60 + (k + 1)))  (by omega) (by omega)) ml_X3_40 mf_X3_setSegment (o := 1) (ci := 3) rfl rfl rfl rfl ⟨(Nat.le_of_ble_eq_true rfl), (Nat.le_of_ble_eq_true rfl)⟩ rfl rfl rfl (Nat.le_of_ble_eq_true rfl) ⟨(Nat.le_of_ble_eq_true rfl), (Nat.le_of_ble_eq_true rfl)⟩ dX3_takeOut_39 (q := 42) rfl ?_
        refine g_st (σ2 := (st σ 2 (pt (takeL (σ 2) r p k) (r * 60 + k) ((takeL (σ 2) r p k) (r * 60 + (k + 1)))))) (st_st _ _ _ _) ?_
        refine g_iinc C (L' := [(5, .int (iI (k + 1))), (0, .ref (ea E 1)), (1, .int (iI r)), (2, .int (iI p)), (3, .int (iI ((σ 2) (r * 60 + p) / 8))), (4, .int (iI ((σ 2) (240 + r) - 1)))]) dX3_takeOut_42 5 rfl (by decide) rfl (q := 45) rfl ?_
        refine g_goto C dX3_takeOut_45 (q := 19) rfl ?_
        refine g_sub [1, 2, 3, 4, 5, 0] (L' := [(0, .ref (ea E 1)), (1, .int (iI r)), (2, .int (iI p)), (3, .int (iI ((σ 2) (r * 60 + p) / 8))), (4, .int (iI ((σ 2) (240 + r) - 1))), (5, .int (iI (k + 1)))]) rfl ?_
        refine g_st (σ2 := (st σ 2 (takeL (σ 2) r p (k + 1)))) (congrArg (st _ 2) (by funext z9; simp only [pt, takeL]; (repeat' split) <;> first | rfl | omega | (congr 1; omega))) ?_
        exact ih19 (k + 1) (by omega) (by omega)
  exact lp19 _ p (Nat.lt_succ_self _) (by omega)
abbrev rm_X3_moveTail : Room := { frames := 2, cells := 0, slots := 0, locals := 45 }
set_option maxRecDepth 100000 in
set_option maxHeartbeats 4000000 in
theorem c_X3_moveTail (l : Launch) (E : EV) (σ : SS) (a p b : Int) (ha : 0 ≤ a ∧ a < 4) (hb : 0 ≤ b ∧ b < 4) (hab : a ≠ b) (hn : 0 ≤ (σ 2) (240 + a) ∧ (σ 2) (240 + a) ≤ 60) (hp : 0 ≤ p ∧ p ≤ (σ 2) (240 + a)) (he : 0 ≤ (σ 2) (240 + b) ∧ (σ 2) (240 + b) + ((σ 2) (240 + a) - p) ≤ 60) : Kv l yX3_moveTail (cw yX3_moveTail cX3_moveTail 7 none) rm_X3_moveTail E [.ref (ea E 1), .int (iI a), .int (iI p), .int (iI b)] σ (st σ 2 (mvF (σ 2) a p b)) := by
  refine Kv_of (rm := rm_X3_moveTail) (mL := 7) (b := cX3_moveTail) RX3 rfl (by decide +kernel) rfl rfl [(0, .ref (ea E 1)), (1, .int (iI a)), (2, .int (iI p)), (3, .int (iI b))] rfl (Nat.le_of_ble_eq_true rfl) (fun p_ e_ s_ m_ a_ b_ h_ c_ Q A C hret => ?_)
  refine g_aload_n C dX3_moveTail_0 0 rfl rfl (q := 1) rfl ?_
  refine g_iload_n C dX3_moveTail_1 1 rfl rfl (q := 2) rfl ?_
  refine g_cV_i C (As := [.int (iI a)]) (c_X3_countOf l E _ a  (by omega)) ml_X3_27 mf_X3_countOf (o := 1) (ci := 3) rfl rfl rfl rfl ⟨(Nat.le_of_ble_eq_true rfl), (Nat.le_of_ble_eq_true rfl)⟩ rfl rfl rfl (Nat.le_of_ble_eq_true rfl) ⟨(Nat.le_of_ble_eq_true rfl), (Nat.le_of_ble_eq_true rfl)⟩ dX3_moveTail_2 (q := 5) rfl ?_
  refine g_iload_n C dX3_moveTail_5 2 rfl rfl (q := 6) rfl ?_
  refine g_isub C dX3_moveTail_6 (q := 7) rfl ?_
  refine g_istore C (L' := [(4, .int (iI ((σ 2) (240 + a) - p))), (0, .ref (ea E 1)), (1, .int (iI a)), (2, .int (iI p)), (3, .int (iI b))]) dX3_moveTail_7 (by decide) rfl (q := 9) rfl ?_
  refine g_aload_n C dX3_moveTail_9 1 rfl rfl (q := 10) rfl ?_
  refine g_iload_n C dX3_moveTail_10 4 rfl rfl (q := 11) rfl ?_
  refine g_cV_i C (As := [.int (iI b)]) (c_X3_countOf l E _ b  (by omega)) ml_X3_27 mf_X3_countOf (o := 1) (ci := 3) rfl rfl rfl rfl ⟨(Nat.le_of_ble_eq_true rfl), (Nat.le_of_ble_eq_true rfl)⟩ rfl rfl rfl (Nat.le_of_ble_eq_true rfl) ⟨(Nat.le_of_ble_eq_true rfl), (Nat.le_of_ble_eq_true rfl)⟩ dX3_moveTail_11 (q := 14) rfl ?_
  refine g_istore C (L' := [(5, .int (iI ((σ 2) (240 + b)))), (4, .int (iI ((σ 2) (240 + a) - p))), (0, .ref (ea E 1)), (1, .int (iI a)), (2, .int (iI p)), (3, .int (iI b))]) dX3_moveTail_14 (by decide) rfl (q := 16) rfl ?_
  refine g_iconst C dX3_moveTail_16 (q := 17) rfl ?_
  refine g_istore C (L' := [(6, .int (iI 0)), (5, .int (iI ((σ 2) (240 + b)))), (4, .int (iI ((σ 2) (240 + a) - p))), (0, .ref (ea E 1)), (1, .int (iI a)), (2, .int (iI p)), (3, .int (iI b))]) dX3_moveTail_17 (by decide) rfl (q := 19) rfl ?_
  refine g_sub [3, 4, 5, 6, 2, 1, 0] (L' := [(0, .ref (ea E 1)), (1, .int (iI a)), (2, .int (iI p)), (3, .int (iI b)), (4, .int (iI ((σ 2) (240 + a) - p))), (5, .int (iI ((σ 2) (240 + b)))), (6, .int (iI 0))]) rfl ?_
  refine g_st (σ2 := (st σ 2 (mvL (σ 2) a p b ((σ 2) (240 + b)) 0))) (by rw [show mvL (σ 2) a p b (σ 2 (240 + b)) 0 = σ 2 from by funext z9; simp only [mvL]; (repeat' split) <;> first | rfl | omega | (congr 1; omega)]; exact (st_id σ 2).symm) ?_
  have lp19 : ∀ (k9 : Nat) (k : Int), ((σ 2) (240 + a) - p - k).toNat < k9 → (0 ≤ k ∧ k ≤ (σ 2) (240 + a) - p) → GG p_ l e_ rm_X3_moveTail s_ m_ a_ b_ h_ c_ Q E A 7 (st σ 2 (mvL (σ 2) a p b ((σ 2) (240 + b)) k)) 0 0 19 [(0, .ref (ea E 1)), (1, .int (iI a)), (2, .int (iI p)), (3, .int (iI b)), (4, .int (iI ((σ 2) (240 + a) - p))), (5, .int (iI ((σ 2) (240 + b)))), (6, .int (iI k))] [] := by
    intro k9
    induction k9 with
    | zero => intro k hk9; omega
    | succ k9 ih19 =>
      intro k hk9 hk
      refine g_iload C dX3_moveTail_19 6 rfl (q := 21) rfl ?_
      refine g_iload C dX3_moveTail_21 4 rfl (q := 23) rfl ?_
      refine g_icmp_ge C dX3_moveTail_23 (by omega) (q2 := 51) rfl (q := 26) rfl (fun hb1 => ?_) (fun hb1 => ?_)
      · skip
        refine g_aload_n C dX3_moveTail_51 0 rfl rfl (q := 52) rfl ?_
        refine g_iload_n C dX3_moveTail_52 3 rfl rfl (q := 53) rfl ?_
        refine g_iload C dX3_moveTail_53 5 rfl (q := 55) rfl ?_
        refine g_iload C dX3_moveTail_55 4 rfl (q := 57) rfl ?_
        refine g_iadd C dX3_moveTail_57 (q := 58) rfl ?_
        refine g_cV_v C (As := [.int (iI b), .int (iI ((σ 2) (240 + b) + ((σ 2) (240 + a) - p)))]) (c_X3_setCount l E _ b ((σ 2) (240 + b) + ((σ 2) (240 + a) - p))  (by omega)) ml_X3_44 mf_X3_setCount (o := 1) (ci := 3) rfl rfl rfl rfl ⟨(Nat.le_of_ble_eq_true rfl), (Nat.le_of_ble_eq_true rfl)⟩ rfl rfl rfl (Nat.le_of_ble_eq_true rfl) ⟨(Nat.le_of_ble_eq_true rfl), (Nat.le_of_ble_eq_true rfl)⟩ dX3_moveTail_58 (q := 61) rfl ?_
        refine g_st (σ2 := (st σ 2 (pt (mvL (σ 2) a p b ((σ 2) (240 + b)) k) (240 + b) ((σ 2) (240 + b) + ((σ 2) (240 + a) - p))))) (st_st _ _ _ _) ?_
        refine g_aload_n C dX3_moveTail_61 0 rfl rfl (q := 62) rfl ?_
        refine g_iload_n C dX3_moveTail_62 1 rfl rfl (q := 63) rfl ?_
        refine g_iload_n C dX3_moveTail_63 2 rfl rfl (q := 64) rfl ?_
        refine g_cV_v C (As := [.int (iI a), .int (iI p)]) (c_X3_setCount l E _ a p  (by omega)) ml_X3_44 mf_X3_setCount (o := 1) (ci := 3) rfl rfl rfl rfl ⟨(Nat.le_of_ble_eq_true rfl), (Nat.le_of_ble_eq_true rfl)⟩ rfl rfl rfl (Nat.le_of_ble_eq_true rfl) ⟨(Nat.le_of_ble_eq_true rfl), (Nat.le_of_ble_eq_true rfl)⟩ dX3_moveTail_64 (q := 67) rfl ?_
        refine g_st (σ2 := (st σ 2 (pt (pt (mvL (σ 2) a p b ((σ 2) (240 + b)) k) (240 + b) ((σ 2) (240 + b) + ((σ 2) (240 + a) - p))) (240 + a) p))) (st_st _ _ _ _) ?_
        refine g_st (σ2 := (st σ 2 (mvF (σ 2) a p b))) (by rw [show k = σ 2 (240 + a) - p by omega]; rfl) ?_
        exact hret _ _ dX3_moveTail_67
      · skip
        refine g_aload_n C dX3_moveTail_26 0 rfl rfl (q := 27) rfl ?_
        refine g_iload_n C dX3_moveTail_27 3 rfl rfl (q := 28) rfl ?_
        refine g_iload C dX3_moveTail_28 5 rfl (q := 30) rfl ?_
        refine g_iload C dX3_moveTail_30 6 rfl (q := 32) rfl ?_
        refine g_iadd C dX3_moveTail_32 (q := 33) rfl ?_
        refine g_aload_n C dX3_moveTail_33 0 rfl rfl (q := 34) rfl ?_
        refine g_iload_n C dX3_moveTail_34 1 rfl rfl (q := 35) rfl ?_
        refine g_iload_n C dX3_moveTail_35 2 rfl rfl (q := 36) rfl ?_
        refine g_iload C dX3_moveTail_36 6 rfl (q := 38) rfl ?_
        refine g_iadd C dX3_moveTail_38 (q := 39) rfl ?_
        refine g_cV_i C (As := [.int (iI a), .int (iI (p + k))]) (c_X3_segmentAt l E _ a (p + k)  (by omega) (by omega)) ml_X3_34 mf_X3_segmentAt (o := 1) (ci := 3) rfl rfl rfl rfl ⟨(Nat.le_of_ble_eq_true rfl), (Nat.le_of_ble_eq_true rfl)⟩ rfl rfl rfl (Nat.le_of_ble_eq_true rfl) ⟨(Nat.le_of_ble_eq_true rfl), (Nat.le_of_ble_eq_true rfl)⟩ dX3_moveTail_39 (q := 42) rfl ?_
        refine g_top (b := (mvL (σ 2) a p b ((σ 2) (240 + b)) k) (a * 60 + (p + k))) rfl ?_
        refine g_cV_v C (As := [.int (iI b), .int (iI ((σ 2) (240 + b) + k)), .int (iI ((mvL (σ 2) a p b ((σ 2) (240 + b)) k) (a * 60 + (p + k))))]) (c_X3_setSegment l E _ b ((σ 2) (240 + b) + k) ((mvL (σ 2) a p b ((σ 2) (240 + b)) k) (a * 60 + (p + k)))  (by omega) (by omega)) ml_X3_40 mf_X3_setSegment (o := 1) (ci := 3) rfl rfl rfl rfl ⟨(Nat.le_of_ble_eq_true rfl), (Nat.le_of_ble_eq_true rfl)⟩ rfl rfl rfl (Nat.le_of_ble_eq_true rfl) ⟨(Nat.le_of_ble_eq_true rfl), (Nat.le_of_ble_eq_true rfl)⟩ dX3_moveTail_42 (q := 45) rfl ?_
        refine g_st (σ2 := (st σ 2 (pt (mvL (σ 2) a p b ((σ 2) (240 + b)) k) (b * 60 + ((σ 2) (240 + b) + k)) ((mvL (σ 2) a p b ((σ 2) (240 + b)) k) (a * 60 + (p + k)))))) (st_st _ _ _ _) ?_
        refine g_iinc C (L' := [(6, .int (iI (k + 1))), (0, .ref (ea E 1)), (1, .int (iI a)), (2, .int (iI p)), (3, .int (iI b)), (4, .int (iI ((σ 2) (240 + a) - p))), (5, .int (iI ((σ 2) (240 + b))))]) dX3_moveTail_45 6 rfl (by decide) rfl (q := 48) rfl ?_
        refine g_goto C dX3_moveTail_48 (q := 19) rfl ?_
        refine g_sub [1, 2, 3, 4, 5, 6, 0] (L' := [(0, .ref (ea E 1)), (1, .int (iI a)), (2, .int (iI p)), (3, .int (iI b)), (4, .int (iI ((σ 2) (240 + a) - p))), (5, .int (iI ((σ 2) (240 + b)))), (6, .int (iI (k + 1)))]) rfl ?_
        refine g_st (σ2 := (st σ 2 (mvL (σ 2) a p b ((σ 2) (240 + b)) (k + 1)))) (congrArg (st _ 2) (by funext z9; simp only [pt, mvL]; (repeat' split) <;> first | rfl | omega | (congr 1; omega))) ?_
        exact ih19 (k + 1) (by omega) (by omega)
  exact lp19 _ 0 (Nat.lt_succ_self _) (by omega)
abbrev rm_X3_cutOff : Room := { frames := 3, cells := 0, slots := 0, locals := 71 }
set_option maxRecDepth 100000 in
set_option maxHeartbeats 4000000 in
theorem c_X3_cutOff (l : Launch) (E : EV) (σ : SS) (a p b : Int) (ha : 0 ≤ a ∧ a < 4) (hb : 0 ≤ b ∧ b < 4) (hab : a ≠ b) (hn : 0 ≤ (σ 2) (240 + a) ∧ (σ 2) (240 + a) ≤ 60) (hp : 0 ≤ p ∧ p ≤ (σ 2) (240 + a)) (he : 0 ≤ (σ 2) (240 + b) ∧ (σ 2) (240 + b) + ((σ 2) (240 + a) - p) ≤ 60) : Ki l yX3_cutOff (cw yX3_cutOff cX3_cutOff 5 (some .int)) rm_X3_cutOff E [.ref (ea E 1), .int (iI a), .int (iI p), .int (iI b)] σ ((σ 2) (240 + a) - p) (st σ 2 (pt (mvF (σ 2) a p b) 308 (mvF (σ 2) a p b 308 + 1))) := by
  refine Ki_of (rm := rm_X3_cutOff) (mL := 5) (b := cX3_cutOff) RX3 rfl (by decide +kernel) rfl rfl [(0, .ref (ea E 1)), (1, .int (iI a)), (2, .int (iI p)), (3, .int (iI b))] rfl (Nat.le_of_ble_eq_true rfl) (fun p_ e_ s_ m_ a_ b_ h_ c_ Q A C hret => ?_)
  refine g_aload_n C dX3_cutOff_0 0 rfl rfl (q := 1) rfl ?_
  refine g_iload_n C dX3_cutOff_1 1 rfl rfl (q := 2) rfl ?_
  refine g_cV_i C (As := [.int (iI a)]) (c_X3_countOf l E _ a  (by omega)) ml_X3_27 mf_X3_countOf (o := 1) (ci := 3) rfl rfl rfl rfl ⟨(Nat.le_of_ble_eq_true rfl), (Nat.le_of_ble_eq_true rfl)⟩ rfl rfl rfl (Nat.le_of_ble_eq_true rfl) ⟨(Nat.le_of_ble_eq_true rfl), (Nat.le_of_ble_eq_true rfl)⟩ dX3_cutOff_2 (q := 5) rfl ?_
  refine g_iload_n C dX3_cutOff_5 2 rfl rfl (q := 6) rfl ?_
  refine g_isub C dX3_cutOff_6 (q := 7) rfl ?_
  refine g_istore C (L' := [(4, .int (iI ((σ 2) (240 + a) - p))), (0, .ref (ea E 1)), (1, .int (iI a)), (2, .int (iI p)), (3, .int (iI b))]) dX3_cutOff_7 (by decide) rfl (q := 9) rfl ?_
  refine g_aload_n C dX3_cutOff_9 1 rfl rfl (q := 10) rfl ?_
  refine g_iload_n C dX3_cutOff_10 2 rfl rfl (q := 11) rfl ?_
  refine g_iload_n C dX3_cutOff_11 3 rfl rfl (q := 12) rfl ?_
  refine g_iload_n C dX3_cutOff_12 4 rfl rfl (q := 13) rfl ?_
  refine g_cV_v C (As := [.int (iI a), .int (iI p), .int (iI b)]) (c_X3_moveTail l E _ a p b  (by omega) (by omega) (by omega) (by omega) (by omega) (by omega)) ml_X3_50 mf_X3_moveTail (o := 1) (ci := 3) rfl rfl rfl rfl ⟨(Nat.le_of_ble_eq_true rfl), (Nat.le_of_ble_eq_true rfl)⟩ rfl rfl rfl (Nat.le_of_ble_eq_true rfl) ⟨(Nat.le_of_ble_eq_true rfl), (Nat.le_of_ble_eq_true rfl)⟩ dX3_cutOff_13 (q := 16) rfl ?_
  refine g_aload_n C dX3_cutOff_16 1 rfl rfl (q := 17) rfl ?_
  refine g_sipush C dX3_cutOff_17 (by decide) (q := 20) rfl ?_
  refine g_aload_n C dX3_cutOff_20 1 rfl rfl (q := 21) rfl ?_
  refine g_sipush C dX3_cutOff_21 (by decide) (q := 24) rfl ?_
  refine g_cV_i C (As := [.int (iI 308)]) (c_X3_cellAt l E _ 308  (by omega)) ml_X3_19 mf_X3_cellAt (o := 1) (ci := 3) rfl rfl rfl rfl ⟨(Nat.le_of_ble_eq_true rfl), (Nat.le_of_ble_eq_true rfl)⟩ rfl rfl rfl (Nat.le_of_ble_eq_true rfl) ⟨(Nat.le_of_ble_eq_true rfl), (Nat.le_of_ble_eq_true rfl)⟩ dX3_cutOff_24 (q := 27) rfl ?_
  refine g_top (b := (mvF (σ 2) a p b) 308) rfl ?_
  refine g_iconst C dX3_cutOff_27 (q := 28) rfl ?_
  refine g_iadd C dX3_cutOff_28 (q := 29) rfl ?_
  refine g_cV_v C (As := [.int (iI 308), .int (iI ((mvF (σ 2) a p b) 308 + 1))]) (c_X3_setCell l E _ 308 ((mvF (σ 2) a p b) 308 + 1)  (by omega)) ml_X3_23 mf_X3_setCell (o := 1) (ci := 3) rfl rfl rfl rfl ⟨(Nat.le_of_ble_eq_true rfl), (Nat.le_of_ble_eq_true rfl)⟩ rfl rfl rfl (Nat.le_of_ble_eq_true rfl) ⟨(Nat.le_of_ble_eq_true rfl), (Nat.le_of_ble_eq_true rfl)⟩ dX3_cutOff_29 (q := 32) rfl ?_
  refine g_st (σ2 := (st σ 2 (pt (mvF (σ 2) a p b) 308 ((mvF (σ 2) a p b) 308 + 1)))) (st_st _ _ _ _) ?_
  refine g_iload C dX3_cutOff_32 0 rfl (q := 34) rfl ?_
  refine g_st (σ2 := (st σ 2 (pt (mvF (σ 2) a p b) 308 (mvF (σ 2) a p b 308 + 1)))) (by first | rfl | (funext q9; simp only [st]; (repeat' split) <;> first | rfl | omega | (funext j9; simp only [pt]; (repeat' split) <;> first | rfl | omega))) ?_
  exact hret _ _ _ dX3_cutOff_34 rfl
abbrev rm_X3_join : Room := { frames := 3, cells := 0, slots := 0, locals := 71 }
set_option maxRecDepth 100000 in
set_option maxHeartbeats 4000000 in
theorem c_X3_join (l : Launch) (E : EV) (σ : SS) (r o : Int) (hr : 0 ≤ r ∧ r < 4) (ho : 0 ≤ o ∧ o < 4) (hro : r ≠ o) (hn : 0 ≤ (σ 2) (240 + o) ∧ (σ 2) (240 + o) ≤ 60) (he : 0 ≤ (σ 2) (240 + r) ∧ (σ 2) (240 + r) + (σ 2) (240 + o) ≤ 60) : Ki l yX3_join (cw yX3_join cX3_join 3 (some .int)) rm_X3_join E [.ref (ea E 1), .int (iI r), .int (iI o)] σ ((pt (mvF (σ 2) o 0 r) 309 (mvF (σ 2) o 0 r 309 + 1)) (240 + r)) (st σ 2 (pt (mvF (σ 2) o 0 r) 309 (mvF (σ 2) o 0 r 309 + 1))) := by
  refine Ki_of (rm := rm_X3_join) (mL := 3) (b := cX3_join) RX3 rfl (by decide +kernel) rfl rfl [(0, .ref (ea E 1)), (1, .int (iI r)), (2, .int (iI o))] rfl (Nat.le_of_ble_eq_true rfl) (fun p_ e_ s_ m_ a_ b_ h_ c_ Q A C hret => ?_)
  refine g_aload_n C dX3_join_0 0 rfl rfl (q := 1) rfl ?_
  refine g_iload_n C dX3_join_1 2 rfl rfl (q := 2) rfl ?_
  refine g_iconst C dX3_join_2 (q := 3) rfl ?_
  refine g_iload_n C dX3_join_3 1 rfl rfl (q := 4) rfl ?_
  refine g_cV_v C (As := [.int (iI o), .int (iI 0), .int (iI r)]) (c_X3_moveTail l E _ o 0 r  (by omega) (by omega) (by omega) (by omega) (by omega) (by omega)) ml_X3_50 mf_X3_moveTail (o := 1) (ci := 3) rfl rfl rfl rfl ⟨(Nat.le_of_ble_eq_true rfl), (Nat.le_of_ble_eq_true rfl)⟩ rfl rfl rfl (Nat.le_of_ble_eq_true rfl) ⟨(Nat.le_of_ble_eq_true rfl), (Nat.le_of_ble_eq_true rfl)⟩ dX3_join_4 (q := 7) rfl ?_
  refine g_aload_n C dX3_join_7 0 rfl rfl (q := 8) rfl ?_
  refine g_sipush C dX3_join_8 (by decide) (q := 11) rfl ?_
  refine g_aload_n C dX3_join_11 0 rfl rfl (q := 12) rfl ?_
  refine g_sipush C dX3_join_12 (by decide) (q := 15) rfl ?_
  refine g_cV_i C (As := [.int (iI 309)]) (c_X3_cellAt l E _ 309  (by omega)) ml_X3_19 mf_X3_cellAt (o := 1) (ci := 3) rfl rfl rfl rfl ⟨(Nat.le_of_ble_eq_true rfl), (Nat.le_of_ble_eq_true rfl)⟩ rfl rfl rfl (Nat.le_of_ble_eq_true rfl) ⟨(Nat.le_of_ble_eq_true rfl), (Nat.le_of_ble_eq_true rfl)⟩ dX3_join_15 (q := 18) rfl ?_
  refine g_top (b := (mvF (σ 2) o 0 r) 309) rfl ?_
  refine g_iconst C dX3_join_18 (q := 19) rfl ?_
  refine g_iadd C dX3_join_19 (q := 20) rfl ?_
  refine g_cV_v C (As := [.int (iI 309), .int (iI ((mvF (σ 2) o 0 r) 309 + 1))]) (c_X3_setCell l E _ 309 ((mvF (σ 2) o 0 r) 309 + 1)  (by omega)) ml_X3_23 mf_X3_setCell (o := 1) (ci := 3) rfl rfl rfl rfl ⟨(Nat.le_of_ble_eq_true rfl), (Nat.le_of_ble_eq_true rfl)⟩ rfl rfl rfl (Nat.le_of_ble_eq_true rfl) ⟨(Nat.le_of_ble_eq_true rfl), (Nat.le_of_ble_eq_true rfl)⟩ dX3_join_20 (q := 23) rfl ?_
  refine g_st (σ2 := (st σ 2 (pt (mvF (σ 2) o 0 r) 309 ((mvF (σ 2) o 0 r) 309 + 1)))) (st_st _ _ _ _) ?_
  refine g_aload_n C dX3_join_23 0 rfl rfl (q := 24) rfl ?_
  refine g_iload_n C dX3_join_24 1 rfl rfl (q := 25) rfl ?_
  refine g_cV_i C (As := [.int (iI r)]) (c_X3_countOf l E _ r  (by omega)) ml_X3_27 mf_X3_countOf (o := 1) (ci := 3) rfl rfl rfl rfl ⟨(Nat.le_of_ble_eq_true rfl), (Nat.le_of_ble_eq_true rfl)⟩ rfl rfl rfl (Nat.le_of_ble_eq_true rfl) ⟨(Nat.le_of_ble_eq_true rfl), (Nat.le_of_ble_eq_true rfl)⟩ dX3_join_25 (q := 28) rfl ?_
  refine g_top (b := (pt (mvF (σ 2) o 0 r) 309 ((mvF (σ 2) o 0 r) 309 + 1)) (240 + r)) rfl ?_
  refine g_st (σ2 := (st σ 2 (pt (mvF (σ 2) o 0 r) 309 (mvF (σ 2) o 0 r 309 + 1)))) (by first | rfl | (funext q9; simp only [st]; (repeat' split) <;> first | rfl | omega | (funext j9; simp only [pt]; (repeat' split) <;> first | rfl | omega))) ?_
  exact hret _ _ _ dX3_join_28 (by omega)
abbrev rm_X3_swap : Room := { frames := 3, cells := 0, slots := 0, locals := 70 }
set_option maxRecDepth 100000 in
set_option maxHeartbeats 4000000 in
theorem c_X3_swap (l : Launch) (E : EV) (σ : SS) (a b : Int) (ha : 0 ≤ a ∧ a < 4) (hb : 0 ≤ b ∧ b < 4) : Ki l yX3_swap (cw yX3_swap cX3_swap 6 (some .int)) rm_X3_swap E [.ref (ea E 1), .int (iI a), .int (iI b)] σ ((σ 2) (240 + b)) (st σ 2 (swF (σ 2) a b)) := by
  refine Ki_of (rm := rm_X3_swap) (mL := 6) (b := cX3_swap) RX3 rfl (by decide +kernel) rfl rfl [(0, .ref (ea E 1)), (1, .int (iI a)), (2, .int (iI b))] rfl (Nat.le_of_ble_eq_true rfl) (fun p_ e_ s_ m_ a_ b_ h_ c_ Q A C hret => ?_)
  refine g_aload_n C dX3_swap_0 0 rfl rfl (q := 1) rfl ?_
  refine g_iload_n C dX3_swap_1 1 rfl rfl (q := 2) rfl ?_
  refine g_cV_i C (As := [.int (iI a)]) (c_X3_countOf l E _ a  (by omega)) ml_X3_27 mf_X3_countOf (o := 1) (ci := 3) rfl rfl rfl rfl ⟨(Nat.le_of_ble_eq_true rfl), (Nat.le_of_ble_eq_true rfl)⟩ rfl rfl rfl (Nat.le_of_ble_eq_true rfl) ⟨(Nat.le_of_ble_eq_true rfl), (Nat.le_of_ble_eq_true rfl)⟩ dX3_swap_2 (q := 5) rfl ?_
  refine g_istore_n C (L' := [(3, .int (iI ((σ 2) (240 + a)))), (0, .ref (ea E 1)), (1, .int (iI a)), (2, .int (iI b))]) dX3_swap_5 rfl (by decide) rfl (q := 6) rfl ?_
  refine g_aload_n C dX3_swap_6 1 rfl rfl (q := 7) rfl ?_
  refine g_iload_n C dX3_swap_7 3 rfl rfl (q := 8) rfl ?_
  refine g_cV_i C (As := [.int (iI b)]) (c_X3_countOf l E _ b  (by omega)) ml_X3_27 mf_X3_countOf (o := 1) (ci := 3) rfl rfl rfl rfl ⟨(Nat.le_of_ble_eq_true rfl), (Nat.le_of_ble_eq_true rfl)⟩ rfl rfl rfl (Nat.le_of_ble_eq_true rfl) ⟨(Nat.le_of_ble_eq_true rfl), (Nat.le_of_ble_eq_true rfl)⟩ dX3_swap_8 (q := 11) rfl ?_
  refine g_istore C (L' := [(4, .int (iI ((σ 2) (240 + b)))), (3, .int (iI ((σ 2) (240 + a)))), (0, .ref (ea E 1)), (1, .int (iI a)), (2, .int (iI b))]) dX3_swap_11 (by decide) rfl (q := 13) rfl ?_
  refine g_iconst C dX3_swap_13 (q := 14) rfl ?_
  refine g_istore C (L' := [(5, .int (iI 0)), (4, .int (iI ((σ 2) (240 + b)))), (3, .int (iI ((σ 2) (240 + a)))), (0, .ref (ea E 1)), (1, .int (iI a)), (2, .int (iI b))]) dX3_swap_14 (by decide) rfl (q := 16) rfl ?_
  refine g_sub [3, 4, 5, 2, 1, 0] (L' := [(0, .ref (ea E 1)), (1, .int (iI a)), (2, .int (iI b)), (3, .int (iI ((σ 2) (240 + a)))), (4, .int (iI ((σ 2) (240 + b)))), (5, .int (iI 0))]) rfl ?_
  refine g_st (σ2 := (st σ 2 (swL (σ 2) a b 0))) (by rw [show swL (σ 2) a b 0 = σ 2 from by funext z9; simp only [swL]; (repeat' split) <;> first | rfl | omega | (congr 1; omega)]; exact (st_id σ 2).symm) ?_
  have lp16 : ∀ (k9 : Nat) (k : Int), (60 - k).toNat < k9 → (0 ≤ k ∧ k ≤ 60) → GG p_ l e_ rm_X3_swap s_ m_ a_ b_ h_ c_ Q E A 6 (st σ 2 (swL (σ 2) a b k)) 0 0 16 [(0, .ref (ea E 1)), (1, .int (iI a)), (2, .int (iI b)), (3, .int (iI ((σ 2) (240 + a)))), (4, .int (iI ((σ 2) (240 + b)))), (5, .int (iI k))] [] := by
    intro k9
    induction k9 with
    | zero => intro k hk9; omega
    | succ k9 ih16 =>
      intro k hk9 hk
      refine g_iload C dX3_swap_16 5 rfl (q := 18) rfl ?_
      refine g_bipush C dX3_swap_18 (by decide) (q := 20) rfl ?_
      refine g_icmp_ge C dX3_swap_20 (by omega) (q2 := 39) rfl (q := 23) rfl (fun hb1 => ?_) (fun hb1 => ?_)
      · skip
        refine g_aload_n C dX3_swap_39 0 rfl rfl (q := 40) rfl ?_
        refine g_iload_n C dX3_swap_40 1 rfl rfl (q := 41) rfl ?_
        refine g_iload C dX3_swap_41 4 rfl (q := 43) rfl ?_
        refine g_cV_v C (As := [.int (iI a), .int (iI ((σ 2) (240 + b)))]) (c_X3_setCount l E _ a ((σ 2) (240 + b))  (by omega)) ml_X3_44 mf_X3_setCount (o := 1) (ci := 3) rfl rfl rfl rfl ⟨(Nat.le_of_ble_eq_true rfl), (Nat.le_of_ble_eq_true rfl)⟩ rfl rfl rfl (Nat.le_of_ble_eq_true rfl) ⟨(Nat.le_of_ble_eq_true rfl), (Nat.le_of_ble_eq_true rfl)⟩ dX3_swap_43 (q := 46) rfl ?_
        refine g_st (σ2 := (st σ 2 (pt (swL (σ 2) a b k) (240 + a) ((σ 2) (240 + b))))) (st_st _ _ _ _) ?_
        refine g_aload_n C dX3_swap_46 0 rfl rfl (q := 47) rfl ?_
        refine g_iload_n C dX3_swap_47 2 rfl rfl (q := 48) rfl ?_
        refine g_iload_n C dX3_swap_48 3 rfl rfl (q := 49) rfl ?_
        refine g_cV_v C (As := [.int (iI b), .int (iI ((σ 2) (240 + a)))]) (c_X3_setCount l E _ b ((σ 2) (240 + a))  (by omega)) ml_X3_44 mf_X3_setCount (o := 1) (ci := 3) rfl rfl rfl rfl ⟨(Nat.le_of_ble_eq_true rfl), (Nat.le_of_ble_eq_true rfl)⟩ rfl rfl rfl (Nat.le_of_ble_eq_true rfl) ⟨(Nat.le_of_ble_eq_true rfl), (Nat.le_of_ble_eq_true rfl)⟩ dX3_swap_49 (q := 52) rfl ?_
        refine g_st (σ2 := (st σ 2 (pt (pt (swL (σ 2) a b k) (240 + a) ((σ 2) (240 + b))) (240 + b) ((σ 2) (240 + a))))) (st_st _ _ _ _) ?_
        refine g_iload C dX3_swap_52 4 rfl (q := 54) rfl ?_
        refine g_st (σ2 := (st σ 2 (swF (σ 2) a b))) (by rw [show k = 60 by omega]; rfl) ?_
        exact hret _ _ _ dX3_swap_54 rfl
      · skip
        refine g_aload_n C dX3_swap_23 0 rfl rfl (q := 24) rfl ?_
        refine g_iload_n C dX3_swap_24 1 rfl rfl (q := 25) rfl ?_
        refine g_iload C dX3_swap_25 5 rfl (q := 27) rfl ?_
        refine g_iload_n C dX3_swap_27 2 rfl rfl (q := 28) rfl ?_
        refine g_iload C dX3_swap_28 5 rfl (q := 30) rfl ?_
        refine g_cV_v C (As := [.int (iI a), .int (iI k), .int (iI b), .int (iI k)]) (c_X3_swapSegments l E _ a k b k  (by omega) (by omega) (by omega) (by omega)) ml_X3_53 mf_X3_swapSegments (o := 1) (ci := 3) rfl rfl rfl rfl ⟨(Nat.le_of_ble_eq_true rfl), (Nat.le_of_ble_eq_true rfl)⟩ rfl rfl rfl (Nat.le_of_ble_eq_true rfl) ⟨(Nat.le_of_ble_eq_true rfl), (Nat.le_of_ble_eq_true rfl)⟩ dX3_swap_30 (q := 33) rfl ?_
        refine g_st (σ2 := (st σ 2 (pt (pt (swL (σ 2) a b k) (a * 60 + k) ((swL (σ 2) a b k) (b * 60 + k))) (b * 60 + k) ((swL (σ 2) a b k) (a * 60 + k))))) (st_st _ _ _ _) ?_
        refine g_iinc C (L' := [(5, .int (iI (k + 1))), (0, .ref (ea E 1)), (1, .int (iI a)), (2, .int (iI b)), (3, .int (iI ((σ 2) (240 + a)))), (4, .int (iI ((σ 2) (240 + b))))]) dX3_swap_33 5 rfl (by decide) rfl (q := 36) rfl ?_
        refine g_goto C dX3_swap_36 (q := 16) rfl ?_
        refine g_sub [1, 2, 3, 4, 5, 0] (L' := [(0, .ref (ea E 1)), (1, .int (iI a)), (2, .int (iI b)), (3, .int (iI ((σ 2) (240 + a)))), (4, .int (iI ((σ 2) (240 + b)))), (5, .int (iI (k + 1)))]) rfl ?_
        refine g_st (σ2 := (st σ 2 (swL (σ 2) a b (k + 1)))) (congrArg (st _ 2) (by funext z9; simp only [pt, swL]; (repeat' split) <;> first | rfl | omega | (congr 1; omega))) ?_
        exact ih16 (k + 1) (by omega) (by omega)
  exact lp16 _ 0 (Nat.lt_succ_self _) (by omega)
abbrev rm_X3_reverse : Room := { frames := 4, cells := 0, slots := 0, locals := 90 }
set_option maxRecDepth 100000 in
set_option maxHeartbeats 4000000 in
theorem c_X3_reverse (l : Launch) (E : EV) (σ : SS) (r x y : Int) (hr : 0 ≤ r ∧ r < 4) (hx : 0 ≤ x ∧ x ≤ y) (hy : y < (σ 2) (240 + r)) (hW : CW (σ 2)) : Ki l yX3_reverse (cw yX3_reverse cX3_reverse 6 (some .int)) rm_X3_reverse E [.ref (ea E 1), .int (iI r), .int (iI x), .int (iI y)] σ (sI (lgs (rvF (σ 2) r x y) r) x (y + 1)) (st σ 2 (rvF (σ 2) r x y)) := by
  refine Ki_of (rm := rm_X3_reverse) (mL := 6) (b := cX3_reverse) RX3 rfl (by decide +kernel) rfl rfl [(0, .ref (ea E 1)), (1, .int (iI r)), (2, .int (iI x)), (3, .int (iI y))] rfl (Nat.le_of_ble_eq_true rfl) (fun p_ e_ s_ m_ a_ b_ h_ c_ Q A C hret => ?_)
  have hn := (hW r hr).1
  refine g_iload_n C dX3_reverse_0 2 rfl rfl (q := 1) rfl ?_
  refine g_istore C (L' := [(4, .int (iI x)), (0, .ref (ea E 1)), (1, .int (iI r)), (2, .int (iI x)), (3, .int (iI y))]) dX3_reverse_1 (by decide) rfl (q := 3) rfl ?_
  refine g_iload_n C dX3_reverse_3 4 rfl rfl (q := 4) rfl ?_
  refine g_istore C (L' := [(5, .int (iI y)), (4, .int (iI x)), (0, .ref (ea E 1)), (1, .int (iI r)), (2, .int (iI x)), (3, .int (iI y))]) dX3_reverse_4 (by decide) rfl (q := 6) rfl ?_
  refine g_sub [2, 3, 4, 5, 1, 0] (L' := [(0, .ref (ea E 1)), (1, .int (iI r)), (2, .int (iI x)), (3, .int (iI y)), (4, .int (iI x)), (5, .int (iI y))]) rfl ?_
  refine g_st (σ2 := (st σ 2 (rvL (σ 2) r x y x))) (by rw [show rvL (σ 2) r x y x = σ 2 from by funext z9; simp only [rvL]; (repeat' split) <;> first | rfl | omega | (congr 1; omega)]; exact (st_id σ 2).symm) ?_
  have lp6 : ∀ (k9 : Nat) (k : Int) (j : Int), (j - k + 1).toNat < k9 → (x ≤ k ∧ k ≤ y + 1 ∧ j = x + y - k ∧ k ≤ j + 2) → GG p_ l e_ rm_X3_reverse s_ m_ a_ b_ h_ c_ Q E A 6 (st σ 2 (rvL (σ 2) r x y k)) 0 0 6 [(0, .ref (ea E 1)), (1, .int (iI r)), (2, .int (iI x)), (3, .int (iI y)), (4, .int (iI k)), (5, .int (iI j))] [] := by
    intro k9
    induction k9 with
    | zero => intro k j hk9; omega
    | succ k9 ih6 =>
      intro k j hk9 hk
      refine g_iload C dX3_reverse_6 4 rfl (q := 8) rfl ?_
      refine g_iload C dX3_reverse_8 5 rfl (q := 10) rfl ?_
      refine g_icmp_ge C dX3_reverse_10 (by omega) (q2 := 32) rfl (q := 13) rfl (fun hb1 => ?_) (fun hb1 => ?_)
      · skip
        refine g_st (σ2 := (st σ 2 (rvF (σ 2) r x y))) (by exact congrArg (st _ 2) (by funext z9; simp only [rvL, rvF]; (repeat' split) <;> first | rfl | omega | (congr 1; omega))) ?_
        refine g_aload_n C dX3_reverse_32 0 rfl rfl (q := 33) rfl ?_
        refine g_iload_n C dX3_reverse_33 1 rfl rfl (q := 34) rfl ?_
        refine g_iload_n C dX3_reverse_34 2 rfl rfl (q := 35) rfl ?_
        refine g_iload_n C dX3_reverse_35 3 rfl rfl (q := 36) rfl ?_
        refine g_cV_i C (As := [.int (iI r), .int (iI x), .int (iI y)]) (c_X3_sumOfRange l E _ r x y  (by omega) (by omega) (by show _ ∧ y < rvF (σ 2) r x y (240 + r); rw [show rvF (σ 2) r x y (240 + r) = σ 2 (240 + r) from if_neg (by omega)]; omega) (by exact CW_rv hW hr ⟨hx.1, hx.2, hy⟩)) ml_X3_57 mf_X3_sumOfRange (o := 1) (ci := 3) rfl rfl rfl rfl ⟨(Nat.le_of_ble_eq_true rfl), (Nat.le_of_ble_eq_true rfl)⟩ rfl rfl rfl (Nat.le_of_ble_eq_true rfl) ⟨(Nat.le_of_ble_eq_true rfl), (Nat.le_of_ble_eq_true rfl)⟩ dX3_reverse_36 (q := 39) rfl ?_
        refine g_top (b := sI (lgs (rvF (σ 2) r x y) r) x (y + 1)) rfl ?_
        exact hret _ _ _ dX3_reverse_39 rfl
      · skip
        refine g_aload_n C dX3_reverse_13 0 rfl rfl (q := 14) rfl ?_
        refine g_iload_n C dX3_reverse_14 1 rfl rfl (q := 15) rfl ?_
        refine g_iload C dX3_reverse_15 4 rfl (q := 17) rfl ?_
        refine g_iload_n C dX3_reverse_17 1 rfl rfl (q := 18) rfl ?_
        refine g_iload C dX3_reverse_18 5 rfl (q := 20) rfl ?_
        refine g_cV_v C (As := [.int (iI r), .int (iI k), .int (iI r), .int (iI j)]) (c_X3_swapSegments l E _ r k r j  (by omega) (by omega) (by omega) (by omega)) ml_X3_53 mf_X3_swapSegments (o := 1) (ci := 3) rfl rfl rfl rfl ⟨(Nat.le_of_ble_eq_true rfl), (Nat.le_of_ble_eq_true rfl)⟩ rfl rfl rfl (Nat.le_of_ble_eq_true rfl) ⟨(Nat.le_of_ble_eq_true rfl), (Nat.le_of_ble_eq_true rfl)⟩ dX3_reverse_20 (q := 23) rfl ?_
        refine g_st (σ2 := (st σ 2 (pt (pt (rvL (σ 2) r x y k) (r * 60 + k) ((rvL (σ 2) r x y k) (r * 60 + j))) (r * 60 + j) ((rvL (σ 2) r x y k) (r * 60 + k))))) (st_st _ _ _ _) ?_
        refine g_iinc C (L' := [(4, .int (iI (k + 1))), (0, .ref (ea E 1)), (1, .int (iI r)), (2, .int (iI x)), (3, .int (iI y)), (5, .int (iI j))]) dX3_reverse_23 4 rfl (by decide) rfl (q := 26) rfl ?_
        refine g_iinc C (L' := [(5, .int (iI (j + (-1)))), (4, .int (iI (k + 1))), (0, .ref (ea E 1)), (1, .int (iI r)), (2, .int (iI x)), (3, .int (iI y))]) dX3_reverse_26 5 rfl (by decide) rfl (q := 29) rfl ?_
        refine g_goto C dX3_reverse_29 (q := 6) rfl ?_
        refine g_sub [2, 3, 4, 5, 1, 0] (L' := [(0, .ref (ea E 1)), (1, .int (iI r)), (2, .int (iI x)), (3, .int (iI y)), (4, .int (iI (k + 1))), (5, .int (iI (j + (-1))))]) rfl ?_
        refine g_st (σ2 := (st σ 2 (rvL (σ 2) r x y (k + 1)))) (congrArg (st _ 2) (by funext z9; simp only [pt, rvL]; (repeat' split) <;> first | rfl | omega | (congr 1; omega))) ?_
        exact ih6 (k + 1) (j + (-1)) (by omega) (by omega)
  exact lp6 _ x y (Nat.lt_succ_self _) (by omega)
abbrev rm_X3_paint : Room := { frames := 3, cells := 0, slots := 0, locals := 65 }
set_option maxRecDepth 100000 in
set_option maxHeartbeats 4000000 in
theorem c_X3_paint (l : Launch) (E : EV) (σ : SS) (r x y c : Int) (hr : 0 ≤ r ∧ r < 4) (hx : 0 ≤ x ∧ x ≤ y) (hy : y < (σ 2) (240 + r)) (hc : 0 ≤ c ∧ c < 8) (hW : CW (σ 2)) : Ki l yX3_paint (cw yX3_paint cX3_paint 7 (some .int)) rm_X3_paint E [.ref (ea E 1), .int (iI r), .int (iI x), .int (iI y), .int (iI c)] σ (sI (dyI (σ 2) r c) x (y + 1)) (st σ 2 (dyL (σ 2) r x c (y + 1))) := by
  refine Ki_of (rm := rm_X3_paint) (mL := 7) (b := cX3_paint) RX3 rfl (by decide +kernel) rfl rfl [(0, .ref (ea E 1)), (1, .int (iI r)), (2, .int (iI x)), (3, .int (iI y)), (4, .int (iI c))] rfl (Nat.le_of_ble_eq_true rfl) (fun p_ e_ s_ m_ a_ b_ h_ c_ Q A C hret => ?_)
  have hn := (hW r hr).1
  refine g_iconst C dX3_paint_0 (q := 1) rfl ?_
  refine g_istore C (L' := [(5, .int (iI 0)), (0, .ref (ea E 1)), (1, .int (iI r)), (2, .int (iI x)), (3, .int (iI y)), (4, .int (iI c))]) dX3_paint_1 (by decide) rfl (q := 3) rfl ?_
  refine g_iload_n C dX3_paint_3 3 rfl rfl (q := 4) rfl ?_
  refine g_istore C (L' := [(6, .int (iI x)), (5, .int (iI 0)), (0, .ref (ea E 1)), (1, .int (iI r)), (2, .int (iI x)), (3, .int (iI y)), (4, .int (iI c))]) dX3_paint_4 (by decide) rfl (q := 6) rfl ?_
  refine g_sub [2, 3, 4, 5, 6, 1, 0] (L' := [(0, .ref (ea E 1)), (1, .int (iI r)), (2, .int (iI x)), (3, .int (iI y)), (4, .int (iI c)), (5, .int (iI 0)), (6, .int (iI x))]) rfl ?_
  refine g_st (σ2 := (st σ 2 (dyL (σ 2) r x c x))) (by rw [show dyL (σ 2) r x c x = σ 2 from by funext z9; simp only [dyL]; (repeat' split) <;> first | rfl | omega | (congr 1; omega)]; exact (st_id σ 2).symm) ?_
  have lp6 : ∀ (k9 : Nat) (acc : Int) (k : Int), (y + 1 - k).toNat < k9 → (x ≤ k ∧ k ≤ y + 1) → (sI (dyI (σ 2) r c) x (y + 1) = acc + sI (dyI (σ 2) r c) k (y + 1)) → GG p_ l e_ rm_X3_paint s_ m_ a_ b_ h_ c_ Q E A 7 (st σ 2 (dyL (σ 2) r x c k)) 0 0 6 [(0, .ref (ea E 1)), (1, .int (iI r)), (2, .int (iI x)), (3, .int (iI y)), (4, .int (iI c)), (5, .int (iI acc)), (6, .int (iI k))] [] := by
    intro k9
    induction k9 with
    | zero => intro acc k hk9; omega
    | succ k9 ih6 =>
      intro acc k hk9 hk hR
      refine g_iload C dX3_paint_6 6 rfl (q := 8) rfl ?_
      refine g_iload_n C dX3_paint_8 3 rfl rfl (q := 9) rfl ?_
      refine g_icmp_gt C dX3_paint_9 (by omega) (q2 := 53) rfl (q := 12) rfl (fun hb1 => ?_) (fun hb1 => ?_)
      · skip
        refine g_iload C dX3_paint_53 5 rfl (q := 55) rfl ?_
        refine g_st (σ2 := (st σ 2 (dyL (σ 2) r x c (y + 1)))) (by rw [show k = y + 1 by omega]) ?_
        exact hret _ _ _ dX3_paint_55 (by rw [hR, sI_nil (by omega)]; omega)
      · skip
        have hs := (hW r hr).2 k (by omega)
        have he : dyL (σ 2) r x c k (r * 60 + k) = σ 2 (r * 60 + k) := if_neg (by omega)
        refine g_aload_n C dX3_paint_12 0 rfl rfl (q := 13) rfl ?_
        refine g_iload_n C dX3_paint_13 1 rfl rfl (q := 14) rfl ?_
        refine g_iload C dX3_paint_14 6 rfl (q := 16) rfl ?_
        refine g_cV_i C (As := [.int (iI r), .int (iI k)]) (c_X3_colourAt l E _ r k  (by omega) (by omega) (by show 0 ≤ dyL (σ 2) r x c k (r * 60 + k) ∧ dyL (σ 2) r x c k (r * 60 + k) < 800; rw [he]; omega)) ml_X3_37 mf_X3_colourAt (o := 1) (ci := 3) rfl rfl rfl rfl ⟨(Nat.le_of_ble_eq_true rfl), (Nat.le_of_ble_eq_true rfl)⟩ rfl rfl rfl (Nat.le_of_ble_eq_true rfl) ⟨(Nat.le_of_ble_eq_true rfl), (Nat.le_of_ble_eq_true rfl)⟩ dX3_paint_16 (q := 19) rfl ?_
        refine g_top (b := (dyL (σ 2) r x c k) (r * 60 + k) % 8) rfl ?_
        refine g_top (b := σ 2 (r * 60 + k) % 8) (by rw [he]) ?_
        refine g_iload C dX3_paint_19 4 rfl (q := 21) rfl ?_
        refine g_icmp_eq C dX3_paint_21 (by omega) (q2 := 27) rfl (q := 24) rfl (fun hb2 => ?_) (fun hb2 => ?_)
        · skip
          refine g_aload_n C dX3_paint_27 0 rfl rfl (q := 28) rfl ?_
          refine g_iload_n C dX3_paint_28 1 rfl rfl (q := 29) rfl ?_
          refine g_iload C dX3_paint_29 6 rfl (q := 31) rfl ?_
          refine g_aload_n C dX3_paint_31 0 rfl rfl (q := 32) rfl ?_
          refine g_iload_n C dX3_paint_32 1 rfl rfl (q := 33) rfl ?_
          refine g_iload C dX3_paint_33 6 rfl (q := 35) rfl ?_
          refine g_cV_i C (As := [.int (iI r), .int (iI k)]) (c_X3_lengthAt l E _ r k  (by omega) (by omega) (by show 0 ≤ dyL (σ 2) r x c k (r * 60 + k) ∧ dyL (σ 2) r x c k (r * 60 + k) < 800; rw [he]; omega)) ml_X3_47 mf_X3_lengthAt (o := 1) (ci := 3) rfl rfl rfl rfl ⟨(Nat.le_of_ble_eq_true rfl), (Nat.le_of_ble_eq_true rfl)⟩ rfl rfl rfl (Nat.le_of_ble_eq_true rfl) ⟨(Nat.le_of_ble_eq_true rfl), (Nat.le_of_ble_eq_true rfl)⟩ dX3_paint_35 (q := 38) rfl ?_
          refine g_top (b := (dyL (σ 2) r x c k) (r * 60 + k) / 8) rfl ?_
          refine g_top (b := σ 2 (r * 60 + k) / 8) (by rw [he]) ?_
          refine g_bipush C dX3_paint_38 (by decide) (q := 40) rfl ?_
          refine g_imul C dX3_paint_40 (q := 41) rfl ?_
          refine g_iload C dX3_paint_41 4 rfl (q := 43) rfl ?_
          refine g_iadd C dX3_paint_43 (q := 44) rfl ?_
          refine g_cV_v C (As := [.int (iI r), .int (iI k), .int (iI ((σ 2 (r * 60 + k) / 8) * 8 + c))]) (c_X3_setSegment l E _ r k ((σ 2 (r * 60 + k) / 8) * 8 + c)  (by omega) (by omega)) ml_X3_40 mf_X3_setSegment (o := 1) (ci := 3) rfl rfl rfl rfl ⟨(Nat.le_of_ble_eq_true rfl), (Nat.le_of_ble_eq_true rfl)⟩ rfl rfl rfl (Nat.le_of_ble_eq_true rfl) ⟨(Nat.le_of_ble_eq_true rfl), (Nat.le_of_ble_eq_true rfl)⟩ dX3_paint_44 (q := 47) rfl ?_
          refine g_st (σ2 := (st σ 2 (pt (dyL (σ 2) r x c k) (r * 60 + k) ((σ 2 (r * 60 + k) / 8) * 8 + c)))) (st_st _ _ _ _) ?_
          refine g_iinc C (L' := [(6, .int (iI (k + 1))), (0, .ref (ea E 1)), (1, .int (iI r)), (2, .int (iI x)), (3, .int (iI y)), (4, .int (iI c)), (5, .int (iI acc))]) dX3_paint_47 6 rfl (by decide) rfl (q := 50) rfl ?_
          refine g_goto C dX3_paint_50 (q := 6) rfl ?_
          refine g_sub [1, 2, 3, 4, 5, 6, 0] (L' := [(0, .ref (ea E 1)), (1, .int (iI r)), (2, .int (iI x)), (3, .int (iI y)), (4, .int (iI c)), (5, .int (iI acc)), (6, .int (iI (k + 1)))]) rfl ?_
          refine g_st (σ2 := (st σ 2 (dyL (σ 2) r x c (k + 1)))) (congrArg (st _ 2) (by funext z9; simp only [pt, dyL]; (repeat' split) <;> first | rfl | omega | (rw [show z9 = r * 60 + k by omega]))) ?_
          exact ih6 acc (k + 1) (by omega) (by omega) (by first | (rw [hR, sI_cons (by omega), show dyI (σ 2) r c k = 1 from if_neg (by omega)]; omega) | (rw [hR, sI_cons (by omega), show dyI (σ 2) r c k = 0 from if_pos (by omega)]; omega))
        · skip
          refine g_iinc C (L' := [(5, .int (iI (acc + 1))), (0, .ref (ea E 1)), (1, .int (iI r)), (2, .int (iI x)), (3, .int (iI y)), (4, .int (iI c)), (6, .int (iI k))]) dX3_paint_24 5 rfl (by decide) rfl (q := 27) rfl ?_
          refine g_aload_n C dX3_paint_27 1 rfl rfl (q := 28) rfl ?_
          refine g_iload_n C dX3_paint_28 2 rfl rfl (q := 29) rfl ?_
          refine g_iload C dX3_paint_29 6 rfl (q := 31) rfl ?_
          refine g_aload_n C dX3_paint_31 1 rfl rfl (q := 32) rfl ?_
          refine g_iload_n C dX3_paint_32 2 rfl rfl (q := 33) rfl ?_
          refine g_iload C dX3_paint_33 6 rfl (q := 35) rfl ?_
          refine g_cV_i C (As := [.int (iI r), .int (iI k)]) (c_X3_lengthAt l E _ r k  (by omega) (by omega) (by show 0 ≤ dyL (σ 2) r x c k (r * 60 + k) ∧ dyL (σ 2) r x c k (r * 60 + k) < 800; rw [he]; omega)) ml_X3_47 mf_X3_lengthAt (o := 1) (ci := 3) rfl rfl rfl rfl ⟨(Nat.le_of_ble_eq_true rfl), (Nat.le_of_ble_eq_true rfl)⟩ rfl rfl rfl (Nat.le_of_ble_eq_true rfl) ⟨(Nat.le_of_ble_eq_true rfl), (Nat.le_of_ble_eq_true rfl)⟩ dX3_paint_35 (q := 38) rfl ?_
          refine g_top (b := (dyL (σ 2) r x c k) (r * 60 + k) / 8) rfl ?_
          refine g_top (b := σ 2 (r * 60 + k) / 8) (by rw [he]) ?_
          refine g_bipush C dX3_paint_38 (by decide) (q := 40) rfl ?_
          refine g_imul C dX3_paint_40 (q := 41) rfl ?_
          refine g_iload C dX3_paint_41 5 rfl (q := 43) rfl ?_
          refine g_iadd C dX3_paint_43 (q := 44) rfl ?_
          refine g_cV_v C (As := [.int (iI r), .int (iI k), .int (iI ((σ 2 (r * 60 + k) / 8) * 8 + c))]) (c_X3_setSegment l E _ r k ((σ 2 (r * 60 + k) / 8) * 8 + c)  (by omega) (by omega)) ml_X3_40 mf_X3_setSegment (o := 1) (ci := 3) rfl rfl rfl rfl ⟨(Nat.le_of_ble_eq_true rfl), (Nat.le_of_ble_eq_true rfl)⟩ rfl rfl rfl (Nat.le_of_ble_eq_true rfl) ⟨(Nat.le_of_ble_eq_true rfl), (Nat.le_of_ble_eq_true rfl)⟩ dX3_paint_44 (q := 47) rfl ?_
          refine g_st (σ2 := (st σ 2 (pt (dyL (σ 2) r x c k) (r * 60 + k) ((σ 2 (r * 60 + k) / 8) * 8 + c)))) (st_st _ _ _ _) ?_
          refine g_iinc C (L' := [(6, .int (iI (k + 1))), (5, .int (iI (acc + 1))), (0, .ref (ea E 1)), (1, .int (iI r)), (2, .int (iI x)), (3, .int (iI y)), (4, .int (iI c))]) dX3_paint_47 6 rfl (by decide) rfl (q := 50) rfl ?_
          refine g_goto C dX3_paint_50 (q := 6) rfl ?_
          refine g_sub [2, 3, 4, 5, 6, 1, 0] (L' := [(0, .ref (ea E 1)), (1, .int (iI r)), (2, .int (iI x)), (3, .int (iI y)), (4, .int (iI c)), (5, .int (iI (acc + 1))), (6, .int (iI (k + 1)))]) rfl ?_
          refine g_st (σ2 := (st σ 2 (dyL (σ 2) r x c (k + 1)))) (congrArg (st _ 2) (by funext z9; simp only [pt, dyL]; (repeat' split) <;> first | rfl | omega | (rw [show z9 = r * 60 + k by omega]))) ?_
          exact ih6 (acc + 1) (k + 1) (by omega) (by omega) (by first | (rw [hR, sI_cons (by omega), show dyI (σ 2) r c k = 1 from if_neg (by omega)]; omega) | (rw [hR, sI_cons (by omega), show dyI (σ 2) r c k = 0 from if_pos (by omega)]; omega))
  exact lp6 _ 0 x (Nat.lt_succ_self _) (by omega) (by omega)
abbrev rm_X3_refreshPart : Room := { frames := 4, cells := 0, slots := 0, locals := 90 }
set_option maxRecDepth 100000 in
set_option maxHeartbeats 4000000 in
theorem c_X3_refreshPart (l : Launch) (E : EV) (σ : SS) (r k : Int) (hr : 0 ≤ r ∧ r < 4) (hk : 0 ≤ k ∧ k < 8) (hW : CW (σ 2)) : Kv l yX3_refreshPart (cw yX3_refreshPart cX3_refreshPart 7 none) rm_X3_refreshPart E [.ref (ea E 1), .int (iI r), .int (iI k)] σ (st σ 2 (pt (pt (σ 2) (244 + r * 8 + k) (sI (lgs (σ 2) r) (k * 8) (min (k * 8 + 8) ((σ 2) (240 + r)) - 1 + 1))) (276 + r * 8 + k) (sI (tg (σ 2) r) (k * 8) (min (k * 8 + 8) ((σ 2) (240 + r)) - 1)))) := by
  refine Kv_of (rm := rm_X3_refreshPart) (mL := 7) (b := cX3_refreshPart) RX3 rfl (by decide +kernel) rfl rfl [(0, .ref (ea E 1)), (1, .int (iI r)), (2, .int (iI k))] rfl (Nat.le_of_ble_eq_true rfl) (fun p_ e_ s_ m_ a_ b_ h_ c_ Q A C hret => ?_)
  have hn := (hW r hr).1
  refine g_iload_n C dX3_refreshPart_0 2 rfl rfl (q := 1) rfl ?_
  refine g_bipush C dX3_refreshPart_1 (by decide) (q := 3) rfl ?_
  refine g_imul C dX3_refreshPart_3 (q := 4) rfl ?_
  refine g_istore_n C (L' := [(3, .int (iI (k * 8))), (0, .ref (ea E 1)), (1, .int (iI r)), (2, .int (iI k))]) dX3_refreshPart_4 rfl (by decide) rfl (q := 5) rfl ?_
  refine g_iload_n C dX3_refreshPart_5 0 rfl rfl (q := 6) rfl ?_
  refine g_bipush C dX3_refreshPart_6 (by decide) (q := 8) rfl ?_
  refine g_iadd C dX3_refreshPart_8 (q := 9) rfl ?_
  refine g_aload_n C dX3_refreshPart_9 1 rfl rfl (q := 10) rfl ?_
  refine g_iload_n C dX3_refreshPart_10 2 rfl rfl (q := 11) rfl ?_
  refine g_cV_i C (As := [.int (iI r)]) (c_X3_countOf l E _ r  (by omega)) ml_X3_27 mf_X3_countOf (o := 1) (ci := 3) rfl rfl rfl rfl ⟨(Nat.le_of_ble_eq_true rfl), (Nat.le_of_ble_eq_true rfl)⟩ rfl rfl rfl (Nat.le_of_ble_eq_true rfl) ⟨(Nat.le_of_ble_eq_true rfl), (Nat.le_of_ble_eq_true rfl)⟩ dX3_refreshPart_11 (q := 14) rfl ?_
  refine g_min C ml_X3_64 (by omega) dX3_refreshPart_14 (Nat.le_of_ble_eq_true rfl) (Nat.le_of_ble_eq_true rfl) (Nat.le_of_ble_eq_true rfl) (Nat.le_of_ble_eq_true rfl) (q := 17) rfl ?_
  refine g_iconst C dX3_refreshPart_17 (q := 18) rfl ?_
  refine g_isub C dX3_refreshPart_18 (q := 19) rfl ?_
  refine g_istore C (L' := [(4, .int (iI (min (k * 8 + 8) ((σ 2) (240 + r)) - 1))), (3, .int (iI (k * 8))), (0, .ref (ea E 1)), (1, .int (iI r)), (2, .int (iI k))]) dX3_refreshPart_19 (by decide) rfl (q := 21) rfl ?_
  refine g_iconst C dX3_refreshPart_21 (q := 22) rfl ?_
  refine g_istore C (L' := [(5, .int (iI 0)), (4, .int (iI (min (k * 8 + 8) ((σ 2) (240 + r)) - 1))), (3, .int (iI (k * 8))), (0, .ref (ea E 1)), (1, .int (iI r)), (2, .int (iI k))]) dX3_refreshPart_22 (by decide) rfl (q := 24) rfl ?_
  refine g_iload_n C dX3_refreshPart_24 2 rfl rfl (q := 25) rfl ?_
  refine g_istore C (L' := [(6, .int (iI (k * 8))), (5, .int (iI 0)), (4, .int (iI (min (k * 8 + 8) ((σ 2) (240 + r)) - 1))), (3, .int (iI (k * 8))), (0, .ref (ea E 1)), (1, .int (iI r)), (2, .int (iI k))]) dX3_refreshPart_25 (by decide) rfl (q := 27) rfl ?_
  refine g_sub [4, 5, 6, 3, 2, 1, 0] (L' := [(0, .ref (ea E 1)), (1, .int (iI r)), (2, .int (iI k)), (3, .int (iI (k * 8))), (4, .int (iI (min (k * 8 + 8) ((σ 2) (240 + r)) - 1))), (5, .int (iI 0)), (6, .int (iI (k * 8)))]) rfl ?_
  have lp27 : ∀ (k9 : Nat) (acc : Int) (i : Int), (min (k * 8 + 8) ((σ 2) (240 + r)) - 1 - i).toNat < k9 → (0 ≤ i ∧ i ≤ 61) → (sI (tg (σ 2) r) (k * 8) (min (k * 8 + 8) ((σ 2) (240 + r)) - 1) = acc + sI (tg (σ 2) r) i (min (k * 8 + 8) ((σ 2) (240 + r)) - 1)) → GG p_ l e_ rm_X3_refreshPart s_ m_ a_ b_ h_ c_ Q E A 7 σ 0 0 27 [(0, .ref (ea E 1)), (1, .int (iI r)), (2, .int (iI k)), (3, .int (iI (k * 8))), (4, .int (iI (min (k * 8 + 8) ((σ 2) (240 + r)) - 1))), (5, .int (iI acc)), (6, .int (iI i))] [] := by
    intro k9
    induction k9 with
    | zero => intro acc i hk9; omega
    | succ k9 ih27 =>
      intro acc i hk9 hi hR
      refine g_iload C dX3_refreshPart_27 6 rfl (q := 29) rfl ?_
      refine g_iload C dX3_refreshPart_29 4 rfl (q := 31) rfl ?_
      refine g_icmp_ge C dX3_refreshPart_31 (by omega) (q2 := 53) rfl (q := 34) rfl (fun hb1 => ?_) (fun hb1 => ?_)
      · skip
        have hR2 : sI (tg (σ 2) r) (k * 8) (min (k * 8 + 8) ((σ 2) (240 + r)) - 1) = acc := by rw [hR, sI_nil (by omega)]; omega
        refine g_aload_n C dX3_refreshPart_53 0 rfl rfl (q := 54) rfl ?_
        refine g_sipush C dX3_refreshPart_54 (by decide) (q := 57) rfl ?_
        refine g_iload_n C dX3_refreshPart_57 1 rfl rfl (q := 58) rfl ?_
        refine g_bipush C dX3_refreshPart_58 (by decide) (q := 60) rfl ?_
        refine g_imul C dX3_refreshPart_60 (q := 61) rfl ?_
        refine g_iadd C dX3_refreshPart_61 (q := 62) rfl ?_
        refine g_iload_n C dX3_refreshPart_62 2 rfl rfl (q := 63) rfl ?_
        refine g_iadd C dX3_refreshPart_63 (q := 64) rfl ?_
        refine g_aload_n C dX3_refreshPart_64 0 rfl rfl (q := 65) rfl ?_
        refine g_iload_n C dX3_refreshPart_65 1 rfl rfl (q := 66) rfl ?_
        refine g_iload_n C dX3_refreshPart_66 3 rfl rfl (q := 67) rfl ?_
        refine g_iload C dX3_refreshPart_67 4 rfl (q := 69) rfl ?_
        refine g_cV_i C (As := [.int (iI r), .int (iI (k * 8)), .int (iI (min (k * 8 + 8) ((σ 2) (240 + r)) - 1))]) (c_X3_sumOfRange l E _ r (k * 8) (min (k * 8 + 8) ((σ 2) (240 + r)) - 1)  (by omega) (by omega) (by omega) (by assumption)) ml_X3_57 mf_X3_sumOfRange (o := 1) (ci := 3) rfl rfl rfl rfl ⟨(Nat.le_of_ble_eq_true rfl), (Nat.le_of_ble_eq_true rfl)⟩ rfl rfl rfl (Nat.le_of_ble_eq_true rfl) ⟨(Nat.le_of_ble_eq_true rfl), (Nat.le_of_ble_eq_true rfl)⟩ dX3_refreshPart_69 (q := 72) rfl ?_
        refine g_cV_v C (As := [.int (iI (244 + (r * 8) + k)), .int (iI (sI (lgs (σ 2) r) (k * 8) ((min (k * 8 + 8) ((σ 2) (240 + r)) - 1) + 1)))]) (c_X3_setCell l E _ (244 + (r * 8) + k) (sI (lgs (σ 2) r) (k * 8) ((min (k * 8 + 8) ((σ 2) (240 + r)) - 1) + 1))  (by omega)) ml_X3_23 mf_X3_setCell (o := 1) (ci := 3) rfl rfl rfl rfl ⟨(Nat.le_of_ble_eq_true rfl), (Nat.le_of_ble_eq_true rfl)⟩ rfl rfl rfl (Nat.le_of_ble_eq_true rfl) ⟨(Nat.le_of_ble_eq_true rfl), (Nat.le_of_ble_eq_true rfl)⟩ dX3_refreshPart_72 (q := 75) rfl ?_
        refine g_aload_n C dX3_refreshPart_75 0 rfl rfl (q := 76) rfl ?_
        refine g_sipush C dX3_refreshPart_76 (by decide) (q := 79) rfl ?_
        refine g_iload_n C dX3_refreshPart_79 1 rfl rfl (q := 80) rfl ?_
        refine g_bipush C dX3_refreshPart_80 (by decide) (q := 82) rfl ?_
        refine g_imul C dX3_refreshPart_82 (q := 83) rfl ?_
        refine g_iadd C dX3_refreshPart_83 (q := 84) rfl ?_
        refine g_iload_n C dX3_refreshPart_84 2 rfl rfl (q := 85) rfl ?_
        refine g_iadd C dX3_refreshPart_85 (q := 86) rfl ?_
        refine g_iload C dX3_refreshPart_86 5 rfl (q := 88) rfl ?_
        refine g_cV_v C (As := [.int (iI (276 + (r * 8) + k)), .int (iI acc)]) (c_X3_setCell l E _ (276 + (r * 8) + k) acc  (by omega)) ml_X3_23 mf_X3_setCell (o := 1) (ci := 3) rfl rfl rfl rfl ⟨(Nat.le_of_ble_eq_true rfl), (Nat.le_of_ble_eq_true rfl)⟩ rfl rfl rfl (Nat.le_of_ble_eq_true rfl) ⟨(Nat.le_of_ble_eq_true rfl), (Nat.le_of_ble_eq_true rfl)⟩ dX3_refreshPart_88 (q := 91) rfl ?_
        refine g_st (σ2 := (st σ 2 (pt (pt (σ 2) (244 + (r * 8) + k) (sI (lgs (σ 2) r) (k * 8) ((min (k * 8 + 8) ((σ 2) (240 + r)) - 1) + 1))) (276 + (r * 8) + k) acc))) (st_st _ _ _ _) ?_
        refine g_st (σ2 := (st σ 2 (pt (pt (σ 2) (244 + r * 8 + k) (sI (lgs (σ 2) r) (k * 8) (min (k * 8 + 8) ((σ 2) (240 + r)) - 1 + 1))) (276 + r * 8 + k) (sI (tg (σ 2) r) (k * 8) (min (k * 8 + 8) ((σ 2) (240 + r)) - 1))))) (by rw [hR2]) ?_
        exact hret _ _ dX3_refreshPart_91
      · skip
        refine g_aload_n C dX3_refreshPart_34 0 rfl rfl (q := 35) rfl ?_
        refine g_iload_n C dX3_refreshPart_35 1 rfl rfl (q := 36) rfl ?_
        refine g_iload C dX3_refreshPart_36 6 rfl (q := 38) rfl ?_
        refine g_cV_i C (As := [.int (iI r), .int (iI i)]) (c_X3_areTangled l E _ r i  (by omega) (by omega) (by assumption)) ml_X3_69 mf_X3_areTangled (o := 1) (ci := 3) rfl rfl rfl rfl ⟨(Nat.le_of_ble_eq_true rfl), (Nat.le_of_ble_eq_true rfl)⟩ rfl rfl rfl (Nat.le_of_ble_eq_true rfl) ⟨(Nat.le_of_ble_eq_true rfl), (Nat.le_of_ble_eq_true rfl)⟩ dX3_refreshPart_38 (q := 41) rfl ?_
        have ht := tg_01 (σ 2) r i
        refine g_if_eq C dX3_refreshPart_41 (by omega) (q2 := 47) rfl (q := 44) rfl (fun hb2 => ?_) (fun hb2 => ?_)
        · skip
          refine g_iinc C (L' := [(6, .int (iI (i + 1))), (0, .ref (ea E 1)), (1, .int (iI r)), (2, .int (iI k)), (3, .int (iI (k * 8))), (4, .int (iI (min (k * 8 + 8) ((σ 2) (240 + r)) - 1))), (5, .int (iI acc))]) dX3_refreshPart_47 6 rfl (by decide) rfl (q := 50) rfl ?_
          refine g_goto C dX3_refreshPart_50 (q := 27) rfl ?_
          refine g_sub [1, 2, 3, 4, 5, 6, 0] (L' := [(0, .ref (ea E 1)), (1, .int (iI r)), (2, .int (iI k)), (3, .int (iI (k * 8))), (4, .int (iI (min (k * 8 + 8) ((σ 2) (240 + r)) - 1))), (5, .int (iI acc)), (6, .int (iI (i + 1)))]) rfl ?_
          exact ih27 acc (i + 1) (by omega) (by omega) (by rw [hR, sI_cons (by omega)]; omega)
        · skip
          refine g_iinc C (L' := [(5, .int (iI (acc + 1))), (0, .ref (ea E 1)), (1, .int (iI r)), (2, .int (iI k)), (3, .int (iI (k * 8))), (4, .int (iI (min (k * 8 + 8) ((σ 2) (240 + r)) - 1))), (6, .int (iI i))]) dX3_refreshPart_44 5 rfl (by decide) rfl (q := 47) rfl ?_
          refine g_iinc C (L' := [(6, .int (iI (i + 1))), (5, .int (iI (acc + 1))), (0, .ref (ea E 1)), (1, .int (iI r)), (2, .int (iI k)), (3, .int (iI (k * 8))), (4, .int (iI (min (k * 8 + 8) ((σ 2) (240 + r)) - 1)))]) dX3_refreshPart_47 6 rfl (by decide) rfl (q := 50) rfl ?_
          refine g_goto C dX3_refreshPart_50 (q := 27) rfl ?_
          refine g_sub [2, 3, 4, 5, 6, 1, 0] (L' := [(0, .ref (ea E 1)), (1, .int (iI r)), (2, .int (iI k)), (3, .int (iI (k * 8))), (4, .int (iI (min (k * 8 + 8) ((σ 2) (240 + r)) - 1))), (5, .int (iI (acc + 1))), (6, .int (iI (i + 1)))]) rfl ?_
          exact ih27 (acc + 1) (i + 1) (by omega) (by omega) (by rw [hR, sI_cons (by omega)]; omega)
  exact lp27 _ 0 (k * 8) (Nat.lt_succ_self _) (by omega) (by omega)
abbrev rm_X3_refreshParts : Room := { frames := 5, cells := 0, slots := 0, locals := 116 }
set_option maxRecDepth 100000 in
set_option maxHeartbeats 4000000 in
theorem c_X3_refreshParts (l : Launch) (E : EV) (σ : SS) (hW : CW (σ 2)) : Kv l yX3_refreshParts (cw yX3_refreshParts cX3_refreshParts 3 none) rm_X3_refreshParts E [.ref (ea E 1)] σ (st σ 2 (refU (σ 2) 32)) := by
  refine Kv_of (rm := rm_X3_refreshParts) (mL := 3) (b := cX3_refreshParts) RX3 rfl (by decide +kernel) rfl rfl [(0, .ref (ea E 1))] rfl (Nat.le_of_ble_eq_true rfl) (fun p_ e_ s_ m_ a_ b_ h_ c_ Q A C hret => ?_)
  refine g_iconst C dX3_refreshParts_0 (q := 1) rfl ?_
  refine g_istore_n C (L' := [(1, .int (iI 0)), (0, .ref (ea E 1))]) dX3_refreshParts_1 rfl (by decide) rfl (q := 2) rfl ?_
  refine g_sub [1, 0] (L' := [(0, .ref (ea E 1)), (1, .int (iI 0))]) rfl ?_
  refine g_st (σ2 := (st σ 2 (refU (σ 2) (0 * 8)))) (by rw [show refU (σ 2) (0 * 8) = σ 2 from by funext z9; simp only [refU]; (repeat' split) <;> first | rfl | omega | (congr 1; omega)]; exact (st_id σ 2).symm) ?_
  have lp2 : ∀ (k9 : Nat) (i : Int), (4 - i).toNat < k9 → (0 ≤ i ∧ i ≤ 4) → GG p_ l e_ rm_X3_refreshParts s_ m_ a_ b_ h_ c_ Q E A 3 (st σ 2 (refU (σ 2) (i * 8))) 0 0 2 [(0, .ref (ea E 1)), (1, .int (iI i))] [] := by
    intro k9
    induction k9 with
    | zero => intro i hk9; omega
    | succ k9 ih2 =>
      intro i hk9 hi
      refine g_iload_n C dX3_refreshParts_2 1 rfl rfl (q := 3) rfl ?_
      refine g_iconst C dX3_refreshParts_3 (q := 4) rfl ?_
      refine g_icmp_ge C dX3_refreshParts_4 (by omega) (q2 := 33) rfl (q := 7) rfl (fun hb1 => ?_) (fun hb1 => ?_)
      · skip
        refine g_st (σ2 := (st σ 2 (refU (σ 2) 32))) (by rw [show i * 8 = 32 by omega]) ?_
        exact hret _ _ dX3_refreshParts_33
      · skip
        refine g_iconst C dX3_refreshParts_7 (q := 8) rfl ?_
        refine g_istore_n C (L' := [(2, .int (iI 0)), (0, .ref (ea E 1)), (1, .int (iI i))]) dX3_refreshParts_8 rfl (by decide) rfl (q := 9) rfl ?_
        refine g_sub [1, 2, 0] (L' := [(0, .ref (ea E 1)), (1, .int (iI i)), (2, .int (iI 0))]) rfl ?_
        refine g_st (σ2 := (st σ 2 (refU (σ 2) (i * 8 + 0)))) (by rw [show i * 8 + 0 = i * 8 by omega]) ?_
        have lp9 : ∀ (k9 : Nat) (j : Int), (8 - j).toNat < k9 → (0 ≤ j ∧ j ≤ 8) → GG p_ l e_ rm_X3_refreshParts s_ m_ a_ b_ h_ c_ Q E A 3 (st σ 2 (refU (σ 2) (i * 8 + j))) 0 0 9 [(0, .ref (ea E 1)), (1, .int (iI i)), (2, .int (iI j))] [] := by
          intro k9
          induction k9 with
          | zero => intro j hk9; omega
          | succ k9 ih9 =>
            intro j hk9 hj
            refine g_iload_n C dX3_refreshParts_9 2 rfl rfl (q := 10) rfl ?_
            refine g_bipush C dX3_refreshParts_10 (by decide) (q := 12) rfl ?_
            refine g_icmp_ge C dX3_refreshParts_12 (by omega) (q2 := 27) rfl (q := 15) rfl (fun hb2 => ?_) (fun hb2 => ?_)
            · skip
              refine g_iinc C (L' := [(1, .int (iI (i + 1))), (0, .ref (ea E 1)), (2, .int (iI j))]) dX3_refreshParts_27 1 rfl (by decide) rfl (q := 30) rfl ?_
              refine g_goto C dX3_refreshParts_30 (q := 2) rfl ?_
              refine g_sub [1, 0] (L' := [(0, .ref (ea E 1)), (1, .int (iI (i + 1)))]) rfl ?_
              refine g_st (σ2 := (st σ 2 (refU (σ 2) ((i + 1) * 8)))) (by rw [show (i + 1) * 8 = i * 8 + j by omega]) ?_
              exact ih2 (i + 1) (by omega) (by omega)
            · skip
              refine g_aload_n C dX3_refreshParts_15 0 rfl rfl (q := 16) rfl ?_
              refine g_iload_n C dX3_refreshParts_16 1 rfl rfl (q := 17) rfl ?_
              refine g_iload_n C dX3_refreshParts_17 2 rfl rfl (q := 18) rfl ?_
              refine g_cV_v C (As := [.int (iI i), .int (iI j)]) (c_X3_refreshPart l E _ i j  (by omega) (by omega) (by exact CW_refU hW (by omega))) ml_X3_61 mf_X3_refreshPart (o := 1) (ci := 3) rfl rfl rfl rfl ⟨(Nat.le_of_ble_eq_true rfl), (Nat.le_of_ble_eq_true rfl)⟩ rfl rfl rfl (Nat.le_of_ble_eq_true rfl) ⟨(Nat.le_of_ble_eq_true rfl), (Nat.le_of_ble_eq_true rfl)⟩ dX3_refreshParts_18 (q := 21) rfl ?_
              refine g_st (σ2 := (st σ 2 (pt (pt (refU (σ 2) (i * 8 + j)) (244 + i * 8 + j) (sI (lgs (refU (σ 2) (i * 8 + j)) i) (j * 8) (min (j * 8 + 8) ((refU (σ 2) (i * 8 + j)) (240 + i)) - 1 + 1))) (276 + i * 8 + j) (sI (tg (refU (σ 2) (i * 8 + j)) i) (j * 8) (min (j * 8 + 8) ((refU (σ 2) (i * 8 + j)) (240 + i)) - 1))))) (st_st _ _ _ _) ?_
              refine g_iinc C (L' := [(2, .int (iI (j + 1))), (0, .ref (ea E 1)), (1, .int (iI i))]) dX3_refreshParts_21 2 rfl (by decide) rfl (q := 24) rfl ?_
              refine g_goto C dX3_refreshParts_24 (q := 9) rfl ?_
              refine g_sub [1, 2, 0] (L' := [(0, .ref (ea E 1)), (1, .int (iI i)), (2, .int (iI (j + 1)))]) rfl ?_
              refine g_st (σ2 := (st σ 2 (refU (σ 2) (i * 8 + (j + 1))))) (congrArg (st _ 2) (refU_step hW ⟨hi.1, by omega⟩ ⟨hj.1, by omega⟩)) ?_
              exact ih9 (j + 1) (by omega) (by omega)
        exact lp9 _ 0 (Nat.lt_succ_self _) (by omega)
  exact lp2 _ 0 (Nat.lt_succ_self _) (by omega)
