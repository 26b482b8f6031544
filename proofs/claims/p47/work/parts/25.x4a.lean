abbrev rm_X4_hasRowAt : Room := { frames := 0, cells := 0, slots := 0, locals := 0 }
set_option maxRecDepth 100000 in
set_option maxHeartbeats 4000000 in
theorem c_X4_hasRowAt_o2 (l : Launch) (E : EV) (σ : SS) (x : Int) (h : 0 ≤ x ∧ x ≤ 0) : Ki l yX4_hasRowAt (cw yX4_hasRowAt cX4_hasRowAt 2 (some .boolean)) rm_X4_hasRowAt E [.ref (ea E 2), .int (iI x)] σ 1 σ := by
  refine Kz_of (rm := rm_X4_hasRowAt) (mL := 2) (b := cX4_hasRowAt) RX4 rfl (by decide +kernel) rfl rfl [(0, .ref (ea E 2)), (1, .int (iI x))] rfl (Nat.le_of_ble_eq_true rfl) (fun p_ e_ s_ m_ a_ b_ h_ c_ Q A C hret => ?_)
  refine g_iload_n C dX4_hasRowAt_0 1 rfl rfl (q := 1) rfl ?_
  refine g_if_lt C dX4_hasRowAt_1 (by omega) (q2 := 18) rfl (q := 4) rfl (fun hb1 => ?_) (fun hb1 => ?_)
  · skip
    refine g_iconst C dX4_hasRowAt_18 (q := 19) rfl ?_
    exact hret _ _ _ dX4_hasRowAt_19 (by omega) (by omega)
  · skip
    refine g_iload_n C dX4_hasRowAt_4 1 rfl rfl (q := 5) rfl ?_
    refine g_aload_n C dX4_hasRowAt_5 0 rfl rfl (q := 6) rfl ?_
    refine gn_2 C dX4_hasRowAt_6 (q := 7) rfl ?_
    refine g_sipush C dX4_hasRowAt_7 (by decide) (q := 10) rfl ?_
    refine g_isub C dX4_hasRowAt_10 (q := 11) rfl ?_
    refine g_top (b := 0) (by decide) ?_
    refine g_icmp_gt C dX4_hasRowAt_11 (by omega) (q2 := 18) rfl (q := 14) rfl (fun hb2 => ?_) (fun hb2 => ?_)
    · skip
      refine g_iconst C dX4_hasRowAt_18 (q := 19) rfl ?_
      exact hret _ _ _ dX4_hasRowAt_19 (by omega) (by omega)
    · skip
      refine g_iconst C dX4_hasRowAt_14 (q := 15) rfl ?_
      refine g_goto C dX4_hasRowAt_15 (q := 19) rfl ?_
      exact hret _ _ _ dX4_hasRowAt_19 (by omega) rfl
set_option maxRecDepth 100000 in
set_option maxHeartbeats 4000000 in
theorem c_X4_hasRowAt_o3 (l : Launch) (E : EV) (σ : SS) (x : Int) (h : 0 ≤ x ∧ x ≤ 0) : Ki l yX4_hasRowAt (cw yX4_hasRowAt cX4_hasRowAt 2 (some .boolean)) rm_X4_hasRowAt E [.ref (ea E 3), .int (iI x)] σ 1 σ := by
  refine Kz_of (rm := rm_X4_hasRowAt) (mL := 2) (b := cX4_hasRowAt) RX4 rfl (by decide +kernel) rfl rfl [(0, .ref (ea E 3)), (1, .int (iI x))] rfl (Nat.le_of_ble_eq_true rfl) (fun p_ e_ s_ m_ a_ b_ h_ c_ Q A C hret => ?_)
  refine g_iload_n C dX4_hasRowAt_0 1 rfl rfl (q := 1) rfl ?_
  refine g_if_lt C dX4_hasRowAt_1 (by omega) (q2 := 18) rfl (q := 4) rfl (fun hb1 => ?_) (fun hb1 => ?_)
  · skip
    refine g_iconst C dX4_hasRowAt_18 (q := 19) rfl ?_
    exact hret _ _ _ dX4_hasRowAt_19 (by omega) (by omega)
  · skip
    refine g_iload_n C dX4_hasRowAt_4 1 rfl rfl (q := 5) rfl ?_
    refine g_aload_n C dX4_hasRowAt_5 0 rfl rfl (q := 6) rfl ?_
    refine gn_3 C dX4_hasRowAt_6 (q := 7) rfl ?_
    refine g_sipush C dX4_hasRowAt_7 (by decide) (q := 10) rfl ?_
    refine g_isub C dX4_hasRowAt_10 (q := 11) rfl ?_
    refine g_top (b := 0) (by decide) ?_
    refine g_icmp_gt C dX4_hasRowAt_11 (by omega) (q2 := 18) rfl (q := 14) rfl (fun hb2 => ?_) (fun hb2 => ?_)
    · skip
      refine g_iconst C dX4_hasRowAt_18 (q := 19) rfl ?_
      exact hret _ _ _ dX4_hasRowAt_19 (by omega) (by omega)
    · skip
      refine g_iconst C dX4_hasRowAt_14 (q := 15) rfl ?_
      refine g_goto C dX4_hasRowAt_15 (q := 19) rfl ?_
      exact hret _ _ _ dX4_hasRowAt_19 (by omega) rfl
set_option maxRecDepth 100000 in
set_option maxHeartbeats 4000000 in
theorem c_X4_hasRowAt_o4 (l : Launch) (E : EV) (σ : SS) (x : Int) (h : 0 ≤ x ∧ x ≤ 0) : Ki l yX4_hasRowAt (cw yX4_hasRowAt cX4_hasRowAt 2 (some .boolean)) rm_X4_hasRowAt E [.ref (ea E 4), .int (iI x)] σ 1 σ := by
  refine Kz_of (rm := rm_X4_hasRowAt) (mL := 2) (b := cX4_hasRowAt) RX4 rfl (by decide +kernel) rfl rfl [(0, .ref (ea E 4)), (1, .int (iI x))] rfl (Nat.le_of_ble_eq_true rfl) (fun p_ e_ s_ m_ a_ b_ h_ c_ Q A C hret => ?_)
  refine g_iload_n C dX4_hasRowAt_0 1 rfl rfl (q := 1) rfl ?_
  refine g_if_lt C dX4_hasRowAt_1 (by omega) (q2 := 18) rfl (q := 4) rfl (fun hb1 => ?_) (fun hb1 => ?_)
  · skip
    refine g_iconst C dX4_hasRowAt_18 (q := 19) rfl ?_
    exact hret _ _ _ dX4_hasRowAt_19 (by omega) (by omega)
  · skip
    refine g_iload_n C dX4_hasRowAt_4 1 rfl rfl (q := 5) rfl ?_
    refine g_aload_n C dX4_hasRowAt_5 0 rfl rfl (q := 6) rfl ?_
    refine gn_4 C dX4_hasRowAt_6 (q := 7) rfl ?_
    refine g_sipush C dX4_hasRowAt_7 (by decide) (q := 10) rfl ?_
    refine g_isub C dX4_hasRowAt_10 (q := 11) rfl ?_
    refine g_top (b := 0) (by decide) ?_
    refine g_icmp_gt C dX4_hasRowAt_11 (by omega) (q2 := 18) rfl (q := 14) rfl (fun hb2 => ?_) (fun hb2 => ?_)
    · skip
      refine g_iconst C dX4_hasRowAt_18 (q := 19) rfl ?_
      exact hret _ _ _ dX4_hasRowAt_19 (by omega) (by omega)
    · skip
      refine g_iconst C dX4_hasRowAt_14 (q := 15) rfl ?_
      refine g_goto C dX4_hasRowAt_15 (q := 19) rfl ?_
      exact hret _ _ _ dX4_hasRowAt_19 (by omega) rfl
set_option maxRecDepth 100000 in
set_option maxHeartbeats 4000000 in
theorem c_X4_hasRowAt_o6 (l : Launch) (E : EV) (σ : SS) (x : Int) (h : 0 ≤ x ∧ x ≤ 2170) : Ki l yX4_hasRowAt (cw yX4_hasRowAt cX4_hasRowAt 2 (some .boolean)) rm_X4_hasRowAt E [.ref (ea E 6), .int (iI x)] σ 1 σ := by
  refine Kz_of (rm := rm_X4_hasRowAt) (mL := 2) (b := cX4_hasRowAt) RX4 rfl (by decide +kernel) rfl rfl [(0, .ref (ea E 6)), (1, .int (iI x))] rfl (Nat.le_of_ble_eq_true rfl) (fun p_ e_ s_ m_ a_ b_ h_ c_ Q A C hret => ?_)
  refine g_iload_n C dX4_hasRowAt_0 1 rfl rfl (q := 1) rfl ?_
  refine g_if_lt C dX4_hasRowAt_1 (by omega) (q2 := 18) rfl (q := 4) rfl (fun hb1 => ?_) (fun hb1 => ?_)
  · skip
    refine g_iconst C dX4_hasRowAt_18 (q := 19) rfl ?_
    exact hret _ _ _ dX4_hasRowAt_19 (by omega) (by omega)
  · skip
    refine g_iload_n C dX4_hasRowAt_4 1 rfl rfl (q := 5) rfl ?_
    refine g_aload_n C dX4_hasRowAt_5 0 rfl rfl (q := 6) rfl ?_
    refine gn_6 C dX4_hasRowAt_6 (q := 7) rfl ?_
    refine g_sipush C dX4_hasRowAt_7 (by decide) (q := 10) rfl ?_
    refine g_isub C dX4_hasRowAt_10 (q := 11) rfl ?_
    refine g_top (b := 2170) (by decide) ?_
    refine g_icmp_gt C dX4_hasRowAt_11 (by omega) (q2 := 18) rfl (q := 14) rfl (fun hb2 => ?_) (fun hb2 => ?_)
    · skip
      refine g_iconst C dX4_hasRowAt_18 (q := 19) rfl ?_
      exact hret _ _ _ dX4_hasRowAt_19 (by omega) (by omega)
    · skip
      refine g_iconst C dX4_hasRowAt_14 (q := 15) rfl ?_
      refine g_goto C dX4_hasRowAt_15 (q := 19) rfl ?_
      exact hret _ _ _ dX4_hasRowAt_19 (by omega) rfl
abbrev rm_X4_copyRow : Room := { frames := 1, cells := 0, slots := 0, locals := 80 }
set_option maxRecDepth 100000 in
set_option maxHeartbeats 4000000 in
theorem c_X4_copyRow_2_3 (l : Launch) (E : EV) (σ : SS) (x y : Int) (hx : 0 ≤ x ∧ x ≤ 0) (hy : 0 ≤ y ∧ y ≤ 0) : Kv l yX4_copyRow (cw yX4_copyRow cX4_copyRow 4 none) rm_X4_copyRow E [.ref (ea E 2), .int (iI x), .ref (ea E 3), .int (iI y)] σ (st σ 3 (cpf (σ 2) (σ 3) x y 310)) := by
  refine Kv_of (rm := rm_X4_copyRow) (mL := 4) (b := cX4_copyRow) RX4 rfl (by decide +kernel) rfl rfl [(0, .ref (ea E 2)), (1, .int (iI x)), (2, .ref (ea E 3)), (3, .int (iI y))] rfl (Nat.le_of_ble_eq_true rfl) (fun p_ e_ s_ m_ a_ b_ h_ c_ Q A C hret => ?_)
  refine g_aload_n C dX4_copyRow_0 0 rfl rfl (q := 1) rfl ?_
  refine g_iload_n C dX4_copyRow_1 1 rfl rfl (q := 2) rfl ?_
  refine g_cS_i C (As := [.ref (ea E 2), .int (iI x)]) (c_X4_hasRowAt_o2 l E _ x  (by omega)) ml_X4_323 mf_X4_hasRowAt rfl rfl ⟨(Nat.le_of_ble_eq_true rfl), (Nat.le_of_ble_eq_true rfl)⟩ rfl rfl rfl (Nat.le_of_ble_eq_true rfl) ⟨(Nat.le_of_ble_eq_true rfl), (Nat.le_of_ble_eq_true rfl)⟩ dX4_copyRow_2 (q := 5) rfl ?_
  refine g_if_eq C dX4_copyRow_5 (by omega) (q2 := 26) rfl (q := 8) rfl (fun hb1 => ?_) (fun hb1 => ?_)
  · skip
    exfalso; omega
  · skip
    refine g_aload_n C dX4_copyRow_8 2 rfl rfl (q := 9) rfl ?_
    refine g_iload_n C dX4_copyRow_9 3 rfl rfl (q := 10) rfl ?_
    refine g_cS_i C (As := [.ref (ea E 3), .int (iI y)]) (c_X4_hasRowAt_o3 l E _ y  (by omega)) ml_X4_323 mf_X4_hasRowAt rfl rfl ⟨(Nat.le_of_ble_eq_true rfl), (Nat.le_of_ble_eq_true rfl)⟩ rfl rfl rfl (Nat.le_of_ble_eq_true rfl) ⟨(Nat.le_of_ble_eq_true rfl), (Nat.le_of_ble_eq_true rfl)⟩ dX4_copyRow_10 (q := 13) rfl ?_
    refine g_if_eq C dX4_copyRow_13 (by omega) (q2 := 26) rfl (q := 16) rfl (fun hb2 => ?_) (fun hb2 => ?_)
    · skip
      exfalso; omega
    · skip
      refine g_aload_n C dX4_copyRow_16 0 rfl rfl (q := 17) rfl ?_
      refine g_iload_n C dX4_copyRow_17 1 rfl rfl (q := 18) rfl ?_
      refine g_aload_n C dX4_copyRow_18 2 rfl rfl (q := 19) rfl ?_
      refine g_iload_n C dX4_copyRow_19 3 rfl rfl (q := 20) rfl ?_
      refine g_sipush C dX4_copyRow_20 (by decide) (q := 23) rfl ?_
      refine gcp_2_3 C ml_X4_327 (by omega) dX4_copyRow_23 (Nat.le_of_ble_eq_true rfl) (Nat.le_of_ble_eq_true rfl) (q := 26) rfl ?_
      exact hret _ _ dX4_copyRow_26
set_option maxRecDepth 100000 in
set_option maxHeartbeats 4000000 in
theorem c_X4_copyRow_2_4 (l : Launch) (E : EV) (σ : SS) (x y : Int) (hx : 0 ≤ x ∧ x ≤ 0) (hy : 0 ≤ y ∧ y ≤ 0) : Kv l yX4_copyRow (cw yX4_copyRow cX4_copyRow 4 none) rm_X4_copyRow E [.ref (ea E 2), .int (iI x), .ref (ea E 4), .int (iI y)] σ (st σ 4 (cpf (σ 2) (σ 4) x y 310)) := by
  refine Kv_of (rm := rm_X4_copyRow) (mL := 4) (b := cX4_copyRow) RX4 rfl (by decide +kernel) rfl rfl [(0, .ref (ea E 2)), (1, .int (iI x)), (2, .ref (ea E 4)), (3, .int (iI y))] rfl (Nat.le_of_ble_eq_true rfl) (fun p_ e_ s_ m_ a_ b_ h_ c_ Q A C hret => ?_)
  refine g_aload_n C dX4_copyRow_0 0 rfl rfl (q := 1) rfl ?_
  refine g_iload_n C dX4_copyRow_1 1 rfl rfl (q := 2) rfl ?_
  refine g_cS_i C (As := [.ref (ea E 2), .int (iI x)]) (c_X4_hasRowAt_o2 l E _ x  (by omega)) ml_X4_323 mf_X4_hasRowAt rfl rfl ⟨(Nat.le_of_ble_eq_true rfl), (Nat.le_of_ble_eq_true rfl)⟩ rfl rfl rfl (Nat.le_of_ble_eq_true rfl) ⟨(Nat.le_of_ble_eq_true rfl), (Nat.le_of_ble_eq_true rfl)⟩ dX4_copyRow_2 (q := 5) rfl ?_
  refine g_if_eq C dX4_copyRow_5 (by omega) (q2 := 26) rfl (q := 8) rfl (fun hb1 => ?_) (fun hb1 => ?_)
  · skip
    exfalso; omega
  · skip
    refine g_aload_n C dX4_copyRow_8 2 rfl rfl (q := 9) rfl ?_
    refine g_iload_n C dX4_copyRow_9 3 rfl rfl (q := 10) rfl ?_
    refine g_cS_i C (As := [.ref (ea E 4), .int (iI y)]) (c_X4_hasRowAt_o4 l E _ y  (by omega)) ml_X4_323 mf_X4_hasRowAt rfl rfl ⟨(Nat.le_of_ble_eq_true rfl), (Nat.le_of_ble_eq_true rfl)⟩ rfl rfl rfl (Nat.le_of_ble_eq_true rfl) ⟨(Nat.le_of_ble_eq_true rfl), (Nat.le_of_ble_eq_true rfl)⟩ dX4_copyRow_10 (q := 13) rfl ?_
    refine g_if_eq C dX4_copyRow_13 (by omega) (q2 := 26) rfl (q := 16) rfl (fun hb2 => ?_) (fun hb2 => ?_)
    · skip
      exfalso; omega
    · skip
      refine g_aload_n C dX4_copyRow_16 0 rfl rfl (q := 17) rfl ?_
      refine g_iload_n C dX4_copyRow_17 1 rfl rfl (q := 18) rfl ?_
      refine g_aload_n C dX4_copyRow_18 2 rfl rfl (q := 19) rfl ?_
      refine g_iload_n C dX4_copyRow_19 3 rfl rfl (q := 20) rfl ?_
      refine g_sipush C dX4_copyRow_20 (by decide) (q := 23) rfl ?_
      refine gcp_2_4 C ml_X4_327 (by omega) dX4_copyRow_23 (Nat.le_of_ble_eq_true rfl) (Nat.le_of_ble_eq_true rfl) (q := 26) rfl ?_
      exact hret _ _ dX4_copyRow_26
set_option maxRecDepth 100000 in
set_option maxHeartbeats 4000000 in
theorem c_X4_copyRow_3_6 (l : Launch) (E : EV) (σ : SS) (x y : Int) (hx : 0 ≤ x ∧ x ≤ 0) (hy : 0 ≤ y ∧ y ≤ 2170) : Kv l yX4_copyRow (cw yX4_copyRow cX4_copyRow 4 none) rm_X4_copyRow E [.ref (ea E 3), .int (iI x), .ref (ea E 6), .int (iI y)] σ (st σ 6 (cpf (σ 3) (σ 6) x y 310)) := by
  refine Kv_of (rm := rm_X4_copyRow) (mL := 4) (b := cX4_copyRow) RX4 rfl (by decide +kernel) rfl rfl [(0, .ref (ea E 3)), (1, .int (iI x)), (2, .ref (ea E 6)), (3, .int (iI y))] rfl (Nat.le_of_ble_eq_true rfl) (fun p_ e_ s_ m_ a_ b_ h_ c_ Q A C hret => ?_)
  refine g_aload_n C dX4_copyRow_0 0 rfl rfl (q := 1) rfl ?_
  refine g_iload_n C dX4_copyRow_1 1 rfl rfl (q := 2) rfl ?_
  refine g_cS_i C (As := [.ref (ea E 3), .int (iI x)]) (c_X4_hasRowAt_o3 l E _ x  (by omega)) ml_X4_323 mf_X4_hasRowAt rfl rfl ⟨(Nat.le_of_ble_eq_true rfl), (Nat.le_of_ble_eq_true rfl)⟩ rfl rfl rfl (Nat.le_of_ble_eq_true rfl) ⟨(Nat.le_of_ble_eq_true rfl), (Nat.le_of_ble_eq_true rfl)⟩ dX4_copyRow_2 (q := 5) rfl ?_
  refine g_if_eq C dX4_copyRow_5 (by omega) (q2 := 26) rfl (q := 8) rfl (fun hb1 => ?_) (fun hb1 => ?_)
  · skip
    exfalso; omega
  · skip
    refine g_aload_n C dX4_copyRow_8 2 rfl rfl (q := 9) rfl ?_
    refine g_iload_n C dX4_copyRow_9 3 rfl rfl (q := 10) rfl ?_
    refine g_cS_i C (As := [.ref (ea E 6), .int (iI y)]) (c_X4_hasRowAt_o6 l E _ y  (by omega)) ml_X4_323 mf_X4_hasRowAt rfl rfl ⟨(Nat.le_of_ble_eq_true rfl), (Nat.le_of_ble_eq_true rfl)⟩ rfl rfl rfl (Nat.le_of_ble_eq_true rfl) ⟨(Nat.le_of_ble_eq_true rfl), (Nat.le_of_ble_eq_true rfl)⟩ dX4_copyRow_10 (q := 13) rfl ?_
    refine g_if_eq C dX4_copyRow_13 (by omega) (q2 := 26) rfl (q := 16) rfl (fun hb2 => ?_) (fun hb2 => ?_)
    · skip
      exfalso; omega
    · skip
      refine g_aload_n C dX4_copyRow_16 0 rfl rfl (q := 17) rfl ?_
      refine g_iload_n C dX4_copyRow_17 1 rfl rfl (q := 18) rfl ?_
      refine g_aload_n C dX4_copyRow_18 2 rfl rfl (q := 19) rfl ?_
      refine g_iload_n C dX4_copyRow_19 3 rfl rfl (q := 20) rfl ?_
      refine g_sipush C dX4_copyRow_20 (by decide) (q := 23) rfl ?_
      refine gcp_3_6 C ml_X4_327 (by omega) dX4_copyRow_23 (Nat.le_of_ble_eq_true rfl) (Nat.le_of_ble_eq_true rfl) (q := 26) rfl ?_
      exact hret _ _ dX4_copyRow_26
set_option maxRecDepth 100000 in
set_option maxHeartbeats 4000000 in
theorem c_X4_copyRow_3_2 (l : Launch) (E : EV) (σ : SS) (x y : Int) (hx : 0 ≤ x ∧ x ≤ 0) (hy : 0 ≤ y ∧ y ≤ 0) : Kv l yX4_copyRow (cw yX4_copyRow cX4_copyRow 4 none) rm_X4_copyRow E [.ref (ea E 3), .int (iI x), .ref (ea E 2), .int (iI y)] σ (st σ 2 (cpf (σ 3) (σ 2) x y 310)) := by
  refine Kv_of (rm := rm_X4_copyRow) (mL := 4) (b := cX4_copyRow) RX4 rfl (by decide +kernel) rfl rfl [(0, .ref (ea E 3)), (1, .int (iI x)), (2, .ref (ea E 2)), (3, .int (iI y))] rfl (Nat.le_of_ble_eq_true rfl) (fun p_ e_ s_ m_ a_ b_ h_ c_ Q A C hret => ?_)
  refine g_aload_n C dX4_copyRow_0 0 rfl rfl (q := 1) rfl ?_
  refine g_iload_n C dX4_copyRow_1 1 rfl rfl (q := 2) rfl ?_
  refine g_cS_i C (As := [.ref (ea E 3), .int (iI x)]) (c_X4_hasRowAt_o3 l E _ x  (by omega)) ml_X4_323 mf_X4_hasRowAt rfl rfl ⟨(Nat.le_of_ble_eq_true rfl), (Nat.le_of_ble_eq_true rfl)⟩ rfl rfl rfl (Nat.le_of_ble_eq_true rfl) ⟨(Nat.le_of_ble_eq_true rfl), (Nat.le_of_ble_eq_true rfl)⟩ dX4_copyRow_2 (q := 5) rfl ?_
  refine g_if_eq C dX4_copyRow_5 (by omega) (q2 := 26) rfl (q := 8) rfl (fun hb1 => ?_) (fun hb1 => ?_)
  · skip
    exfalso; omega
  · skip
    refine g_aload_n C dX4_copyRow_8 2 rfl rfl (q := 9) rfl ?_
    refine g_iload_n C dX4_copyRow_9 3 rfl rfl (q := 10) rfl ?_
    refine g_cS_i C (As := [.ref (ea E 2), .int (iI y)]) (c_X4_hasRowAt_o2 l E _ y  (by omega)) ml_X4_323 mf_X4_hasRowAt rfl rfl ⟨(Nat.le_of_ble_eq_true rfl), (Nat.le_of_ble_eq_true rfl)⟩ rfl rfl rfl (Nat.le_of_ble_eq_true rfl) ⟨(Nat.le_of_ble_eq_true rfl), (Nat.le_of_ble_eq_true rfl)⟩ dX4_copyRow_10 (q := 13) rfl ?_
    refine g_if_eq C dX4_copyRow_13 (by omega) (q2 := 26) rfl (q := 16) rfl (fun hb2 => ?_) (fun hb2 => ?_)
    · skip
      exfalso; omega
    · skip
      refine g_aload_n C dX4_copyRow_16 0 rfl rfl (q := 17) rfl ?_
      refine g_iload_n C dX4_copyRow_17 1 rfl rfl (q := 18) rfl ?_
      refine g_aload_n C dX4_copyRow_18 2 rfl rfl (q := 19) rfl ?_
      refine g_iload_n C dX4_copyRow_19 3 rfl rfl (q := 20) rfl ?_
      refine g_sipush C dX4_copyRow_20 (by decide) (q := 23) rfl ?_
      refine gcp_3_2 C ml_X4_327 (by omega) dX4_copyRow_23 (Nat.le_of_ble_eq_true rfl) (Nat.le_of_ble_eq_true rfl) (q := 26) rfl ?_
      exact hret _ _ dX4_copyRow_26
set_option maxRecDepth 100000 in
set_option maxHeartbeats 4000000 in
theorem c_X4_copyRow_4_2 (l : Launch) (E : EV) (σ : SS) (x y : Int) (hx : 0 ≤ x ∧ x ≤ 0) (hy : 0 ≤ y ∧ y ≤ 0) : Kv l yX4_copyRow (cw yX4_copyRow cX4_copyRow 4 none) rm_X4_copyRow E [.ref (ea E 4), .int (iI x), .ref (ea E 2), .int (iI y)] σ (st σ 2 (cpf (σ 4) (σ 2) x y 310)) := by
  refine Kv_of (rm := rm_X4_copyRow) (mL := 4) (b := cX4_copyRow) RX4 rfl (by decide +kernel) rfl rfl [(0, .ref (ea E 4)), (1, .int (iI x)), (2, .ref (ea E 2)), (3, .int (iI y))] rfl (Nat.le_of_ble_eq_true rfl) (fun p_ e_ s_ m_ a_ b_ h_ c_ Q A C hret => ?_)
  refine g_aload_n C dX4_copyRow_0 0 rfl rfl (q := 1) rfl ?_
  refine g_iload_n C dX4_copyRow_1 1 rfl rfl (q := 2) rfl ?_
  refine g_cS_i C (As := [.ref (ea E 4), .int (iI x)]) (c_X4_hasRowAt_o4 l E _ x  (by omega)) ml_X4_323 mf_X4_hasRowAt rfl rfl ⟨(Nat.le_of_ble_eq_true rfl), (Nat.le_of_ble_eq_true rfl)⟩ rfl rfl rfl (Nat.le_of_ble_eq_true rfl) ⟨(Nat.le_of_ble_eq_true rfl), (Nat.le_of_ble_eq_true rfl)⟩ dX4_copyRow_2 (q := 5) rfl ?_
  refine g_if_eq C dX4_copyRow_5 (by omega) (q2 := 26) rfl (q := 8) rfl (fun hb1 => ?_) (fun hb1 => ?_)
  · skip
    exfalso; omega
  · skip
    refine g_aload_n C dX4_copyRow_8 2 rfl rfl (q := 9) rfl ?_
    refine g_iload_n C dX4_copyRow_9 3 rfl rfl (q := 10) rfl ?_
    refine g_cS_i C (As := [.ref (ea E 2), .int (iI y)]) (c_X4_hasRowAt_o2 l E _ y  (by omega)) ml_X4_323 mf_X4_hasRowAt rfl rfl ⟨(Nat.le_of_ble_eq_true rfl), (Nat.le_of_ble_eq_true rfl)⟩ rfl rfl rfl (Nat.le_of_ble_eq_true rfl) ⟨(Nat.le_of_ble_eq_true rfl), (Nat.le_of_ble_eq_true rfl)⟩ dX4_copyRow_10 (q := 13) rfl ?_
    refine g_if_eq C dX4_copyRow_13 (by omega) (q2 := 26) rfl (q := 16) rfl (fun hb2 => ?_) (fun hb2 => ?_)
    · skip
      exfalso; omega
    · skip
      refine g_aload_n C dX4_copyRow_16 0 rfl rfl (q := 17) rfl ?_
      refine g_iload_n C dX4_copyRow_17 1 rfl rfl (q := 18) rfl ?_
      refine g_aload_n C dX4_copyRow_18 2 rfl rfl (q := 19) rfl ?_
      refine g_iload_n C dX4_copyRow_19 3 rfl rfl (q := 20) rfl ?_
      refine g_sipush C dX4_copyRow_20 (by decide) (q := 23) rfl ?_
      refine gcp_4_2 C ml_X4_327 (by omega) dX4_copyRow_23 (Nat.le_of_ble_eq_true rfl) (Nat.le_of_ble_eq_true rfl) (q := 26) rfl ?_
      exact hret _ _ dX4_copyRow_26
set_option maxRecDepth 100000 in
set_option maxHeartbeats 4000000 in
theorem c_X4_copyRow_6_2 (l : Launch) (E : EV) (σ : SS) (x y : Int) (hx : 0 ≤ x ∧ x ≤ 2170) (hy : 0 ≤ y ∧ y ≤ 0) : Kv l yX4_copyRow (cw yX4_copyRow cX4_copyRow 4 none) rm_X4_copyRow E [.ref (ea E 6), .int (iI x), .ref (ea E 2), .int (iI y)] σ (st σ 2 (cpf (σ 6) (σ 2) x y 310)) := by
  refine Kv_of (rm := rm_X4_copyRow) (mL := 4) (b := cX4_copyRow) RX4 rfl (by decide +kernel) rfl rfl [(0, .ref (ea E 6)), (1, .int (iI x)), (2, .ref (ea E 2)), (3, .int (iI y))] rfl (Nat.le_of_ble_eq_true rfl) (fun p_ e_ s_ m_ a_ b_ h_ c_ Q A C hret => ?_)
  refine g_aload_n C dX4_copyRow_0 0 rfl rfl (q := 1) rfl ?_
  refine g_iload_n C dX4_copyRow_1 1 rfl rfl (q := 2) rfl ?_
  refine g_cS_i C (As := [.ref (ea E 6), .int (iI x)]) (c_X4_hasRowAt_o6 l E _ x  (by omega)) ml_X4_323 mf_X4_hasRowAt rfl rfl ⟨(Nat.le_of_ble_eq_true rfl), (Nat.le_of_ble_eq_true rfl)⟩ rfl rfl rfl (Nat.le_of_ble_eq_true rfl) ⟨(Nat.le_of_ble_eq_true rfl), (Nat.le_of_ble_eq_true rfl)⟩ dX4_copyRow_2 (q := 5) rfl ?_
  refine g_if_eq C dX4_copyRow_5 (by omega) (q2 := 26) rfl (q := 8) rfl (fun hb1 => ?_) (fun hb1 => ?_)
  · skip
    exfalso; omega
  · skip
    refine g_aload_n C dX4_copyRow_8 2 rfl rfl (q := 9) rfl ?_
    refine g_iload_n C dX4_copyRow_9 3 rfl rfl (q := 10) rfl ?_
    refine g_cS_i C (As := [.ref (ea E 2), .int (iI y)]) (c_X4_hasRowAt_o2 l E _ y  (by omega)) ml_X4_323 mf_X4_hasRowAt rfl rfl ⟨(Nat.le_of_ble_eq_true rfl), (Nat.le_of_ble_eq_true rfl)⟩ rfl rfl rfl (Nat.le_of_ble_eq_true rfl) ⟨(Nat.le_of_ble_eq_true rfl), (Nat.le_of_ble_eq_true rfl)⟩ dX4_copyRow_10 (q := 13) rfl ?_
    refine g_if_eq C dX4_copyRow_13 (by omega) (q2 := 26) rfl (q := 16) rfl (fun hb2 => ?_) (fun hb2 => ?_)
    · skip
      exfalso; omega
    · skip
      refine g_aload_n C dX4_copyRow_16 0 rfl rfl (q := 17) rfl ?_
      refine g_iload_n C dX4_copyRow_17 1 rfl rfl (q := 18) rfl ?_
      refine g_aload_n C dX4_copyRow_18 2 rfl rfl (q := 19) rfl ?_
      refine g_iload_n C dX4_copyRow_19 3 rfl rfl (q := 20) rfl ?_
      refine g_sipush C dX4_copyRow_20 (by decide) (q := 23) rfl ?_
      refine gcp_6_2 C ml_X4_327 (by omega) dX4_copyRow_23 (Nat.le_of_ble_eq_true rfl) (Nat.le_of_ble_eq_true rfl) (q := 26) rfl ?_
      exact hret _ _ dX4_copyRow_26
abbrev rm_X3_copyTo : Room := { frames := 2, cells := 0, slots := 0, locals := 103 }
set_option maxRecDepth 100000 in
set_option maxHeartbeats 4000000 in
theorem c_X3_copyTo_3 (l : Launch) (E : EV) (σ : SS) (y : Int) (hy : 0 ≤ y ∧ y ≤ 0) : Kv l yX3_copyTo (cw yX3_copyTo cX3_copyTo 3 none) rm_X3_copyTo E [.ref (ea E 1), .ref (ea E 3), .int (iI y)] σ (st σ 3 (cpf (σ 2) (σ 3) 0 y 310)) := by
  refine Kv_of (rm := rm_X3_copyTo) (mL := 3) (b := cX3_copyTo) RX3 rfl (by decide +kernel) rfl rfl [(0, .ref (ea E 1)), (1, .ref (ea E 3)), (2, .int (iI y))] rfl (Nat.le_of_ble_eq_true rfl) (fun p_ e_ s_ m_ a_ b_ h_ c_ Q A C hret => ?_)
  refine g_aload_n C dX3_copyTo_0 0 rfl rfl (q := 1) rfl ?_
  refine gf_X3_9 C dX3_copyTo_1 (q := 4) rfl ?_
  refine g_iconst C dX3_copyTo_4 (q := 5) rfl ?_
  refine g_aload_n C dX3_copyTo_5 1 rfl rfl (q := 6) rfl ?_
  refine g_iload_n C dX3_copyTo_6 2 rfl rfl (q := 7) rfl ?_
  refine g_cSN_v C (As := [.ref (ea E 2), .int (iI 0), .ref (ea E 3), .int (iI y)]) (c_X4_copyRow_2_3 l E _ 0 y  (by omega) (by omega)) mn_X3_15 mf_X4_copyRow rfl ⟨(Nat.le_of_ble_eq_true rfl), (Nat.le_of_ble_eq_true rfl)⟩ rfl rfl rfl (Nat.le_of_ble_eq_true rfl) ⟨(Nat.le_of_ble_eq_true rfl), (Nat.le_of_ble_eq_true rfl)⟩ dX3_copyTo_7 (q := 10) rfl ?_
  exact hret _ _ dX3_copyTo_10
set_option maxRecDepth 100000 in
set_option maxHeartbeats 4000000 in
theorem c_X3_copyTo_4 (l : Launch) (E : EV) (σ : SS) (y : Int) (hy : 0 ≤ y ∧ y ≤ 0) : Kv l yX3_copyTo (cw yX3_copyTo cX3_copyTo 3 none) rm_X3_copyTo E [.ref (ea E 1), .ref (ea E 4), .int (iI y)] σ (st σ 4 (cpf (σ 2) (σ 4) 0 y 310)) := by
  refine Kv_of (rm := rm_X3_copyTo) (mL := 3) (b := cX3_copyTo) RX3 rfl (by decide +kernel) rfl rfl [(0, .ref (ea E 1)), (1, .ref (ea E 4)), (2, .int (iI y))] rfl (Nat.le_of_ble_eq_true rfl) (fun p_ e_ s_ m_ a_ b_ h_ c_ Q A C hret => ?_)
  refine g_aload_n C dX3_copyTo_0 0 rfl rfl (q := 1) rfl ?_
  refine gf_X3_9 C dX3_copyTo_1 (q := 4) rfl ?_
  refine g_iconst C dX3_copyTo_4 (q := 5) rfl ?_
  refine g_aload_n C dX3_copyTo_5 1 rfl rfl (q := 6) rfl ?_
  refine g_iload_n C dX3_copyTo_6 2 rfl rfl (q := 7) rfl ?_
  refine g_cSN_v C (As := [.ref (ea E 2), .int (iI 0), .ref (ea E 4), .int (iI y)]) (c_X4_copyRow_2_4 l E _ 0 y  (by omega) (by omega)) mn_X3_15 mf_X4_copyRow rfl ⟨(Nat.le_of_ble_eq_true rfl), (Nat.le_of_ble_eq_true rfl)⟩ rfl rfl rfl (Nat.le_of_ble_eq_true rfl) ⟨(Nat.le_of_ble_eq_true rfl), (Nat.le_of_ble_eq_true rfl)⟩ dX3_copyTo_7 (q := 10) rfl ?_
  exact hret _ _ dX3_copyTo_10
abbrev rm_X3_copyFrom : Room := { frames := 2, cells := 0, slots := 0, locals := 103 }
set_option maxRecDepth 100000 in
set_option maxHeartbeats 4000000 in
theorem c_X3_copyFrom_3 (l : Launch) (E : EV) (σ : SS) (y : Int) (hy : 0 ≤ y ∧ y ≤ 0) : Kv l yX3_copyFrom (cw yX3_copyFrom cX3_copyFrom 3 none) rm_X3_copyFrom E [.ref (ea E 1), .ref (ea E 3), .int (iI y)] σ (st σ 2 (cpf (σ 3) (σ 2) y 0 310)) := by
  refine Kv_of (rm := rm_X3_copyFrom) (mL := 3) (b := cX3_copyFrom) RX3 rfl (by decide +kernel) rfl rfl [(0, .ref (ea E 1)), (1, .ref (ea E 3)), (2, .int (iI y))] rfl (Nat.le_of_ble_eq_true rfl) (fun p_ e_ s_ m_ a_ b_ h_ c_ Q A C hret => ?_)
  refine g_aload_n C dX3_copyFrom_0 1 rfl rfl (q := 1) rfl ?_
  refine g_iload_n C dX3_copyFrom_1 2 rfl rfl (q := 2) rfl ?_
  refine g_aload_n C dX3_copyFrom_2 0 rfl rfl (q := 3) rfl ?_
  refine gf_X3_9 C dX3_copyFrom_3 (q := 6) rfl ?_
  refine g_iconst C dX3_copyFrom_6 (q := 7) rfl ?_
  refine g_cSN_v C (As := [.ref (ea E 3), .int (iI y), .ref (ea E 2), .int (iI 0)]) (c_X4_copyRow_3_2 l E _ y 0  (by omega) (by omega)) mn_X3_15 mf_X4_copyRow rfl ⟨(Nat.le_of_ble_eq_true rfl), (Nat.le_of_ble_eq_true rfl)⟩ rfl rfl rfl (Nat.le_of_ble_eq_true rfl) ⟨(Nat.le_of_ble_eq_true rfl), (Nat.le_of_ble_eq_true rfl)⟩ dX3_copyFrom_7 (q := 10) rfl ?_
  exact hret _ _ dX3_copyFrom_10
set_option maxRecDepth 100000 in
set_option maxHeartbeats 4000000 in
theorem c_X3_copyFrom_4 (l : Launch) (E : EV) (σ : SS) (y : Int) (hy : 0 ≤ y ∧ y ≤ 0) : Kv l yX3_copyFrom (cw yX3_copyFrom cX3_copyFrom 3 none) rm_X3_copyFrom E [.ref (ea E 1), .ref (ea E 4), .int (iI y)] σ (st σ 2 (cpf (σ 4) (σ 2) y 0 310)) := by
  refine Kv_of (rm := rm_X3_copyFrom) (mL := 3) (b := cX3_copyFrom) RX3 rfl (by decide +kernel) rfl rfl [(0, .ref (ea E 1)), (1, .ref (ea E 4)), (2, .int (iI y))] rfl (Nat.le_of_ble_eq_true rfl) (fun p_ e_ s_ m_ a_ b_ h_ c_ Q A C hret => ?_)
  refine g_aload_n C dX3_copyFrom_0 1 rfl rfl (q := 1) rfl ?_
  refine g_iload_n C dX3_copyFrom_1 2 rfl rfl (q := 2) rfl ?_
  refine g_aload_n C dX3_copyFrom_2 0 rfl rfl (q := 3) rfl ?_
  refine gf_X3_9 C dX3_copyFrom_3 (q := 6) rfl ?_
  refine g_iconst C dX3_copyFrom_6 (q := 7) rfl ?_
  refine g_cSN_v C (As := [.ref (ea E 4), .int (iI y), .ref (ea E 2), .int (iI 0)]) (c_X4_copyRow_4_2 l E _ y 0  (by omega) (by omega)) mn_X3_15 mf_X4_copyRow rfl ⟨(Nat.le_of_ble_eq_true rfl), (Nat.le_of_ble_eq_true rfl)⟩ rfl rfl rfl (Nat.le_of_ble_eq_true rfl) ⟨(Nat.le_of_ble_eq_true rfl), (Nat.le_of_ble_eq_true rfl)⟩ dX3_copyFrom_7 (q := 10) rfl ?_
  exact hret _ _ dX3_copyFrom_10
set_option maxRecDepth 100000 in
set_option maxHeartbeats 4000000 in
theorem c_X3_copyFrom_6 (l : Launch) (E : EV) (σ : SS) (y : Int) (hy : 0 ≤ y ∧ y ≤ 2170) : Kv l yX3_copyFrom (cw yX3_copyFrom cX3_copyFrom 3 none) rm_X3_copyFrom E [.ref (ea E 1), .ref (ea E 6), .int (iI y)] σ (st σ 2 (cpf (σ 6) (σ 2) y 0 310)) := by
  refine Kv_of (rm := rm_X3_copyFrom) (mL := 3) (b := cX3_copyFrom) RX3 rfl (by decide +kernel) rfl rfl [(0, .ref (ea E 1)), (1, .ref (ea E 6)), (2, .int (iI y))] rfl (Nat.le_of_ble_eq_true rfl) (fun p_ e_ s_ m_ a_ b_ h_ c_ Q A C hret => ?_)
  refine g_aload_n C dX3_copyFrom_0 1 rfl rfl (q := 1) rfl ?_
  refine g_iload_n C dX3_copyFrom_1 2 rfl rfl (q := 2) rfl ?_
  refine g_aload_n C dX3_copyFrom_2 0 rfl rfl (q := 3) rfl ?_
  refine gf_X3_9 C dX3_copyFrom_3 (q := 6) rfl ?_
  refine g_iconst C dX3_copyFrom_6 (q := 7) rfl ?_
  refine g_cSN_v C (As := [.ref (ea E 6), .int (iI y), .ref (ea E 2), .int (iI 0)]) (c_X4_copyRow_6_2 l E _ y 0  (by omega) (by omega)) mn_X3_15 mf_X4_copyRow rfl ⟨(Nat.le_of_ble_eq_true rfl), (Nat.le_of_ble_eq_true rfl)⟩ rfl rfl rfl (Nat.le_of_ble_eq_true rfl) ⟨(Nat.le_of_ble_eq_true rfl), (Nat.le_of_ble_eq_true rfl)⟩ dX3_copyFrom_7 (q := 10) rfl ?_
  exact hret _ _ dX3_copyFrom_10
abbrev rm_X1_size : Room := { frames := 0, cells := 0, slots := 0, locals := 0 }
set_option maxRecDepth 100000 in
set_option maxHeartbeats 4000000 in
theorem c_X1_size (l : Launch) (E : EV) (σ : SS)  : Ki l yX1_size (cw yX1_size cX1_size 1 (some .int)) rm_X1_size E [.ref (ea E 5)] σ (σ 5 2) σ := by
  refine Ki_of (rm := rm_X1_size) (mL := 1) (b := cX1_size) RX1 rfl (by decide +kernel) rfl rfl [(0, .ref (ea E 5))] rfl (Nat.le_of_ble_eq_true rfl) (fun p_ e_ s_ m_ a_ b_ h_ c_ Q A C hret => ?_)
  refine g_aload_n C dX1_size_0 0 rfl rfl (q := 1) rfl ?_
  refine gf_X1_19 C dX1_size_1 (q := 4) rfl ?_
  exact hret _ _ _ dX1_size_4 rfl
abbrev rm_X1_keep : Room := { frames := 2, cells := 0, slots := 0, locals := 103 }
set_option maxRecDepth 100000 in
set_option maxHeartbeats 4000000 in
theorem c_X1_keep (l : Launch) (E : EV) (σ : SS) (hh : 0 ≤ (σ 5 1) ∧ (σ 5 1) < 8 ∧ 0 ≤ (σ 5 2) ∧ (σ 5 2) ≤ 8) : Kv l yX1_keep (cw yX1_keep cX1_keep 2 none) rm_X1_keep E [.ref (ea E 5), .ref (ea E 3)] σ (st (st σ 5 (pt (pt (σ 5) 1 (nx8 (σ 5 1))) 2 (min ((σ 5 2) + 1) 8))) 6 (cpf (σ 3) (σ 6) 0 ((σ 5 1) * 310) 310)) := by
  refine Kv_of (rm := rm_X1_keep) (mL := 2) (b := cX1_keep) RX1 rfl (by decide +kernel) rfl rfl [(0, .ref (ea E 5)), (1, .ref (ea E 3))] rfl (Nat.le_of_ble_eq_true rfl) (fun p_ e_ s_ m_ a_ b_ h_ c_ Q A C hret => ?_)
  refine g_aload_n C dX1_keep_0 1 rfl rfl (q := 1) rfl ?_
  refine g_iconst C dX1_keep_1 (q := 2) rfl ?_
  refine g_aload_n C dX1_keep_2 0 rfl rfl (q := 3) rfl ?_
  refine gf_X1_9 C dX1_keep_3 (q := 6) rfl ?_
  refine g_aload_n C dX1_keep_6 0 rfl rfl (q := 7) rfl ?_
  refine gf_X1_15 C dX1_keep_7 (q := 10) rfl ?_
  refine g_sipush C dX1_keep_10 (by decide) (q := 13) rfl ?_
  refine g_imul C dX1_keep_13 (q := 14) rfl ?_
  refine g_cSN_v C (As := [.ref (ea E 3), .int (iI 0), .ref (ea E 6), .int (iI ((σ 5 1) * 310))]) (c_X4_copyRow_3_6 l E _ 0 ((σ 5 1) * 310)  (by omega) (by omega)) mn_X1_22 mf_X4_copyRow rfl ⟨(Nat.le_of_ble_eq_true rfl), (Nat.le_of_ble_eq_true rfl)⟩ rfl rfl rfl (Nat.le_of_ble_eq_true rfl) ⟨(Nat.le_of_ble_eq_true rfl), (Nat.le_of_ble_eq_true rfl)⟩ dX1_keep_14 (q := 17) rfl ?_
  refine g_aload_n C dX1_keep_17 0 rfl rfl (q := 18) rfl ?_
  refine g_aload_n C dX1_keep_18 0 rfl rfl (q := 19) rfl ?_
  refine gf_X1_15 C dX1_keep_19 (q := 22) rfl ?_
  refine g_top (b := (σ 5 1)) rfl ?_
  refine g_iconst C dX1_keep_22 (q := 23) rfl ?_
  refine g_iadd C dX1_keep_23 (q := 24) rfl ?_
  refine g_bipush C dX1_keep_24 (by decide) (q := 26) rfl ?_
  refine g_icmp_ge C dX1_keep_26 (by omega) (q2 := 38) rfl (q := 29) rfl (fun hb1 => ?_) (fun hb1 => ?_)
  · skip
    refine g_iconst C dX1_keep_38 (q := 39) rfl ?_
    refine gp_X1_15 C dX1_keep_39 (q := 42) rfl ?_
    refine g_st (σ2 := (st (st σ 5 (pt (σ 5) 1 0)) 6 (cpf (σ 3) (σ 6) 0 ((σ 5 1) * 310) 310))) (st_cm σ (o := 6) (q := 5) (cpf (σ 3) (σ 6) 0 ((σ 5 1) * 310) 310) (pt (σ 5) 1 0) (by decide)) ?_
    refine g_aload_n C dX1_keep_42 0 rfl rfl (q := 43) rfl ?_
    refine g_aload_n C dX1_keep_43 0 rfl rfl (q := 44) rfl ?_
    refine gf_X1_19 C dX1_keep_44 (q := 47) rfl ?_
    refine g_top (b := (σ 5 2)) rfl ?_
    refine g_iconst C dX1_keep_47 (q := 48) rfl ?_
    refine g_iadd C dX1_keep_48 (q := 49) rfl ?_
    refine g_bipush C dX1_keep_49 (by decide) (q := 51) rfl ?_
    refine g_min C ml_X1_26 (by omega) dX1_keep_51 (Nat.le_of_ble_eq_true rfl) (Nat.le_of_ble_eq_true rfl) (Nat.le_of_ble_eq_true rfl) (Nat.le_of_ble_eq_true rfl) (q := 54) rfl ?_
    refine gp_X1_19 C dX1_keep_54 (q := 57) rfl ?_
    refine g_st (σ2 := (st (st σ 5 (pt (pt (σ 5) 1 0) 2 (min ((σ 5 2) + 1) 8))) 6 (cpf (σ 3) (σ 6) 0 ((σ 5 1) * 310) 310))) ((st_cm (st σ 5 (pt (σ 5) 1 0)) (o := 6) (q := 5) (cpf (σ 3) (σ 6) 0 ((σ 5 1) * 310) 310) (pt (pt (σ 5) 1 0) 2 (min ((σ 5 2) + 1) 8)) (by decide)).trans (congrArg (fun g9 => st g9 6 (cpf (σ 3) (σ 6) 0 ((σ 5 1) * 310) 310)) (st_st _ _ _ _))) ?_
    refine g_st (σ2 := (st (st σ 5 (pt (pt (σ 5) 1 (nx8 (σ 5 1))) 2 (min ((σ 5 2) + 1) 8))) 6 (cpf (σ 3) (σ 6) 0 ((σ 5 1) * 310) 310))) (by first | (rw [show nx8 (σ 5 1) = σ 5 1 + 1 from if_pos (by omega)]; done) | (rw [show nx8 (σ 5 1) = 0 from if_neg (by omega)]; done)) ?_
    exact hret _ _ dX1_keep_57
  · skip
    refine g_aload_n C dX1_keep_29 0 rfl rfl (q := 30) rfl ?_
    refine gf_X1_15 C dX1_keep_30 (q := 33) rfl ?_
    refine g_top (b := (σ 5 1)) rfl ?_
    refine g_iconst C dX1_keep_33 (q := 34) rfl ?_
    refine g_iadd C dX1_keep_34 (q := 35) rfl ?_
    refine g_goto C dX1_keep_35 (q := 39) rfl ?_
    refine gp_X1_15 C dX1_keep_39 (q := 42) rfl ?_
    refine g_st (σ2 := (st (st σ 5 (pt (σ 5) 1 ((σ 5 1) + 1))) 6 (cpf (σ 3) (σ 6) 0 ((σ 5 1) * 310) 310))) (st_cm σ (o := 6) (q := 5) (cpf (σ 3) (σ 6) 0 ((σ 5 1) * 310) 310) (pt (σ 5) 1 ((σ 5 1) + 1)) (by decide)) ?_
    refine g_aload_n C dX1_keep_42 0 rfl rfl (q := 43) rfl ?_
    refine g_aload_n C dX1_keep_43 0 rfl rfl (q := 44) rfl ?_
    refine gf_X1_19 C dX1_keep_44 (q := 47) rfl ?_
    refine g_top (b := (σ 5 2)) rfl ?_
    refine g_iconst C dX1_keep_47 (q := 48) rfl ?_
    refine g_iadd C dX1_keep_48 (q := 49) rfl ?_
    refine g_bipush C dX1_keep_49 (by decide) (q := 51) rfl ?_
    refine g_min C ml_X1_26 (by omega) dX1_keep_51 (Nat.le_of_ble_eq_true rfl) (Nat.le_of_ble_eq_true rfl) (Nat.le_of_ble_eq_true rfl) (Nat.le_of_ble_eq_true rfl) (q := 54) rfl ?_
    refine gp_X1_19 C dX1_keep_54 (q := 57) rfl ?_
    refine g_st (σ2 := (st (st σ 5 (pt (pt (σ 5) 1 ((σ 5 1) + 1)) 2 (min ((σ 5 2) + 1) 8))) 6 (cpf (σ 3) (σ 6) 0 ((σ 5 1) * 310) 310))) ((st_cm (st σ 5 (pt (σ 5) 1 ((σ 5 1) + 1))) (o := 6) (q := 5) (cpf (σ 3) (σ 6) 0 ((σ 5 1) * 310) 310) (pt (pt (σ 5) 1 ((σ 5 1) + 1)) 2 (min ((σ 5 2) + 1) 8)) (by decide)).trans (congrArg (fun g9 => st g9 6 (cpf (σ 3) (σ 6) 0 ((σ 5 1) * 310) 310)) (st_st _ _ _ _))) ?_
    refine g_st (σ2 := (st (st σ 5 (pt (pt (σ 5) 1 (nx8 (σ 5 1))) 2 (min ((σ 5 2) + 1) 8))) 6 (cpf (σ 3) (σ 6) 0 ((σ 5 1) * 310) 310))) (by first | (rw [show nx8 (σ 5 1) = σ 5 1 + 1 from if_pos (by omega)]; done) | (rw [show nx8 (σ 5 1) = 0 from if_neg (by omega)]; done)) ?_
    exact hret _ _ dX1_keep_57
abbrev rm_X1_takeBack : Room := { frames := 3, cells := 0, slots := 0, locals := 125 }
set_option maxRecDepth 100000 in
set_option maxHeartbeats 4000000 in
theorem c_X1_takeBack (l : Launch) (E : EV) (σ : SS) (hh : 0 ≤ (σ 5 1) ∧ (σ 5 1) < 8 ∧ 0 ≤ (σ 5 2) ∧ (σ 5 2) ≤ 8) : Kv l yX1_takeBack (cw yX1_takeBack cX1_takeBack 2 none) rm_X1_takeBack E [.ref (ea E 5), .ref (ea E 1)] σ (st (st σ 2 (cpf (σ 6) (σ 2) (pv8 (σ 5 1) * 310) 0 310)) 5 (pt (pt (σ 5) 1 (pv8 (σ 5 1))) 2 ((σ 5 2) - 1))) := by
  refine Kv_of (rm := rm_X1_takeBack) (mL := 2) (b := cX1_takeBack) RX1 rfl (by decide +kernel) rfl rfl [(0, .ref (ea E 5)), (1, .ref (ea E 1))] rfl (Nat.le_of_ble_eq_true rfl) (fun p_ e_ s_ m_ a_ b_ h_ c_ Q A C hret => ?_)
  refine g_aload_n C dX1_takeBack_0 0 rfl rfl (q := 1) rfl ?_
  refine g_aload_n C dX1_takeBack_1 0 rfl rfl (q := 2) rfl ?_
  refine gf_X1_15 C dX1_takeBack_2 (q := 5) rfl ?_
  refine g_if_le C dX1_takeBack_5 (by omega) (q2 := 17) rfl (q := 8) rfl (fun hb1 => ?_) (fun hb1 => ?_)
  · skip
    refine g_bipush C dX1_takeBack_17 (by decide) (q := 19) rfl ?_
    refine gp_X1_15 C dX1_takeBack_19 (q := 22) rfl ?_
    refine g_aload_n C dX1_takeBack_22 0 rfl rfl (q := 23) rfl ?_
    refine g_dup C dX1_takeBack_23 rfl (q := 24) rfl ?_
    refine gf_X1_19 C dX1_takeBack_24 (q := 27) rfl ?_
    refine g_top (b := (σ 5 2)) rfl ?_
    refine g_iconst C dX1_takeBack_27 (q := 28) rfl ?_
    refine g_isub C dX1_takeBack_28 (q := 29) rfl ?_
    refine gp_X1_19 C dX1_takeBack_29 (q := 32) rfl ?_
    refine g_st (σ2 := (st σ 5 (pt (pt (σ 5) 1 7) 2 ((σ 5 2) - 1)))) (st_st _ _ _ _) ?_
    refine g_aload_n C dX1_takeBack_32 1 rfl rfl (q := 33) rfl ?_
    refine g_aload_n C dX1_takeBack_33 0 rfl rfl (q := 34) rfl ?_
    refine gf_X1_9 C dX1_takeBack_34 (q := 37) rfl ?_
    refine g_aload_n C dX1_takeBack_37 0 rfl rfl (q := 38) rfl ?_
    refine gf_X1_15 C dX1_takeBack_38 (q := 41) rfl ?_
    refine g_top (b := 7) rfl ?_
    refine g_sipush C dX1_takeBack_41 (by decide) (q := 44) rfl ?_
    refine g_imul C dX1_takeBack_44 (q := 45) rfl ?_
    refine g_top (b := 2170) (by decide) ?_
    refine g_cVN_v C (As := [.ref (ea E 6), .int (iI 2170)]) (c_X3_copyFrom_6 l E _ 2170  (by omega)) mn_X1_32 mf_X3_copyFrom (o := 1) (ci := 3) rfl rfl rfl rfl ⟨(Nat.le_of_ble_eq_true rfl), (Nat.le_of_ble_eq_true rfl)⟩ rfl rfl rfl (Nat.le_of_ble_eq_true rfl) ⟨(Nat.le_of_ble_eq_true rfl), (Nat.le_of_ble_eq_true rfl)⟩ dX1_takeBack_45 (q := 48) rfl ?_
    refine g_st (σ2 := (st (st σ 2 (cpf (σ 6) (σ 2) 2170 0 310)) 5 (pt (pt (σ 5) 1 7) 2 ((σ 5 2) - 1)))) (st_cm σ (o := 5) (q := 2) (pt (pt (σ 5) 1 7) 2 ((σ 5 2) - 1)) (cpf (σ 6) (σ 2) 2170 0 310) (by decide)) ?_
    refine g_st (σ2 := (st (st σ 2 (cpf (σ 6) (σ 2) (pv8 (σ 5 1) * 310) 0 310)) 5 (pt (pt (σ 5) 1 (pv8 (σ 5 1))) 2 ((σ 5 2) - 1)))) (by first | (rw [show pv8 (σ 5 1) = σ 5 1 - 1 from if_pos (by omega)]; done) | (rw [show pv8 (σ 5 1) = 7 from if_neg (by omega)]; rfl)) ?_
    exact hret _ _ dX1_takeBack_48
  · skip
    refine g_aload_n C dX1_takeBack_8 0 rfl rfl (q := 9) rfl ?_
    refine gf_X1_15 C dX1_takeBack_9 (q := 12) rfl ?_
    refine g_iconst C dX1_takeBack_12 (q := 13) rfl ?_
    refine g_isub C dX1_takeBack_13 (q := 14) rfl ?_
    refine g_goto C dX1_takeBack_14 (q := 19) rfl ?_
    refine gp_X1_15 C dX1_takeBack_19 (q := 22) rfl ?_
    refine g_aload_n C dX1_takeBack_22 0 rfl rfl (q := 23) rfl ?_
    refine g_dup C dX1_takeBack_23 rfl (q := 24) rfl ?_
    refine gf_X1_19 C dX1_takeBack_24 (q := 27) rfl ?_
    refine g_top (b := (σ 5 2)) rfl ?_
    refine g_iconst C dX1_takeBack_27 (q := 28) rfl ?_
    refine g_isub C dX1_takeBack_28 (q := 29) rfl ?_
    refine gp_X1_19 C dX1_takeBack_29 (q := 32) rfl ?_
    refine g_st (σ2 := (st σ 5 (pt (pt (σ 5) 1 ((σ 5 1) - 1)) 2 ((σ 5 2) - 1)))) (st_st _ _ _ _) ?_
    refine g_aload_n C dX1_takeBack_32 1 rfl rfl (q := 33) rfl ?_
    refine g_aload_n C dX1_takeBack_33 0 rfl rfl (q := 34) rfl ?_
    refine gf_X1_9 C dX1_takeBack_34 (q := 37) rfl ?_
    refine g_aload_n C dX1_takeBack_37 0 rfl rfl (q := 38) rfl ?_
    refine gf_X1_15 C dX1_takeBack_38 (q := 41) rfl ?_
    refine g_top (b := (σ 5 1) - 1) rfl ?_
    refine g_sipush C dX1_takeBack_41 (by decide) (q := 44) rfl ?_
    refine g_imul C dX1_takeBack_44 (q := 45) rfl ?_
    refine g_cVN_v C (As := [.ref (ea E 6), .int (iI (((σ 5 1) - 1) * 310))]) (c_X3_copyFrom_6 l E _ (((σ 5 1) - 1) * 310)  (by omega)) mn_X1_32 mf_X3_copyFrom (o := 1) (ci := 3) rfl rfl rfl rfl ⟨(Nat.le_of_ble_eq_true rfl), (Nat.le_of_ble_eq_true rfl)⟩ rfl rfl rfl (Nat.le_of_ble_eq_true rfl) ⟨(Nat.le_of_ble_eq_true rfl), (Nat.le_of_ble_eq_true rfl)⟩ dX1_takeBack_45 (q := 48) rfl ?_
    refine g_st (σ2 := (st (st σ 2 (cpf (σ 6) (σ 2) (((σ 5 1) - 1) * 310) 0 310)) 5 (pt (pt (σ 5) 1 ((σ 5 1) - 1)) 2 ((σ 5 2) - 1)))) (st_cm σ (o := 5) (q := 2) (pt (pt (σ 5) 1 ((σ 5 1) - 1)) 2 ((σ 5 2) - 1)) (cpf (σ 6) (σ 2) (((σ 5 1) - 1) * 310) 0 310) (by decide)) ?_
    refine g_st (σ2 := (st (st σ 2 (cpf (σ 6) (σ 2) (pv8 (σ 5 1) * 310) 0 310)) 5 (pt (pt (σ 5) 1 (pv8 (σ 5 1))) 2 ((σ 5 2) - 1)))) (by first | (rw [show pv8 (σ 5 1) = σ 5 1 - 1 from if_pos (by omega)]; done) | (rw [show pv8 (σ 5 1) = 7 from if_neg (by omega)]; rfl)) ?_
    exact hret _ _ dX1_takeBack_48
abbrev rm_X1_forget : Room := { frames := 0, cells := 0, slots := 0, locals := 0 }
set_option maxRecDepth 100000 in
set_option maxHeartbeats 4000000 in
theorem c_X1_forget (l : Launch) (E : EV) (σ : SS)  : Kv l yX1_forget (cw yX1_forget cX1_forget 1 none) rm_X1_forget E [.ref (ea E 5)] σ (st σ 5 (pt (σ 5) 2 0)) := by
  refine Kv_of (rm := rm_X1_forget) (mL := 1) (b := cX1_forget) RX1 rfl (by decide +kernel) rfl rfl [(0, .ref (ea E 5))] rfl (Nat.le_of_ble_eq_true rfl) (fun p_ e_ s_ m_ a_ b_ h_ c_ Q A C hret => ?_)
  refine g_aload_n C dX1_forget_0 0 rfl rfl (q := 1) rfl ?_
  refine g_iconst C dX1_forget_1 (q := 2) rfl ?_
  refine gp_X1_19 C dX1_forget_2 (q := 5) rfl ?_
  exact hret _ _ dX1_forget_5
abbrev rm_X2_size : Room := { frames := 0, cells := 0, slots := 0, locals := 0 }
set_option maxRecDepth 100000 in
set_option maxHeartbeats 4000000 in
theorem c_X2_size (l : Launch) (E : EV) (σ : SS)  : Ki l yX2_size (cw yX2_size cX2_size 1 (some .int)) rm_X2_size E [.ref (ea E 11)] σ (σ 11 1) σ := by
  refine Ki_of (rm := rm_X2_size) (mL := 1) (b := cX2_size) RX2 rfl (by decide +kernel) rfl rfl [(0, .ref (ea E 11))] rfl (Nat.le_of_ble_eq_true rfl) (fun p_ e_ s_ m_ a_ b_ h_ c_ Q A C hret => ?_)
  refine g_aload_n C dX2_size_0 0 rfl rfl (q := 1) rfl ?_
  refine gf_X2_15 C dX2_size_1 (q := 4) rfl ?_
  exact hret _ _ _ dX2_size_4 rfl
abbrev rm_X2_clear : Room := { frames := 0, cells := 0, slots := 0, locals := 0 }
set_option maxRecDepth 100000 in
set_option maxHeartbeats 4000000 in
theorem c_X2_clear (l : Launch) (E : EV) (σ : SS)  : Kv l yX2_clear (cw yX2_clear cX2_clear 1 none) rm_X2_clear E [.ref (ea E 11)] σ (st σ 11 (pt (σ 11) 1 0)) := by
  refine Kv_of (rm := rm_X2_clear) (mL := 1) (b := cX2_clear) RX2 rfl (by decide +kernel) rfl rfl [(0, .ref (ea E 11))] rfl (Nat.le_of_ble_eq_true rfl) (fun p_ e_ s_ m_ a_ b_ h_ c_ Q A C hret => ?_)
  refine g_aload_n C dX2_clear_0 0 rfl rfl (q := 1) rfl ?_
  refine g_iconst C dX2_clear_1 (q := 2) rfl ?_
  refine gp_X2_15 C dX2_clear_2 (q := 5) rfl ?_
  exact hret _ _ dX2_clear_5
abbrev rm_X2_add : Room := { frames := 0, cells := 0, slots := 0, locals := 0 }
set_option maxRecDepth 100000 in
set_option maxHeartbeats 4000000 in
theorem c_X2_add (l : Launch) (E : EV) (σ : SS) (c : Int) (hc : 0 ≤ c ∧ c < 65536) (hn : 0 ≤ (σ 11 1) ∧ (σ 11 1) < 240) : Kv l yX2_add (cw yX2_add cX2_add 2 none) rm_X2_add E [.ref (ea E 11), .int (iI c)] σ (st (st σ 11 (pt (σ 11) 1 ((σ 11 1) + 1))) 12 (pt (σ 12) (σ 11 1) c)) := by
  refine Kv_of (rm := rm_X2_add) (mL := 2) (b := cX2_add) RX2 rfl (by decide +kernel) rfl rfl [(0, .ref (ea E 11)), (1, .int (iI c))] rfl (Nat.le_of_ble_eq_true rfl) (fun p_ e_ s_ m_ a_ b_ h_ c_ Q A C hret => ?_)
  refine g_aload_n C dX2_add_0 0 rfl rfl (q := 1) rfl ?_
  refine gf_X2_15 C dX2_add_1 (q := 4) rfl ?_
  refine g_if_lt C dX2_add_4 (by omega) (q2 := 39) rfl (q := 7) rfl (fun hb1 => ?_) (fun hb1 => ?_)
  · skip
    refine g_st (σ2 := (st (st σ 11 (pt (σ 11) 1 ((σ 11 1) + 1))) 12 (pt (σ 12) (σ 11 1) c))) (by first | rfl | (funext q9; simp only [st]; (repeat' split) <;> first | rfl | omega | (funext j9; simp only [pt]; (repeat' split) <;> first | rfl | omega))) ?_
    exact hret _ _ dX2_add_39
  · skip
    refine g_aload_n C dX2_add_7 0 rfl rfl (q := 8) rfl ?_
    refine gf_X2_15 C dX2_add_8 (q := 11) rfl ?_
    refine g_aload_n C dX2_add_11 0 rfl rfl (q := 12) rfl ?_
    refine gf_X2_9 C dX2_add_12 (q := 15) rfl ?_
    refine gn_12 C dX2_add_15 (q := 16) rfl ?_
    refine g_icmp_ge C dX2_add_16 (by omega) (q2 := 39) rfl (q := 19) rfl (fun hb2 => ?_) (fun hb2 => ?_)
    · skip
      refine g_st (σ2 := (st (st σ 11 (pt (σ 11) 1 ((σ 11 1) + 1))) 12 (pt (σ 12) (σ 11 1) c))) (by first | rfl | (funext q9; simp only [st]; (repeat' split) <;> first | rfl | omega | (funext j9; simp only [pt]; (repeat' split) <;> first | rfl | omega))) ?_
      exact hret _ _ dX2_add_39
    · skip
      refine g_aload_n C dX2_add_19 0 rfl rfl (q := 20) rfl ?_
      refine gf_X2_9 C dX2_add_20 (q := 23) rfl ?_
      refine g_aload_n C dX2_add_23 0 rfl rfl (q := 24) rfl ?_
      refine gf_X2_15 C dX2_add_24 (q := 27) rfl ?_
      refine g_iload_n C dX2_add_27 1 rfl rfl (q := 28) rfl ?_
      refine gs_12 C (by omega) (by omega) dX2_add_28 (q := 29) rfl ?_
      refine g_aload_n C dX2_add_29 0 rfl rfl (q := 30) rfl ?_
      refine g_dup C dX2_add_30 rfl (q := 31) rfl ?_
      refine gf_X2_15 C dX2_add_31 (q := 34) rfl ?_
      refine g_top (b := (σ 11 1)) rfl ?_
      refine g_iconst C dX2_add_34 (q := 35) rfl ?_
      refine g_iadd C dX2_add_35 (q := 36) rfl ?_
      refine gp_X2_15 C dX2_add_36 (q := 39) rfl ?_
      refine g_st (σ2 := (st (st σ 11 (pt (σ 11) 1 ((σ 11 1) + 1))) 12 (pt (σ 12) (σ 11 1) c))) (st_cm σ (o := 12) (q := 11) (pt (σ 12) (σ 11 1) c) (pt (σ 11) 1 ((σ 11 1) + 1)) (by decide)) ?_
      exact hret _ _ dX2_add_39
abbrev rm_X2_addNumber : Room := { frames := 1, cells := 0, slots := 0, locals := 21 }
set_option maxRecDepth 100000 in
set_option maxHeartbeats 4000000 in
theorem c_X2_addNumber (l : Launch) (E : EV) (σ : SS) (n : Int) (hn : 1 ≤ n ∧ n ≤ 99) (hs : 0 ≤ (σ 11 1) ∧ (σ 11 1) < 238) : Kv l yX2_addNumber (cw yX2_addNumber cX2_addNumber 2 none) rm_X2_addNumber E [.ref (ea E 11), .int (iI n)] σ (st (st σ 11 (pt (σ 11) 1 ((σ 11 1) + (if n < 10 then 1 else 2)))) 12 (nm12 (σ 12) (σ 11 1) n)) := by
  refine Kv_of (rm := rm_X2_addNumber) (mL := 2) (b := cX2_addNumber) RX2 rfl (by decide +kernel) rfl rfl [(0, .ref (ea E 11)), (1, .int (iI n))] rfl (Nat.le_of_ble_eq_true rfl) (fun p_ e_ s_ m_ a_ b_ h_ c_ Q A C hret => ?_)
  refine g_iload_n C dX2_addNumber_0 1 rfl rfl (q := 1) rfl ?_
  refine g_bipush C dX2_addNumber_1 (by decide) (q := 3) rfl ?_
  refine g_icmp_lt C dX2_addNumber_3 (by omega) (q2 := 18) rfl (q := 6) rfl (fun hb1 => ?_) (fun hb1 => ?_)
  · skip
    refine g_aload_n C dX2_addNumber_18 0 rfl rfl (q := 19) rfl ?_
    refine g_bipush C dX2_addNumber_19 (by decide) (q := 21) rfl ?_
    refine g_iload_n C dX2_addNumber_21 1 rfl rfl (q := 22) rfl ?_
    refine g_bipush C dX2_addNumber_22 (by decide) (q := 24) rfl ?_
    refine g_irem C dX2_addNumber_24 (by omega) (q := 25) rfl ?_
    refine g_iadd C dX2_addNumber_25 (q := 26) rfl ?_
    refine g_i2c C dX2_addNumber_26 (q := 27) rfl ?_
    refine g_top (b := 48 + (n % 10)) (by omega) ?_
    refine g_cV_v C (As := [.int (iI (48 + (n % 10)))]) (c_X2_add l E _ (48 + (n % 10))  (by omega) (by omega)) ml_X2_19 mf_X2_add (o := 11) (ci := 2) rfl rfl rfl rfl ⟨(Nat.le_of_ble_eq_true rfl), (Nat.le_of_ble_eq_true rfl)⟩ rfl rfl rfl (Nat.le_of_ble_eq_true rfl) ⟨(Nat.le_of_ble_eq_true rfl), (Nat.le_of_ble_eq_true rfl)⟩ dX2_addNumber_27 (q := 30) rfl ?_
    refine g_st (σ2 := (st (st σ 11 (pt (σ 11) 1 ((σ 11 1) + (if n < 10 then 1 else 2)))) 12 (nm12 (σ 12) (σ 11 1) n))) (by first | (simp only [nm12, if_pos (show n < 10 by omega)]) | (simp only [nm12, if_neg (show ¬ n < 10 by omega)]; (try rfl); (congr 1; congr 1; congr 1; omega))) ?_
    exact hret _ _ dX2_addNumber_30
  · skip
    refine g_aload_n C dX2_addNumber_6 0 rfl rfl (q := 7) rfl ?_
    refine g_bipush C dX2_addNumber_7 (by decide) (q := 9) rfl ?_
    refine g_iload_n C dX2_addNumber_9 1 rfl rfl (q := 10) rfl ?_
    refine g_bipush C dX2_addNumber_10 (by decide) (q := 12) rfl ?_
    refine g_idiv C dX2_addNumber_12 (by omega) (q := 13) rfl ?_
    refine g_iadd C dX2_addNumber_13 (q := 14) rfl ?_
    refine g_i2c C dX2_addNumber_14 (q := 15) rfl ?_
    refine g_top (b := 48 + (n / 10)) (by omega) ?_
    refine g_cV_v C (As := [.int (iI (48 + (n / 10)))]) (c_X2_add l E _ (48 + (n / 10))  (by omega) (by omega)) ml_X2_19 mf_X2_add (o := 11) (ci := 2) rfl rfl rfl rfl ⟨(Nat.le_of_ble_eq_true rfl), (Nat.le_of_ble_eq_true rfl)⟩ rfl rfl rfl (Nat.le_of_ble_eq_true rfl) ⟨(Nat.le_of_ble_eq_true rfl), (Nat.le_of_ble_eq_true rfl)⟩ dX2_addNumber_15 (q := 18) rfl ?_
    refine g_aload_n C dX2_addNumber_18 0 rfl rfl (q := 19) rfl ?_
    refine g_bipush C dX2_addNumber_19 (by decide) (q := 21) rfl ?_
    refine g_iload_n C dX2_addNumber_21 1 rfl rfl (q := 22) rfl ?_
    refine g_bipush C dX2_addNumber_22 (by decide) (q := 24) rfl ?_
    refine g_irem C dX2_addNumber_24 (by omega) (q := 25) rfl ?_
    refine g_iadd C dX2_addNumber_25 (q := 26) rfl ?_
    refine g_i2c C dX2_addNumber_26 (q := 27) rfl ?_
    refine g_top (b := 48 + (n % 10)) (by omega) ?_
    refine g_cV_v C (As := [.int (iI (48 + (n % 10)))]) (c_X2_add l E _ (48 + (n % 10))  (by omega) (by show 0 ≤ ((σ 11 1) + 1) ∧ ((σ 11 1) + 1) < 240; omega)) ml_X2_19 mf_X2_add (o := 11) (ci := 2) rfl rfl rfl rfl ⟨(Nat.le_of_ble_eq_true rfl), (Nat.le_of_ble_eq_true rfl)⟩ rfl rfl rfl (Nat.le_of_ble_eq_true rfl) ⟨(Nat.le_of_ble_eq_true rfl), (Nat.le_of_ble_eq_true rfl)⟩ dX2_addNumber_27 (q := 30) rfl ?_
    refine g_st (σ2 := (st (st σ 11 (pt (σ 11) 1 (((σ 11 1) + 1) + 1))) 12 (pt (pt (σ 12) (σ 11 1) (48 + (n / 10))) ((σ 11 1) + 1) (48 + (n % 10))))) ((congrArg (fun g9 => st g9 12 (pt (pt (σ 12) (σ 11 1) (48 + (n / 10))) ((σ 11 1) + 1) (48 + (n % 10)))) ((congrArg (st (st (st σ 11 (pt (σ 11) 1 ((σ 11 1) + 1))) 12 (pt (σ 12) (σ 11 1) (48 + (n / 10)))) 11) (pt_pt _ _ _ _)).trans ((st_cm (st σ 11 (pt (σ 11) 1 ((σ 11 1) + 1))) (o := 12) (q := 11) (pt (σ 12) (σ 11 1) (48 + (n / 10))) (pt (σ 11) 1 (((σ 11 1) + 1) + 1)) (by decide)).trans (congrArg (fun g9 => st g9 12 (pt (σ 12) (σ 11 1) (48 + (n / 10)))) (st_st _ _ _ _))))).trans (st_st _ _ _ _)) ?_
    refine g_st (σ2 := (st (st σ 11 (pt (σ 11) 1 ((σ 11 1) + (if n < 10 then 1 else 2)))) 12 (nm12 (σ 12) (σ 11 1) n))) (by first | (simp only [nm12, if_pos (show n < 10 by omega)]) | (simp only [nm12, if_neg (show ¬ n < 10 by omega)]; (try rfl); (congr 1; congr 1; congr 1; omega))) ?_
    exact hret _ _ dX2_addNumber_30
abbrev rm_X2_characterAt : Room := { frames := 0, cells := 0, slots := 0, locals := 0 }
set_option maxRecDepth 100000 in
set_option maxHeartbeats 4000000 in
theorem c_X2_characterAt (l : Launch) (E : EV) (σ : SS) (i : Int) (h : 0 ≤ i ∧ i < 240) (hv : 0 ≤ (σ 12) i ∧ (σ 12) i < 65536) : Ki l yX2_characterAt (cw yX2_characterAt cX2_characterAt 2 (some .char)) rm_X2_characterAt E [.ref (ea E 11), .int (iI i)] σ ((σ 12) i) σ := by
  refine Kc_of (rm := rm_X2_characterAt) (mL := 2) (b := cX2_characterAt) RX2 rfl (by decide +kernel) rfl rfl [(0, .ref (ea E 11)), (1, .int (iI i))] rfl (Nat.le_of_ble_eq_true rfl) (fun p_ e_ s_ m_ a_ b_ h_ c_ Q A C hret => ?_)
  refine g_iload_n C dX2_characterAt_0 1 rfl rfl (q := 1) rfl ?_
  refine g_if_lt C dX2_characterAt_1 (by omega) (q2 := 22) rfl (q := 4) rfl (fun hb1 => ?_) (fun hb1 => ?_)
  · skip
    refine g_iconst C dX2_characterAt_22 (q := 23) rfl ?_
    exact hret _ _ _ dX2_characterAt_23 (by omega) (by omega)
  · skip
    refine g_iload_n C dX2_characterAt_4 1 rfl rfl (q := 5) rfl ?_
    refine g_aload_n C dX2_characterAt_5 0 rfl rfl (q := 6) rfl ?_
    refine gf_X2_9 C dX2_characterAt_6 (q := 9) rfl ?_
    refine gn_12 C dX2_characterAt_9 (q := 10) rfl ?_
    refine g_icmp_ge C dX2_characterAt_10 (by omega) (q2 := 22) rfl (q := 13) rfl (fun hb2 => ?_) (fun hb2 => ?_)
    · skip
      refine g_iconst C dX2_characterAt_22 (q := 23) rfl ?_
      exact hret _ _ _ dX2_characterAt_23 (by omega) (by omega)
    · skip
      refine g_aload_n C dX2_characterAt_13 0 rfl rfl (q := 14) rfl ?_
      refine gf_X2_9 C dX2_characterAt_14 (q := 17) rfl ?_
      refine g_iload_n C dX2_characterAt_17 1 rfl rfl (q := 18) rfl ?_
      refine gl_12 C (by omega) dX2_characterAt_18 (q := 19) rfl ?_
      refine g_goto C dX2_characterAt_19 (q := 23) rfl ?_
      exact hret _ _ _ dX2_characterAt_23 (by omega) rfl
abbrev rm_X4_isReel : Room := { frames := 0, cells := 0, slots := 0, locals := 0 }
set_option maxRecDepth 100000 in
set_option maxHeartbeats 4000000 in
theorem c_X4_isReel (l : Launch) (E : EV) (σ : SS) (r : Int) (hr_r : -2147483648 ≤ r ∧ r ≤ 2147483647) : Ki l yX4_isReel (cw yX4_isReel cX4_isReel 1 (some .boolean)) rm_X4_isReel E [.int (iI r)] σ (bR r) σ := by
  refine Kz_of (rm := rm_X4_isReel) (mL := 1) (b := cX4_isReel) RX4 rfl (by decide +kernel) rfl rfl [(0, .int (iI r))] rfl (Nat.le_of_ble_eq_true rfl) (fun p_ e_ s_ m_ a_ b_ h_ c_ Q A C hret => ?_)
  refine g_iload_n C dX4_isReel_0 0 rfl rfl (q := 1) rfl ?_
  refine g_if_lt C dX4_isReel_1 (by omega) (q2 := 13) rfl (q := 4) rfl (fun hb1 => ?_) (fun hb1 => ?_)
  · skip
    refine g_iconst C dX4_isReel_13 (q := 14) rfl ?_
    exact hret _ _ _ dX4_isReel_14 (by omega) (by unfold bR; first | rw [if_pos (by omega)] | rw [if_neg (by omega)])
  · skip
    refine g_iload_n C dX4_isReel_4 0 rfl rfl (q := 5) rfl ?_
    refine g_iconst C dX4_isReel_5 (q := 6) rfl ?_
    refine g_icmp_ge C dX4_isReel_6 (by omega) (q2 := 13) rfl (q := 9) rfl (fun hb2 => ?_) (fun hb2 => ?_)
    · skip
      refine g_iconst C dX4_isReel_13 (q := 14) rfl ?_
      exact hret _ _ _ dX4_isReel_14 (by omega) (by unfold bR; first | rw [if_pos (by omega)] | rw [if_neg (by omega)])
    · skip
      refine g_iconst C dX4_isReel_9 (q := 10) rfl ?_
      refine g_goto C dX4_isReel_10 (q := 14) rfl ?_
      exact hret _ _ _ dX4_isReel_14 (by omega) (by unfold bR; first | rw [if_pos (by omega)] | rw [if_neg (by omega)])
abbrev rm_X4_isLength : Room := { frames := 0, cells := 0, slots := 0, locals := 0 }
set_option maxRecDepth 100000 in
set_option maxHeartbeats 4000000 in
theorem c_X4_isLength (l : Launch) (E : EV) (σ : SS) (x : Int) (hr_x : -2147483648 ≤ x ∧ x ≤ 2147483647) : Ki l yX4_isLength (cw yX4_isLength cX4_isLength 1 (some .boolean)) rm_X4_isLength E [.int (iI x)] σ (bL x) σ := by
  refine Kz_of (rm := rm_X4_isLength) (mL := 1) (b := cX4_isLength) RX4 rfl (by decide +kernel) rfl rfl [(0, .int (iI x))] rfl (Nat.le_of_ble_eq_true rfl) (fun p_ e_ s_ m_ a_ b_ h_ c_ Q A C hret => ?_)
  refine g_iload_n C dX4_isLength_0 0 rfl rfl (q := 1) rfl ?_
  refine g_iconst C dX4_isLength_1 (q := 2) rfl ?_
  refine g_icmp_lt C dX4_isLength_2 (by omega) (q2 := 15) rfl (q := 5) rfl (fun hb1 => ?_) (fun hb1 => ?_)
  · skip
    refine g_iconst C dX4_isLength_15 (q := 16) rfl ?_
    exact hret _ _ _ dX4_isLength_16 (by omega) (by unfold bL; first | rw [if_pos (by omega)] | rw [if_neg (by omega)])
  · skip
    refine g_iload_n C dX4_isLength_5 0 rfl rfl (q := 6) rfl ?_
    refine g_bipush C dX4_isLength_6 (by decide) (q := 8) rfl ?_
    refine g_icmp_gt C dX4_isLength_8 (by omega) (q2 := 15) rfl (q := 11) rfl (fun hb2 => ?_) (fun hb2 => ?_)
    · skip
      refine g_iconst C dX4_isLength_15 (q := 16) rfl ?_
      exact hret _ _ _ dX4_isLength_16 (by omega) (by unfold bL; first | rw [if_pos (by omega)] | rw [if_neg (by omega)])
    · skip
      refine g_iconst C dX4_isLength_11 (q := 12) rfl ?_
      refine g_goto C dX4_isLength_12 (q := 16) rfl ?_
      exact hret _ _ _ dX4_isLength_16 (by omega) (by unfold bL; first | rw [if_pos (by omega)] | rw [if_neg (by omega)])
abbrev rm_X4_isColour : Room := { frames := 0, cells := 0, slots := 0, locals := 0 }
set_option maxRecDepth 100000 in
set_option maxHeartbeats 4000000 in
theorem c_X4_isColour (l : Launch) (E : EV) (σ : SS) (x : Int) (hr_x : -2147483648 ≤ x ∧ x ≤ 2147483647) : Ki l yX4_isColour (cw yX4_isColour cX4_isColour 1 (some .boolean)) rm_X4_isColour E [.int (iI x)] σ (bC x) σ := by
  refine Kz_of (rm := rm_X4_isColour) (mL := 1) (b := cX4_isColour) RX4 rfl (by decide +kernel) rfl rfl [(0, .int (iI x))] rfl (Nat.le_of_ble_eq_true rfl) (fun p_ e_ s_ m_ a_ b_ h_ c_ Q A C hret => ?_)
  refine g_iload_n C dX4_isColour_0 0 rfl rfl (q := 1) rfl ?_
  refine g_if_lt C dX4_isColour_1 (by omega) (q2 := 14) rfl (q := 4) rfl (fun hb1 => ?_) (fun hb1 => ?_)
  · skip
    refine g_iconst C dX4_isColour_14 (q := 15) rfl ?_
    exact hret _ _ _ dX4_isColour_15 (by omega) (by unfold bC; first | rw [if_pos (by omega)] | rw [if_neg (by omega)])
  · skip
    refine g_iload_n C dX4_isColour_4 0 rfl rfl (q := 5) rfl ?_
    refine g_bipush C dX4_isColour_5 (by decide) (q := 7) rfl ?_
    refine g_icmp_ge C dX4_isColour_7 (by omega) (q2 := 14) rfl (q := 10) rfl (fun hb2 => ?_) (fun hb2 => ?_)
    · skip
      refine g_iconst C dX4_isColour_14 (q := 15) rfl ?_
      exact hret _ _ _ dX4_isColour_15 (by omega) (by unfold bC; first | rw [if_pos (by omega)] | rw [if_neg (by omega)])
    · skip
      refine g_iconst C dX4_isColour_10 (q := 11) rfl ?_
      refine g_goto C dX4_isColour_11 (q := 15) rfl ?_
      exact hret _ _ _ dX4_isColour_15 (by omega) (by unfold bC; first | rw [if_pos (by omega)] | rw [if_neg (by omega)])
abbrev rm_X4_isPosition : Room := { frames := 2, cells := 0, slots := 0, locals := 42 }
set_option maxRecDepth 100000 in
set_option maxHeartbeats 4000000 in
theorem c_X4_isPosition (l : Launch) (E : EV) (σ : SS) (r p : Int) (hr_r : -2147483648 ≤ r ∧ r ≤ 2147483647) (hr_p : -2147483648 ≤ p ∧ p ≤ 2147483647) (hN : ∀ r : Int, 0 ≤ r ∧ r < 4 → 0 ≤ (σ 2) (240 + r) ∧ (σ 2) (240 + r) ≤ 60) : Ki l yX4_isPosition (cw yX4_isPosition cX4_isPosition 3 (some .boolean)) rm_X4_isPosition E [.ref (ea E 0), .int (iI r), .int (iI p)] σ (bP (σ 2) r p) σ := by
  refine Kz_of (rm := rm_X4_isPosition) (mL := 3) (b := cX4_isPosition) RX4 rfl (by decide +kernel) rfl rfl [(0, .ref (ea E 0)), (1, .int (iI r)), (2, .int (iI p))] rfl (Nat.le_of_ble_eq_true rfl) (fun p_ e_ s_ m_ a_ b_ h_ c_ Q A C hret => ?_)
  have hB := bR_iff r
  have hB1 := bR_01 r
  refine g_iload_n C dX4_isPosition_0 1 rfl rfl (q := 1) rfl ?_
  refine g_cS_i C (As := [.int (iI r)]) (c_X4_isReel l E _ r  (by omega)) ml_X4_253 mf_X4_isReel rfl rfl ⟨(Nat.le_of_ble_eq_true rfl), (Nat.le_of_ble_eq_true rfl)⟩ rfl rfl rfl (Nat.le_of_ble_eq_true rfl) ⟨(Nat.le_of_ble_eq_true rfl), (Nat.le_of_ble_eq_true rfl)⟩ dX4_isPosition_1 (q := 4) rfl ?_
  refine g_if_eq C dX4_isPosition_4 (by omega) (q2 := 27) rfl (q := 7) rfl (fun hb1 => ?_) (fun hb1 => ?_)
  · skip
    refine g_iconst C dX4_isPosition_27 (q := 28) rfl ?_
    exact hret _ _ _ dX4_isPosition_28 (by omega) (by unfold bP; first | rw [if_pos (by omega)] | rw [if_neg (by omega)])
  · skip
    refine g_iload_n C dX4_isPosition_7 2 rfl rfl (q := 8) rfl ?_
    refine g_if_lt C dX4_isPosition_8 (by omega) (q2 := 27) rfl (q := 11) rfl (fun hb2 => ?_) (fun hb2 => ?_)
    · skip
      refine g_iconst C dX4_isPosition_27 (q := 28) rfl ?_
      exact hret _ _ _ dX4_isPosition_28 (by omega) (by unfold bP; first | rw [if_pos (by omega)] | rw [if_neg (by omega)])
    · skip
      have hn := hN r (by omega)
      refine g_iload_n C dX4_isPosition_11 2 rfl rfl (q := 12) rfl ?_
      refine g_aload_n C dX4_isPosition_12 0 rfl rfl (q := 13) rfl ?_
      refine gf_X4_12 C dX4_isPosition_13 (q := 16) rfl ?_
      refine g_iload_n C dX4_isPosition_16 1 rfl rfl (q := 17) rfl ?_
      refine g_cVN_i C (As := [.int (iI r)]) (c_X3_countOf l E _ r  (by omega)) mn_X4_67 mf_X3_countOf (o := 1) (ci := 3) rfl rfl rfl rfl ⟨(Nat.le_of_ble_eq_true rfl), (Nat.le_of_ble_eq_true rfl)⟩ rfl rfl rfl (Nat.le_of_ble_eq_true rfl) ⟨(Nat.le_of_ble_eq_true rfl), (Nat.le_of_ble_eq_true rfl)⟩ dX4_isPosition_17 (q := 20) rfl ?_
      refine g_icmp_ge C dX4_isPosition_20 (by omega) (q2 := 27) rfl (q := 23) rfl (fun hb3 => ?_) (fun hb3 => ?_)
      · skip
        refine g_iconst C dX4_isPosition_27 (q := 28) rfl ?_
        exact hret _ _ _ dX4_isPosition_28 (by omega) (by unfold bP; first | rw [if_pos (by omega)] | rw [if_neg (by omega)])
      · skip
        refine g_iconst C dX4_isPosition_23 (q := 24) rfl ?_
        refine g_goto C dX4_isPosition_24 (q := 28) rfl ?_
        exact hret _ _ _ dX4_isPosition_28 (by omega) (by unfold bP; first | rw [if_pos (by omega)] | rw [if_neg (by omega)])
abbrev rm_X4_reelFault : Room := { frames := 1, cells := 0, slots := 0, locals := 20 }
set_option maxRecDepth 100000 in
set_option maxHeartbeats 4000000 in
theorem c_X4_reelFault (l : Launch) (E : EV) (σ : SS) (r : Int) (hr_r : -2147483648 ≤ r ∧ r ≤ 2147483647) : Ki l yX4_reelFault (cw yX4_reelFault cX4_reelFault 1 (some .int)) rm_X4_reelFault E [.int (iI r)] σ (fR r) σ := by
  refine Ki_of (rm := rm_X4_reelFault) (mL := 1) (b := cX4_reelFault) RX4 rfl (by decide +kernel) rfl rfl [(0, .int (iI r))] rfl (Nat.le_of_ble_eq_true rfl) (fun p_ e_ s_ m_ a_ b_ h_ c_ Q A C hret => ?_)
  have hB := bR_iff r
  have hB1 := bR_01 r
  refine g_iload_n C dX4_reelFault_0 0 rfl rfl (q := 1) rfl ?_
  refine g_cS_i C (As := [.int (iI r)]) (c_X4_isReel l E _ r  (by omega)) ml_X4_253 mf_X4_isReel rfl rfl ⟨(Nat.le_of_ble_eq_true rfl), (Nat.le_of_ble_eq_true rfl)⟩ rfl rfl rfl (Nat.le_of_ble_eq_true rfl) ⟨(Nat.le_of_ble_eq_true rfl), (Nat.le_of_ble_eq_true rfl)⟩ dX4_reelFault_1 (q := 4) rfl ?_
  refine g_if_eq C dX4_reelFault_4 (by omega) (q2 := 11) rfl (q := 7) rfl (fun hb1 => ?_) (fun hb1 => ?_)
  · skip
    refine g_iconst C dX4_reelFault_11 (q := 12) rfl ?_
    exact hret _ _ _ dX4_reelFault_12 (by unfold fR; first | rw [if_pos (by omega)] | rw [if_neg (by omega)])
  · skip
    refine g_iconst C dX4_reelFault_7 (q := 8) rfl ?_
    refine g_goto C dX4_reelFault_8 (q := 12) rfl ?_
    exact hret _ _ _ dX4_reelFault_12 (by unfold fR; first | rw [if_pos (by omega)] | rw [if_neg (by omega)])
abbrev rm_X4_pairFault : Room := { frames := 1, cells := 0, slots := 0, locals := 20 }
set_option maxRecDepth 100000 in
set_option maxHeartbeats 4000000 in
theorem c_X4_pairFault (l : Launch) (E : EV) (σ : SS) (r o : Int) (hr_r : -2147483648 ≤ r ∧ r ≤ 2147483647) (hr_o : -2147483648 ≤ o ∧ o ≤ 2147483647) : Ki l yX4_pairFault (cw yX4_pairFault cX4_pairFault 2 (some .int)) rm_X4_pairFault E [.int (iI r), .int (iI o)] σ (fRR r o) σ := by
  refine Ki_of (rm := rm_X4_pairFault) (mL := 2) (b := cX4_pairFault) RX4 rfl (by decide +kernel) rfl rfl [(0, .int (iI r)), (1, .int (iI o))] rfl (Nat.le_of_ble_eq_true rfl) (fun p_ e_ s_ m_ a_ b_ h_ c_ Q A C hret => ?_)
  have hB := bR_iff r
  have hB1 := bR_01 r
  have hC := bR_iff o
  have hC1 := bR_01 o
  refine g_iload_n C dX4_pairFault_0 0 rfl rfl (q := 1) rfl ?_
  refine g_cS_i C (As := [.int (iI r)]) (c_X4_isReel l E _ r  (by omega)) ml_X4_253 mf_X4_isReel rfl rfl ⟨(Nat.le_of_ble_eq_true rfl), (Nat.le_of_ble_eq_true rfl)⟩ rfl rfl rfl (Nat.le_of_ble_eq_true rfl) ⟨(Nat.le_of_ble_eq_true rfl), (Nat.le_of_ble_eq_true rfl)⟩ dX4_pairFault_1 (q := 4) rfl ?_
  refine g_if_eq C dX4_pairFault_4 (by omega) (q2 := 18) rfl (q := 7) rfl (fun hb1 => ?_) (fun hb1 => ?_)
  · skip
    refine g_iconst C dX4_pairFault_18 (q := 19) rfl ?_
    exact hret _ _ _ dX4_pairFault_19 (by unfold fRR; first | rw [if_pos (by omega)] | rw [if_neg (by omega)])
  · skip
    refine g_iload_n C dX4_pairFault_7 1 rfl rfl (q := 8) rfl ?_
    refine g_cS_i C (As := [.int (iI o)]) (c_X4_isReel l E _ o  (by omega)) ml_X4_253 mf_X4_isReel rfl rfl ⟨(Nat.le_of_ble_eq_true rfl), (Nat.le_of_ble_eq_true rfl)⟩ rfl rfl rfl (Nat.le_of_ble_eq_true rfl) ⟨(Nat.le_of_ble_eq_true rfl), (Nat.le_of_ble_eq_true rfl)⟩ dX4_pairFault_8 (q := 11) rfl ?_
    refine g_if_eq C dX4_pairFault_11 (by omega) (q2 := 18) rfl (q := 14) rfl (fun hb2 => ?_) (fun hb2 => ?_)
    · skip
      refine g_iconst C dX4_pairFault_18 (q := 19) rfl ?_
      exact hret _ _ _ dX4_pairFault_19 (by unfold fRR; first | rw [if_pos (by omega)] | rw [if_neg (by omega)])
    · skip
      refine g_iconst C dX4_pairFault_14 (q := 15) rfl ?_
      refine g_goto C dX4_pairFault_15 (q := 19) rfl ?_
      exact hret _ _ _ dX4_pairFault_19 (by unfold fRR; first | rw [if_pos (by omega)] | rw [if_neg (by omega)])
abbrev rm_X4_colourFault : Room := { frames := 1, cells := 0, slots := 0, locals := 20 }
set_option maxRecDepth 100000 in
set_option maxHeartbeats 4000000 in
theorem c_X4_colourFault (l : Launch) (E : EV) (σ : SS) (c : Int) (hr_c : -2147483648 ≤ c ∧ c ≤ 2147483647) : Ki l yX4_colourFault (cw yX4_colourFault cX4_colourFault 1 (some .int)) rm_X4_colourFault E [.int (iI c)] σ (fC c) σ := by
  refine Ki_of (rm := rm_X4_colourFault) (mL := 1) (b := cX4_colourFault) RX4 rfl (by decide +kernel) rfl rfl [(0, .int (iI c))] rfl (Nat.le_of_ble_eq_true rfl) (fun p_ e_ s_ m_ a_ b_ h_ c_ Q A C hret => ?_)
  have hB := bC_iff c
  have hB1 := bC_01 c
  refine g_iload_n C dX4_colourFault_0 0 rfl rfl (q := 1) rfl ?_
  refine g_cS_i C (As := [.int (iI c)]) (c_X4_isColour l E _ c  (by omega)) ml_X4_256 mf_X4_isColour rfl rfl ⟨(Nat.le_of_ble_eq_true rfl), (Nat.le_of_ble_eq_true rfl)⟩ rfl rfl rfl (Nat.le_of_ble_eq_true rfl) ⟨(Nat.le_of_ble_eq_true rfl), (Nat.le_of_ble_eq_true rfl)⟩ dX4_colourFault_1 (q := 4) rfl ?_
  refine g_if_eq C dX4_colourFault_4 (by omega) (q2 := 11) rfl (q := 7) rfl (fun hb1 => ?_) (fun hb1 => ?_)
  · skip
    refine g_iconst C dX4_colourFault_11 (q := 12) rfl ?_
    exact hret _ _ _ dX4_colourFault_12 (by unfold fC; first | rw [if_pos (by omega)] | rw [if_neg (by omega)])
  · skip
    refine g_iconst C dX4_colourFault_7 (q := 8) rfl ?_
    refine g_goto C dX4_colourFault_8 (q := 12) rfl ?_
    exact hret _ _ _ dX4_colourFault_12 (by unfold fC; first | rw [if_pos (by omega)] | rw [if_neg (by omega)])
abbrev rm_X4_positionFault : Room := { frames := 3, cells := 0, slots := 0, locals := 64 }
set_option maxRecDepth 100000 in
set_option maxHeartbeats 4000000 in
theorem c_X4_positionFault (l : Launch) (E : EV) (σ : SS) (r p : Int) (hr_r : -2147483648 ≤ r ∧ r ≤ 2147483647) (hr_p : -2147483648 ≤ p ∧ p ≤ 2147483647) (hN : ∀ r : Int, 0 ≤ r ∧ r < 4 → 0 ≤ (σ 2) (240 + r) ∧ (σ 2) (240 + r) ≤ 60) : Ki l yX4_positionFault (cw yX4_positionFault cX4_positionFault 3 (some .int)) rm_X4_positionFault E [.ref (ea E 0), .int (iI r), .int (iI p)] σ (fP (σ 2) r p) σ := by
  refine Ki_of (rm := rm_X4_positionFault) (mL := 3) (b := cX4_positionFault) RX4 rfl (by decide +kernel) rfl rfl [(0, .ref (ea E 0)), (1, .int (iI r)), (2, .int (iI p))] rfl (Nat.le_of_ble_eq_true rfl) (fun p_ e_ s_ m_ a_ b_ h_ c_ Q A C hret => ?_)
  have hB := bP_iff (σ 2) r p
  have hB1 := bP_01 (σ 2) r p
  refine g_aload_n C dX4_positionFault_0 0 rfl rfl (q := 1) rfl ?_
  refine g_iload_n C dX4_positionFault_1 1 rfl rfl (q := 2) rfl ?_
  refine g_iload_n C dX4_positionFault_2 2 rfl rfl (q := 3) rfl ?_
  refine g_cV_i C (As := [.int (iI r), .int (iI p)]) (c_X4_isPosition l E _ r p  (by omega) (by omega) (by assumption)) ml_X4_259 mf_X4_isPosition (o := 0) (ci := 4) rfl rfl rfl rfl ⟨(Nat.le_of_ble_eq_true rfl), (Nat.le_of_ble_eq_true rfl)⟩ rfl rfl rfl (Nat.le_of_ble_eq_true rfl) ⟨(Nat.le_of_ble_eq_true rfl), (Nat.le_of_ble_eq_true rfl)⟩ dX4_positionFault_3 (q := 6) rfl ?_
  refine g_if_eq C dX4_positionFault_6 (by omega) (q2 := 13) rfl (q := 9) rfl (fun hb1 => ?_) (fun hb1 => ?_)
  · skip
    refine g_iconst C dX4_positionFault_13 (q := 14) rfl ?_
    exact hret _ _ _ dX4_positionFault_14 (by unfold fP; first | rw [if_pos (by omega)] | rw [if_neg (by omega)])
  · skip
    refine g_iconst C dX4_positionFault_9 (q := 10) rfl ?_
    refine g_goto C dX4_positionFault_10 (q := 14) rfl ?_
    exact hret _ _ _ dX4_positionFault_14 (by unfold fP; first | rw [if_pos (by omega)] | rw [if_neg (by omega)])
abbrev rm_X4_borderFault : Room := { frames := 2, cells := 0, slots := 0, locals := 42 }
set_option maxRecDepth 100000 in
set_option maxHeartbeats 4000000 in
theorem c_X4_borderFault (l : Launch) (E : EV) (σ : SS) (r p : Int) (hr_r : -2147483648 ≤ r ∧ r ≤ 2147483647) (hr_p : -2147483648 ≤ p ∧ p ≤ 2147483647) (hN : ∀ r : Int, 0 ≤ r ∧ r < 4 → 0 ≤ (σ 2) (240 + r) ∧ (σ 2) (240 + r) ≤ 60) : Ki l yX4_borderFault (cw yX4_borderFault cX4_borderFault 4 (some .int)) rm_X4_borderFault E [.ref (ea E 0), .int (iI r), .int (iI p)] σ (fB (σ 2) r p) σ := by
  refine Ki_of (rm := rm_X4_borderFault) (mL := 4) (b := cX4_borderFault) RX4 rfl (by decide +kernel) rfl rfl [(0, .ref (ea E 0)), (1, .int (iI r)), (2, .int (iI p))] rfl (Nat.le_of_ble_eq_true rfl) (fun p_ e_ s_ m_ a_ b_ h_ c_ Q A C hret => ?_)
  have hB := bR_iff r
  have hB1 := bR_01 r
  refine g_iload_n C dX4_borderFault_0 1 rfl rfl (q := 1) rfl ?_
  refine g_cS_i C (As := [.int (iI r)]) (c_X4_isReel l E _ r  (by omega)) ml_X4_253 mf_X4_isReel rfl rfl ⟨(Nat.le_of_ble_eq_true rfl), (Nat.le_of_ble_eq_true rfl)⟩ rfl rfl rfl (Nat.le_of_ble_eq_true rfl) ⟨(Nat.le_of_ble_eq_true rfl), (Nat.le_of_ble_eq_true rfl)⟩ dX4_borderFault_1 (q := 4) rfl ?_
  refine g_if_eq C dX4_borderFault_4 (by omega) (q2 := 27) rfl (q := 7) rfl (fun hb1 => ?_) (fun hb1 => ?_)
  · skip
    refine g_iconst C dX4_borderFault_27 (q := 28) rfl ?_
    refine g_istore_n C (L' := [(3, .int (iI 0)), (0, .ref (ea E 0)), (1, .int (iI r)), (2, .int (iI p))]) dX4_borderFault_28 rfl (by decide) rfl (q := 29) rfl ?_
    refine g_iload_n C dX4_borderFault_29 0 rfl rfl (q := 30) rfl ?_
    refine g_if_eq C dX4_borderFault_30 (by omega) (q2 := 37) rfl (q := 33) rfl (fun hb2 => ?_) (fun hb2 => ?_)
    · skip
      refine g_iconst C dX4_borderFault_37 (q := 38) rfl ?_
      exact hret _ _ _ dX4_borderFault_38 (by unfold fB; first | rw [if_pos (by omega)] | rw [if_neg (by omega)])
    · skip
      exfalso; omega
  · skip
    refine g_iload_n C dX4_borderFault_7 2 rfl rfl (q := 8) rfl ?_
    refine g_if_lt C dX4_borderFault_8 (by omega) (q2 := 27) rfl (q := 11) rfl (fun hb3 => ?_) (fun hb3 => ?_)
    · skip
      refine g_iconst C dX4_borderFault_27 (q := 28) rfl ?_
      refine g_istore_n C (L' := [(3, .int (iI 0)), (0, .ref (ea E 0)), (1, .int (iI r)), (2, .int (iI p))]) dX4_borderFault_28 rfl (by decide) rfl (q := 29) rfl ?_
      refine g_iload_n C dX4_borderFault_29 0 rfl rfl (q := 30) rfl ?_
      refine g_if_eq C dX4_borderFault_30 (by omega) (q2 := 37) rfl (q := 33) rfl (fun hb4 => ?_) (fun hb4 => ?_)
      · skip
        refine g_iconst C dX4_borderFault_37 (q := 38) rfl ?_
        exact hret _ _ _ dX4_borderFault_38 (by unfold fB; first | rw [if_pos (by omega)] | rw [if_neg (by omega)])
      · skip
        exfalso; omega
    · skip
      have hn := hN r (by omega)
      refine g_iload_n C dX4_borderFault_11 2 rfl rfl (q := 12) rfl ?_
      refine g_aload_n C dX4_borderFault_12 0 rfl rfl (q := 13) rfl ?_
      refine gf_X4_12 C dX4_borderFault_13 (q := 16) rfl ?_
      refine g_iload_n C dX4_borderFault_16 1 rfl rfl (q := 17) rfl ?_
      refine g_cVN_i C (As := [.int (iI r)]) (c_X3_countOf l E _ r  (by omega)) mn_X4_67 mf_X3_countOf (o := 1) (ci := 3) rfl rfl rfl rfl ⟨(Nat.le_of_ble_eq_true rfl), (Nat.le_of_ble_eq_true rfl)⟩ rfl rfl rfl (Nat.le_of_ble_eq_true rfl) ⟨(Nat.le_of_ble_eq_true rfl), (Nat.le_of_ble_eq_true rfl)⟩ dX4_borderFault_17 (q := 20) rfl ?_
      refine g_icmp_gt C dX4_borderFault_20 (by omega) (q2 := 27) rfl (q := 23) rfl (fun hb5 => ?_) (fun hb5 => ?_)
      · skip
        refine g_iconst C dX4_borderFault_27 (q := 28) rfl ?_
        refine g_istore_n C (L' := [(3, .int (iI 0)), (0, .ref (ea E 0)), (1, .int (iI r)), (2, .int (iI p))]) dX4_borderFault_28 rfl (by decide) rfl (q := 29) rfl ?_
        refine g_iload_n C dX4_borderFault_29 0 rfl rfl (q := 30) rfl ?_
        refine g_if_eq C dX4_borderFault_30 (by omega) (q2 := 37) rfl (q := 33) rfl (fun hb6 => ?_) (fun hb6 => ?_)
        · skip
          refine g_iconst C dX4_borderFault_37 (q := 38) rfl ?_
          exact hret _ _ _ dX4_borderFault_38 (by unfold fB; first | rw [if_pos (by omega)] | rw [if_neg (by omega)])
        · skip
          exfalso; omega
      · skip
        refine g_iconst C dX4_borderFault_23 (q := 24) rfl ?_
        refine g_goto C dX4_borderFault_24 (q := 28) rfl ?_
        refine g_istore_n C (L' := [(3, .int (iI 1)), (0, .ref (ea E 0)), (1, .int (iI r)), (2, .int (iI p))]) dX4_borderFault_28 rfl (by decide) rfl (q := 29) rfl ?_
        refine g_iload_n C dX4_borderFault_29 0 rfl rfl (q := 30) rfl ?_
        refine g_if_eq C dX4_borderFault_30 (by omega) (q2 := 37) rfl (q := 33) rfl (fun hb7 => ?_) (fun hb7 => ?_)
        · skip
          exfalso; omega
        · skip
          refine g_iconst C dX4_borderFault_33 (q := 34) rfl ?_
          refine g_goto C dX4_borderFault_34 (q := 38) rfl ?_
          exact hret _ _ _ dX4_borderFault_38 (by unfold fB; first | rw [if_pos (by omega)] | rw [if_neg (by omega)])
abbrev rm_X4_rangeFault : Room := { frames := 3, cells := 0, slots := 0, locals := 64 }
set_option maxRecDepth 100000 in
set_option maxHeartbeats 4000000 in
theorem c_X4_rangeFault (l : Launch) (E : EV) (σ : SS) (r x y : Int) (hr_r : -2147483648 ≤ r ∧ r ≤ 2147483647) (hr_x : -2147483648 ≤ x ∧ x ≤ 2147483647) (hr_y : -2147483648 ≤ y ∧ y ≤ 2147483647) (hN : ∀ r : Int, 0 ≤ r ∧ r < 4 → 0 ≤ (σ 2) (240 + r) ∧ (σ 2) (240 + r) ≤ 60) : Ki l yX4_rangeFault (cw yX4_rangeFault cX4_rangeFault 4 (some .int)) rm_X4_rangeFault E [.ref (ea E 0), .int (iI r), .int (iI x), .int (iI y)] σ (fX (σ 2) r x y) σ := by
  refine Ki_of (rm := rm_X4_rangeFault) (mL := 4) (b := cX4_rangeFault) RX4 rfl (by decide +kernel) rfl rfl [(0, .ref (ea E 0)), (1, .int (iI r)), (2, .int (iI x)), (3, .int (iI y))] rfl (Nat.le_of_ble_eq_true rfl) (fun p_ e_ s_ m_ a_ b_ h_ c_ Q A C hret => ?_)
  have hB := bP_iff (σ 2) r x
  have hB1 := bP_01 (σ 2) r x
  have hC := bP_iff (σ 2) r y
  have hC1 := bP_01 (σ 2) r y
  refine g_aload_n C dX4_rangeFault_0 0 rfl rfl (q := 1) rfl ?_
  refine g_iload_n C dX4_rangeFault_1 1 rfl rfl (q := 2) rfl ?_
  refine g_iload_n C dX4_rangeFault_2 2 rfl rfl (q := 3) rfl ?_
  refine g_cV_i C (As := [.int (iI r), .int (iI x)]) (c_X4_isPosition l E _ r x  (by omega) (by omega) (by assumption)) ml_X4_259 mf_X4_isPosition (o := 0) (ci := 4) rfl rfl rfl rfl ⟨(Nat.le_of_ble_eq_true rfl), (Nat.le_of_ble_eq_true rfl)⟩ rfl rfl rfl (Nat.le_of_ble_eq_true rfl) ⟨(Nat.le_of_ble_eq_true rfl), (Nat.le_of_ble_eq_true rfl)⟩ dX4_rangeFault_3 (q := 6) rfl ?_
  refine g_if_eq C dX4_rangeFault_6 (by omega) (q2 := 18) rfl (q := 9) rfl (fun hb1 => ?_) (fun hb1 => ?_)
  · skip
    refine g_iconst C dX4_rangeFault_18 (q := 19) rfl ?_
    exact hret _ _ _ dX4_rangeFault_19 (by unfold fX; first | rw [if_pos (by omega)] | rw [if_neg (by omega), if_pos (by omega)] | rw [if_neg (by omega), if_neg (by omega)])
  · skip
    refine g_aload_n C dX4_rangeFault_9 0 rfl rfl (q := 10) rfl ?_
    refine g_iload_n C dX4_rangeFault_10 1 rfl rfl (q := 11) rfl ?_
    refine g_iload_n C dX4_rangeFault_11 3 rfl rfl (q := 12) rfl ?_
    refine g_cV_i C (As := [.int (iI r), .int (iI y)]) (c_X4_isPosition l E _ r y  (by omega) (by omega) (by assumption)) ml_X4_259 mf_X4_isPosition (o := 0) (ci := 4) rfl rfl rfl rfl ⟨(Nat.le_of_ble_eq_true rfl), (Nat.le_of_ble_eq_true rfl)⟩ rfl rfl rfl (Nat.le_of_ble_eq_true rfl) ⟨(Nat.le_of_ble_eq_true rfl), (Nat.le_of_ble_eq_true rfl)⟩ dX4_rangeFault_12 (q := 15) rfl ?_
    refine g_if_ne C dX4_rangeFault_15 (by omega) (q2 := 20) rfl (q := 18) rfl (fun hb2 => ?_) (fun hb2 => ?_)
    · skip
      refine g_iload_n C dX4_rangeFault_20 2 rfl rfl (q := 21) rfl ?_
      refine g_iload_n C dX4_rangeFault_21 3 rfl rfl (q := 22) rfl ?_
      refine g_icmp_gt C dX4_rangeFault_22 (by omega) (q2 := 29) rfl (q := 25) rfl (fun hb3 => ?_) (fun hb3 => ?_)
      · skip
        refine g_iconst C dX4_rangeFault_29 (q := 30) rfl ?_
        exact hret _ _ _ dX4_rangeFault_30 (by unfold fX; first | rw [if_pos (by omega)] | rw [if_neg (by omega), if_pos (by omega)] | rw [if_neg (by omega), if_neg (by omega)])
      · skip
        refine g_iconst C dX4_rangeFault_25 (q := 26) rfl ?_
        refine g_goto C dX4_rangeFault_26 (q := 30) rfl ?_
        exact hret _ _ _ dX4_rangeFault_30 (by unfold fX; first | rw [if_pos (by omega)] | rw [if_neg (by omega), if_pos (by omega)] | rw [if_neg (by omega), if_neg (by omega)])
    · skip
      refine g_iconst C dX4_rangeFault_18 (q := 19) rfl ?_
      exact hret _ _ _ dX4_rangeFault_19 (by unfold fX; first | rw [if_pos (by omega)] | rw [if_neg (by omega), if_pos (by omega)] | rw [if_neg (by omega), if_neg (by omega)])
abbrev rm_X4_newSegmentFault : Room := { frames := 2, cells := 0, slots := 0, locals := 42 }
set_option maxRecDepth 100000 in
set_option maxHeartbeats 4000000 in
theorem c_X4_newSegmentFault (l : Launch) (E : EV) (σ : SS) (r x c : Int) (hr : 0 ≤ r ∧ r < 4) (hr_x : -2147483648 ≤ x ∧ x ≤ 2147483647) (hr_c : -2147483648 ≤ c ∧ c ≤ 2147483647) (hN : ∀ r : Int, 0 ≤ r ∧ r < 4 → 0 ≤ (σ 2) (240 + r) ∧ (σ 2) (240 + r) ≤ 60) : Ki l yX4_newSegmentFault (cw yX4_newSegmentFault cX4_newSegmentFault 4 (some .int)) rm_X4_newSegmentFault E [.ref (ea E 0), .int (iI r), .int (iI x), .int (iI c)] σ (fN (σ 2) r x c) σ := by
  refine Ki_of (rm := rm_X4_newSegmentFault) (mL := 4) (b := cX4_newSegmentFault) RX4 rfl (by decide +kernel) rfl rfl [(0, .ref (ea E 0)), (1, .int (iI r)), (2, .int (iI x)), (3, .int (iI c))] rfl (Nat.le_of_ble_eq_true rfl) (fun p_ e_ s_ m_ a_ b_ h_ c_ Q A C hret => ?_)
  have hn := hN r hr
  have hB := bL_iff x
  have hB1 := bL_01 x
  have hC := bC_iff c
  have hC1 := bC_01 c
  refine g_iload_n C dX4_newSegmentFault_0 2 rfl rfl (q := 1) rfl ?_
  refine g_cS_i C (As := [.int (iI x)]) (c_X4_isLength l E _ x  (by omega)) ml_X4_265 mf_X4_isLength rfl rfl ⟨(Nat.le_of_ble_eq_true rfl), (Nat.le_of_ble_eq_true rfl)⟩ rfl rfl rfl (Nat.le_of_ble_eq_true rfl) ⟨(Nat.le_of_ble_eq_true rfl), (Nat.le_of_ble_eq_true rfl)⟩ dX4_newSegmentFault_1 (q := 4) rfl ?_
  refine g_if_eq C dX4_newSegmentFault_4 (by omega) (q2 := 14) rfl (q := 7) rfl (fun hb1 => ?_) (fun hb1 => ?_)
  · skip
    refine g_iconst C dX4_newSegmentFault_14 (q := 15) rfl ?_
    exact hret _ _ _ dX4_newSegmentFault_15 (by unfold fN; first | rw [if_pos (by omega)] | rw [if_neg (by omega), if_pos (by omega)] | rw [if_neg (by omega), if_neg (by omega)])
  · skip
    refine g_iload_n C dX4_newSegmentFault_7 3 rfl rfl (q := 8) rfl ?_
    refine g_cS_i C (As := [.int (iI c)]) (c_X4_isColour l E _ c  (by omega)) ml_X4_256 mf_X4_isColour rfl rfl ⟨(Nat.le_of_ble_eq_true rfl), (Nat.le_of_ble_eq_true rfl)⟩ rfl rfl rfl (Nat.le_of_ble_eq_true rfl) ⟨(Nat.le_of_ble_eq_true rfl), (Nat.le_of_ble_eq_true rfl)⟩ dX4_newSegmentFault_8 (q := 11) rfl ?_
    refine g_if_ne C dX4_newSegmentFault_11 (by omega) (q2 := 16) rfl (q := 14) rfl (fun hb2 => ?_) (fun hb2 => ?_)
    · skip
      refine g_aload_n C dX4_newSegmentFault_16 0 rfl rfl (q := 17) rfl ?_
      refine gf_X4_12 C dX4_newSegmentFault_17 (q := 20) rfl ?_
      refine g_iload_n C dX4_newSegmentFault_20 1 rfl rfl (q := 21) rfl ?_
      refine g_cVN_i C (As := [.int (iI r)]) (c_X3_countOf l E _ r  (by omega)) mn_X4_67 mf_X3_countOf (o := 1) (ci := 3) rfl rfl rfl rfl ⟨(Nat.le_of_ble_eq_true rfl), (Nat.le_of_ble_eq_true rfl)⟩ rfl rfl rfl (Nat.le_of_ble_eq_true rfl) ⟨(Nat.le_of_ble_eq_true rfl), (Nat.le_of_ble_eq_true rfl)⟩ dX4_newSegmentFault_21 (q := 24) rfl ?_
      refine g_bipush C dX4_newSegmentFault_24 (by decide) (q := 26) rfl ?_
      refine g_icmp_ge C dX4_newSegmentFault_26 (by omega) (q2 := 33) rfl (q := 29) rfl (fun hb3 => ?_) (fun hb3 => ?_)
      · skip
        refine g_iconst C dX4_newSegmentFault_33 (q := 34) rfl ?_
        exact hret _ _ _ dX4_newSegmentFault_34 (by unfold fN; first | rw [if_pos (by omega)] | rw [if_neg (by omega), if_pos (by omega)] | rw [if_neg (by omega), if_neg (by omega)])
      · skip
        refine g_iconst C dX4_newSegmentFault_29 (q := 30) rfl ?_
        refine g_goto C dX4_newSegmentFault_30 (q := 34) rfl ?_
        exact hret _ _ _ dX4_newSegmentFault_34 (by unfold fN; first | rw [if_pos (by omega)] | rw [if_neg (by omega), if_pos (by omega)] | rw [if_neg (by omega), if_neg (by omega)])
    · skip
      refine g_iconst C dX4_newSegmentFault_14 (q := 15) rfl ?_
      exact hret _ _ _ dX4_newSegmentFault_15 (by unfold fN; first | rw [if_pos (by omega)] | rw [if_neg (by omega), if_pos (by omega)] | rw [if_neg (by omega), if_neg (by omega)])
abbrev rm_X4_addFault : Room := { frames := 3, cells := 0, slots := 0, locals := 65 }
set_option maxRecDepth 100000 in
set_option maxHeartbeats 4000000 in
theorem c_X4_addFault (l : Launch) (E : EV) (σ : SS) (r x c : Int) (hr_r : -2147483648 ≤ r ∧ r ≤ 2147483647) (hr_x : -2147483648 ≤ x ∧ x ≤ 2147483647) (hr_c : -2147483648 ≤ c ∧ c ≤ 2147483647) (hN : ∀ r : Int, 0 ≤ r ∧ r < 4 → 0 ≤ (σ 2) (240 + r) ∧ (σ 2) (240 + r) ≤ 60) : Ki l yX4_addFault (cw yX4_addFault cX4_addFault 4 (some .int)) rm_X4_addFault E [.ref (ea E 0), .int (iI r), .int (iI x), .int (iI c)] σ (fA (σ 2) r x c) σ := by
  refine Ki_of (rm := rm_X4_addFault) (mL := 4) (b := cX4_addFault) RX4 rfl (by decide +kernel) rfl rfl [(0, .ref (ea E 0)), (1, .int (iI r)), (2, .int (iI x)), (3, .int (iI c))] rfl (Nat.le_of_ble_eq_true rfl) (fun p_ e_ s_ m_ a_ b_ h_ c_ Q A C hret => ?_)
  have hB := bR_iff r
  have hB1 := bR_01 r
  refine g_iload_n C dX4_addFault_0 1 rfl rfl (q := 1) rfl ?_
  refine g_cS_i C (As := [.int (iI r)]) (c_X4_isReel l E _ r  (by omega)) ml_X4_253 mf_X4_isReel rfl rfl ⟨(Nat.le_of_ble_eq_true rfl), (Nat.le_of_ble_eq_true rfl)⟩ rfl rfl rfl (Nat.le_of_ble_eq_true rfl) ⟨(Nat.le_of_ble_eq_true rfl), (Nat.le_of_ble_eq_true rfl)⟩ dX4_addFault_1 (q := 4) rfl ?_
  refine g_if_ne C dX4_addFault_4 (by omega) (q2 := 9) rfl (q := 7) rfl (fun hb1 => ?_) (fun hb1 => ?_)
  · skip
    refine g_aload_n C dX4_addFault_9 0 rfl rfl (q := 10) rfl ?_
    refine g_iload_n C dX4_addFault_10 1 rfl rfl (q := 11) rfl ?_
    refine g_iload_n C dX4_addFault_11 2 rfl rfl (q := 12) rfl ?_
    refine g_iload_n C dX4_addFault_12 3 rfl rfl (q := 13) rfl ?_
    refine g_cV_i C (As := [.int (iI r), .int (iI x), .int (iI c)]) (c_X4_newSegmentFault l E _ r x c  (by omega) (by omega) (by omega) (by assumption)) ml_X4_262 mf_X4_newSegmentFault (o := 0) (ci := 4) rfl rfl rfl rfl ⟨(Nat.le_of_ble_eq_true rfl), (Nat.le_of_ble_eq_true rfl)⟩ rfl rfl rfl (Nat.le_of_ble_eq_true rfl) ⟨(Nat.le_of_ble_eq_true rfl), (Nat.le_of_ble_eq_true rfl)⟩ dX4_addFault_13 (q := 16) rfl ?_
    exact hret _ _ _ dX4_addFault_16 (by unfold fA; first | rw [if_pos (by omega)] | rw [if_neg (by omega)])
  · skip
    refine g_iconst C dX4_addFault_7 (q := 8) rfl ?_
    exact hret _ _ _ dX4_addFault_8 (by unfold fA; first | rw [if_pos (by omega)] | rw [if_neg (by omega)])
abbrev rm_X4_putFault : Room := { frames := 3, cells := 0, slots := 0, locals := 65 }
set_option maxRecDepth 100000 in
set_option maxHeartbeats 4000000 in
theorem c_X4_putFault (l : Launch) (E : EV) (σ : SS) (r p x c : Int) (hr_r : -2147483648 ≤ r ∧ r ≤ 2147483647) (hr_p : -2147483648 ≤ p ∧ p ≤ 2147483647) (hr_x : -2147483648 ≤ x ∧ x ≤ 2147483647) (hr_c : -2147483648 ≤ c ∧ c ≤ 2147483647) (hN : ∀ r : Int, 0 ≤ r ∧ r < 4 → 0 ≤ (σ 2) (240 + r) ∧ (σ 2) (240 + r) ≤ 60) : Ki l yX4_putFault (cw yX4_putFault cX4_putFault 5 (some .int)) rm_X4_putFault E [.ref (ea E 0), .int (iI r), .int (iI p), .int (iI x), .int (iI c)] σ (fPu (σ 2) r p x c) σ := by
  refine Ki_of (rm := rm_X4_putFault) (mL := 5) (b := cX4_putFault) RX4 rfl (by decide +kernel) rfl rfl [(0, .ref (ea E 0)), (1, .int (iI r)), (2, .int (iI p)), (3, .int (iI x)), (4, .int (iI c))] rfl (Nat.le_of_ble_eq_true rfl) (fun p_ e_ s_ m_ a_ b_ h_ c_ Q A C hret => ?_)
  have hB := fB_iff (σ 2) r p
  refine g_aload_n C dX4_putFault_0 0 rfl rfl (q := 1) rfl ?_
  refine g_iload_n C dX4_putFault_1 1 rfl rfl (q := 2) rfl ?_
  refine g_iload_n C dX4_putFault_2 2 rfl rfl (q := 3) rfl ?_
  refine g_cV_i C (As := [.int (iI r), .int (iI p)]) (c_X4_borderFault l E _ r p  (by omega) (by omega) (by assumption)) ml_X4_83 mf_X4_borderFault (o := 0) (ci := 4) rfl rfl rfl rfl ⟨(Nat.le_of_ble_eq_true rfl), (Nat.le_of_ble_eq_true rfl)⟩ rfl rfl rfl (Nat.le_of_ble_eq_true rfl) ⟨(Nat.le_of_ble_eq_true rfl), (Nat.le_of_ble_eq_true rfl)⟩ dX4_putFault_3 (q := 6) rfl ?_
  refine g_if_eq C dX4_putFault_6 (by omega) (q2 := 11) rfl (q := 9) rfl (fun hb1 => ?_) (fun hb1 => ?_)
  · skip
    refine g_aload_n C dX4_putFault_11 0 rfl rfl (q := 12) rfl ?_
    refine g_iload_n C dX4_putFault_12 1 rfl rfl (q := 13) rfl ?_
    refine g_iload_n C dX4_putFault_13 3 rfl rfl (q := 14) rfl ?_
    refine g_iload C dX4_putFault_14 4 rfl (q := 16) rfl ?_
    refine g_cV_i C (As := [.int (iI r), .int (iI x), .int (iI c)]) (c_X4_newSegmentFault l E _ r x c  (by omega) (by omega) (by omega) (by assumption)) ml_X4_262 mf_X4_newSegmentFault (o := 0) (ci := 4) rfl rfl rfl rfl ⟨(Nat.le_of_ble_eq_true rfl), (Nat.le_of_ble_eq_true rfl)⟩ rfl rfl rfl (Nat.le_of_ble_eq_true rfl) ⟨(Nat.le_of_ble_eq_true rfl), (Nat.le_of_ble_eq_true rfl)⟩ dX4_putFault_16 (q := 19) rfl ?_
    exact hret _ _ _ dX4_putFault_19 (by unfold fPu; first | rw [if_pos (by omega)] | rw [if_neg (by omega)])
  · skip
    refine g_iconst C dX4_putFault_9 (q := 10) rfl ?_
    exact hret _ _ _ dX4_putFault_10 (by unfold fPu; first | rw [if_pos (by omega)] | rw [if_neg (by omega)])
abbrev rm_X4_tieFault : Room := { frames := 3, cells := 0, slots := 0, locals := 64 }
set_option maxRecDepth 100000 in
set_option maxHeartbeats 4000000 in
theorem c_X4_tieFault (l : Launch) (E : EV) (σ : SS) (r p x : Int) (hr_r : -2147483648 ≤ r ∧ r ≤ 2147483647) (hr_p : -2147483648 ≤ p ∧ p ≤ 2147483647) (hr_x : -2147483648 ≤ x ∧ x ≤ 2147483647) (hN : ∀ r : Int, 0 ≤ r ∧ r < 4 → 0 ≤ (σ 2) (240 + r) ∧ (σ 2) (240 + r) ≤ 60) : Ki l yX4_tieFault (cw yX4_tieFault cX4_tieFault 4 (some .int)) rm_X4_tieFault E [.ref (ea E 0), .int (iI r), .int (iI p), .int (iI x)] σ (fT (σ 2) r p x) σ := by
  refine Ki_of (rm := rm_X4_tieFault) (mL := 4) (b := cX4_tieFault) RX4 rfl (by decide +kernel) rfl rfl [(0, .ref (ea E 0)), (1, .int (iI r)), (2, .int (iI p)), (3, .int (iI x))] rfl (Nat.le_of_ble_eq_true rfl) (fun p_ e_ s_ m_ a_ b_ h_ c_ Q A C hret => ?_)
  have hB := bP_iff (σ 2) r p
  have hB1 := bP_01 (σ 2) r p
  have hC := bL_iff x
  have hC1 := bL_01 x
  refine g_aload_n C dX4_tieFault_0 0 rfl rfl (q := 1) rfl ?_
  refine g_iload_n C dX4_tieFault_1 1 rfl rfl (q := 2) rfl ?_
  refine g_iload_n C dX4_tieFault_2 2 rfl rfl (q := 3) rfl ?_
  refine g_cV_i C (As := [.int (iI r), .int (iI p)]) (c_X4_isPosition l E _ r p  (by omega) (by omega) (by assumption)) ml_X4_259 mf_X4_isPosition (o := 0) (ci := 4) rfl rfl rfl rfl ⟨(Nat.le_of_ble_eq_true rfl), (Nat.le_of_ble_eq_true rfl)⟩ rfl rfl rfl (Nat.le_of_ble_eq_true rfl) ⟨(Nat.le_of_ble_eq_true rfl), (Nat.le_of_ble_eq_true rfl)⟩ dX4_tieFault_3 (q := 6) rfl ?_
  refine g_if_ne C dX4_tieFault_6 (by omega) (q2 := 11) rfl (q := 9) rfl (fun hb1 => ?_) (fun hb1 => ?_)
  · skip
    refine g_iload_n C dX4_tieFault_11 3 rfl rfl (q := 12) rfl ?_
    refine g_cS_i C (As := [.int (iI x)]) (c_X4_isLength l E _ x  (by omega)) ml_X4_265 mf_X4_isLength rfl rfl ⟨(Nat.le_of_ble_eq_true rfl), (Nat.le_of_ble_eq_true rfl)⟩ rfl rfl rfl (Nat.le_of_ble_eq_true rfl) ⟨(Nat.le_of_ble_eq_true rfl), (Nat.le_of_ble_eq_true rfl)⟩ dX4_tieFault_12 (q := 15) rfl ?_
    refine g_if_eq C dX4_tieFault_15 (by omega) (q2 := 22) rfl (q := 18) rfl (fun hb2 => ?_) (fun hb2 => ?_)
    · skip
      refine g_iconst C dX4_tieFault_22 (q := 23) rfl ?_
      exact hret _ _ _ dX4_tieFault_23 (by unfold fT; first | rw [if_pos (by omega)] | rw [if_neg (by omega), if_pos (by omega)] | rw [if_neg (by omega), if_neg (by omega)])
    · skip
      refine g_iconst C dX4_tieFault_18 (q := 19) rfl ?_
      refine g_goto C dX4_tieFault_19 (q := 23) rfl ?_
      exact hret _ _ _ dX4_tieFault_23 (by unfold fT; first | rw [if_pos (by omega)] | rw [if_neg (by omega), if_pos (by omega)] | rw [if_neg (by omega), if_neg (by omega)])
  · skip
    refine g_iconst C dX4_tieFault_9 (q := 10) rfl ?_
    exact hret _ _ _ dX4_tieFault_10 (by unfold fT; first | rw [if_pos (by omega)] | rw [if_neg (by omega), if_pos (by omega)] | rw [if_neg (by omega), if_neg (by omega)])
abbrev rm_X4_cutFault : Room := { frames := 3, cells := 0, slots := 0, locals := 65 }
set_option maxRecDepth 100000 in
set_option maxHeartbeats 4000000 in
theorem c_X4_cutFault (l : Launch) (E : EV) (σ : SS) (r p o : Int) (hr_r : -2147483648 ≤ r ∧ r ≤ 2147483647) (hr_p : -2147483648 ≤ p ∧ p ≤ 2147483647) (hr_o : -2147483648 ≤ o ∧ o ≤ 2147483647) (hN : ∀ r : Int, 0 ≤ r ∧ r < 4 → 0 ≤ (σ 2) (240 + r) ∧ (σ 2) (240 + r) ≤ 60) : Ki l yX4_cutFault (cw yX4_cutFault cX4_cutFault 4 (some .int)) rm_X4_cutFault E [.ref (ea E 0), .int (iI r), .int (iI p), .int (iI o)] σ (fCu (σ 2) r p o) σ := by
  refine Ki_of (rm := rm_X4_cutFault) (mL := 4) (b := cX4_cutFault) RX4 rfl (by decide +kernel) rfl rfl [(0, .ref (ea E 0)), (1, .int (iI r)), (2, .int (iI p)), (3, .int (iI o))] rfl (Nat.le_of_ble_eq_true rfl) (fun p_ e_ s_ m_ a_ b_ h_ c_ Q A C hret => ?_)
  have hB := fB_iff (σ 2) r p
  have hC := bR_iff o
  have hC1 := bR_01 o
  refine g_aload_n C dX4_cutFault_0 0 rfl rfl (q := 1) rfl ?_
  refine g_iload_n C dX4_cutFault_1 1 rfl rfl (q := 2) rfl ?_
  refine g_iload_n C dX4_cutFault_2 2 rfl rfl (q := 3) rfl ?_
  refine g_cV_i C (As := [.int (iI r), .int (iI p)]) (c_X4_borderFault l E _ r p  (by omega) (by omega) (by assumption)) ml_X4_83 mf_X4_borderFault (o := 0) (ci := 4) rfl rfl rfl rfl ⟨(Nat.le_of_ble_eq_true rfl), (Nat.le_of_ble_eq_true rfl)⟩ rfl rfl rfl (Nat.le_of_ble_eq_true rfl) ⟨(Nat.le_of_ble_eq_true rfl), (Nat.le_of_ble_eq_true rfl)⟩ dX4_cutFault_3 (q := 6) rfl ?_
  refine g_if_ne C dX4_cutFault_6 (by omega) (q2 := 16) rfl (q := 9) rfl (fun hb1 => ?_) (fun hb1 => ?_)
  · skip
    refine g_iconst C dX4_cutFault_16 (q := 17) rfl ?_
    exact hret _ _ _ dX4_cutFault_17 (by unfold fCu; first | rw [if_pos (by omega)] | rw [if_neg (by omega), if_pos (by omega)] | rw [if_neg (by omega), if_neg (by omega), if_pos (by omega)] | rw [if_neg (by omega), if_neg (by omega), if_neg (by omega)])
  · skip
    refine g_iload_n C dX4_cutFault_9 3 rfl rfl (q := 10) rfl ?_
    refine g_cS_i C (As := [.int (iI o)]) (c_X4_isReel l E _ o  (by omega)) ml_X4_253 mf_X4_isReel rfl rfl ⟨(Nat.le_of_ble_eq_true rfl), (Nat.le_of_ble_eq_true rfl)⟩ rfl rfl rfl (Nat.le_of_ble_eq_true rfl) ⟨(Nat.le_of_ble_eq_true rfl), (Nat.le_of_ble_eq_true rfl)⟩ dX4_cutFault_10 (q := 13) rfl ?_
    refine g_if_ne C dX4_cutFault_13 (by omega) (q2 := 18) rfl (q := 16) rfl (fun hb2 => ?_) (fun hb2 => ?_)
    · skip
      refine g_iload_n C dX4_cutFault_18 1 rfl rfl (q := 19) rfl ?_
      refine g_iload_n C dX4_cutFault_19 3 rfl rfl (q := 20) rfl ?_
      refine g_icmp_ne C dX4_cutFault_20 (by omega) (q2 := 25) rfl (q := 23) rfl (fun hb3 => ?_) (fun hb3 => ?_)
      · skip
        have hn := hN o (by omega)
        refine g_aload_n C dX4_cutFault_25 0 rfl rfl (q := 26) rfl ?_
        refine gf_X4_12 C dX4_cutFault_26 (q := 29) rfl ?_
        refine g_iload_n C dX4_cutFault_29 3 rfl rfl (q := 30) rfl ?_
        refine g_cVN_i C (As := [.int (iI o)]) (c_X3_countOf l E _ o  (by omega)) mn_X4_67 mf_X3_countOf (o := 1) (ci := 3) rfl rfl rfl rfl ⟨(Nat.le_of_ble_eq_true rfl), (Nat.le_of_ble_eq_true rfl)⟩ rfl rfl rfl (Nat.le_of_ble_eq_true rfl) ⟨(Nat.le_of_ble_eq_true rfl), (Nat.le_of_ble_eq_true rfl)⟩ dX4_cutFault_30 (q := 33) rfl ?_
        refine g_if_ne C dX4_cutFault_33 (by omega) (q2 := 40) rfl (q := 36) rfl (fun hb4 => ?_) (fun hb4 => ?_)
        · skip
          refine g_iconst C dX4_cutFault_40 (q := 41) rfl ?_
          exact hret _ _ _ dX4_cutFault_41 (by unfold fCu; first | rw [if_pos (by omega)] | rw [if_neg (by omega), if_pos (by omega)] | rw [if_neg (by omega), if_neg (by omega), if_pos (by omega)] | rw [if_neg (by omega), if_neg (by omega), if_neg (by omega)])
        · skip
          refine g_iconst C dX4_cutFault_36 (q := 37) rfl ?_
          refine g_goto C dX4_cutFault_37 (q := 41) rfl ?_
          exact hret _ _ _ dX4_cutFault_41 (by unfold fCu; first | rw [if_pos (by omega)] | rw [if_neg (by omega), if_pos (by omega)] | rw [if_neg (by omega), if_neg (by omega), if_pos (by omega)] | rw [if_neg (by omega), if_neg (by omega), if_neg (by omega)])
      · skip
        refine g_iconst C dX4_cutFault_23 (q := 24) rfl ?_
        exact hret _ _ _ dX4_cutFault_24 (by unfold fCu; first | rw [if_pos (by omega)] | rw [if_neg (by omega), if_pos (by omega)] | rw [if_neg (by omega), if_neg (by omega), if_pos (by omega)] | rw [if_neg (by omega), if_neg (by omega), if_neg (by omega)])
    · skip
      refine g_iconst C dX4_cutFault_16 (q := 17) rfl ?_
      exact hret _ _ _ dX4_cutFault_17 (by unfold fCu; first | rw [if_pos (by omega)] | rw [if_neg (by omega), if_pos (by omega)] | rw [if_neg (by omega), if_neg (by omega), if_pos (by omega)] | rw [if_neg (by omega), if_neg (by omega), if_neg (by omega)])
abbrev rm_X4_joinFault : Room := { frames := 2, cells := 0, slots := 0, locals := 42 }
set_option maxRecDepth 100000 in
set_option maxHeartbeats 4000000 in
theorem c_X4_joinFault (l : Launch) (E : EV) (σ : SS) (r o : Int) (hr_r : -2147483648 ≤ r ∧ r ≤ 2147483647) (hr_o : -2147483648 ≤ o ∧ o ≤ 2147483647) (hN : ∀ r : Int, 0 ≤ r ∧ r < 4 → 0 ≤ (σ 2) (240 + r) ∧ (σ 2) (240 + r) ≤ 60) : Ki l yX4_joinFault (cw yX4_joinFault cX4_joinFault 3 (some .int)) rm_X4_joinFault E [.ref (ea E 0), .int (iI r), .int (iI o)] σ (fJ (σ 2) r o) σ := by
  refine Ki_of (rm := rm_X4_joinFault) (mL := 3) (b := cX4_joinFault) RX4 rfl (by decide +kernel) rfl rfl [(0, .ref (ea E 0)), (1, .int (iI r)), (2, .int (iI o))] rfl (Nat.le_of_ble_eq_true rfl) (fun p_ e_ s_ m_ a_ b_ h_ c_ Q A C hret => ?_)
  have hB := fRR_iff r o
  refine g_iload_n C dX4_joinFault_0 1 rfl rfl (q := 1) rfl ?_
  refine g_iload_n C dX4_joinFault_1 2 rfl rfl (q := 2) rfl ?_
  refine g_cS_i C (As := [.int (iI r), .int (iI o)]) (c_X4_pairFault l E _ r o  (by omega) (by omega)) ml_X4_137 mf_X4_pairFault rfl rfl ⟨(Nat.le_of_ble_eq_true rfl), (Nat.le_of_ble_eq_true rfl)⟩ rfl rfl rfl (Nat.le_of_ble_eq_true rfl) ⟨(Nat.le_of_ble_eq_true rfl), (Nat.le_of_ble_eq_true rfl)⟩ dX4_joinFault_2 (q := 5) rfl ?_
  refine g_if_eq C dX4_joinFault_5 (by omega) (q2 := 10) rfl (q := 8) rfl (fun hb1 => ?_) (fun hb1 => ?_)
  · skip
    refine g_iload_n C dX4_joinFault_10 1 rfl rfl (q := 11) rfl ?_
    refine g_iload_n C dX4_joinFault_11 2 rfl rfl (q := 12) rfl ?_
    refine g_icmp_ne C dX4_joinFault_12 (by omega) (q2 := 17) rfl (q := 15) rfl (fun hb2 => ?_) (fun hb2 => ?_)
    · skip
      have hn := hN o (by omega)
      have hn2 := hN r (by omega)
      refine g_aload_n C dX4_joinFault_17 0 rfl rfl (q := 18) rfl ?_
      refine gf_X4_12 C dX4_joinFault_18 (q := 21) rfl ?_
      refine g_iload_n C dX4_joinFault_21 1 rfl rfl (q := 22) rfl ?_
      refine g_cVN_i C (As := [.int (iI r)]) (c_X3_countOf l E _ r  (by omega)) mn_X4_67 mf_X3_countOf (o := 1) (ci := 3) rfl rfl rfl rfl ⟨(Nat.le_of_ble_eq_true rfl), (Nat.le_of_ble_eq_true rfl)⟩ rfl rfl rfl (Nat.le_of_ble_eq_true rfl) ⟨(Nat.le_of_ble_eq_true rfl), (Nat.le_of_ble_eq_true rfl)⟩ dX4_joinFault_22 (q := 25) rfl ?_
      refine g_aload_n C dX4_joinFault_25 0 rfl rfl (q := 26) rfl ?_
      refine gf_X4_12 C dX4_joinFault_26 (q := 29) rfl ?_
      refine g_iload_n C dX4_joinFault_29 2 rfl rfl (q := 30) rfl ?_
      refine g_cVN_i C (As := [.int (iI o)]) (c_X3_countOf l E _ o  (by omega)) mn_X4_67 mf_X3_countOf (o := 1) (ci := 3) rfl rfl rfl rfl ⟨(Nat.le_of_ble_eq_true rfl), (Nat.le_of_ble_eq_true rfl)⟩ rfl rfl rfl (Nat.le_of_ble_eq_true rfl) ⟨(Nat.le_of_ble_eq_true rfl), (Nat.le_of_ble_eq_true rfl)⟩ dX4_joinFault_30 (q := 33) rfl ?_
      refine g_iadd C dX4_joinFault_33 (q := 34) rfl ?_
      refine g_bipush C dX4_joinFault_34 (by decide) (q := 36) rfl ?_
      refine g_icmp_gt C dX4_joinFault_36 (by omega) (q2 := 43) rfl (q := 39) rfl (fun hb3 => ?_) (fun hb3 => ?_)
      · skip
        refine g_iconst C dX4_joinFault_43 (q := 44) rfl ?_
        exact hret _ _ _ dX4_joinFault_44 (by unfold fJ; first | rw [if_pos (by omega)] | rw [if_neg (by omega), if_pos (by omega)] | rw [if_neg (by omega), if_neg (by omega), if_pos (by omega)] | rw [if_neg (by omega), if_neg (by omega), if_neg (by omega)])
      · skip
        refine g_iconst C dX4_joinFault_39 (q := 40) rfl ?_
        refine g_goto C dX4_joinFault_40 (q := 44) rfl ?_
        exact hret _ _ _ dX4_joinFault_44 (by unfold fJ; first | rw [if_pos (by omega)] | rw [if_neg (by omega), if_pos (by omega)] | rw [if_neg (by omega), if_neg (by omega), if_pos (by omega)] | rw [if_neg (by omega), if_neg (by omega), if_neg (by omega)])
    · skip
      refine g_iconst C dX4_joinFault_15 (q := 16) rfl ?_
      exact hret _ _ _ dX4_joinFault_16 (by unfold fJ; first | rw [if_pos (by omega)] | rw [if_neg (by omega), if_pos (by omega)] | rw [if_neg (by omega), if_neg (by omega), if_pos (by omega)] | rw [if_neg (by omega), if_neg (by omega), if_neg (by omega)])
  · skip
    refine g_iconst C dX4_joinFault_8 (q := 9) rfl ?_
    exact hret _ _ _ dX4_joinFault_9 (by unfold fJ; first | rw [if_pos (by omega)] | rw [if_neg (by omega), if_pos (by omega)] | rw [if_neg (by omega), if_neg (by omega), if_pos (by omega)] | rw [if_neg (by omega), if_neg (by omega), if_neg (by omega)])
abbrev rm_X4_dyeFault : Room := { frames := 4, cells := 0, slots := 0, locals := 87 }
set_option maxRecDepth 100000 in
set_option maxHeartbeats 4000000 in
theorem c_X4_dyeFault (l : Launch) (E : EV) (σ : SS) (r x y c : Int) (hr_r : -2147483648 ≤ r ∧ r ≤ 2147483647) (hr_x : -2147483648 ≤ x ∧ x ≤ 2147483647) (hr_y : -2147483648 ≤ y ∧ y ≤ 2147483647) (hr_c : -2147483648 ≤ c ∧ c ≤ 2147483647) (hN : ∀ r : Int, 0 ≤ r ∧ r < 4 → 0 ≤ (σ 2) (240 + r) ∧ (σ 2) (240 + r) ≤ 60) : Ki l yX4_dyeFault (cw yX4_dyeFault cX4_dyeFault 6 (some .int)) rm_X4_dyeFault E [.ref (ea E 0), .int (iI r), .int (iI x), .int (iI y), .int (iI c)] σ (fD (σ 2) r x y c) σ := by
  refine Ki_of (rm := rm_X4_dyeFault) (mL := 6) (b := cX4_dyeFault) RX4 rfl (by decide +kernel) rfl rfl [(0, .ref (ea E 0)), (1, .int (iI r)), (2, .int (iI x)), (3, .int (iI y)), (4, .int (iI c))] rfl (Nat.le_of_ble_eq_true rfl) (fun p_ e_ s_ m_ a_ b_ h_ c_ Q A C hret => ?_)
  have hB := fX_rg (σ 2) r x y
  refine g_aload_n C dX4_dyeFault_0 0 rfl rfl (q := 1) rfl ?_
  refine g_iload_n C dX4_dyeFault_1 1 rfl rfl (q := 2) rfl ?_
  refine g_iload_n C dX4_dyeFault_2 2 rfl rfl (q := 3) rfl ?_
  refine g_iload_n C dX4_dyeFault_3 3 rfl rfl (q := 4) rfl ?_
  refine g_cV_i C (As := [.int (iI r), .int (iI x), .int (iI y)]) (c_X4_rangeFault l E _ r x y  (by omega) (by omega) (by omega) (by assumption)) ml_X4_99 mf_X4_rangeFault (o := 0) (ci := 4) rfl rfl rfl rfl ⟨(Nat.le_of_ble_eq_true rfl), (Nat.le_of_ble_eq_true rfl)⟩ rfl rfl rfl (Nat.le_of_ble_eq_true rfl) ⟨(Nat.le_of_ble_eq_true rfl), (Nat.le_of_ble_eq_true rfl)⟩ dX4_dyeFault_4 (q := 7) rfl ?_
  refine g_istore C (L' := [(5, .int (iI (fX (σ 2) r x y))), (0, .ref (ea E 0)), (1, .int (iI r)), (2, .int (iI x)), (3, .int (iI y)), (4, .int (iI c))]) dX4_dyeFault_7 (by decide) rfl (q := 9) rfl ?_
  refine g_iload C dX4_dyeFault_9 0 rfl (q := 11) rfl ?_
  refine g_if_ne C dX4_dyeFault_11 (by omega) (q2 := 22) rfl (q := 14) rfl (fun hb1 => ?_) (fun hb1 => ?_)
  · skip
    refine g_iload C dX4_dyeFault_22 0 rfl (q := 24) rfl ?_
    exact hret _ _ _ dX4_dyeFault_24 (by unfold fD; first | rw [if_pos (by omega)] | rw [if_neg (by omega)])
  · skip
    refine g_iload C dX4_dyeFault_14 5 rfl (q := 16) rfl ?_
    refine g_cS_i C (As := [.int (iI c)]) (c_X4_colourFault l E _ c  (by omega)) ml_X4_121 mf_X4_colourFault rfl rfl ⟨(Nat.le_of_ble_eq_true rfl), (Nat.le_of_ble_eq_true rfl)⟩ rfl rfl rfl (Nat.le_of_ble_eq_true rfl) ⟨(Nat.le_of_ble_eq_true rfl), (Nat.le_of_ble_eq_true rfl)⟩ dX4_dyeFault_16 (q := 19) rfl ?_
    refine g_goto C dX4_dyeFault_19 (q := 24) rfl ?_
    exact hret _ _ _ dX4_dyeFault_24 (by unfold fD; first | rw [if_pos (by omega)] | rw [if_neg (by omega)])
