abbrev rm_X4_lineAt : Room := { frames := 1, cells := 0, slots := 0, locals := 21 }
set_option maxRecDepth 100000 in
set_option maxHeartbeats 4000000 in
theorem c_X4_lineAt (l : Launch) (E : EV) (σ : SS) (i : Int) (hr_i : -2147483648 ≤ i ∧ i ≤ 2147483647) (hl : 0 ≤ (σ 11 1) ∧ (σ 11 1) ≤ 240) (hi : 0 ≤ i ∧ i < (σ 11 1)) (hv : 0 ≤ (σ 12) i ∧ (σ 12) i < 65536) : Ki l yX4_lineAt (cw yX4_lineAt cX4_lineAt 2 (some .char)) rm_X4_lineAt E [.ref (ea E 0), .int (iI i)] σ ((σ 12) i) σ := by
  refine Kc_of (rm := rm_X4_lineAt) (mL := 2) (b := cX4_lineAt) RX4 rfl (by decide +kernel) rfl rfl [(0, .ref (ea E 0)), (1, .int (iI i))] rfl (Nat.le_of_ble_eq_true rfl) (fun p_ e_ s_ m_ a_ b_ h_ c_ Q A C hret => ?_)
  refine g_iload_n C dX4_lineAt_0 1 rfl rfl (q := 1) rfl ?_
  refine g_if_lt C dX4_lineAt_1 (by omega) (q2 := 15) rfl (q := 4) rfl (fun hb1 => ?_) (fun hb1 => ?_)
  · skip
    exfalso; omega
  · skip
    refine g_iload_n C dX4_lineAt_4 1 rfl rfl (q := 5) rfl ?_
    refine g_aload_n C dX4_lineAt_5 0 rfl rfl (q := 6) rfl ?_
    refine gf_X4_44 C dX4_lineAt_6 (q := 9) rfl ?_
    refine g_cVN_i C (As := []) (c_X2_size l E _) mn_X4_207 mf_X2_size (o := 11) (ci := 2) rfl rfl rfl rfl ⟨(Nat.le_of_ble_eq_true rfl), (Nat.le_of_ble_eq_true rfl)⟩ rfl rfl rfl (Nat.le_of_ble_eq_true rfl) ⟨(Nat.le_of_ble_eq_true rfl), (Nat.le_of_ble_eq_true rfl)⟩ dX4_lineAt_9 (q := 12) rfl ?_
    refine g_icmp_lt C dX4_lineAt_12 (by omega) (q2 := 25) rfl (q := 15) rfl (fun hb2 => ?_) (fun hb2 => ?_)
    · skip
      refine g_aload_n C dX4_lineAt_25 0 rfl rfl (q := 26) rfl ?_
      refine gf_X4_44 C dX4_lineAt_26 (q := 29) rfl ?_
      refine g_iload_n C dX4_lineAt_29 1 rfl rfl (q := 30) rfl ?_
      refine g_cVN_i C (As := [.int (iI i)]) (c_X2_characterAt l E _ i  (by omega) (by omega)) mn_X4_215 mf_X2_characterAt (o := 11) (ci := 2) rfl rfl rfl rfl ⟨(Nat.le_of_ble_eq_true rfl), (Nat.le_of_ble_eq_true rfl)⟩ rfl rfl rfl (Nat.le_of_ble_eq_true rfl) ⟨(Nat.le_of_ble_eq_true rfl), (Nat.le_of_ble_eq_true rfl)⟩ dX4_lineAt_30 (q := 33) rfl ?_
      exact hret _ _ _ dX4_lineAt_33 (by omega) rfl
    · skip
      exfalso; omega
abbrev rmx_X4_lineAt : Room := { frames := 6, cells := 1, slots := 6, locals := 82 }
set_option maxRecDepth 100000 in
set_option maxHeartbeats 4000000 in
theorem x_X4_lineAt_1 (l : Launch) (hst : l.stackTraces = false) (E : EV) (σ : SS) (i : Int) (hr_i : -2147483648 ≤ i ∧ i ≤ 2147483647) (hl : 0 ≤ (σ 11 1) ∧ (σ 11 1) ≤ 240) (hi : ¬ (0 ≤ i ∧ i < (σ 11 1))) : Kx l yX4_lineAt (cw yX4_lineAt cX4_lineAt 2 (some .char)) rmx_X4_lineAt E [.ref (ea E 0), .int (iI i)] σ xIOOBE σ := by
  refine Kx_of (rm := rmx_X4_lineAt) (mL := 2) (b := cX4_lineAt) RX4 rfl (by decide +kernel) [(0, .ref (ea E 0)), (1, .int (iI i))] rfl (Nat.le_of_ble_eq_true rfl) (fun p_ e_ s_ m_ a_ b_ h_ c_ Q A C hne hQ => ?_)
  refine g_iload_n C dX4_lineAt_0 1 rfl rfl (q := 1) rfl ?_
  refine g_if_lt C dX4_lineAt_1 (by omega) (q2 := 15) rfl (q := 4) rfl (fun hb1 => ?_) (fun hb1 => ?_)
  · skip
    exact g_thr C hst hne tf_IOOBE (List.mem_of_getElem? (i := 29) rfl) ⟨(Nat.le_of_ble_eq_true rfl), (Nat.le_of_ble_eq_true rfl), (Nat.le_of_ble_eq_true rfl), (Nat.le_of_ble_eq_true rfl)⟩ dX4_lineAt_15 dX4_lineAt_18 dX4_lineAt_19 dX4_lineAt_21 dX4_lineAt_24 hQ
  · skip
    refine g_iload_n C dX4_lineAt_4 1 rfl rfl (q := 5) rfl ?_
    refine g_aload_n C dX4_lineAt_5 0 rfl rfl (q := 6) rfl ?_
    refine gf_X4_44 C dX4_lineAt_6 (q := 9) rfl ?_
    refine g_cVN_i C (As := []) (c_X2_size l E _) mn_X4_207 mf_X2_size (o := 11) (ci := 2) rfl rfl rfl rfl ⟨(Nat.le_of_ble_eq_true rfl), (Nat.le_of_ble_eq_true rfl)⟩ rfl rfl rfl (Nat.le_of_ble_eq_true rfl) ⟨(Nat.le_of_ble_eq_true rfl), (Nat.le_of_ble_eq_true rfl)⟩ dX4_lineAt_9 (q := 12) rfl ?_
    refine g_icmp_lt C dX4_lineAt_12 (by omega) (q2 := 25) rfl (q := 15) rfl (fun hb2 => ?_) (fun hb2 => ?_)
    · skip
      exfalso; omega
    · skip
      exact g_thr C hst hne tf_IOOBE (List.mem_of_getElem? (i := 29) rfl) ⟨(Nat.le_of_ble_eq_true rfl), (Nat.le_of_ble_eq_true rfl), (Nat.le_of_ble_eq_true rfl), (Nat.le_of_ble_eq_true rfl)⟩ dX4_lineAt_15 dX4_lineAt_18 dX4_lineAt_19 dX4_lineAt_21 dX4_lineAt_24 hQ
abbrev rm_X4_isConsistent : Room := { frames := 6, cells := 0, slots := 0, locals := 137 }
set_option maxRecDepth 100000 in
set_option maxHeartbeats 4000000 in
theorem c_X4_isConsistent (l : Launch) (E : EV) (σ : SS) (hW : CW (σ 2)) (hP : PW (σ 2)) : Ki l yX4_isConsistent (cw yX4_isConsistent cX4_isConsistent 2 (some .boolean)) rm_X4_isConsistent E [.ref (ea E 0)] σ 1 σ := by
  refine Kz_of (rm := rm_X4_isConsistent) (mL := 2) (b := cX4_isConsistent) RX4 rfl (by decide +kernel) rfl rfl [(0, .ref (ea E 0))] rfl (Nat.le_of_ble_eq_true rfl) (fun p_ e_ s_ m_ a_ b_ h_ c_ Q A C hret => ?_)
  refine g_iconst C dX4_isConsistent_0 (q := 1) rfl ?_
  refine g_istore_n C (L' := [(1, .int (iI 0)), (0, .ref (ea E 0))]) dX4_isConsistent_1 rfl (by decide) rfl (q := 2) rfl ?_
  refine g_iload_n C dX4_isConsistent_2 0 rfl rfl (q := 3) rfl ?_
  refine g_iconst C dX4_isConsistent_3 (q := 4) rfl ?_
  refine g_icmp_ge C dX4_isConsistent_4 (by omega) (q2 := 26) rfl (q := 7) rfl (fun hb1 => ?_) (fun hb1 => ?_)
  · skip
    exfalso; omega
  · skip
    refine g_aload_n C dX4_isConsistent_7 1 rfl rfl (q := 8) rfl ?_
    refine gf_X4_12 C dX4_isConsistent_8 (q := 11) rfl ?_
    refine g_iload_n C dX4_isConsistent_11 0 rfl rfl (q := 12) rfl ?_
    refine g_cVN_i C (As := [.int (iI 0)]) (c_X3_partsAgree l E _ 0  (by omega) (by assumption) (by exact tt_eq hP (by omega) (CW_N hW _ (by omega))) (by rw [tt_eq hP (by omega) (CW_N hW _ (by omega))]; have hg0 := tbs_rg (CW_N hW 0 (by omega)); have hg1 := tbs_rg (CW_N hW 1 (by omega)); have hg2 := tbs_rg (CW_N hW 2 (by omega)); have hg3 := tbs_rg (CW_N hW 3 (by omega)); omega) (by intro p hp; exact sb_eq hP (by omega) (CW_N hW _ (by omega)).2 hp)) mn_X4_224 mf_X3_partsAgree (o := 1) (ci := 3) rfl rfl rfl rfl ⟨(Nat.le_of_ble_eq_true rfl), (Nat.le_of_ble_eq_true rfl)⟩ rfl rfl rfl (Nat.le_of_ble_eq_true rfl) ⟨(Nat.le_of_ble_eq_true rfl), (Nat.le_of_ble_eq_true rfl)⟩ dX4_isConsistent_12 (q := 15) rfl ?_
    refine g_if_ne C dX4_isConsistent_15 (by omega) (q2 := 20) rfl (q := 18) rfl (fun hb2 => ?_) (fun hb2 => ?_)
    · skip
      refine g_iinc C (L' := [(1, .int (iI (0 + 1))), (0, .ref (ea E 0))]) dX4_isConsistent_20 0 rfl (by decide) rfl (q := 23) rfl ?_
      refine g_loc (L' := [(1, .int (iI 1)), (0, .ref (ea E 0))]) rfl ?_
      refine g_goto C dX4_isConsistent_23 (q := 2) rfl ?_
      refine g_iload_n C dX4_isConsistent_2 0 rfl rfl (q := 3) rfl ?_
      refine g_iconst C dX4_isConsistent_3 (q := 4) rfl ?_
      refine g_icmp_ge C dX4_isConsistent_4 (by omega) (q2 := 26) rfl (q := 7) rfl (fun hb3 => ?_) (fun hb3 => ?_)
      · skip
        exfalso; omega
      · skip
        refine g_aload_n C dX4_isConsistent_7 1 rfl rfl (q := 8) rfl ?_
        refine gf_X4_12 C dX4_isConsistent_8 (q := 11) rfl ?_
        refine g_iload_n C dX4_isConsistent_11 0 rfl rfl (q := 12) rfl ?_
        refine g_cVN_i C (As := [.int (iI 1)]) (c_X3_partsAgree l E _ 1  (by omega) (by assumption) (by exact tt_eq hP (by omega) (CW_N hW _ (by omega))) (by rw [tt_eq hP (by omega) (CW_N hW _ (by omega))]; have hg0 := tbs_rg (CW_N hW 0 (by omega)); have hg1 := tbs_rg (CW_N hW 1 (by omega)); have hg2 := tbs_rg (CW_N hW 2 (by omega)); have hg3 := tbs_rg (CW_N hW 3 (by omega)); omega) (by intro p hp; exact sb_eq hP (by omega) (CW_N hW _ (by omega)).2 hp)) mn_X4_224 mf_X3_partsAgree (o := 1) (ci := 3) rfl rfl rfl rfl ⟨(Nat.le_of_ble_eq_true rfl), (Nat.le_of_ble_eq_true rfl)⟩ rfl rfl rfl (Nat.le_of_ble_eq_true rfl) ⟨(Nat.le_of_ble_eq_true rfl), (Nat.le_of_ble_eq_true rfl)⟩ dX4_isConsistent_12 (q := 15) rfl ?_
        refine g_if_ne C dX4_isConsistent_15 (by omega) (q2 := 20) rfl (q := 18) rfl (fun hb4 => ?_) (fun hb4 => ?_)
        · skip
          refine g_iinc C (L' := [(1, .int (iI (1 + 1))), (0, .ref (ea E 0))]) dX4_isConsistent_20 0 rfl (by decide) rfl (q := 23) rfl ?_
          refine g_loc (L' := [(1, .int (iI 2)), (0, .ref (ea E 0))]) rfl ?_
          refine g_goto C dX4_isConsistent_23 (q := 2) rfl ?_
          refine g_iload_n C dX4_isConsistent_2 0 rfl rfl (q := 3) rfl ?_
          refine g_iconst C dX4_isConsistent_3 (q := 4) rfl ?_
          refine g_icmp_ge C dX4_isConsistent_4 (by omega) (q2 := 26) rfl (q := 7) rfl (fun hb5 => ?_) (fun hb5 => ?_)
          · skip
            exfalso; omega
          · skip
            refine g_aload_n C dX4_isConsistent_7 1 rfl rfl (q := 8) rfl ?_
            refine gf_X4_12 C dX4_isConsistent_8 (q := 11) rfl ?_
            refine g_iload_n C dX4_isConsistent_11 0 rfl rfl (q := 12) rfl ?_
            refine g_cVN_i C (As := [.int (iI 2)]) (c_X3_partsAgree l E _ 2  (by omega) (by assumption) (by exact tt_eq hP (by omega) (CW_N hW _ (by omega))) (by rw [tt_eq hP (by omega) (CW_N hW _ (by omega))]; have hg0 := tbs_rg (CW_N hW 0 (by omega)); have hg1 := tbs_rg (CW_N hW 1 (by omega)); have hg2 := tbs_rg (CW_N hW 2 (by omega)); have hg3 := tbs_rg (CW_N hW 3 (by omega)); omega) (by intro p hp; exact sb_eq hP (by omega) (CW_N hW _ (by omega)).2 hp)) mn_X4_224 mf_X3_partsAgree (o := 1) (ci := 3) rfl rfl rfl rfl ⟨(Nat.le_of_ble_eq_true rfl), (Nat.le_of_ble_eq_true rfl)⟩ rfl rfl rfl (Nat.le_of_ble_eq_true rfl) ⟨(Nat.le_of_ble_eq_true rfl), (Nat.le_of_ble_eq_true rfl)⟩ dX4_isConsistent_12 (q := 15) rfl ?_
            refine g_if_ne C dX4_isConsistent_15 (by omega) (q2 := 20) rfl (q := 18) rfl (fun hb6 => ?_) (fun hb6 => ?_)
            · skip
              refine g_iinc C (L' := [(1, .int (iI (2 + 1))), (0, .ref (ea E 0))]) dX4_isConsistent_20 0 rfl (by decide) rfl (q := 23) rfl ?_
              refine g_loc (L' := [(1, .int (iI 3)), (0, .ref (ea E 0))]) rfl ?_
              refine g_goto C dX4_isConsistent_23 (q := 2) rfl ?_
              refine g_iload_n C dX4_isConsistent_2 0 rfl rfl (q := 3) rfl ?_
              refine g_iconst C dX4_isConsistent_3 (q := 4) rfl ?_
              refine g_icmp_ge C dX4_isConsistent_4 (by omega) (q2 := 26) rfl (q := 7) rfl (fun hb7 => ?_) (fun hb7 => ?_)
              · skip
                exfalso; omega
              · skip
                refine g_aload_n C dX4_isConsistent_7 1 rfl rfl (q := 8) rfl ?_
                refine gf_X4_12 C dX4_isConsistent_8 (q := 11) rfl ?_
                refine g_iload_n C dX4_isConsistent_11 0 rfl rfl (q := 12) rfl ?_
                refine g_cVN_i C (As := [.int (iI 3)]) (c_X3_partsAgree l E _ 3  (by omega) (by assumption) (by exact tt_eq hP (by omega) (CW_N hW _ (by omega))) (by rw [tt_eq hP (by omega) (CW_N hW _ (by omega))]; have hg0 := tbs_rg (CW_N hW 0 (by omega)); have hg1 := tbs_rg (CW_N hW 1 (by omega)); have hg2 := tbs_rg (CW_N hW 2 (by omega)); have hg3 := tbs_rg (CW_N hW 3 (by omega)); omega) (by intro p hp; exact sb_eq hP (by omega) (CW_N hW _ (by omega)).2 hp)) mn_X4_224 mf_X3_partsAgree (o := 1) (ci := 3) rfl rfl rfl rfl ⟨(Nat.le_of_ble_eq_true rfl), (Nat.le_of_ble_eq_true rfl)⟩ rfl rfl rfl (Nat.le_of_ble_eq_true rfl) ⟨(Nat.le_of_ble_eq_true rfl), (Nat.le_of_ble_eq_true rfl)⟩ dX4_isConsistent_12 (q := 15) rfl ?_
                refine g_if_ne C dX4_isConsistent_15 (by omega) (q2 := 20) rfl (q := 18) rfl (fun hb8 => ?_) (fun hb8 => ?_)
                · skip
                  refine g_iinc C (L' := [(1, .int (iI (3 + 1))), (0, .ref (ea E 0))]) dX4_isConsistent_20 0 rfl (by decide) rfl (q := 23) rfl ?_
                  refine g_loc (L' := [(1, .int (iI 4)), (0, .ref (ea E 0))]) rfl ?_
                  refine g_goto C dX4_isConsistent_23 (q := 2) rfl ?_
                  refine g_iload_n C dX4_isConsistent_2 0 rfl rfl (q := 3) rfl ?_
                  refine g_iconst C dX4_isConsistent_3 (q := 4) rfl ?_
                  refine g_icmp_ge C dX4_isConsistent_4 (by omega) (q2 := 26) rfl (q := 7) rfl (fun hb9 => ?_) (fun hb9 => ?_)
                  · skip
                    refine g_iconst C dX4_isConsistent_26 (q := 27) rfl ?_
                    exact hret _ _ _ dX4_isConsistent_27 (by omega) rfl
                  · skip
                    exfalso; omega
                · skip
                  exfalso; omega
            · skip
              exfalso; omega
        · skip
          exfalso; omega
    · skip
      exfalso; omega
abbrev rm_X4_undo : Room := { frames := 4, cells := 0, slots := 0, locals := 146 }
set_option maxRecDepth 100000 in
set_option maxHeartbeats 4000000 in
theorem c_X4_undo (l : Launch) (E : EV) (σ : SS) (hh : 0 ≤ (σ 5 1) ∧ (σ 5 1) < 8 ∧ 0 ≤ (σ 5 2) ∧ (σ 5 2) ≤ 8) (hz : 0 < (σ 5 2)) : Ki l yX4_undo (cw yX4_undo cX4_undo 1 (some .int)) rm_X4_undo E [.ref (ea E 0)] σ ((σ 5 2) - 1) (st (st σ 2 (cpf (σ 6) (σ 2) (pv8 (σ 5 1) * 310) 0 310)) 5 (pt (pt (σ 5) 1 (pv8 (σ 5 1))) 2 ((σ 5 2) - 1))) := by
  refine Ki_of (rm := rm_X4_undo) (mL := 1) (b := cX4_undo) RX4 rfl (by decide +kernel) rfl rfl [(0, .ref (ea E 0))] rfl (Nat.le_of_ble_eq_true rfl) (fun p_ e_ s_ m_ a_ b_ h_ c_ Q A C hret => ?_)
  refine g_aload_n C dX4_undo_0 0 rfl rfl (q := 1) rfl ?_
  refine gf_X4_30 C dX4_undo_1 (q := 4) rfl ?_
  refine g_cVN_i C (As := []) (c_X1_size l E _) mn_X4_227 mf_X1_size (o := 5) (ci := 1) rfl rfl rfl rfl ⟨(Nat.le_of_ble_eq_true rfl), (Nat.le_of_ble_eq_true rfl)⟩ rfl rfl rfl (Nat.le_of_ble_eq_true rfl) ⟨(Nat.le_of_ble_eq_true rfl), (Nat.le_of_ble_eq_true rfl)⟩ dX4_undo_4 (q := 7) rfl ?_
  refine g_if_ne C dX4_undo_7 (by omega) (q2 := 20) rfl (q := 10) rfl (fun hb1 => ?_) (fun hb1 => ?_)
  · skip
    refine g_aload_n C dX4_undo_20 0 rfl rfl (q := 21) rfl ?_
    refine gf_X4_30 C dX4_undo_21 (q := 24) rfl ?_
    refine g_aload_n C dX4_undo_24 0 rfl rfl (q := 25) rfl ?_
    refine gf_X4_12 C dX4_undo_25 (q := 28) rfl ?_
    refine g_cVN_v C (As := [.ref (ea E 1)]) (c_X1_takeBack l E _   (by omega)) mn_X4_230 mf_X1_takeBack (o := 5) (ci := 1) rfl rfl rfl rfl ⟨(Nat.le_of_ble_eq_true rfl), (Nat.le_of_ble_eq_true rfl)⟩ rfl rfl rfl (Nat.le_of_ble_eq_true rfl) ⟨(Nat.le_of_ble_eq_true rfl), (Nat.le_of_ble_eq_true rfl)⟩ dX4_undo_28 (q := 31) rfl ?_
    refine g_aload_n C dX4_undo_31 0 rfl rfl (q := 32) rfl ?_
    refine gf_X4_30 C dX4_undo_32 (q := 35) rfl ?_
    refine g_cVN_i C (As := []) (c_X1_size l E _) mn_X4_227 mf_X1_size (o := 5) (ci := 1) rfl rfl rfl rfl ⟨(Nat.le_of_ble_eq_true rfl), (Nat.le_of_ble_eq_true rfl)⟩ rfl rfl rfl (Nat.le_of_ble_eq_true rfl) ⟨(Nat.le_of_ble_eq_true rfl), (Nat.le_of_ble_eq_true rfl)⟩ dX4_undo_35 (q := 38) rfl ?_
    refine g_top (b := ((σ 5 2) - 1)) rfl ?_
    exact hret _ _ _ dX4_undo_38 rfl
  · skip
    exfalso; omega
abbrev rmx_X4_undo : Room := { frames := 6, cells := 1, slots := 6, locals := 82 }
set_option maxRecDepth 100000 in
set_option maxHeartbeats 4000000 in
theorem x_X4_undo_1 (l : Launch) (hst : l.stackTraces = false) (E : EV) (σ : SS) (hh : 0 ≤ (σ 5 1) ∧ (σ 5 1) < 8 ∧ 0 ≤ (σ 5 2) ∧ (σ 5 2) ≤ 8) (hz : (σ 5 2) = 0) : Kx l yX4_undo (cw yX4_undo cX4_undo 1 (some .int)) rmx_X4_undo E [.ref (ea E 0)] σ xISE σ := by
  refine Kx_of (rm := rmx_X4_undo) (mL := 1) (b := cX4_undo) RX4 rfl (by decide +kernel) [(0, .ref (ea E 0))] rfl (Nat.le_of_ble_eq_true rfl) (fun p_ e_ s_ m_ a_ b_ h_ c_ Q A C hne hQ => ?_)
  refine g_aload_n C dX4_undo_0 0 rfl rfl (q := 1) rfl ?_
  refine gf_X4_30 C dX4_undo_1 (q := 4) rfl ?_
  refine g_cVN_i C (As := []) (c_X1_size l E _) mn_X4_227 mf_X1_size (o := 5) (ci := 1) rfl rfl rfl rfl ⟨(Nat.le_of_ble_eq_true rfl), (Nat.le_of_ble_eq_true rfl)⟩ rfl rfl rfl (Nat.le_of_ble_eq_true rfl) ⟨(Nat.le_of_ble_eq_true rfl), (Nat.le_of_ble_eq_true rfl)⟩ dX4_undo_4 (q := 7) rfl ?_
  refine g_if_ne C dX4_undo_7 (by omega) (q2 := 20) rfl (q := 10) rfl (fun hb1 => ?_) (fun hb1 => ?_)
  · skip
    exfalso; omega
  · skip
    exact g_thr C hst hne tf_ISE (List.mem_of_getElem? (i := 30) rfl) ⟨(Nat.le_of_ble_eq_true rfl), (Nat.le_of_ble_eq_true rfl), (Nat.le_of_ble_eq_true rfl), (Nat.le_of_ble_eq_true rfl)⟩ dX4_undo_10 dX4_undo_13 dX4_undo_14 dX4_undo_16 dX4_undo_19 hQ
abbrev rm_X4_save : Room := { frames := 3, cells := 0, slots := 0, locals := 125 }
set_option maxRecDepth 100000 in
set_option maxHeartbeats 4000000 in
theorem c_X4_save (l : Launch) (E : EV) (σ : SS)  : Ki l yX4_save (cw yX4_save cX4_save 1 (some .int)) rm_X4_save E [.ref (ea E 0)] σ (0 + (σ 2) (240 + 0) + (σ 2) (240 + 1) + (σ 2) (240 + 2) + (σ 2) (240 + 3)) (st (st σ 0 (pt (σ 0) 3 1)) 4 (cpf (σ 2) (σ 4) 0 0 310)) := by
  refine Ki_of (rm := rm_X4_save) (mL := 1) (b := cX4_save) RX4 rfl (by decide +kernel) rfl rfl [(0, .ref (ea E 0))] rfl (Nat.le_of_ble_eq_true rfl) (fun p_ e_ s_ m_ a_ b_ h_ c_ Q A C hret => ?_)
  refine g_aload_n C dX4_save_0 0 rfl rfl (q := 1) rfl ?_
  refine gf_X4_12 C dX4_save_1 (q := 4) rfl ?_
  refine g_aload_n C dX4_save_4 0 rfl rfl (q := 5) rfl ?_
  refine gf_X4_20 C dX4_save_5 (q := 8) rfl ?_
  refine g_iconst C dX4_save_8 (q := 9) rfl ?_
  refine g_cVN_v C (As := [.ref (ea E 4), .int (iI 0)]) (c_X3_copyTo_4 l E _ 0  (by omega)) mn_X4_175 mf_X3_copyTo (o := 1) (ci := 3) rfl rfl rfl rfl ⟨(Nat.le_of_ble_eq_true rfl), (Nat.le_of_ble_eq_true rfl)⟩ rfl rfl rfl (Nat.le_of_ble_eq_true rfl) ⟨(Nat.le_of_ble_eq_true rfl), (Nat.le_of_ble_eq_true rfl)⟩ dX4_save_9 (q := 12) rfl ?_
  refine g_aload_n C dX4_save_12 0 rfl rfl (q := 13) rfl ?_
  refine g_iconst C dX4_save_13 (q := 14) rfl ?_
  refine gp_X4_23 C (by omega) dX4_save_14 (q := 17) rfl ?_
  refine g_st (σ2 := (st (st σ 0 (pt (σ 0) 3 1)) 4 (cpf (σ 2) (σ 4) 0 0 310))) (st_cm σ (o := 4) (q := 0) (cpf (σ 2) (σ 4) 0 0 310) (pt (σ 0) 3 1) (by decide)) ?_
  refine g_aload_n C dX4_save_17 0 rfl rfl (q := 18) rfl ?_
  refine gf_X4_12 C dX4_save_18 (q := 21) rfl ?_
  refine g_cVN_i C (As := []) (c_X3_countOfAll l E _) mn_X4_234 mf_X3_countOfAll (o := 1) (ci := 3) rfl rfl rfl rfl ⟨(Nat.le_of_ble_eq_true rfl), (Nat.le_of_ble_eq_true rfl)⟩ rfl rfl rfl (Nat.le_of_ble_eq_true rfl) ⟨(Nat.le_of_ble_eq_true rfl), (Nat.le_of_ble_eq_true rfl)⟩ dX4_save_21 (q := 24) rfl ?_
  refine g_top (b := 0 + (σ 2) (240 + 0) + (σ 2) (240 + 1) + (σ 2) (240 + 2) + (σ 2) (240 + 3)) rfl ?_
  exact hret _ _ _ dX4_save_24 rfl
abbrev rm_X4_restore : Room := { frames := 3, cells := 0, slots := 0, locals := 125 }
set_option maxRecDepth 100000 in
set_option maxHeartbeats 4000000 in
theorem c_X4_restore (l : Launch) (E : EV) (σ : SS) (hs : (σ 0 3) = 1) : Ki l yX4_restore (cw yX4_restore cX4_restore 1 (some .int)) rm_X4_restore E [.ref (ea E 0)] σ (0 + (cpf (σ 4) (σ 2) 0 0 310) (240 + 0) + (cpf (σ 4) (σ 2) 0 0 310) (240 + 1) + (cpf (σ 4) (σ 2) 0 0 310) (240 + 2) + (cpf (σ 4) (σ 2) 0 0 310) (240 + 3)) (st (st σ 2 (cpf (σ 4) (σ 2) 0 0 310)) 5 (pt (σ 5) 2 0)) := by
  refine Ki_of (rm := rm_X4_restore) (mL := 1) (b := cX4_restore) RX4 rfl (by decide +kernel) rfl rfl [(0, .ref (ea E 0))] rfl (Nat.le_of_ble_eq_true rfl) (fun p_ e_ s_ m_ a_ b_ h_ c_ Q A C hret => ?_)
  refine g_aload_n C dX4_restore_0 0 rfl rfl (q := 1) rfl ?_
  refine gf_X4_23 C dX4_restore_1 (q := 4) rfl ?_
  refine g_if_ne C dX4_restore_4 (by omega) (q2 := 17) rfl (q := 7) rfl (fun hb1 => ?_) (fun hb1 => ?_)
  · skip
    refine g_aload_n C dX4_restore_17 0 rfl rfl (q := 18) rfl ?_
    refine gf_X4_12 C dX4_restore_18 (q := 21) rfl ?_
    refine g_aload_n C dX4_restore_21 0 rfl rfl (q := 22) rfl ?_
    refine gf_X4_20 C dX4_restore_22 (q := 25) rfl ?_
    refine g_iconst C dX4_restore_25 (q := 26) rfl ?_
    refine g_cVN_v C (As := [.ref (ea E 4), .int (iI 0)]) (c_X3_copyFrom_4 l E _ 0  (by omega)) mn_X4_182 mf_X3_copyFrom (o := 1) (ci := 3) rfl rfl rfl rfl ⟨(Nat.le_of_ble_eq_true rfl), (Nat.le_of_ble_eq_true rfl)⟩ rfl rfl rfl (Nat.le_of_ble_eq_true rfl) ⟨(Nat.le_of_ble_eq_true rfl), (Nat.le_of_ble_eq_true rfl)⟩ dX4_restore_26 (q := 29) rfl ?_
    refine g_aload_n C dX4_restore_29 0 rfl rfl (q := 30) rfl ?_
    refine gf_X4_30 C dX4_restore_30 (q := 33) rfl ?_
    refine g_cVN_v C (As := []) (c_X1_forget l E _) mn_X4_239 mf_X1_forget (o := 5) (ci := 1) rfl rfl rfl rfl ⟨(Nat.le_of_ble_eq_true rfl), (Nat.le_of_ble_eq_true rfl)⟩ rfl rfl rfl (Nat.le_of_ble_eq_true rfl) ⟨(Nat.le_of_ble_eq_true rfl), (Nat.le_of_ble_eq_true rfl)⟩ dX4_restore_33 (q := 36) rfl ?_
    refine g_st (σ2 := (st (st σ 2 (cpf (σ 4) (σ 2) 0 0 310)) 5 (pt (σ 5) 2 0))) rfl ?_
    refine g_aload_n C dX4_restore_36 0 rfl rfl (q := 37) rfl ?_
    refine gf_X4_12 C dX4_restore_37 (q := 40) rfl ?_
    refine g_cVN_i C (As := []) (c_X3_countOfAll l E _) mn_X4_234 mf_X3_countOfAll (o := 1) (ci := 3) rfl rfl rfl rfl ⟨(Nat.le_of_ble_eq_true rfl), (Nat.le_of_ble_eq_true rfl)⟩ rfl rfl rfl (Nat.le_of_ble_eq_true rfl) ⟨(Nat.le_of_ble_eq_true rfl), (Nat.le_of_ble_eq_true rfl)⟩ dX4_restore_40 (q := 43) rfl ?_
    refine g_top (b := 0 + (cpf (σ 4) (σ 2) 0 0 310) (240 + 0) + (cpf (σ 4) (σ 2) 0 0 310) (240 + 1) + (cpf (σ 4) (σ 2) 0 0 310) (240 + 2) + (cpf (σ 4) (σ 2) 0 0 310) (240 + 3)) rfl ?_
    exact hret _ _ _ dX4_restore_43 rfl
  · skip
    exfalso; omega
abbrev rmx_X4_restore : Room := { frames := 6, cells := 1, slots := 6, locals := 82 }
set_option maxRecDepth 100000 in
set_option maxHeartbeats 4000000 in
theorem x_X4_restore_1 (l : Launch) (hst : l.stackTraces = false) (E : EV) (σ : SS) (hs : (σ 0 3) = 0) : Kx l yX4_restore (cw yX4_restore cX4_restore 1 (some .int)) rmx_X4_restore E [.ref (ea E 0)] σ xISE σ := by
  refine Kx_of (rm := rmx_X4_restore) (mL := 1) (b := cX4_restore) RX4 rfl (by decide +kernel) [(0, .ref (ea E 0))] rfl (Nat.le_of_ble_eq_true rfl) (fun p_ e_ s_ m_ a_ b_ h_ c_ Q A C hne hQ => ?_)
  refine g_aload_n C dX4_restore_0 0 rfl rfl (q := 1) rfl ?_
  refine gf_X4_23 C dX4_restore_1 (q := 4) rfl ?_
  refine g_if_ne C dX4_restore_4 (by omega) (q2 := 17) rfl (q := 7) rfl (fun hb1 => ?_) (fun hb1 => ?_)
  · skip
    exfalso; omega
  · skip
    exact g_thr C hst hne tf_ISE (List.mem_of_getElem? (i := 31) rfl) ⟨(Nat.le_of_ble_eq_true rfl), (Nat.le_of_ble_eq_true rfl), (Nat.le_of_ble_eq_true rfl), (Nat.le_of_ble_eq_true rfl)⟩ dX4_restore_7 dX4_restore_10 dX4_restore_11 dX4_restore_13 dX4_restore_16 hQ
