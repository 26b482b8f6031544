abbrev rm_X5_cutCount : Room := { frames := 0, cells := 0, slots := 0, locals := 0 }
set_option maxRecDepth 100000 in
set_option maxHeartbeats 4000000 in
theorem c_X5_cutCount (l : Launch) (E : EV) (σ : SS)  : Ki l yX5_cutCount (cw yX5_cutCount cX5_cutCount 1 (some .int)) rm_X5_cutCount E [.ref (ea E 13)] σ ((σ 14) 0) (st σ 13 (pt (σ 13) 0 0)) := by
  refine Ki_of (rm := rm_X5_cutCount) (mL := 1) (b := cX5_cutCount) RX5 rfl (by decide +kernel) rfl rfl [(0, .ref (ea E 13))] rfl (Nat.le_of_ble_eq_true rfl) (fun p_ e_ s_ m_ a_ b_ h_ c_ Q A C hret => ?_)
  refine g_aload_n C dX5_cutCount_0 0 rfl rfl (q := 1) rfl ?_
  refine g_iconst C dX5_cutCount_1 (q := 2) rfl ?_
  refine gp_X5_38 C dX5_cutCount_2 (q := 5) rfl ?_
  refine g_aload_n C dX5_cutCount_5 0 rfl rfl (q := 6) rfl ?_
  refine gf_X5_7 C dX5_cutCount_6 (q := 9) rfl ?_
  refine g_iconst C dX5_cutCount_9 (q := 10) rfl ?_
  refine gl_14 C (by omega) dX5_cutCount_10 (q := 11) rfl ?_
  refine g_top (b := (σ 14) 0) rfl ?_
  exact hret _ _ _ dX5_cutCount_11 rfl
abbrev rm_X5_spliceCount : Room := { frames := 0, cells := 0, slots := 0, locals := 0 }
set_option maxRecDepth 100000 in
set_option maxHeartbeats 4000000 in
theorem c_X5_spliceCount (l : Launch) (E : EV) (σ : SS)  : Ki l yX5_spliceCount (cw yX5_spliceCount cX5_spliceCount 1 (some .int)) rm_X5_spliceCount E [.ref (ea E 13)] σ ((σ 14) 1) (st σ 13 (pt (σ 13) 0 0)) := by
  refine Ki_of (rm := rm_X5_spliceCount) (mL := 1) (b := cX5_spliceCount) RX5 rfl (by decide +kernel) rfl rfl [(0, .ref (ea E 13))] rfl (Nat.le_of_ble_eq_true rfl) (fun p_ e_ s_ m_ a_ b_ h_ c_ Q A C hret => ?_)
  refine g_aload_n C dX5_spliceCount_0 0 rfl rfl (q := 1) rfl ?_
  refine g_iconst C dX5_spliceCount_1 (q := 2) rfl ?_
  refine gp_X5_38 C dX5_spliceCount_2 (q := 5) rfl ?_
  refine g_aload_n C dX5_spliceCount_5 0 rfl rfl (q := 6) rfl ?_
  refine gf_X5_7 C dX5_spliceCount_6 (q := 9) rfl ?_
  refine g_iconst C dX5_spliceCount_9 (q := 10) rfl ?_
  refine gl_14 C (by omega) dX5_spliceCount_10 (q := 11) rfl ?_
  refine g_top (b := (σ 14) 1) rfl ?_
  exact hret _ _ _ dX5_spliceCount_11 rfl
abbrev rm_X5_whole : Room := { frames := 2, cells := 0, slots := 0, locals := 48 }
set_option maxRecDepth 100000 in
set_option maxHeartbeats 4000000 in
theorem c_X5_whole (l : Launch) (E : EV) (σ : SS) (r : Int) (f : Int → Int) (hM : MS f (σ 14)) (hr : 0 ≤ r ∧ r < 4) : Ki l yX5_whole (cw yX5_whole cX5_whole 2 (some .int)) rm_X5_whole E [.ref (ea E 13), .int (iI r)] σ (sI (lgs f r) 0 (f (240 + r))) σ := by
  refine Ki_of (rm := rm_X5_whole) (mL := 2) (b := cX5_whole) RX5 rfl (by decide +kernel) rfl rfl [(0, .ref (ea E 13)), (1, .int (iI r))] rfl (Nat.le_of_ble_eq_true rfl) (fun p_ e_ s_ m_ a_ b_ h_ c_ Q A C hret => ?_)
  have hm_r := (hM.2.1 r (by omega)).1
  have hn_r := (hM.1 r (by omega)).1
  refine g_aload_n C dX5_whole_0 0 rfl rfl (q := 1) rfl ?_
  refine g_iload_n C dX5_whole_1 1 rfl rfl (q := 2) rfl ?_
  refine g_iconst C dX5_whole_2 (q := 3) rfl ?_
  refine g_aload_n C dX5_whole_3 0 rfl rfl (q := 4) rfl ?_
  refine g_iload_n C dX5_whole_4 1 rfl rfl (q := 5) rfl ?_
  refine g_cV_i C (As := [.int (iI r)]) (c_X5_many l E _ r  (by omega)) ml_X5_62 mf_X5_many (o := 13) (ci := 5) rfl rfl rfl rfl ⟨(Nat.le_of_ble_eq_true rfl), (Nat.le_of_ble_eq_true rfl)⟩ rfl rfl rfl (Nat.le_of_ble_eq_true rfl) ⟨(Nat.le_of_ble_eq_true rfl), (Nat.le_of_ble_eq_true rfl)⟩ dX5_whole_5 (q := 8) rfl ?_
  refine g_iconst C dX5_whole_8 (q := 9) rfl ?_
  refine g_isub C dX5_whole_9 (q := 10) rfl ?_
  refine g_cV_i C (As := [.int (iI r), .int (iI 0), .int (iI ((σ 14) (2 + 121 * r) - 1))]) (c_X5_sumOf l E _ r 0 ((σ 14) (2 + 121 * r) - 1) f (by assumption) (by omega) (by omega) (by omega)) ml_X5_96 mf_X5_sumOf (o := 13) (ci := 5) rfl rfl rfl rfl ⟨(Nat.le_of_ble_eq_true rfl), (Nat.le_of_ble_eq_true rfl)⟩ rfl rfl rfl (Nat.le_of_ble_eq_true rfl) ⟨(Nat.le_of_ble_eq_true rfl), (Nat.le_of_ble_eq_true rfl)⟩ dX5_whole_10 (q := 13) rfl ?_
  exact hret _ _ _ dX5_whole_13 (by congr 1; omega)
abbrev rm_X5_isTangle : Room := { frames := 1, cells := 0, slots := 0, locals := 23 }
set_option maxRecDepth 100000 in
set_option maxHeartbeats 4000000 in
theorem c_X5_isTangle (l : Launch) (E : EV) (σ : SS) (r p : Int) (f : Int → Int) (hM : MS f (σ 14)) (hr : 0 ≤ r ∧ r < 4) (hp : -1 ≤ p ∧ p ≤ 60) : Ki l yX5_isTangle (cw yX5_isTangle cX5_isTangle 3 (some .boolean)) rm_X5_isTangle E [.ref (ea E 13), .int (iI r), .int (iI p)] σ (tg f r p) σ := by
  refine Kz_of (rm := rm_X5_isTangle) (mL := 3) (b := cX5_isTangle) RX5 rfl (by decide +kernel) rfl rfl [(0, .ref (ea E 13)), (1, .int (iI r)), (2, .int (iI p))] rfl (Nat.le_of_ble_eq_true rfl) (fun p_ e_ s_ m_ a_ b_ h_ c_ Q A C hret => ?_)
  have hm_r := (hM.2.1 r (by omega)).1
  have hn_r := (hM.1 r (by omega)).1
  have hI := bI_01 p 0 (σ 14 (2 + 121 * r) - 2)
  have hI1 := bI_iff p 0 (σ 14 (2 + 121 * r) - 2)
  refine g_iload_n C dX5_isTangle_0 2 rfl rfl (q := 1) rfl ?_
  refine g_iconst C dX5_isTangle_1 (q := 2) rfl ?_
  refine g_aload_n C dX5_isTangle_2 0 rfl rfl (q := 3) rfl ?_
  refine g_iload_n C dX5_isTangle_3 1 rfl rfl (q := 4) rfl ?_
  refine g_cV_i C (As := [.int (iI r)]) (c_X5_many l E _ r  (by omega)) ml_X5_62 mf_X5_many (o := 13) (ci := 5) rfl rfl rfl rfl ⟨(Nat.le_of_ble_eq_true rfl), (Nat.le_of_ble_eq_true rfl)⟩ rfl rfl rfl (Nat.le_of_ble_eq_true rfl) ⟨(Nat.le_of_ble_eq_true rfl), (Nat.le_of_ble_eq_true rfl)⟩ dX5_isTangle_4 (q := 7) rfl ?_
  refine g_iconst C dX5_isTangle_7 (q := 8) rfl ?_
  refine g_isub C dX5_isTangle_8 (q := 9) rfl ?_
  refine g_cS_i C (As := [.int (iI p), .int (iI 0), .int (iI ((σ 14) (2 + 121 * r) - 2))]) (c_X5_in l E _ p 0 ((σ 14) (2 + 121 * r) - 2)  (by omega) (by omega) (by omega)) ml_X5_54 mf_X5_in rfl rfl ⟨(Nat.le_of_ble_eq_true rfl), (Nat.le_of_ble_eq_true rfl)⟩ rfl rfl rfl (Nat.le_of_ble_eq_true rfl) ⟨(Nat.le_of_ble_eq_true rfl), (Nat.le_of_ble_eq_true rfl)⟩ dX5_isTangle_9 (q := 12) rfl ?_
  refine g_if_eq C dX5_isTangle_12 (by omega) (q2 := 38) rfl (q := 15) rfl (fun hb1 => ?_) (fun hb1 => ?_)
  · skip
    refine g_iconst C dX5_isTangle_38 (q := 39) rfl ?_
    exact hret _ _ _ dX5_isTangle_39 (by omega) (by unfold tg; first | rw [if_pos (by omega)] | rw [if_neg (by omega)])
  · skip
    have hs1 := (hM.2.1 r hr).2 p (by omega)
    have hs2 := (hM.2.1 r hr).2 (p + 1) (by omega)
    refine g_aload_n C dX5_isTangle_15 0 rfl rfl (q := 16) rfl ?_
    refine g_iload_n C dX5_isTangle_16 1 rfl rfl (q := 17) rfl ?_
    refine g_iload_n C dX5_isTangle_17 2 rfl rfl (q := 18) rfl ?_
    refine g_iconst C dX5_isTangle_18 (q := 19) rfl ?_
    refine g_cV_i C (As := [.int (iI r), .int (iI p), .int (iI 1)]) (c_X5_at_1 l E _ r p  (by omega) (by omega)) ml_X5_75 mf_X5_at (o := 13) (ci := 5) rfl rfl rfl rfl ⟨(Nat.le_of_ble_eq_true rfl), (Nat.le_of_ble_eq_true rfl)⟩ rfl rfl rfl (Nat.le_of_ble_eq_true rfl) ⟨(Nat.le_of_ble_eq_true rfl), (Nat.le_of_ble_eq_true rfl)⟩ dX5_isTangle_19 (q := 22) rfl ?_
    refine g_aload_n C dX5_isTangle_22 0 rfl rfl (q := 23) rfl ?_
    refine g_iload_n C dX5_isTangle_23 1 rfl rfl (q := 24) rfl ?_
    refine g_iload_n C dX5_isTangle_24 2 rfl rfl (q := 25) rfl ?_
    refine g_iconst C dX5_isTangle_25 (q := 26) rfl ?_
    refine g_iadd C dX5_isTangle_26 (q := 27) rfl ?_
    refine g_iconst C dX5_isTangle_27 (q := 28) rfl ?_
    refine g_cV_i C (As := [.int (iI r), .int (iI (p + 1)), .int (iI 1)]) (c_X5_at_1 l E _ r (p + 1)  (by omega) (by omega)) ml_X5_75 mf_X5_at (o := 13) (ci := 5) rfl rfl rfl rfl ⟨(Nat.le_of_ble_eq_true rfl), (Nat.le_of_ble_eq_true rfl)⟩ rfl rfl rfl (Nat.le_of_ble_eq_true rfl) ⟨(Nat.le_of_ble_eq_true rfl), (Nat.le_of_ble_eq_true rfl)⟩ dX5_isTangle_28 (q := 31) rfl ?_
    refine g_icmp_ne C dX5_isTangle_31 (by omega) (q2 := 38) rfl (q := 34) rfl (fun hb2 => ?_) (fun hb2 => ?_)
    · skip
      refine g_iconst C dX5_isTangle_38 (q := 39) rfl ?_
      exact hret _ _ _ dX5_isTangle_39 (by omega) (by unfold tg; first | rw [if_pos (by omega)] | rw [if_neg (by omega)])
    · skip
      refine g_iconst C dX5_isTangle_34 (q := 35) rfl ?_
      refine g_goto C dX5_isTangle_35 (q := 39) rfl ?_
      exact hret _ _ _ dX5_isTangle_39 (by omega) (by unfold tg; first | rw [if_pos (by omega)] | rw [if_neg (by omega)])
abbrev rm_X5_dyed : Room := { frames := 1, cells := 0, slots := 0, locals := 23 }
set_option maxRecDepth 100000 in
set_option maxHeartbeats 4000000 in
theorem c_X5_dyed (l : Launch) (E : EV) (σ : SS) (r c : Int) (f : Int → Int) (hM : MS f (σ 14)) (hr : 0 ≤ r ∧ r < 4) (hc : 0 ≤ c ∧ c < 8) : Ki l yX5_dyed (cw yX5_dyed cX5_dyed 5 (some .int)) rm_X5_dyed E [.ref (ea E 13), .int (iI r), .int (iI c)] σ (sc f r c) σ := by
  refine Ki_of (rm := rm_X5_dyed) (mL := 5) (b := cX5_dyed) RX5 rfl (by decide +kernel) rfl rfl [(0, .ref (ea E 13)), (1, .int (iI r)), (2, .int (iI c))] rfl (Nat.le_of_ble_eq_true rfl) (fun p_ e_ s_ m_ a_ b_ h_ c_ Q A C hret => ?_)
  have hm_r := (hM.2.1 r (by omega)).1
  have hn_r := (hM.1 r (by omega)).1
  refine g_iconst C dX5_dyed_0 (q := 1) rfl ?_
  refine g_istore_n C (L' := [(3, .int (iI 0)), (0, .ref (ea E 13)), (1, .int (iI r)), (2, .int (iI c))]) dX5_dyed_1 rfl (by decide) rfl (q := 2) rfl ?_
  refine g_iconst C dX5_dyed_2 (q := 3) rfl ?_
  refine g_istore C (L' := [(4, .int (iI 0)), (3, .int (iI 0)), (0, .ref (ea E 13)), (1, .int (iI r)), (2, .int (iI c))]) dX5_dyed_3 (by decide) rfl (q := 5) rfl ?_
  refine g_sub [2, 3, 4, 1, 0] (L' := [(0, .ref (ea E 13)), (1, .int (iI r)), (2, .int (iI c)), (3, .int (iI 0)), (4, .int (iI 0))]) rfl ?_
  have lp5 : ∀ (k9 : Nat) (acc : Int) (i : Int), (f (240 + r) - i).toNat < k9 → (0 ≤ i ∧ i ≤ f (240 + r)) → (sc f r c = acc + sI (ci f r c) i (f (240 + r))) → GG p_ l e_ rm_X5_dyed s_ m_ a_ b_ h_ c_ Q E A 5 σ 0 0 5 [(0, .ref (ea E 13)), (1, .int (iI r)), (2, .int (iI c)), (3, .int (iI acc)), (4, .int (iI i))] [] := by
    intro k9
    induction k9 with
    | zero => intro acc i hk9; omega
    | succ k9 ih5 =>
      intro acc i hk9 hi hR
      refine g_iload C dX5_dyed_5 4 rfl (q := 7) rfl ?_
      refine g_aload_n C dX5_dyed_7 0 rfl rfl (q := 8) rfl ?_
      refine g_iload_n C dX5_dyed_8 1 rfl rfl (q := 9) rfl ?_
      refine g_cV_i C (As := [.int (iI r)]) (c_X5_many l E _ r  (by omega)) ml_X5_62 mf_X5_many (o := 13) (ci := 5) rfl rfl rfl rfl ⟨(Nat.le_of_ble_eq_true rfl), (Nat.le_of_ble_eq_true rfl)⟩ rfl rfl rfl (Nat.le_of_ble_eq_true rfl) ⟨(Nat.le_of_ble_eq_true rfl), (Nat.le_of_ble_eq_true rfl)⟩ dX5_dyed_9 (q := 12) rfl ?_
      refine g_icmp_ge C dX5_dyed_12 (by omega) (q2 := 48) rfl (q := 15) rfl (fun hb1 => ?_) (fun hb1 => ?_)
      · skip
        refine g_iload_n C dX5_dyed_48 3 rfl rfl (q := 49) rfl ?_
        exact hret _ _ _ dX5_dyed_49 (by rw [hR, sI_nil (by omega)]; omega)
      · skip
        have hs := (hM.2.1 r hr).2 i (by omega)
        refine g_iload_n C dX5_dyed_15 3 rfl rfl (q := 16) rfl ?_
        refine g_aload_n C dX5_dyed_16 0 rfl rfl (q := 17) rfl ?_
        refine g_iload_n C dX5_dyed_17 1 rfl rfl (q := 18) rfl ?_
        refine g_iload C dX5_dyed_18 4 rfl (q := 20) rfl ?_
        refine g_iconst C dX5_dyed_20 (q := 21) rfl ?_
        refine g_cV_i C (As := [.int (iI r), .int (iI i), .int (iI 1)]) (c_X5_at_1 l E _ r i  (by omega) (by omega)) ml_X5_75 mf_X5_at (o := 13) (ci := 5) rfl rfl rfl rfl ⟨(Nat.le_of_ble_eq_true rfl), (Nat.le_of_ble_eq_true rfl)⟩ rfl rfl rfl (Nat.le_of_ble_eq_true rfl) ⟨(Nat.le_of_ble_eq_true rfl), (Nat.le_of_ble_eq_true rfl)⟩ dX5_dyed_21 (q := 24) rfl ?_
        refine g_iload_n C dX5_dyed_24 2 rfl rfl (q := 25) rfl ?_
        refine g_icmp_ne C dX5_dyed_25 (by omega) (q2 := 39) rfl (q := 28) rfl (fun hb2 => ?_) (fun hb2 => ?_)
        · skip
          refine g_iconst C dX5_dyed_39 (q := 40) rfl ?_
          refine g_iadd C dX5_dyed_40 (q := 41) rfl ?_
          refine g_istore_n C (L' := [(3, .int (iI (acc + 0))), (0, .ref (ea E 13)), (1, .int (iI r)), (2, .int (iI c)), (4, .int (iI i))]) dX5_dyed_41 rfl (by decide) rfl (q := 42) rfl ?_
          refine g_iinc C (L' := [(4, .int (iI (i + 1))), (3, .int (iI (acc + 0))), (0, .ref (ea E 13)), (1, .int (iI r)), (2, .int (iI c))]) dX5_dyed_42 4 rfl (by decide) rfl (q := 45) rfl ?_
          refine g_goto C dX5_dyed_45 (q := 5) rfl ?_
          refine g_sub [2, 3, 4, 1, 0] (L' := [(0, .ref (ea E 13)), (1, .int (iI r)), (2, .int (iI c)), (3, .int (iI (acc + 0))), (4, .int (iI (i + 1)))]) rfl ?_
          exact ih5 (acc + 0) (i + 1) (by omega) (by omega) (by first | (rw [hR, sI_cons (by omega), show ci f r c i = f (r * 60 + i) / 8 from if_pos (by omega)]; omega) | (rw [hR, sI_cons (by omega), show ci f r c i = 0 from if_neg (by omega)]; omega))
        · skip
          refine g_aload_n C dX5_dyed_28 0 rfl rfl (q := 29) rfl ?_
          refine g_iload_n C dX5_dyed_29 1 rfl rfl (q := 30) rfl ?_
          refine g_iload C dX5_dyed_30 4 rfl (q := 32) rfl ?_
          refine g_iconst C dX5_dyed_32 (q := 33) rfl ?_
          refine g_cV_i C (As := [.int (iI r), .int (iI i), .int (iI 0)]) (c_X5_at_0 l E _ r i  (by omega) (by omega)) ml_X5_75 mf_X5_at (o := 13) (ci := 5) rfl rfl rfl rfl ⟨(Nat.le_of_ble_eq_true rfl), (Nat.le_of_ble_eq_true rfl)⟩ rfl rfl rfl (Nat.le_of_ble_eq_true rfl) ⟨(Nat.le_of_ble_eq_true rfl), (Nat.le_of_ble_eq_true rfl)⟩ dX5_dyed_33 (q := 36) rfl ?_
          refine g_goto C dX5_dyed_36 (q := 40) rfl ?_
          refine g_iadd C dX5_dyed_40 (q := 41) rfl ?_
          refine g_istore_n C (L' := [(3, .int (iI (acc + ((σ 14) (3 + 121 * r + 2 * i))))), (0, .ref (ea E 13)), (1, .int (iI r)), (2, .int (iI c)), (4, .int (iI i))]) dX5_dyed_41 rfl (by decide) rfl (q := 42) rfl ?_
          refine g_iinc C (L' := [(4, .int (iI (i + 1))), (3, .int (iI (acc + ((σ 14) (3 + 121 * r + 2 * i))))), (0, .ref (ea E 13)), (1, .int (iI r)), (2, .int (iI c))]) dX5_dyed_42 4 rfl (by decide) rfl (q := 45) rfl ?_
          refine g_goto C dX5_dyed_45 (q := 5) rfl ?_
          refine g_sub [2, 3, 4, 1, 0] (L' := [(0, .ref (ea E 13)), (1, .int (iI r)), (2, .int (iI c)), (3, .int (iI (acc + ((σ 14) (3 + 121 * r + 2 * i))))), (4, .int (iI (i + 1)))]) rfl ?_
          exact ih5 (acc + ((σ 14) (3 + 121 * r + 2 * i))) (i + 1) (by omega) (by omega) (by first | (rw [hR, sI_cons (by omega), show ci f r c i = f (r * 60 + i) / 8 from if_pos (by omega)]; omega) | (rw [hR, sI_cons (by omega), show ci f r c i = 0 from if_neg (by omega)]; omega))
  exact lp5 _ 0 0 (Nat.lt_succ_self _) (by omega) (by unfold sc; omega)
abbrev rm_X5_isLike : Room := { frames := 1, cells := 0, slots := 0, locals := 23 }
set_option maxRecDepth 100000 in
set_option maxHeartbeats 4000000 in
theorem c_X5_isLike (l : Launch) (E : EV) (σ : SS) (r p o q : Int) (f : Int → Int) (hM : MS f (σ 14)) (hr : 0 ≤ r ∧ r < 4) (hp : 0 ≤ p ∧ p < f (240 + r)) (ho : 0 ≤ o ∧ o < 4) (hq : 0 ≤ q ∧ q < f (240 + o)) : Ki l yX5_isLike (cw yX5_isLike cX5_isLike 5 (some .boolean)) rm_X5_isLike E [.ref (ea E 13), .int (iI r), .int (iI p), .int (iI o), .int (iI q)] σ (bE (f (r * 60 + p)) (f (o * 60 + q))) σ := by
  refine Kz_of (rm := rm_X5_isLike) (mL := 5) (b := cX5_isLike) RX5 rfl (by decide +kernel) rfl rfl [(0, .ref (ea E 13)), (1, .int (iI r)), (2, .int (iI p)), (3, .int (iI o)), (4, .int (iI q))] rfl (Nat.le_of_ble_eq_true rfl) (fun p_ e_ s_ m_ a_ b_ h_ c_ Q A C hret => ?_)
  have hm_r := (hM.2.1 r (by omega)).1
  have hn_r := (hM.1 r (by omega)).1
  have hm_o := (hM.2.1 o (by omega)).1
  have hn_o := (hM.1 o (by omega)).1
  have hs1 := (hM.2.1 r hr).2 p hp
  have hs2 := (hM.2.1 o ho).2 q hq
  have hw1 := (hM.1 r hr).2 p hp
  have hw2 := (hM.1 o ho).2 q hq
  refine g_aload_n C dX5_isLike_0 0 rfl rfl (q := 1) rfl ?_
  refine g_iload_n C dX5_isLike_1 1 rfl rfl (q := 2) rfl ?_
  refine g_iload_n C dX5_isLike_2 2 rfl rfl (q := 3) rfl ?_
  refine g_iconst C dX5_isLike_3 (q := 4) rfl ?_
  refine g_cV_i C (As := [.int (iI r), .int (iI p), .int (iI 0)]) (c_X5_at_0 l E _ r p  (by omega) (by omega)) ml_X5_75 mf_X5_at (o := 13) (ci := 5) rfl rfl rfl rfl ⟨(Nat.le_of_ble_eq_true rfl), (Nat.le_of_ble_eq_true rfl)⟩ rfl rfl rfl (Nat.le_of_ble_eq_true rfl) ⟨(Nat.le_of_ble_eq_true rfl), (Nat.le_of_ble_eq_true rfl)⟩ dX5_isLike_4 (q := 7) rfl ?_
  refine g_aload_n C dX5_isLike_7 0 rfl rfl (q := 8) rfl ?_
  refine g_iload_n C dX5_isLike_8 3 rfl rfl (q := 9) rfl ?_
  refine g_iload C dX5_isLike_9 4 rfl (q := 11) rfl ?_
  refine g_iconst C dX5_isLike_11 (q := 12) rfl ?_
  refine g_cV_i C (As := [.int (iI o), .int (iI q), .int (iI 0)]) (c_X5_at_0 l E _ o q  (by omega) (by omega)) ml_X5_75 mf_X5_at (o := 13) (ci := 5) rfl rfl rfl rfl ⟨(Nat.le_of_ble_eq_true rfl), (Nat.le_of_ble_eq_true rfl)⟩ rfl rfl rfl (Nat.le_of_ble_eq_true rfl) ⟨(Nat.le_of_ble_eq_true rfl), (Nat.le_of_ble_eq_true rfl)⟩ dX5_isLike_12 (q := 15) rfl ?_
  refine g_icmp_ne C dX5_isLike_15 (by omega) (q2 := 40) rfl (q := 18) rfl (fun hb1 => ?_) (fun hb1 => ?_)
  · skip
    refine g_iconst C dX5_isLike_40 (q := 41) rfl ?_
    exact hret _ _ _ dX5_isLike_41 (by omega) (by unfold bE; first | rw [if_pos (by omega)] | rw [if_neg (by omega)])
  · skip
    refine g_aload_n C dX5_isLike_18 0 rfl rfl (q := 19) rfl ?_
    refine g_iload_n C dX5_isLike_19 1 rfl rfl (q := 20) rfl ?_
    refine g_iload_n C dX5_isLike_20 2 rfl rfl (q := 21) rfl ?_
    refine g_iconst C dX5_isLike_21 (q := 22) rfl ?_
    refine g_cV_i C (As := [.int (iI r), .int (iI p), .int (iI 1)]) (c_X5_at_1 l E _ r p  (by omega) (by omega)) ml_X5_75 mf_X5_at (o := 13) (ci := 5) rfl rfl rfl rfl ⟨(Nat.le_of_ble_eq_true rfl), (Nat.le_of_ble_eq_true rfl)⟩ rfl rfl rfl (Nat.le_of_ble_eq_true rfl) ⟨(Nat.le_of_ble_eq_true rfl), (Nat.le_of_ble_eq_true rfl)⟩ dX5_isLike_22 (q := 25) rfl ?_
    refine g_aload_n C dX5_isLike_25 0 rfl rfl (q := 26) rfl ?_
    refine g_iload_n C dX5_isLike_26 3 rfl rfl (q := 27) rfl ?_
    refine g_iload C dX5_isLike_27 4 rfl (q := 29) rfl ?_
    refine g_iconst C dX5_isLike_29 (q := 30) rfl ?_
    refine g_cV_i C (As := [.int (iI o), .int (iI q), .int (iI 1)]) (c_X5_at_1 l E _ o q  (by omega) (by omega)) ml_X5_75 mf_X5_at (o := 13) (ci := 5) rfl rfl rfl rfl ⟨(Nat.le_of_ble_eq_true rfl), (Nat.le_of_ble_eq_true rfl)⟩ rfl rfl rfl (Nat.le_of_ble_eq_true rfl) ⟨(Nat.le_of_ble_eq_true rfl), (Nat.le_of_ble_eq_true rfl)⟩ dX5_isLike_30 (q := 33) rfl ?_
    refine g_icmp_ne C dX5_isLike_33 (by omega) (q2 := 40) rfl (q := 36) rfl (fun hb2 => ?_) (fun hb2 => ?_)
    · skip
      refine g_iconst C dX5_isLike_40 (q := 41) rfl ?_
      exact hret _ _ _ dX5_isLike_41 (by omega) (by unfold bE; first | rw [if_pos (by omega)] | rw [if_neg (by omega)])
    · skip
      refine g_iconst C dX5_isLike_36 (q := 37) rfl ?_
      refine g_goto C dX5_isLike_37 (q := 41) rfl ?_
      exact hret _ _ _ dX5_isLike_41 (by omega) (by unfold bE; first | rw [if_pos (by omega)] | rw [if_neg (by omega)])
abbrev rm_X5_alike : Room := { frames := 2, cells := 0, slots := 0, locals := 47 }
set_option maxRecDepth 100000 in
set_option maxHeartbeats 4000000 in
theorem c_X5_alike (l : Launch) (E : EV) (σ : SS) (r o : Int) (f : Int → Int) (hM : MS f (σ 14)) (hr : 0 ≤ r ∧ r < 4) (ho : 0 ≤ o ∧ o < 4) : Ki l yX5_alike (cw yX5_alike cX5_alike 4 (some .int)) rm_X5_alike E [.ref (ea E 13), .int (iI r), .int (iI o)] σ (sh f r o) σ := by
  refine Ki_of (rm := rm_X5_alike) (mL := 4) (b := cX5_alike) RX5 rfl (by decide +kernel) rfl rfl [(0, .ref (ea E 13)), (1, .int (iI r)), (2, .int (iI o))] rfl (Nat.le_of_ble_eq_true rfl) (fun p_ e_ s_ m_ a_ b_ h_ c_ Q A C hret => ?_)
  have hm_r := (hM.2.1 r (by omega)).1
  have hn_r := (hM.1 r (by omega)).1
  have hm_o := (hM.2.1 o (by omega)).1
  have hn_o := (hM.1 o (by omega)).1
  refine g_iconst C dX5_alike_0 (q := 1) rfl ?_
  refine g_istore_n C (L' := [(3, .int (iI 0)), (0, .ref (ea E 13)), (1, .int (iI r)), (2, .int (iI o))]) dX5_alike_1 rfl (by decide) rfl (q := 2) rfl ?_
  refine g_sub [1, 2, 3, 0] (L' := [(0, .ref (ea E 13)), (1, .int (iI r)), (2, .int (iI o)), (3, .int (iI 0))]) rfl ?_
  have lp2 : ∀ (k9 : Nat) (i : Int), (min (f (240 + r)) (f (240 + o)) - i).toNat < k9 → (0 ≤ i ∧ i ≤ min (f (240 + r)) (f (240 + o))) → (sh f r o = cI (shP f r o) i (min (f (240 + r)) (f (240 + o)))) → GG p_ l e_ rm_X5_alike s_ m_ a_ b_ h_ c_ Q E A 4 σ 0 0 2 [(0, .ref (ea E 13)), (1, .int (iI r)), (2, .int (iI o)), (3, .int (iI i))] [] := by
    intro k9
    induction k9 with
    | zero => intro i hk9; omega
    | succ k9 ih2 =>
      intro i hk9 hi hR
      refine g_iload_n C dX5_alike_2 3 rfl rfl (q := 3) rfl ?_
      refine g_aload_n C dX5_alike_3 0 rfl rfl (q := 4) rfl ?_
      refine g_iload_n C dX5_alike_4 1 rfl rfl (q := 5) rfl ?_
      refine g_cV_i C (As := [.int (iI r)]) (c_X5_many l E _ r  (by omega)) ml_X5_62 mf_X5_many (o := 13) (ci := 5) rfl rfl rfl rfl ⟨(Nat.le_of_ble_eq_true rfl), (Nat.le_of_ble_eq_true rfl)⟩ rfl rfl rfl (Nat.le_of_ble_eq_true rfl) ⟨(Nat.le_of_ble_eq_true rfl), (Nat.le_of_ble_eq_true rfl)⟩ dX5_alike_5 (q := 8) rfl ?_
      refine g_icmp_ge C dX5_alike_8 (by omega) (q2 := 37) rfl (q := 11) rfl (fun hb1 => ?_) (fun hb1 => ?_)
      · skip
        refine g_iload_n C dX5_alike_37 3 rfl rfl (q := 38) rfl ?_
        exact hret _ _ _ dX5_alike_38 (by first | (rw [hR, cI_nil (by omega)]; done) | (rw [hR, cI_no (by omega)]; unfold shP; simp only [decide_eq_true_eq]; omega))
      · skip
        refine g_iload_n C dX5_alike_11 3 rfl rfl (q := 12) rfl ?_
        refine g_aload_n C dX5_alike_12 0 rfl rfl (q := 13) rfl ?_
        refine g_iload_n C dX5_alike_13 2 rfl rfl (q := 14) rfl ?_
        refine g_cV_i C (As := [.int (iI o)]) (c_X5_many l E _ o  (by omega)) ml_X5_62 mf_X5_many (o := 13) (ci := 5) rfl rfl rfl rfl ⟨(Nat.le_of_ble_eq_true rfl), (Nat.le_of_ble_eq_true rfl)⟩ rfl rfl rfl (Nat.le_of_ble_eq_true rfl) ⟨(Nat.le_of_ble_eq_true rfl), (Nat.le_of_ble_eq_true rfl)⟩ dX5_alike_14 (q := 17) rfl ?_
        refine g_icmp_ge C dX5_alike_17 (by omega) (q2 := 37) rfl (q := 20) rfl (fun hb2 => ?_) (fun hb2 => ?_)
        · skip
          refine g_iload_n C dX5_alike_37 3 rfl rfl (q := 38) rfl ?_
          exact hret _ _ _ dX5_alike_38 (by first | (rw [hR, cI_nil (by omega)]; done) | (rw [hR, cI_no (by omega)]; unfold shP; simp only [decide_eq_true_eq]; omega))
        · skip
          have hE := bE_01 (f (r * 60 + i)) (f (o * 60 + i))
          have hE1 := bE_iff (f (r * 60 + i)) (f (o * 60 + i))
          refine g_aload_n C dX5_alike_20 0 rfl rfl (q := 21) rfl ?_
          refine g_iload_n C dX5_alike_21 1 rfl rfl (q := 22) rfl ?_
          refine g_iload_n C dX5_alike_22 3 rfl rfl (q := 23) rfl ?_
          refine g_iload_n C dX5_alike_23 2 rfl rfl (q := 24) rfl ?_
          refine g_iload_n C dX5_alike_24 3 rfl rfl (q := 25) rfl ?_
          refine g_cV_i C (As := [.int (iI r), .int (iI i), .int (iI o), .int (iI i)]) (c_X5_isLike l E _ r i o i f (by assumption) (by omega) (by omega) (by omega) (by omega)) ml_X5_152 mf_X5_isLike (o := 13) (ci := 5) rfl rfl rfl rfl ⟨(Nat.le_of_ble_eq_true rfl), (Nat.le_of_ble_eq_true rfl)⟩ rfl rfl rfl (Nat.le_of_ble_eq_true rfl) ⟨(Nat.le_of_ble_eq_true rfl), (Nat.le_of_ble_eq_true rfl)⟩ dX5_alike_25 (q := 28) rfl ?_
          refine g_if_eq C dX5_alike_28 (by omega) (q2 := 37) rfl (q := 31) rfl (fun hb3 => ?_) (fun hb3 => ?_)
          · skip
            refine g_iload_n C dX5_alike_37 3 rfl rfl (q := 38) rfl ?_
            exact hret _ _ _ dX5_alike_38 (by first | (rw [hR, cI_nil (by omega)]; done) | (rw [hR, cI_no (by omega)]; unfold shP; simp only [decide_eq_true_eq]; omega))
          · skip
            refine g_iinc C (L' := [(3, .int (iI (i + 1))), (0, .ref (ea E 13)), (1, .int (iI r)), (2, .int (iI o))]) dX5_alike_31 3 rfl (by decide) rfl (q := 34) rfl ?_
            refine g_goto C dX5_alike_34 (q := 2) rfl ?_
            refine g_sub [1, 2, 3, 0] (L' := [(0, .ref (ea E 13)), (1, .int (iI r)), (2, .int (iI o)), (3, .int (iI (i + 1)))]) rfl ?_
            exact ih2 (i + 1) (by omega) (by omega) (by rw [hR, cI_yes (by omega)]; unfold shP; simp only [decide_eq_true_eq]; omega)
  exact lp2 _ 0 (Nat.lt_succ_self _) (by omega) (by rfl)
abbrev rm_X5_segments : Room := { frames := 1, cells := 0, slots := 0, locals := 21 }
set_option maxRecDepth 100000 in
set_option maxHeartbeats 4000000 in
theorem c_X5_segments (l : Launch) (E : EV) (σ : SS)  : Ki l yX5_segments (cw yX5_segments cX5_segments 1 (some .int)) rm_X5_segments E [.ref (ea E 13)] σ ((σ 14) (2 + 121 * 0) + (σ 14) (2 + 121 * 1) + (σ 14) (2 + 121 * 2) + (σ 14) (2 + 121 * 3)) σ := by
  refine Ki_of (rm := rm_X5_segments) (mL := 1) (b := cX5_segments) RX5 rfl (by decide +kernel) rfl rfl [(0, .ref (ea E 13))] rfl (Nat.le_of_ble_eq_true rfl) (fun p_ e_ s_ m_ a_ b_ h_ c_ Q A C hret => ?_)
  refine g_aload_n C dX5_segments_0 0 rfl rfl (q := 1) rfl ?_
  refine g_iconst C dX5_segments_1 (q := 2) rfl ?_
  refine g_cV_i C (As := [.int (iI 0)]) (c_X5_many l E _ 0  (by omega)) ml_X5_62 mf_X5_many (o := 13) (ci := 5) rfl rfl rfl rfl ⟨(Nat.le_of_ble_eq_true rfl), (Nat.le_of_ble_eq_true rfl)⟩ rfl rfl rfl (Nat.le_of_ble_eq_true rfl) ⟨(Nat.le_of_ble_eq_true rfl), (Nat.le_of_ble_eq_true rfl)⟩ dX5_segments_2 (q := 5) rfl ?_
  refine g_aload_n C dX5_segments_5 0 rfl rfl (q := 6) rfl ?_
  refine g_iconst C dX5_segments_6 (q := 7) rfl ?_
  refine g_cV_i C (As := [.int (iI 1)]) (c_X5_many l E _ 1  (by omega)) ml_X5_62 mf_X5_many (o := 13) (ci := 5) rfl rfl rfl rfl ⟨(Nat.le_of_ble_eq_true rfl), (Nat.le_of_ble_eq_true rfl)⟩ rfl rfl rfl (Nat.le_of_ble_eq_true rfl) ⟨(Nat.le_of_ble_eq_true rfl), (Nat.le_of_ble_eq_true rfl)⟩ dX5_segments_7 (q := 10) rfl ?_
  refine g_iadd C dX5_segments_10 (q := 11) rfl ?_
  refine g_aload_n C dX5_segments_11 0 rfl rfl (q := 12) rfl ?_
  refine g_iconst C dX5_segments_12 (q := 13) rfl ?_
  refine g_cV_i C (As := [.int (iI 2)]) (c_X5_many l E _ 2  (by omega)) ml_X5_62 mf_X5_many (o := 13) (ci := 5) rfl rfl rfl rfl ⟨(Nat.le_of_ble_eq_true rfl), (Nat.le_of_ble_eq_true rfl)⟩ rfl rfl rfl (Nat.le_of_ble_eq_true rfl) ⟨(Nat.le_of_ble_eq_true rfl), (Nat.le_of_ble_eq_true rfl)⟩ dX5_segments_13 (q := 16) rfl ?_
  refine g_iadd C dX5_segments_16 (q := 17) rfl ?_
  refine g_aload_n C dX5_segments_17 0 rfl rfl (q := 18) rfl ?_
  refine g_iconst C dX5_segments_18 (q := 19) rfl ?_
  refine g_cV_i C (As := [.int (iI 3)]) (c_X5_many l E _ 3  (by omega)) ml_X5_62 mf_X5_many (o := 13) (ci := 5) rfl rfl rfl rfl ⟨(Nat.le_of_ble_eq_true rfl), (Nat.le_of_ble_eq_true rfl)⟩ rfl rfl rfl (Nat.le_of_ble_eq_true rfl) ⟨(Nat.le_of_ble_eq_true rfl), (Nat.le_of_ble_eq_true rfl)⟩ dX5_segments_19 (q := 22) rfl ?_
  refine g_iadd C dX5_segments_22 (q := 23) rfl ?_
  exact hret _ _ _ dX5_segments_23 (by omega)
abbrev rm_X5_segmentCount : Room := { frames := 2, cells := 0, slots := 0, locals := 42 }
set_option maxRecDepth 100000 in
set_option maxHeartbeats 4000000 in
theorem c_X5_segmentCount (l : Launch) (E : EV) (σ : SS) (r : Int) (f : Int → Int) (hM : MS f (σ 14)) (hr_r : -2147483648 ≤ r ∧ r ≤ 2147483647) (hF1 : fR r = 0) : Ki l yX5_segmentCount (cw yX5_segmentCount cX5_segmentCount 2 (some .int)) rm_X5_segmentCount E [.ref (ea E 13), .int (iI r)] σ (f (240 + r)) (st σ 13 (pt (σ 13) 0 0)) := by
  refine Ki_of (rm := rm_X5_segmentCount) (mL := 2) (b := cX5_segmentCount) RX5 rfl (by decide +kernel) rfl rfl [(0, .ref (ea E 13)), (1, .int (iI r))] rfl (Nat.le_of_ble_eq_true rfl) (fun p_ e_ s_ m_ a_ b_ h_ c_ Q A C hret => ?_)
  have hB := bR_iff r
  have hB1 := bR_01 r
  have hG1 := fR_0 hF1
  have hm_r := (hM.2.1 r (by omega)).1
  have hn_r := (hM.1 r (by omega)).1
  refine g_aload_n C dX5_segmentCount_0 0 rfl rfl (q := 1) rfl ?_
  refine g_iload_n C dX5_segmentCount_1 1 rfl rfl (q := 2) rfl ?_
  refine g_cS_i C (As := [.int (iI r)]) (c_X5_isReel l E _ r  (by omega)) ml_X5_58 mf_X5_isReel rfl rfl ⟨(Nat.le_of_ble_eq_true rfl), (Nat.le_of_ble_eq_true rfl)⟩ rfl rfl rfl (Nat.le_of_ble_eq_true rfl) ⟨(Nat.le_of_ble_eq_true rfl), (Nat.le_of_ble_eq_true rfl)⟩ dX5_segmentCount_2 (q := 5) rfl ?_
  refine g_if_eq C dX5_segmentCount_5 (by omega) (q2 := 12) rfl (q := 8) rfl (fun hb1 => ?_) (fun hb1 => ?_)
  · skip
    exfalso; omega
  · skip
    refine g_iconst C dX5_segmentCount_8 (q := 9) rfl ?_
    refine g_goto C dX5_segmentCount_9 (q := 13) rfl ?_
    refine gp_X5_38 C dX5_segmentCount_13 (q := 16) rfl ?_
    refine g_aload_n C dX5_segmentCount_16 0 rfl rfl (q := 17) rfl ?_
    refine gf_X5_38 C dX5_segmentCount_17 (q := 20) rfl ?_
    refine g_top (b := 0) rfl ?_
    refine g_if_le C dX5_segmentCount_20 (by omega) (q2 := 27) rfl (q := 23) rfl (fun hb2 => ?_) (fun hb2 => ?_)
    · skip
      refine g_aload_n C dX5_segmentCount_27 0 rfl rfl (q := 28) rfl ?_
      refine g_iload_n C dX5_segmentCount_28 1 rfl rfl (q := 29) rfl ?_
      refine g_cV_i C (As := [.int (iI r)]) (c_X5_many l E _ r  (by omega)) ml_X5_62 mf_X5_many (o := 13) (ci := 5) rfl rfl rfl rfl ⟨(Nat.le_of_ble_eq_true rfl), (Nat.le_of_ble_eq_true rfl)⟩ rfl rfl rfl (Nat.le_of_ble_eq_true rfl) ⟨(Nat.le_of_ble_eq_true rfl), (Nat.le_of_ble_eq_true rfl)⟩ dX5_segmentCount_29 (q := 32) rfl ?_
      refine g_top (b := (σ 14) (2 + 121 * r)) rfl ?_
      exact hret _ _ _ dX5_segmentCount_32 (by exact hm_r)
    · skip
      exfalso; omega
set_option maxRecDepth 100000 in
set_option maxHeartbeats 4000000 in
theorem c_X5_segmentCount_11 (l : Launch) (E : EV) (σ : SS) (r : Int) (f : Int → Int) (hM : MS f (σ 14)) (hr_r : -2147483648 ≤ r ∧ r ≤ 2147483647) (hF1 : fR r = 1) : Ki l yX5_segmentCount (cw yX5_segmentCount cX5_segmentCount 2 (some .int)) rm_X5_segmentCount E [.ref (ea E 13), .int (iI r)] σ 0 (st σ 13 (pt (σ 13) 0 1)) := by
  refine Ki_of (rm := rm_X5_segmentCount) (mL := 2) (b := cX5_segmentCount) RX5 rfl (by decide +kernel) rfl rfl [(0, .ref (ea E 13)), (1, .int (iI r))] rfl (Nat.le_of_ble_eq_true rfl) (fun p_ e_ s_ m_ a_ b_ h_ c_ Q A C hret => ?_)
  have hB := bR_iff r
  have hB1 := bR_01 r
  have hnr : ¬ (0 ≤ r ∧ r < 4) := by intro h9; unfold fR at hF1; rw [if_pos h9] at hF1; omega
  refine g_aload_n C dX5_segmentCount_0 0 rfl rfl (q := 1) rfl ?_
  refine g_iload_n C dX5_segmentCount_1 1 rfl rfl (q := 2) rfl ?_
  refine g_cS_i C (As := [.int (iI r)]) (c_X5_isReel l E _ r  (by omega)) ml_X5_58 mf_X5_isReel rfl rfl ⟨(Nat.le_of_ble_eq_true rfl), (Nat.le_of_ble_eq_true rfl)⟩ rfl rfl rfl (Nat.le_of_ble_eq_true rfl) ⟨(Nat.le_of_ble_eq_true rfl), (Nat.le_of_ble_eq_true rfl)⟩ dX5_segmentCount_2 (q := 5) rfl ?_
  refine g_if_eq C dX5_segmentCount_5 (by omega) (q2 := 12) rfl (q := 8) rfl (fun hb1 => ?_) (fun hb1 => ?_)
  · skip
    refine g_iconst C dX5_segmentCount_12 (q := 13) rfl ?_
    refine gp_X5_38 C dX5_segmentCount_13 (q := 16) rfl ?_
    refine g_aload_n C dX5_segmentCount_16 0 rfl rfl (q := 17) rfl ?_
    refine gf_X5_38 C dX5_segmentCount_17 (q := 20) rfl ?_
    refine g_top (b := 1) rfl ?_
    refine g_if_le C dX5_segmentCount_20 (by omega) (q2 := 27) rfl (q := 23) rfl (fun hb2 => ?_) (fun hb2 => ?_)
    · skip
      exfalso; omega
    · skip
      refine g_iconst C dX5_segmentCount_23 (q := 24) rfl ?_
      refine g_goto C dX5_segmentCount_24 (q := 32) rfl ?_
      exact hret _ _ _ dX5_segmentCount_32 rfl
  · skip
    exfalso; omega
abbrev rm_X5_asked : Room := { frames := 3, cells := 0, slots := 0, locals := 64 }
set_option maxRecDepth 100000 in
set_option maxHeartbeats 4000000 in
theorem c_X5_asked_0 (l : Launch) (E : EV) (σ : SS) (r p : Int) (f : Int → Int) (hM : MS f (σ 14)) (hr_r : -2147483648 ≤ r ∧ r ≤ 2147483647) (hr_p : -2147483648 ≤ p ∧ p ≤ 2147483647) (hF1 : fP f r p = 0) : Ki l yX5_asked (cw yX5_asked cX5_asked 4 (some .int)) rm_X5_asked E [.ref (ea E 13), .int (iI r), .int (iI p), .int (iI 0)] σ (f (r * 60 + p) / 8) (st σ 13 (pt (σ 13) 0 0)) := by
  refine Ki_of (rm := rm_X5_asked) (mL := 4) (b := cX5_asked) RX5 rfl (by decide +kernel) rfl rfl [(0, .ref (ea E 13)), (1, .int (iI r)), (2, .int (iI p)), (3, .int (iI 0))] rfl (Nat.le_of_ble_eq_true rfl) (fun p_ e_ s_ m_ a_ b_ h_ c_ Q A C hret => ?_)
  have hB := bP_iff f r p
  have hB1 := bP_01 f r p
  have hcs := fP_cs f r p
  have hm_r := (hM.2.1 r (by omega)).1
  have hn_r := (hM.1 r (by omega)).1
  have hs := (hM.2.1 r (by omega)).2 p (by omega)
  refine g_aload_n C dX5_asked_0 0 rfl rfl (q := 1) rfl ?_
  refine g_aload_n C dX5_asked_1 0 rfl rfl (q := 2) rfl ?_
  refine g_iload_n C dX5_asked_2 1 rfl rfl (q := 3) rfl ?_
  refine g_iload_n C dX5_asked_3 2 rfl rfl (q := 4) rfl ?_
  refine g_cV_i C (As := [.int (iI r), .int (iI p)]) (c_X5_isSegment l E _ r p f (by assumption) (by omega) (by omega)) ml_X5_90 mf_X5_isSegment (o := 13) (ci := 5) rfl rfl rfl rfl ⟨(Nat.le_of_ble_eq_true rfl), (Nat.le_of_ble_eq_true rfl)⟩ rfl rfl rfl (Nat.le_of_ble_eq_true rfl) ⟨(Nat.le_of_ble_eq_true rfl), (Nat.le_of_ble_eq_true rfl)⟩ dX5_asked_4 (q := 7) rfl ?_
  refine g_if_eq C dX5_asked_7 (by omega) (q2 := 14) rfl (q := 10) rfl (fun hb1 => ?_) (fun hb1 => ?_)
  · skip
    exfalso; omega
  · skip
    refine g_iconst C dX5_asked_10 (q := 11) rfl ?_
    refine g_goto C dX5_asked_11 (q := 15) rfl ?_
    refine gp_X5_38 C dX5_asked_15 (q := 18) rfl ?_
    refine g_aload_n C dX5_asked_18 0 rfl rfl (q := 19) rfl ?_
    refine gf_X5_38 C dX5_asked_19 (q := 22) rfl ?_
    refine g_top (b := 0) rfl ?_
    refine g_if_le C dX5_asked_22 (by omega) (q2 := 29) rfl (q := 25) rfl (fun hb2 => ?_) (fun hb2 => ?_)
    · skip
      refine g_aload_n C dX5_asked_29 0 rfl rfl (q := 30) rfl ?_
      refine g_iload_n C dX5_asked_30 1 rfl rfl (q := 31) rfl ?_
      refine g_iload_n C dX5_asked_31 2 rfl rfl (q := 32) rfl ?_
      refine g_iload_n C dX5_asked_32 3 rfl rfl (q := 33) rfl ?_
      refine g_cV_i C (As := [.int (iI r), .int (iI p), .int (iI 0)]) (c_X5_at_0 l E _ r p  (by omega) (by omega)) ml_X5_75 mf_X5_at (o := 13) (ci := 5) rfl rfl rfl rfl ⟨(Nat.le_of_ble_eq_true rfl), (Nat.le_of_ble_eq_true rfl)⟩ rfl rfl rfl (Nat.le_of_ble_eq_true rfl) ⟨(Nat.le_of_ble_eq_true rfl), (Nat.le_of_ble_eq_true rfl)⟩ dX5_asked_33 (q := 36) rfl ?_
      refine g_top (b := (σ 14) (3 + 121 * r + 2 * p)) rfl ?_
      exact hret _ _ _ dX5_asked_36 (by omega)
    · skip
      exfalso; omega
set_option maxRecDepth 100000 in
set_option maxHeartbeats 4000000 in
theorem c_X5_asked_0x (l : Launch) (E : EV) (σ : SS) (r p : Int) (f : Int → Int) (hM : MS f (σ 14)) (hr_r : -2147483648 ≤ r ∧ r ≤ 2147483647) (hr_p : -2147483648 ≤ p ∧ p ≤ 2147483647) (hF1 : fP f r p = 1) : Ki l yX5_asked (cw yX5_asked cX5_asked 4 (some .int)) rm_X5_asked E [.ref (ea E 13), .int (iI r), .int (iI p), .int (iI 0)] σ 0 (st σ 13 (pt (σ 13) 0 1)) := by
  refine Ki_of (rm := rm_X5_asked) (mL := 4) (b := cX5_asked) RX5 rfl (by decide +kernel) rfl rfl [(0, .ref (ea E 13)), (1, .int (iI r)), (2, .int (iI p)), (3, .int (iI 0))] rfl (Nat.le_of_ble_eq_true rfl) (fun p_ e_ s_ m_ a_ b_ h_ c_ Q A C hret => ?_)
  have hB := bP_iff f r p
  have hB1 := bP_01 f r p
  have hcs := fP_cs f r p
  refine g_aload_n C dX5_asked_0 0 rfl rfl (q := 1) rfl ?_
  refine g_aload_n C dX5_asked_1 0 rfl rfl (q := 2) rfl ?_
  refine g_iload_n C dX5_asked_2 1 rfl rfl (q := 3) rfl ?_
  refine g_iload_n C dX5_asked_3 2 rfl rfl (q := 4) rfl ?_
  refine g_cV_i C (As := [.int (iI r), .int (iI p)]) (c_X5_isSegment l E _ r p f (by assumption) (by omega) (by omega)) ml_X5_90 mf_X5_isSegment (o := 13) (ci := 5) rfl rfl rfl rfl ⟨(Nat.le_of_ble_eq_true rfl), (Nat.le_of_ble_eq_true rfl)⟩ rfl rfl rfl (Nat.le_of_ble_eq_true rfl) ⟨(Nat.le_of_ble_eq_true rfl), (Nat.le_of_ble_eq_true rfl)⟩ dX5_asked_4 (q := 7) rfl ?_
  refine g_if_eq C dX5_asked_7 (by omega) (q2 := 14) rfl (q := 10) rfl (fun hb1 => ?_) (fun hb1 => ?_)
  · skip
    refine g_iconst C dX5_asked_14 (q := 15) rfl ?_
    refine gp_X5_38 C dX5_asked_15 (q := 18) rfl ?_
    refine g_aload_n C dX5_asked_18 0 rfl rfl (q := 19) rfl ?_
    refine gf_X5_38 C dX5_asked_19 (q := 22) rfl ?_
    refine g_top (b := 1) rfl ?_
    refine g_if_le C dX5_asked_22 (by omega) (q2 := 29) rfl (q := 25) rfl (fun hb2 => ?_) (fun hb2 => ?_)
    · skip
      exfalso; omega
    · skip
      refine g_iconst C dX5_asked_25 (q := 26) rfl ?_
      refine g_goto C dX5_asked_26 (q := 36) rfl ?_
      exact hret _ _ _ dX5_asked_36 rfl
  · skip
    exfalso; omega
abbrev rm_X5_length : Room := { frames := 4, cells := 0, slots := 0, locals := 87 }
set_option maxRecDepth 100000 in
set_option maxHeartbeats 4000000 in
theorem c_X5_length (l : Launch) (E : EV) (σ : SS) (r p : Int) (f : Int → Int) (hM : MS f (σ 14)) (hr_r : -2147483648 ≤ r ∧ r ≤ 2147483647) (hr_p : -2147483648 ≤ p ∧ p ≤ 2147483647) (hF1 : fP f r p = 0) : Ki l yX5_length (cw yX5_length cX5_length 3 (some .int)) rm_X5_length E [.ref (ea E 13), .int (iI r), .int (iI p)] σ (f (r * 60 + p) / 8) (st σ 13 (pt (σ 13) 0 0)) := by
  refine Ki_of (rm := rm_X5_length) (mL := 3) (b := cX5_length) RX5 rfl (by decide +kernel) rfl rfl [(0, .ref (ea E 13)), (1, .int (iI r)), (2, .int (iI p))] rfl (Nat.le_of_ble_eq_true rfl) (fun p_ e_ s_ m_ a_ b_ h_ c_ Q A C hret => ?_)
  refine g_aload_n C dX5_length_0 0 rfl rfl (q := 1) rfl ?_
  refine g_iload_n C dX5_length_1 1 rfl rfl (q := 2) rfl ?_
  refine g_iload_n C dX5_length_2 2 rfl rfl (q := 3) rfl ?_
  refine g_iconst C dX5_length_3 (q := 4) rfl ?_
  refine g_cV_i C (As := [.int (iI r), .int (iI p), .int (iI 0)]) (c_X5_asked_0 l E _ r p f (by assumption) (by omega) (by omega) (by assumption)) ml_X5_116 mf_X5_asked (o := 13) (ci := 5) rfl rfl rfl rfl ⟨(Nat.le_of_ble_eq_true rfl), (Nat.le_of_ble_eq_true rfl)⟩ rfl rfl rfl (Nat.le_of_ble_eq_true rfl) ⟨(Nat.le_of_ble_eq_true rfl), (Nat.le_of_ble_eq_true rfl)⟩ dX5_length_4 (q := 7) rfl ?_
  exact hret _ _ _ dX5_length_7 rfl
set_option maxRecDepth 100000 in
set_option maxHeartbeats 4000000 in
theorem c_X5_length_11 (l : Launch) (E : EV) (σ : SS) (r p : Int) (f : Int → Int) (hM : MS f (σ 14)) (hr_r : -2147483648 ≤ r ∧ r ≤ 2147483647) (hr_p : -2147483648 ≤ p ∧ p ≤ 2147483647) (hF1 : fP f r p = 1) : Ki l yX5_length (cw yX5_length cX5_length 3 (some .int)) rm_X5_length E [.ref (ea E 13), .int (iI r), .int (iI p)] σ 0 (st σ 13 (pt (σ 13) 0 1)) := by
  refine Ki_of (rm := rm_X5_length) (mL := 3) (b := cX5_length) RX5 rfl (by decide +kernel) rfl rfl [(0, .ref (ea E 13)), (1, .int (iI r)), (2, .int (iI p))] rfl (Nat.le_of_ble_eq_true rfl) (fun p_ e_ s_ m_ a_ b_ h_ c_ Q A C hret => ?_)
  refine g_aload_n C dX5_length_0 0 rfl rfl (q := 1) rfl ?_
  refine g_iload_n C dX5_length_1 1 rfl rfl (q := 2) rfl ?_
  refine g_iload_n C dX5_length_2 2 rfl rfl (q := 3) rfl ?_
  refine g_iconst C dX5_length_3 (q := 4) rfl ?_
  refine g_cV_i C (As := [.int (iI r), .int (iI p), .int (iI 0)]) (c_X5_asked_0x l E _ r p f (by assumption) (by omega) (by omega) (by assumption)) ml_X5_116 mf_X5_asked (o := 13) (ci := 5) rfl rfl rfl rfl ⟨(Nat.le_of_ble_eq_true rfl), (Nat.le_of_ble_eq_true rfl)⟩ rfl rfl rfl (Nat.le_of_ble_eq_true rfl) ⟨(Nat.le_of_ble_eq_true rfl), (Nat.le_of_ble_eq_true rfl)⟩ dX5_length_4 (q := 7) rfl ?_
  exact hret _ _ _ dX5_length_7 rfl
set_option maxRecDepth 100000 in
set_option maxHeartbeats 4000000 in
theorem c_X5_asked_1 (l : Launch) (E : EV) (σ : SS) (r p : Int) (f : Int → Int) (hM : MS f (σ 14)) (hr_r : -2147483648 ≤ r ∧ r ≤ 2147483647) (hr_p : -2147483648 ≤ p ∧ p ≤ 2147483647) (hF1 : fP f r p = 0) : Ki l yX5_asked (cw yX5_asked cX5_asked 4 (some .int)) rm_X5_asked E [.ref (ea E 13), .int (iI r), .int (iI p), .int (iI 1)] σ (f (r * 60 + p) % 8) (st σ 13 (pt (σ 13) 0 0)) := by
  refine Ki_of (rm := rm_X5_asked) (mL := 4) (b := cX5_asked) RX5 rfl (by decide +kernel) rfl rfl [(0, .ref (ea E 13)), (1, .int (iI r)), (2, .int (iI p)), (3, .int (iI 1))] rfl (Nat.le_of_ble_eq_true rfl) (fun p_ e_ s_ m_ a_ b_ h_ c_ Q A C hret => ?_)
  have hB := bP_iff f r p
  have hB1 := bP_01 f r p
  have hcs := fP_cs f r p
  have hm_r := (hM.2.1 r (by omega)).1
  have hn_r := (hM.1 r (by omega)).1
  have hs := (hM.2.1 r (by omega)).2 p (by omega)
  refine g_aload_n C dX5_asked_0 0 rfl rfl (q := 1) rfl ?_
  refine g_aload_n C dX5_asked_1 0 rfl rfl (q := 2) rfl ?_
  refine g_iload_n C dX5_asked_2 1 rfl rfl (q := 3) rfl ?_
  refine g_iload_n C dX5_asked_3 2 rfl rfl (q := 4) rfl ?_
  refine g_cV_i C (As := [.int (iI r), .int (iI p)]) (c_X5_isSegment l E _ r p f (by assumption) (by omega) (by omega)) ml_X5_90 mf_X5_isSegment (o := 13) (ci := 5) rfl rfl rfl rfl ⟨(Nat.le_of_ble_eq_true rfl), (Nat.le_of_ble_eq_true rfl)⟩ rfl rfl rfl (Nat.le_of_ble_eq_true rfl) ⟨(Nat.le_of_ble_eq_true rfl), (Nat.le_of_ble_eq_true rfl)⟩ dX5_asked_4 (q := 7) rfl ?_
  refine g_if_eq C dX5_asked_7 (by omega) (q2 := 14) rfl (q := 10) rfl (fun hb1 => ?_) (fun hb1 => ?_)
  · skip
    exfalso; omega
  · skip
    refine g_iconst C dX5_asked_10 (q := 11) rfl ?_
    refine g_goto C dX5_asked_11 (q := 15) rfl ?_
    refine gp_X5_38 C dX5_asked_15 (q := 18) rfl ?_
    refine g_aload_n C dX5_asked_18 0 rfl rfl (q := 19) rfl ?_
    refine gf_X5_38 C dX5_asked_19 (q := 22) rfl ?_
    refine g_top (b := 0) rfl ?_
    refine g_if_le C dX5_asked_22 (by omega) (q2 := 29) rfl (q := 25) rfl (fun hb2 => ?_) (fun hb2 => ?_)
    · skip
      refine g_aload_n C dX5_asked_29 0 rfl rfl (q := 30) rfl ?_
      refine g_iload_n C dX5_asked_30 1 rfl rfl (q := 31) rfl ?_
      refine g_iload_n C dX5_asked_31 2 rfl rfl (q := 32) rfl ?_
      refine g_iload_n C dX5_asked_32 3 rfl rfl (q := 33) rfl ?_
      refine g_cV_i C (As := [.int (iI r), .int (iI p), .int (iI 1)]) (c_X5_at_1 l E _ r p  (by omega) (by omega)) ml_X5_75 mf_X5_at (o := 13) (ci := 5) rfl rfl rfl rfl ⟨(Nat.le_of_ble_eq_true rfl), (Nat.le_of_ble_eq_true rfl)⟩ rfl rfl rfl (Nat.le_of_ble_eq_true rfl) ⟨(Nat.le_of_ble_eq_true rfl), (Nat.le_of_ble_eq_true rfl)⟩ dX5_asked_33 (q := 36) rfl ?_
      refine g_top (b := (σ 14) (4 + 121 * r + 2 * p)) rfl ?_
      exact hret _ _ _ dX5_asked_36 (by omega)
    · skip
      exfalso; omega
set_option maxRecDepth 100000 in
set_option maxHeartbeats 4000000 in
theorem c_X5_asked_1x (l : Launch) (E : EV) (σ : SS) (r p : Int) (f : Int → Int) (hM : MS f (σ 14)) (hr_r : -2147483648 ≤ r ∧ r ≤ 2147483647) (hr_p : -2147483648 ≤ p ∧ p ≤ 2147483647) (hF1 : fP f r p = 1) : Ki l yX5_asked (cw yX5_asked cX5_asked 4 (some .int)) rm_X5_asked E [.ref (ea E 13), .int (iI r), .int (iI p), .int (iI 1)] σ 0 (st σ 13 (pt (σ 13) 0 1)) := by
  refine Ki_of (rm := rm_X5_asked) (mL := 4) (b := cX5_asked) RX5 rfl (by decide +kernel) rfl rfl [(0, .ref (ea E 13)), (1, .int (iI r)), (2, .int (iI p)), (3, .int (iI 1))] rfl (Nat.le_of_ble_eq_true rfl) (fun p_ e_ s_ m_ a_ b_ h_ c_ Q A C hret => ?_)
  have hB := bP_iff f r p
  have hB1 := bP_01 f r p
  have hcs := fP_cs f r p
  refine g_aload_n C dX5_asked_0 0 rfl rfl (q := 1) rfl ?_
  refine g_aload_n C dX5_asked_1 0 rfl rfl (q := 2) rfl ?_
  refine g_iload_n C dX5_asked_2 1 rfl rfl (q := 3) rfl ?_
  refine g_iload_n C dX5_asked_3 2 rfl rfl (q := 4) rfl ?_
  refine g_cV_i C (As := [.int (iI r), .int (iI p)]) (c_X5_isSegment l E _ r p f (by assumption) (by omega) (by omega)) ml_X5_90 mf_X5_isSegment (o := 13) (ci := 5) rfl rfl rfl rfl ⟨(Nat.le_of_ble_eq_true rfl), (Nat.le_of_ble_eq_true rfl)⟩ rfl rfl rfl (Nat.le_of_ble_eq_true rfl) ⟨(Nat.le_of_ble_eq_true rfl), (Nat.le_of_ble_eq_true rfl)⟩ dX5_asked_4 (q := 7) rfl ?_
  refine g_if_eq C dX5_asked_7 (by omega) (q2 := 14) rfl (q := 10) rfl (fun hb1 => ?_) (fun hb1 => ?_)
  · skip
    refine g_iconst C dX5_asked_14 (q := 15) rfl ?_
    refine gp_X5_38 C dX5_asked_15 (q := 18) rfl ?_
    refine g_aload_n C dX5_asked_18 0 rfl rfl (q := 19) rfl ?_
    refine gf_X5_38 C dX5_asked_19 (q := 22) rfl ?_
    refine g_top (b := 1) rfl ?_
    refine g_if_le C dX5_asked_22 (by omega) (q2 := 29) rfl (q := 25) rfl (fun hb2 => ?_) (fun hb2 => ?_)
    · skip
      exfalso; omega
    · skip
      refine g_iconst C dX5_asked_25 (q := 26) rfl ?_
      refine g_goto C dX5_asked_26 (q := 36) rfl ?_
      exact hret _ _ _ dX5_asked_36 rfl
  · skip
    exfalso; omega
abbrev rm_X5_colour : Room := { frames := 4, cells := 0, slots := 0, locals := 87 }
set_option maxRecDepth 100000 in
set_option maxHeartbeats 4000000 in
theorem c_X5_colour (l : Launch) (E : EV) (σ : SS) (r p : Int) (f : Int → Int) (hM : MS f (σ 14)) (hr_r : -2147483648 ≤ r ∧ r ≤ 2147483647) (hr_p : -2147483648 ≤ p ∧ p ≤ 2147483647) (hF1 : fP f r p = 0) : Ki l yX5_colour (cw yX5_colour cX5_colour 3 (some .int)) rm_X5_colour E [.ref (ea E 13), .int (iI r), .int (iI p)] σ (f (r * 60 + p) % 8) (st σ 13 (pt (σ 13) 0 0)) := by
  refine Ki_of (rm := rm_X5_colour) (mL := 3) (b := cX5_colour) RX5 rfl (by decide +kernel) rfl rfl [(0, .ref (ea E 13)), (1, .int (iI r)), (2, .int (iI p))] rfl (Nat.le_of_ble_eq_true rfl) (fun p_ e_ s_ m_ a_ b_ h_ c_ Q A C hret => ?_)
  refine g_aload_n C dX5_colour_0 0 rfl rfl (q := 1) rfl ?_
  refine g_iload_n C dX5_colour_1 1 rfl rfl (q := 2) rfl ?_
  refine g_iload_n C dX5_colour_2 2 rfl rfl (q := 3) rfl ?_
  refine g_iconst C dX5_colour_3 (q := 4) rfl ?_
  refine g_cV_i C (As := [.int (iI r), .int (iI p), .int (iI 1)]) (c_X5_asked_1 l E _ r p f (by assumption) (by omega) (by omega) (by assumption)) ml_X5_116 mf_X5_asked (o := 13) (ci := 5) rfl rfl rfl rfl ⟨(Nat.le_of_ble_eq_true rfl), (Nat.le_of_ble_eq_true rfl)⟩ rfl rfl rfl (Nat.le_of_ble_eq_true rfl) ⟨(Nat.le_of_ble_eq_true rfl), (Nat.le_of_ble_eq_true rfl)⟩ dX5_colour_4 (q := 7) rfl ?_
  exact hret _ _ _ dX5_colour_7 rfl
set_option maxRecDepth 100000 in
set_option maxHeartbeats 4000000 in
theorem c_X5_colour_11 (l : Launch) (E : EV) (σ : SS) (r p : Int) (f : Int → Int) (hM : MS f (σ 14)) (hr_r : -2147483648 ≤ r ∧ r ≤ 2147483647) (hr_p : -2147483648 ≤ p ∧ p ≤ 2147483647) (hF1 : fP f r p = 1) : Ki l yX5_colour (cw yX5_colour cX5_colour 3 (some .int)) rm_X5_colour E [.ref (ea E 13), .int (iI r), .int (iI p)] σ 0 (st σ 13 (pt (σ 13) 0 1)) := by
  refine Ki_of (rm := rm_X5_colour) (mL := 3) (b := cX5_colour) RX5 rfl (by decide +kernel) rfl rfl [(0, .ref (ea E 13)), (1, .int (iI r)), (2, .int (iI p))] rfl (Nat.le_of_ble_eq_true rfl) (fun p_ e_ s_ m_ a_ b_ h_ c_ Q A C hret => ?_)
  refine g_aload_n C dX5_colour_0 0 rfl rfl (q := 1) rfl ?_
  refine g_iload_n C dX5_colour_1 1 rfl rfl (q := 2) rfl ?_
  refine g_iload_n C dX5_colour_2 2 rfl rfl (q := 3) rfl ?_
  refine g_iconst C dX5_colour_3 (q := 4) rfl ?_
  refine g_cV_i C (As := [.int (iI r), .int (iI p), .int (iI 1)]) (c_X5_asked_1x l E _ r p f (by assumption) (by omega) (by omega) (by assumption)) ml_X5_116 mf_X5_asked (o := 13) (ci := 5) rfl rfl rfl rfl ⟨(Nat.le_of_ble_eq_true rfl), (Nat.le_of_ble_eq_true rfl)⟩ rfl rfl rfl (Nat.le_of_ble_eq_true rfl) ⟨(Nat.le_of_ble_eq_true rfl), (Nat.le_of_ble_eq_true rfl)⟩ dX5_colour_4 (q := 7) rfl ?_
  exact hret _ _ _ dX5_colour_7 rfl
abbrev rm_X5_reelLength : Room := { frames := 3, cells := 0, slots := 0, locals := 69 }
set_option maxRecDepth 100000 in
set_option maxHeartbeats 4000000 in
theorem c_X5_reelLength (l : Launch) (E : EV) (σ : SS) (r : Int) (f : Int → Int) (hM : MS f (σ 14)) (hr_r : -2147483648 ≤ r ∧ r ≤ 2147483647) (hF1 : fR r = 0) : Ki l yX5_reelLength (cw yX5_reelLength cX5_reelLength 2 (some .int)) rm_X5_reelLength E [.ref (ea E 13), .int (iI r)] σ (sI (lgs f r) 0 (f (240 + r))) (st σ 13 (pt (σ 13) 0 0)) := by
  refine Ki_of (rm := rm_X5_reelLength) (mL := 2) (b := cX5_reelLength) RX5 rfl (by decide +kernel) rfl rfl [(0, .ref (ea E 13)), (1, .int (iI r))] rfl (Nat.le_of_ble_eq_true rfl) (fun p_ e_ s_ m_ a_ b_ h_ c_ Q A C hret => ?_)
  have hB := bR_iff r
  have hB1 := bR_01 r
  have hG1 := fR_0 hF1
  refine g_aload_n C dX5_reelLength_0 0 rfl rfl (q := 1) rfl ?_
  refine g_iload_n C dX5_reelLength_1 1 rfl rfl (q := 2) rfl ?_
  refine g_cS_i C (As := [.int (iI r)]) (c_X5_isReel l E _ r  (by omega)) ml_X5_58 mf_X5_isReel rfl rfl ⟨(Nat.le_of_ble_eq_true rfl), (Nat.le_of_ble_eq_true rfl)⟩ rfl rfl rfl (Nat.le_of_ble_eq_true rfl) ⟨(Nat.le_of_ble_eq_true rfl), (Nat.le_of_ble_eq_true rfl)⟩ dX5_reelLength_2 (q := 5) rfl ?_
  refine g_if_eq C dX5_reelLength_5 (by omega) (q2 := 12) rfl (q := 8) rfl (fun hb1 => ?_) (fun hb1 => ?_)
  · skip
    exfalso; omega
  · skip
    refine g_iconst C dX5_reelLength_8 (q := 9) rfl ?_
    refine g_goto C dX5_reelLength_9 (q := 13) rfl ?_
    refine gp_X5_38 C dX5_reelLength_13 (q := 16) rfl ?_
    refine g_aload_n C dX5_reelLength_16 0 rfl rfl (q := 17) rfl ?_
    refine gf_X5_38 C dX5_reelLength_17 (q := 20) rfl ?_
    refine g_top (b := 0) rfl ?_
    refine g_if_le C dX5_reelLength_20 (by omega) (q2 := 27) rfl (q := 23) rfl (fun hb2 => ?_) (fun hb2 => ?_)
    · skip
      refine g_aload_n C dX5_reelLength_27 0 rfl rfl (q := 28) rfl ?_
      refine g_iload_n C dX5_reelLength_28 1 rfl rfl (q := 29) rfl ?_
      refine g_cV_i C (As := [.int (iI r)]) (c_X5_whole l E _ r f (by show MS f (σ 14); assumption) (by omega)) ml_X5_134 mf_X5_whole (o := 13) (ci := 5) rfl rfl rfl rfl ⟨(Nat.le_of_ble_eq_true rfl), (Nat.le_of_ble_eq_true rfl)⟩ rfl rfl rfl (Nat.le_of_ble_eq_true rfl) ⟨(Nat.le_of_ble_eq_true rfl), (Nat.le_of_ble_eq_true rfl)⟩ dX5_reelLength_29 (q := 32) rfl ?_
      exact hret _ _ _ dX5_reelLength_32 rfl
    · skip
      exfalso; omega
set_option maxRecDepth 100000 in
set_option maxHeartbeats 4000000 in
theorem c_X5_reelLength_11 (l : Launch) (E : EV) (σ : SS) (r : Int) (f : Int → Int) (hM : MS f (σ 14)) (hr_r : -2147483648 ≤ r ∧ r ≤ 2147483647) (hF1 : fR r = 1) : Ki l yX5_reelLength (cw yX5_reelLength cX5_reelLength 2 (some .int)) rm_X5_reelLength E [.ref (ea E 13), .int (iI r)] σ 0 (st σ 13 (pt (σ 13) 0 1)) := by
  refine Ki_of (rm := rm_X5_reelLength) (mL := 2) (b := cX5_reelLength) RX5 rfl (by decide +kernel) rfl rfl [(0, .ref (ea E 13)), (1, .int (iI r))] rfl (Nat.le_of_ble_eq_true rfl) (fun p_ e_ s_ m_ a_ b_ h_ c_ Q A C hret => ?_)
  have hB := bR_iff r
  have hB1 := bR_01 r
  have hnr : ¬ (0 ≤ r ∧ r < 4) := by intro h9; unfold fR at hF1; rw [if_pos h9] at hF1; omega
  refine g_aload_n C dX5_reelLength_0 0 rfl rfl (q := 1) rfl ?_
  refine g_iload_n C dX5_reelLength_1 1 rfl rfl (q := 2) rfl ?_
  refine g_cS_i C (As := [.int (iI r)]) (c_X5_isReel l E _ r  (by omega)) ml_X5_58 mf_X5_isReel rfl rfl ⟨(Nat.le_of_ble_eq_true rfl), (Nat.le_of_ble_eq_true rfl)⟩ rfl rfl rfl (Nat.le_of_ble_eq_true rfl) ⟨(Nat.le_of_ble_eq_true rfl), (Nat.le_of_ble_eq_true rfl)⟩ dX5_reelLength_2 (q := 5) rfl ?_
  refine g_if_eq C dX5_reelLength_5 (by omega) (q2 := 12) rfl (q := 8) rfl (fun hb1 => ?_) (fun hb1 => ?_)
  · skip
    refine g_iconst C dX5_reelLength_12 (q := 13) rfl ?_
    refine gp_X5_38 C dX5_reelLength_13 (q := 16) rfl ?_
    refine g_aload_n C dX5_reelLength_16 0 rfl rfl (q := 17) rfl ?_
    refine gf_X5_38 C dX5_reelLength_17 (q := 20) rfl ?_
    refine g_top (b := 1) rfl ?_
    refine g_if_le C dX5_reelLength_20 (by omega) (q2 := 27) rfl (q := 23) rfl (fun hb2 => ?_) (fun hb2 => ?_)
    · skip
      exfalso; omega
    · skip
      refine g_iconst C dX5_reelLength_23 (q := 24) rfl ?_
      refine g_goto C dX5_reelLength_24 (q := 32) rfl ?_
      exact hret _ _ _ dX5_reelLength_32 rfl
  · skip
    exfalso; omega
abbrev rm_X5_lengthBefore : Room := { frames := 3, cells := 0, slots := 0, locals := 64 }
set_option maxRecDepth 100000 in
set_option maxHeartbeats 4000000 in
theorem c_X5_lengthBefore (l : Launch) (E : EV) (σ : SS) (r p : Int) (f : Int → Int) (hM : MS f (σ 14)) (hr_r : -2147483648 ≤ r ∧ r ≤ 2147483647) (hr_p : -2147483648 ≤ p ∧ p ≤ 2147483647) (hF1 : fB f r p = 0) : Ki l yX5_lengthBefore (cw yX5_lengthBefore cX5_lengthBefore 3 (some .int)) rm_X5_lengthBefore E [.ref (ea E 13), .int (iI r), .int (iI p)] σ (sI (lgs f r) 0 (p - 1 + 1)) (st σ 13 (pt (σ 13) 0 0)) := by
  refine Ki_of (rm := rm_X5_lengthBefore) (mL := 3) (b := cX5_lengthBefore) RX5 rfl (by decide +kernel) rfl rfl [(0, .ref (ea E 13)), (1, .int (iI r)), (2, .int (iI p))] rfl (Nat.le_of_ble_eq_true rfl) (fun p_ e_ s_ m_ a_ b_ h_ c_ Q A C hret => ?_)
  have hB := bB_iff f r p
  have hB1 := bB_01 f r p
  have hcs := fB_iff f r p
  have hG1 := fB_0 hF1
  have hm_r := (hM.2.1 r (by omega)).1
  have hn_r := (hM.1 r (by omega)).1
  refine g_aload_n C dX5_lengthBefore_0 0 rfl rfl (q := 1) rfl ?_
  refine g_aload_n C dX5_lengthBefore_1 0 rfl rfl (q := 2) rfl ?_
  refine g_iload_n C dX5_lengthBefore_2 1 rfl rfl (q := 3) rfl ?_
  refine g_iload_n C dX5_lengthBefore_3 2 rfl rfl (q := 4) rfl ?_
  refine g_cV_i C (As := [.int (iI r), .int (iI p)]) (c_X5_isBefore l E _ r p f (by assumption) (by omega) (by omega)) ml_X5_65 mf_X5_isBefore (o := 13) (ci := 5) rfl rfl rfl rfl ⟨(Nat.le_of_ble_eq_true rfl), (Nat.le_of_ble_eq_true rfl)⟩ rfl rfl rfl (Nat.le_of_ble_eq_true rfl) ⟨(Nat.le_of_ble_eq_true rfl), (Nat.le_of_ble_eq_true rfl)⟩ dX5_lengthBefore_4 (q := 7) rfl ?_
  refine g_if_eq C dX5_lengthBefore_7 (by omega) (q2 := 14) rfl (q := 10) rfl (fun hb1 => ?_) (fun hb1 => ?_)
  · skip
    exfalso; omega
  · skip
    refine g_iconst C dX5_lengthBefore_10 (q := 11) rfl ?_
    refine g_goto C dX5_lengthBefore_11 (q := 15) rfl ?_
    refine gp_X5_38 C dX5_lengthBefore_15 (q := 18) rfl ?_
    refine g_aload_n C dX5_lengthBefore_18 0 rfl rfl (q := 19) rfl ?_
    refine gf_X5_38 C dX5_lengthBefore_19 (q := 22) rfl ?_
    refine g_top (b := 0) rfl ?_
    refine g_if_le C dX5_lengthBefore_22 (by omega) (q2 := 29) rfl (q := 25) rfl (fun hb2 => ?_) (fun hb2 => ?_)
    · skip
      refine g_aload_n C dX5_lengthBefore_29 0 rfl rfl (q := 30) rfl ?_
      refine g_iload_n C dX5_lengthBefore_30 1 rfl rfl (q := 31) rfl ?_
      refine g_iconst C dX5_lengthBefore_31 (q := 32) rfl ?_
      refine g_iload_n C dX5_lengthBefore_32 2 rfl rfl (q := 33) rfl ?_
      refine g_iconst C dX5_lengthBefore_33 (q := 34) rfl ?_
      refine g_isub C dX5_lengthBefore_34 (q := 35) rfl ?_
      refine g_cV_i C (As := [.int (iI r), .int (iI 0), .int (iI (p - 1))]) (c_X5_sumOf l E _ r 0 (p - 1) f (by show MS f (σ 14); assumption) (by omega) (by omega) (by omega)) ml_X5_96 mf_X5_sumOf (o := 13) (ci := 5) rfl rfl rfl rfl ⟨(Nat.le_of_ble_eq_true rfl), (Nat.le_of_ble_eq_true rfl)⟩ rfl rfl rfl (Nat.le_of_ble_eq_true rfl) ⟨(Nat.le_of_ble_eq_true rfl), (Nat.le_of_ble_eq_true rfl)⟩ dX5_lengthBefore_35 (q := 38) rfl ?_
      exact hret _ _ _ dX5_lengthBefore_38 (by omega)
    · skip
      exfalso; omega
set_option maxRecDepth 100000 in
set_option maxHeartbeats 4000000 in
theorem c_X5_lengthBefore_11 (l : Launch) (E : EV) (σ : SS) (r p : Int) (f : Int → Int) (hM : MS f (σ 14)) (hr_r : -2147483648 ≤ r ∧ r ≤ 2147483647) (hr_p : -2147483648 ≤ p ∧ p ≤ 2147483647) (hF1 : fB f r p = 1) : Ki l yX5_lengthBefore (cw yX5_lengthBefore cX5_lengthBefore 3 (some .int)) rm_X5_lengthBefore E [.ref (ea E 13), .int (iI r), .int (iI p)] σ 0 (st σ 13 (pt (σ 13) 0 1)) := by
  refine Ki_of (rm := rm_X5_lengthBefore) (mL := 3) (b := cX5_lengthBefore) RX5 rfl (by decide +kernel) rfl rfl [(0, .ref (ea E 13)), (1, .int (iI r)), (2, .int (iI p))] rfl (Nat.le_of_ble_eq_true rfl) (fun p_ e_ s_ m_ a_ b_ h_ c_ Q A C hret => ?_)
  have hB := bB_iff f r p
  have hB1 := bB_01 f r p
  have hcs := fB_iff f r p
  refine g_aload_n C dX5_lengthBefore_0 0 rfl rfl (q := 1) rfl ?_
  refine g_aload_n C dX5_lengthBefore_1 0 rfl rfl (q := 2) rfl ?_
  refine g_iload_n C dX5_lengthBefore_2 1 rfl rfl (q := 3) rfl ?_
  refine g_iload_n C dX5_lengthBefore_3 2 rfl rfl (q := 4) rfl ?_
  refine g_cV_i C (As := [.int (iI r), .int (iI p)]) (c_X5_isBefore l E _ r p f (by assumption) (by omega) (by omega)) ml_X5_65 mf_X5_isBefore (o := 13) (ci := 5) rfl rfl rfl rfl ⟨(Nat.le_of_ble_eq_true rfl), (Nat.le_of_ble_eq_true rfl)⟩ rfl rfl rfl (Nat.le_of_ble_eq_true rfl) ⟨(Nat.le_of_ble_eq_true rfl), (Nat.le_of_ble_eq_true rfl)⟩ dX5_lengthBefore_4 (q := 7) rfl ?_
  refine g_if_eq C dX5_lengthBefore_7 (by omega) (q2 := 14) rfl (q := 10) rfl (fun hb1 => ?_) (fun hb1 => ?_)
  · skip
    refine g_iconst C dX5_lengthBefore_14 (q := 15) rfl ?_
    refine gp_X5_38 C dX5_lengthBefore_15 (q := 18) rfl ?_
    refine g_aload_n C dX5_lengthBefore_18 0 rfl rfl (q := 19) rfl ?_
    refine gf_X5_38 C dX5_lengthBefore_19 (q := 22) rfl ?_
    refine g_top (b := 1) rfl ?_
    refine g_if_le C dX5_lengthBefore_22 (by omega) (q2 := 29) rfl (q := 25) rfl (fun hb2 => ?_) (fun hb2 => ?_)
    · skip
      exfalso; omega
    · skip
      refine g_iconst C dX5_lengthBefore_25 (q := 26) rfl ?_
      refine g_goto C dX5_lengthBefore_26 (q := 38) rfl ?_
      exact hret _ _ _ dX5_lengthBefore_38 rfl
  · skip
    exfalso; omega
abbrev rm_X5_lengthBeforeByScan : Room := { frames := 4, cells := 0, slots := 0, locals := 86 }
set_option maxRecDepth 100000 in
set_option maxHeartbeats 4000000 in
theorem c_X5_lengthBeforeByScan (l : Launch) (E : EV) (σ : SS) (r p : Int) (f : Int → Int) (hM : MS f (σ 14)) (hr_r : -2147483648 ≤ r ∧ r ≤ 2147483647) (hr_p : -2147483648 ≤ p ∧ p ≤ 2147483647) (hF1 : fB f r p = 0) : Ki l yX5_lengthBeforeByScan (cw yX5_lengthBeforeByScan cX5_lengthBeforeByScan 3 (some .int)) rm_X5_lengthBeforeByScan E [.ref (ea E 13), .int (iI r), .int (iI p)] σ (sI (lgs f r) 0 (p - 1 + 1)) (st σ 13 (pt (σ 13) 0 0)) := by
  refine Ki_of (rm := rm_X5_lengthBeforeByScan) (mL := 3) (b := cX5_lengthBeforeByScan) RX5 rfl (by decide +kernel) rfl rfl [(0, .ref (ea E 13)), (1, .int (iI r)), (2, .int (iI p))] rfl (Nat.le_of_ble_eq_true rfl) (fun p_ e_ s_ m_ a_ b_ h_ c_ Q A C hret => ?_)
  refine g_aload_n C dX5_lengthBeforeByScan_0 0 rfl rfl (q := 1) rfl ?_
  refine g_iload_n C dX5_lengthBeforeByScan_1 1 rfl rfl (q := 2) rfl ?_
  refine g_iload_n C dX5_lengthBeforeByScan_2 2 rfl rfl (q := 3) rfl ?_
  refine g_cV_i C (As := [.int (iI r), .int (iI p)]) (c_X5_lengthBefore l E _ r p f (by assumption) (by omega) (by omega) (by assumption)) ml_X5_137 mf_X5_lengthBefore (o := 13) (ci := 5) rfl rfl rfl rfl ⟨(Nat.le_of_ble_eq_true rfl), (Nat.le_of_ble_eq_true rfl)⟩ rfl rfl rfl (Nat.le_of_ble_eq_true rfl) ⟨(Nat.le_of_ble_eq_true rfl), (Nat.le_of_ble_eq_true rfl)⟩ dX5_lengthBeforeByScan_3 (q := 6) rfl ?_
  exact hret _ _ _ dX5_lengthBeforeByScan_6 rfl
set_option maxRecDepth 100000 in
set_option maxHeartbeats 4000000 in
theorem c_X5_lengthBeforeByScan_11 (l : Launch) (E : EV) (σ : SS) (r p : Int) (f : Int → Int) (hM : MS f (σ 14)) (hr_r : -2147483648 ≤ r ∧ r ≤ 2147483647) (hr_p : -2147483648 ≤ p ∧ p ≤ 2147483647) (hF1 : fB f r p = 1) : Ki l yX5_lengthBeforeByScan (cw yX5_lengthBeforeByScan cX5_lengthBeforeByScan 3 (some .int)) rm_X5_lengthBeforeByScan E [.ref (ea E 13), .int (iI r), .int (iI p)] σ 0 (st σ 13 (pt (σ 13) 0 1)) := by
  refine Ki_of (rm := rm_X5_lengthBeforeByScan) (mL := 3) (b := cX5_lengthBeforeByScan) RX5 rfl (by decide +kernel) rfl rfl [(0, .ref (ea E 13)), (1, .int (iI r)), (2, .int (iI p))] rfl (Nat.le_of_ble_eq_true rfl) (fun p_ e_ s_ m_ a_ b_ h_ c_ Q A C hret => ?_)
  refine g_aload_n C dX5_lengthBeforeByScan_0 0 rfl rfl (q := 1) rfl ?_
  refine g_iload_n C dX5_lengthBeforeByScan_1 1 rfl rfl (q := 2) rfl ?_
  refine g_iload_n C dX5_lengthBeforeByScan_2 2 rfl rfl (q := 3) rfl ?_
  refine g_cV_i C (As := [.int (iI r), .int (iI p)]) (c_X5_lengthBefore_11 l E _ r p f (by assumption) (by omega) (by omega) (by assumption)) ml_X5_137 mf_X5_lengthBefore (o := 13) (ci := 5) rfl rfl rfl rfl ⟨(Nat.le_of_ble_eq_true rfl), (Nat.le_of_ble_eq_true rfl)⟩ rfl rfl rfl (Nat.le_of_ble_eq_true rfl) ⟨(Nat.le_of_ble_eq_true rfl), (Nat.le_of_ble_eq_true rfl)⟩ dX5_lengthBeforeByScan_3 (q := 6) rfl ?_
  exact hret _ _ _ dX5_lengthBeforeByScan_6 rfl
abbrev rm_X5_positionAt : Room := { frames := 3, cells := 0, slots := 0, locals := 69 }
set_option maxRecDepth 100000 in
set_option maxHeartbeats 4000000 in
theorem c_X5_positionAt (l : Launch) (E : EV) (σ : SS) (r p : Int) (f : Int → Int) (hM : MS f (σ 14)) (hr_r : -2147483648 ≤ r ∧ r ≤ 2147483647) (hr_p : -2147483648 ≤ p ∧ p ≤ 2147483647) (hF1 : fR r = 0) (hne : po f r p ≠ -1) : Ki l yX5_positionAt (cw yX5_positionAt cX5_positionAt 4 (some .int)) rm_X5_positionAt E [.ref (ea E 13), .int (iI r), .int (iI p)] σ (po f r p) (st σ 13 (pt (σ 13) 0 0)) := by
  refine Ki_of (rm := rm_X5_positionAt) (mL := 4) (b := cX5_positionAt) RX5 rfl (by decide +kernel) rfl rfl [(0, .ref (ea E 13)), (1, .int (iI r)), (2, .int (iI p))] rfl (Nat.le_of_ble_eq_true rfl) (fun p_ e_ s_ m_ a_ b_ h_ c_ Q A C hret => ?_)
  have hB := bR_iff r
  have hB1 := bR_01 r
  have hG1 := fR_0 hF1
  have hm_r := (hM.2.1 r (by omega)).1
  have hn_r := (hM.1 r (by omega)).1
  have hpo := po_iff hM.1 hG1 p
  have hwr := sum_rg hM.1 hG1 (a := 0) (b := f (240 + r)) (by omega)
  have hI := bI_01 p 0 (sI (lgs f r) 0 (f (240 + r)) - 1)
  have hI1 := bI_iff p 0 (sI (lgs f r) 0 (f (240 + r)) - 1)
  have hpos : 0 < f (240 + r) := by (by_cases h9 : 0 < f (240 + r); exact h9; exfalso; rw [sI_nil (by omega)] at hpo; omega)
  refine g_aload_n C dX5_positionAt_0 0 rfl rfl (q := 1) rfl ?_
  refine g_iload_n C dX5_positionAt_1 1 rfl rfl (q := 2) rfl ?_
  refine g_cS_i C (As := [.int (iI r)]) (c_X5_isReel l E _ r  (by omega)) ml_X5_58 mf_X5_isReel rfl rfl ⟨(Nat.le_of_ble_eq_true rfl), (Nat.le_of_ble_eq_true rfl)⟩ rfl rfl rfl (Nat.le_of_ble_eq_true rfl) ⟨(Nat.le_of_ble_eq_true rfl), (Nat.le_of_ble_eq_true rfl)⟩ dX5_positionAt_2 (q := 5) rfl ?_
  refine g_if_ne C dX5_positionAt_5 (by omega) (q2 := 12) rfl (q := 8) rfl (fun hb1 => ?_) (fun hb1 => ?_)
  · skip
    refine g_iload_n C dX5_positionAt_12 2 rfl rfl (q := 13) rfl ?_
    refine g_iconst C dX5_positionAt_13 (q := 14) rfl ?_
    refine g_aload_n C dX5_positionAt_14 0 rfl rfl (q := 15) rfl ?_
    refine g_iload_n C dX5_positionAt_15 1 rfl rfl (q := 16) rfl ?_
    refine g_cV_i C (As := [.int (iI r)]) (c_X5_whole l E _ r f (by assumption) (by omega)) ml_X5_134 mf_X5_whole (o := 13) (ci := 5) rfl rfl rfl rfl ⟨(Nat.le_of_ble_eq_true rfl), (Nat.le_of_ble_eq_true rfl)⟩ rfl rfl rfl (Nat.le_of_ble_eq_true rfl) ⟨(Nat.le_of_ble_eq_true rfl), (Nat.le_of_ble_eq_true rfl)⟩ dX5_positionAt_16 (q := 19) rfl ?_
    refine g_iconst C dX5_positionAt_19 (q := 20) rfl ?_
    refine g_isub C dX5_positionAt_20 (q := 21) rfl ?_
    refine g_cS_i C (As := [.int (iI p), .int (iI 0), .int (iI (sI (lgs f r) 0 (f (240 + r)) - 1))]) (c_X5_in l E _ p 0 (sI (lgs f r) 0 (f (240 + r)) - 1)  (by omega) (by omega) (by omega)) ml_X5_54 mf_X5_in rfl rfl ⟨(Nat.le_of_ble_eq_true rfl), (Nat.le_of_ble_eq_true rfl)⟩ rfl rfl rfl (Nat.le_of_ble_eq_true rfl) ⟨(Nat.le_of_ble_eq_true rfl), (Nat.le_of_ble_eq_true rfl)⟩ dX5_positionAt_21 (q := 24) rfl ?_
    refine g_if_eq C dX5_positionAt_24 (by omega) (q2 := 31) rfl (q := 27) rfl (fun hb2 => ?_) (fun hb2 => ?_)
    · skip
      exfalso; omega
    · skip
      refine g_iconst C dX5_positionAt_27 (q := 28) rfl ?_
      refine g_goto C dX5_positionAt_28 (q := 32) rfl ?_
      refine gp_X5_38 C dX5_positionAt_32 (q := 35) rfl ?_
      refine g_aload_n C dX5_positionAt_35 0 rfl rfl (q := 36) rfl ?_
      refine gf_X5_38 C dX5_positionAt_36 (q := 39) rfl ?_
      refine g_top (b := 0) rfl ?_
      refine g_if_le C dX5_positionAt_39 (by omega) (q2 := 44) rfl (q := 42) rfl (fun hb3 => ?_) (fun hb3 => ?_)
      · skip
        refine g_iconst C dX5_positionAt_44 (q := 45) rfl ?_
        refine g_istore_n C (L' := [(3, .int (iI 0)), (0, .ref (ea E 13)), (1, .int (iI r)), (2, .int (iI p))]) dX5_positionAt_45 rfl (by decide) rfl (q := 46) rfl ?_
        refine g_sub [1, 2, 3, 0] (L' := [(0, .ref (ea E 13)), (1, .int (iI r)), (2, .int (iI p)), (3, .int (iI 0))]) rfl ?_
        have lp46 : ∀ (k9 : Nat) (i : Int), (f (240 + r) - i).toNat < k9 → (0 ≤ i ∧ i < f (240 + r)) → (po f r p = fI (poP f r p) i (f (240 + r))) → GG p_ l e_ rm_X5_positionAt s_ m_ a_ b_ h_ c_ Q E A 4 (st σ 13 (pt (σ 13) 0 0)) 0 0 46 [(0, .ref (ea E 13)), (1, .int (iI r)), (2, .int (iI p)), (3, .int (iI i))] [] := by
          intro k9
          induction k9 with
          | zero => intro i hk9; omega
          | succ k9 ih46 =>
            intro i hk9 hi hR
            have hlast : i + 1 = f (240 + r) → sI (lgs f r) 0 (i + 1) = sI (lgs f r) 0 (f (240 + r)) := fun h9 => by rw [h9]
            have hsr := sum_rg hM.1 hG1 (a := 0) (b := i + 1) (by omega)
            refine g_aload_n C dX5_positionAt_46 0 rfl rfl (q := 47) rfl ?_
            refine g_iload_n C dX5_positionAt_47 1 rfl rfl (q := 48) rfl ?_
            refine g_iconst C dX5_positionAt_48 (q := 49) rfl ?_
            refine g_iload_n C dX5_positionAt_49 3 rfl rfl (q := 50) rfl ?_
            refine g_cV_i C (As := [.int (iI r), .int (iI 0), .int (iI i)]) (c_X5_sumOf l E _ r 0 i f (by show MS f (σ 14); assumption) (by omega) (by omega) (by omega)) ml_X5_96 mf_X5_sumOf (o := 13) (ci := 5) rfl rfl rfl rfl ⟨(Nat.le_of_ble_eq_true rfl), (Nat.le_of_ble_eq_true rfl)⟩ rfl rfl rfl (Nat.le_of_ble_eq_true rfl) ⟨(Nat.le_of_ble_eq_true rfl), (Nat.le_of_ble_eq_true rfl)⟩ dX5_positionAt_50 (q := 53) rfl ?_
            refine g_iload_n C dX5_positionAt_53 2 rfl rfl (q := 54) rfl ?_
            refine g_icmp_gt C dX5_positionAt_54 (by omega) (q2 := 63) rfl (q := 57) rfl (fun hb4 => ?_) (fun hb4 => ?_)
            · skip
              refine g_iload_n C dX5_positionAt_63 3 rfl rfl (q := 64) rfl ?_
              exact hret _ _ _ dX5_positionAt_64 (by rw [hR, fI_yes (by omega)]; unfold poP; simp only [decide_eq_true_eq]; omega)
            · skip
              refine g_iinc C (L' := [(3, .int (iI (i + 1))), (0, .ref (ea E 13)), (1, .int (iI r)), (2, .int (iI p))]) dX5_positionAt_57 3 rfl (by decide) rfl (q := 60) rfl ?_
              refine g_goto C dX5_positionAt_60 (q := 46) rfl ?_
              refine g_sub [1, 2, 3, 0] (L' := [(0, .ref (ea E 13)), (1, .int (iI r)), (2, .int (iI p)), (3, .int (iI (i + 1)))]) rfl ?_
              exact ih46 (i + 1) (by omega) (by omega) (by rw [hR, fI_no]; unfold poP; simp only [decide_eq_true_eq]; omega)
        exact lp46 _ 0 (Nat.lt_succ_self _) (by omega) (by unfold po; rw [if_neg (by omega)])
      · skip
        exfalso; omega
  · skip
    exfalso; omega
set_option maxRecDepth 100000 in
set_option maxHeartbeats 4000000 in
theorem c_X5_positionAt_n (l : Launch) (E : EV) (σ : SS) (r p : Int) (f : Int → Int) (hM : MS f (σ 14)) (hr_r : -2147483648 ≤ r ∧ r ≤ 2147483647) (hr_p : -2147483648 ≤ p ∧ p ≤ 2147483647) (hF1 : fR r = 0) (hne : po f r p = -1) : Ki l yX5_positionAt (cw yX5_positionAt cX5_positionAt 4 (some .int)) rm_X5_positionAt E [.ref (ea E 13), .int (iI r), .int (iI p)] σ 0 (st σ 13 (pt (σ 13) 0 2)) := by
  refine Ki_of (rm := rm_X5_positionAt) (mL := 4) (b := cX5_positionAt) RX5 rfl (by decide +kernel) rfl rfl [(0, .ref (ea E 13)), (1, .int (iI r)), (2, .int (iI p))] rfl (Nat.le_of_ble_eq_true rfl) (fun p_ e_ s_ m_ a_ b_ h_ c_ Q A C hret => ?_)
  have hB := bR_iff r
  have hB1 := bR_01 r
  have hG1 := fR_0 hF1
  have hm_r := (hM.2.1 r (by omega)).1
  have hn_r := (hM.1 r (by omega)).1
  have hpo := po_iff hM.1 hG1 p
  have hwr := sum_rg hM.1 hG1 (a := 0) (b := f (240 + r)) (by omega)
  have hI := bI_01 p 0 (sI (lgs f r) 0 (f (240 + r)) - 1)
  have hI1 := bI_iff p 0 (sI (lgs f r) 0 (f (240 + r)) - 1)
  refine g_aload_n C dX5_positionAt_0 0 rfl rfl (q := 1) rfl ?_
  refine g_iload_n C dX5_positionAt_1 1 rfl rfl (q := 2) rfl ?_
  refine g_cS_i C (As := [.int (iI r)]) (c_X5_isReel l E _ r  (by omega)) ml_X5_58 mf_X5_isReel rfl rfl ⟨(Nat.le_of_ble_eq_true rfl), (Nat.le_of_ble_eq_true rfl)⟩ rfl rfl rfl (Nat.le_of_ble_eq_true rfl) ⟨(Nat.le_of_ble_eq_true rfl), (Nat.le_of_ble_eq_true rfl)⟩ dX5_positionAt_2 (q := 5) rfl ?_
  refine g_if_ne C dX5_positionAt_5 (by omega) (q2 := 12) rfl (q := 8) rfl (fun hb1 => ?_) (fun hb1 => ?_)
  · skip
    refine g_iload_n C dX5_positionAt_12 2 rfl rfl (q := 13) rfl ?_
    refine g_iconst C dX5_positionAt_13 (q := 14) rfl ?_
    refine g_aload_n C dX5_positionAt_14 0 rfl rfl (q := 15) rfl ?_
    refine g_iload_n C dX5_positionAt_15 1 rfl rfl (q := 16) rfl ?_
    refine g_cV_i C (As := [.int (iI r)]) (c_X5_whole l E _ r f (by assumption) (by omega)) ml_X5_134 mf_X5_whole (o := 13) (ci := 5) rfl rfl rfl rfl ⟨(Nat.le_of_ble_eq_true rfl), (Nat.le_of_ble_eq_true rfl)⟩ rfl rfl rfl (Nat.le_of_ble_eq_true rfl) ⟨(Nat.le_of_ble_eq_true rfl), (Nat.le_of_ble_eq_true rfl)⟩ dX5_positionAt_16 (q := 19) rfl ?_
    refine g_iconst C dX5_positionAt_19 (q := 20) rfl ?_
    refine g_isub C dX5_positionAt_20 (q := 21) rfl ?_
    refine g_cS_i C (As := [.int (iI p), .int (iI 0), .int (iI (sI (lgs f r) 0 (f (240 + r)) - 1))]) (c_X5_in l E _ p 0 (sI (lgs f r) 0 (f (240 + r)) - 1)  (by omega) (by omega) (by omega)) ml_X5_54 mf_X5_in rfl rfl ⟨(Nat.le_of_ble_eq_true rfl), (Nat.le_of_ble_eq_true rfl)⟩ rfl rfl rfl (Nat.le_of_ble_eq_true rfl) ⟨(Nat.le_of_ble_eq_true rfl), (Nat.le_of_ble_eq_true rfl)⟩ dX5_positionAt_21 (q := 24) rfl ?_
    refine g_if_eq C dX5_positionAt_24 (by omega) (q2 := 31) rfl (q := 27) rfl (fun hb2 => ?_) (fun hb2 => ?_)
    · skip
      refine g_iconst C dX5_positionAt_31 (q := 32) rfl ?_
      refine gp_X5_38 C dX5_positionAt_32 (q := 35) rfl ?_
      refine g_aload_n C dX5_positionAt_35 0 rfl rfl (q := 36) rfl ?_
      refine gf_X5_38 C dX5_positionAt_36 (q := 39) rfl ?_
      refine g_top (b := 2) rfl ?_
      refine g_if_le C dX5_positionAt_39 (by omega) (q2 := 44) rfl (q := 42) rfl (fun hb3 => ?_) (fun hb3 => ?_)
      · skip
        exfalso; omega
      · skip
        refine g_iconst C dX5_positionAt_42 (q := 43) rfl ?_
        exact hret _ _ _ dX5_positionAt_43 rfl
    · skip
      exfalso; omega
  · skip
    exfalso; omega
set_option maxRecDepth 100000 in
set_option maxHeartbeats 4000000 in
theorem c_X5_positionAt_11 (l : Launch) (E : EV) (σ : SS) (r p : Int) (f : Int → Int) (hM : MS f (σ 14)) (hr_r : -2147483648 ≤ r ∧ r ≤ 2147483647) (hr_p : -2147483648 ≤ p ∧ p ≤ 2147483647) (hF1 : fR r = 1) : Ki l yX5_positionAt (cw yX5_positionAt cX5_positionAt 4 (some .int)) rm_X5_positionAt E [.ref (ea E 13), .int (iI r), .int (iI p)] σ 0 (st σ 13 (pt (σ 13) 0 1)) := by
  refine Ki_of (rm := rm_X5_positionAt) (mL := 4) (b := cX5_positionAt) RX5 rfl (by decide +kernel) rfl rfl [(0, .ref (ea E 13)), (1, .int (iI r)), (2, .int (iI p))] rfl (Nat.le_of_ble_eq_true rfl) (fun p_ e_ s_ m_ a_ b_ h_ c_ Q A C hret => ?_)
  have hB := bR_iff r
  have hB1 := bR_01 r
  have hnr : ¬ (0 ≤ r ∧ r < 4) := by intro h9; unfold fR at hF1; rw [if_pos h9] at hF1; omega
  refine g_aload_n C dX5_positionAt_0 0 rfl rfl (q := 1) rfl ?_
  refine g_iload_n C dX5_positionAt_1 1 rfl rfl (q := 2) rfl ?_
  refine g_cS_i C (As := [.int (iI r)]) (c_X5_isReel l E _ r  (by omega)) ml_X5_58 mf_X5_isReel rfl rfl ⟨(Nat.le_of_ble_eq_true rfl), (Nat.le_of_ble_eq_true rfl)⟩ rfl rfl rfl (Nat.le_of_ble_eq_true rfl) ⟨(Nat.le_of_ble_eq_true rfl), (Nat.le_of_ble_eq_true rfl)⟩ dX5_positionAt_2 (q := 5) rfl ?_
  refine g_if_ne C dX5_positionAt_5 (by omega) (q2 := 12) rfl (q := 8) rfl (fun hb1 => ?_) (fun hb1 => ?_)
  · skip
    exfalso; omega
  · skip
    refine g_iconst C dX5_positionAt_8 (q := 9) rfl ?_
    refine g_goto C dX5_positionAt_9 (q := 32) rfl ?_
    refine gp_X5_38 C dX5_positionAt_32 (q := 35) rfl ?_
    refine g_aload_n C dX5_positionAt_35 0 rfl rfl (q := 36) rfl ?_
    refine gf_X5_38 C dX5_positionAt_36 (q := 39) rfl ?_
    refine g_top (b := 1) rfl ?_
    refine g_if_le C dX5_positionAt_39 (by omega) (q2 := 44) rfl (q := 42) rfl (fun hb2 => ?_) (fun hb2 => ?_)
    · skip
      exfalso; omega
    · skip
      refine g_iconst C dX5_positionAt_42 (q := 43) rfl ?_
      exact hret _ _ _ dX5_positionAt_43 rfl
abbrev rm_X5_isRange : Room := { frames := 3, cells := 0, slots := 0, locals := 64 }
set_option maxRecDepth 100000 in
set_option maxHeartbeats 4000000 in
theorem c_X5_isRange (l : Launch) (E : EV) (σ : SS) (r x y : Int) (f : Int → Int) (hM : MS f (σ 14)) (hr_r : -2147483648 ≤ r ∧ r ≤ 2147483647) (hr_x : -2147483648 ≤ x ∧ x ≤ 2147483647) (hr_y : -2147483648 ≤ y ∧ y ≤ 2147483647) (hF1 : fX f r x y = 0) : Ki l yX5_isRange (cw yX5_isRange cX5_isRange 4 (some .boolean)) rm_X5_isRange E [.ref (ea E 13), .int (iI r), .int (iI x), .int (iI y)] σ 1 (st σ 13 (pt (σ 13) 0 0)) := by
  refine Kz_of (rm := rm_X5_isRange) (mL := 4) (b := cX5_isRange) RX5 rfl (by decide +kernel) rfl rfl [(0, .ref (ea E 13)), (1, .int (iI r)), (2, .int (iI x)), (3, .int (iI y))] rfl (Nat.le_of_ble_eq_true rfl) (fun p_ e_ s_ m_ a_ b_ h_ c_ Q A C hret => ?_)
  have hB := bP_iff f r x
  have hB1 := bP_01 f r x
  have hC := bP_iff f r y
  have hC1 := bP_01 f r y
  have hcs := fX_cs f r x y
  refine g_aload_n C dX5_isRange_0 0 rfl rfl (q := 1) rfl ?_
  refine g_aload_n C dX5_isRange_1 0 rfl rfl (q := 2) rfl ?_
  refine g_iload_n C dX5_isRange_2 1 rfl rfl (q := 3) rfl ?_
  refine g_iload_n C dX5_isRange_3 2 rfl rfl (q := 4) rfl ?_
  refine g_cV_i C (As := [.int (iI r), .int (iI x)]) (c_X5_isSegment l E _ r x f (by assumption) (by omega) (by omega)) ml_X5_90 mf_X5_isSegment (o := 13) (ci := 5) rfl rfl rfl rfl ⟨(Nat.le_of_ble_eq_true rfl), (Nat.le_of_ble_eq_true rfl)⟩ rfl rfl rfl (Nat.le_of_ble_eq_true rfl) ⟨(Nat.le_of_ble_eq_true rfl), (Nat.le_of_ble_eq_true rfl)⟩ dX5_isRange_4 (q := 7) rfl ?_
  refine g_if_eq C dX5_isRange_7 (by omega) (q2 := 19) rfl (q := 10) rfl (fun hb1 => ?_) (fun hb1 => ?_)
  · skip
    exfalso; omega
  · skip
    refine g_aload_n C dX5_isRange_10 0 rfl rfl (q := 11) rfl ?_
    refine g_iload_n C dX5_isRange_11 1 rfl rfl (q := 12) rfl ?_
    refine g_iload_n C dX5_isRange_12 3 rfl rfl (q := 13) rfl ?_
    refine g_cV_i C (As := [.int (iI r), .int (iI y)]) (c_X5_isSegment l E _ r y f (by assumption) (by omega) (by omega)) ml_X5_90 mf_X5_isSegment (o := 13) (ci := 5) rfl rfl rfl rfl ⟨(Nat.le_of_ble_eq_true rfl), (Nat.le_of_ble_eq_true rfl)⟩ rfl rfl rfl (Nat.le_of_ble_eq_true rfl) ⟨(Nat.le_of_ble_eq_true rfl), (Nat.le_of_ble_eq_true rfl)⟩ dX5_isRange_13 (q := 16) rfl ?_
    refine g_if_ne C dX5_isRange_16 (by omega) (q2 := 23) rfl (q := 19) rfl (fun hb2 => ?_) (fun hb2 => ?_)
    · skip
      refine g_iload_n C dX5_isRange_23 2 rfl rfl (q := 24) rfl ?_
      refine g_iload_n C dX5_isRange_24 3 rfl rfl (q := 25) rfl ?_
      refine g_icmp_le C dX5_isRange_25 (by omega) (q2 := 32) rfl (q := 28) rfl (fun hb3 => ?_) (fun hb3 => ?_)
      · skip
        refine g_iconst C dX5_isRange_32 (q := 33) rfl ?_
        refine gp_X5_38 C dX5_isRange_33 (q := 36) rfl ?_
        refine g_aload_n C dX5_isRange_36 0 rfl rfl (q := 37) rfl ?_
        refine gf_X5_38 C dX5_isRange_37 (q := 40) rfl ?_
        refine g_top (b := 0) rfl ?_
        refine g_if_ne C dX5_isRange_40 (by omega) (q2 := 47) rfl (q := 43) rfl (fun hb4 => ?_) (fun hb4 => ?_)
        · skip
          exfalso; omega
        · skip
          refine g_iconst C dX5_isRange_43 (q := 44) rfl ?_
          refine g_goto C dX5_isRange_44 (q := 48) rfl ?_
          exact hret _ _ _ dX5_isRange_48 (by omega) rfl
      · skip
        exfalso; omega
    · skip
      exfalso; omega
set_option maxRecDepth 100000 in
set_option maxHeartbeats 4000000 in
theorem c_X5_isRange_11 (l : Launch) (E : EV) (σ : SS) (r x y : Int) (f : Int → Int) (hM : MS f (σ 14)) (hr_r : -2147483648 ≤ r ∧ r ≤ 2147483647) (hr_x : -2147483648 ≤ x ∧ x ≤ 2147483647) (hr_y : -2147483648 ≤ y ∧ y ≤ 2147483647) (hF1 : fX f r x y = 1) : Ki l yX5_isRange (cw yX5_isRange cX5_isRange 4 (some .boolean)) rm_X5_isRange E [.ref (ea E 13), .int (iI r), .int (iI x), .int (iI y)] σ 0 (st σ 13 (pt (σ 13) 0 1)) := by
  refine Kz_of (rm := rm_X5_isRange) (mL := 4) (b := cX5_isRange) RX5 rfl (by decide +kernel) rfl rfl [(0, .ref (ea E 13)), (1, .int (iI r)), (2, .int (iI x)), (3, .int (iI y))] rfl (Nat.le_of_ble_eq_true rfl) (fun p_ e_ s_ m_ a_ b_ h_ c_ Q A C hret => ?_)
  have hB := bP_iff f r x
  have hB1 := bP_01 f r x
  have hC := bP_iff f r y
  have hC1 := bP_01 f r y
  have hcs := fX_cs f r x y
  refine g_aload_n C dX5_isRange_0 0 rfl rfl (q := 1) rfl ?_
  refine g_aload_n C dX5_isRange_1 0 rfl rfl (q := 2) rfl ?_
  refine g_iload_n C dX5_isRange_2 1 rfl rfl (q := 3) rfl ?_
  refine g_iload_n C dX5_isRange_3 2 rfl rfl (q := 4) rfl ?_
  refine g_cV_i C (As := [.int (iI r), .int (iI x)]) (c_X5_isSegment l E _ r x f (by assumption) (by omega) (by omega)) ml_X5_90 mf_X5_isSegment (o := 13) (ci := 5) rfl rfl rfl rfl ⟨(Nat.le_of_ble_eq_true rfl), (Nat.le_of_ble_eq_true rfl)⟩ rfl rfl rfl (Nat.le_of_ble_eq_true rfl) ⟨(Nat.le_of_ble_eq_true rfl), (Nat.le_of_ble_eq_true rfl)⟩ dX5_isRange_4 (q := 7) rfl ?_
  refine g_if_eq C dX5_isRange_7 (by omega) (q2 := 19) rfl (q := 10) rfl (fun hb1 => ?_) (fun hb1 => ?_)
  · skip
    refine g_iconst C dX5_isRange_19 (q := 20) rfl ?_
    refine g_goto C dX5_isRange_20 (q := 33) rfl ?_
    refine gp_X5_38 C dX5_isRange_33 (q := 36) rfl ?_
    refine g_aload_n C dX5_isRange_36 0 rfl rfl (q := 37) rfl ?_
    refine gf_X5_38 C dX5_isRange_37 (q := 40) rfl ?_
    refine g_top (b := 1) rfl ?_
    refine g_if_ne C dX5_isRange_40 (by omega) (q2 := 47) rfl (q := 43) rfl (fun hb2 => ?_) (fun hb2 => ?_)
    · skip
      refine g_iconst C dX5_isRange_47 (q := 48) rfl ?_
      exact hret _ _ _ dX5_isRange_48 (by omega) rfl
    · skip
      exfalso; omega
  · skip
    refine g_aload_n C dX5_isRange_10 0 rfl rfl (q := 11) rfl ?_
    refine g_iload_n C dX5_isRange_11 1 rfl rfl (q := 12) rfl ?_
    refine g_iload_n C dX5_isRange_12 3 rfl rfl (q := 13) rfl ?_
    refine g_cV_i C (As := [.int (iI r), .int (iI y)]) (c_X5_isSegment l E _ r y f (by assumption) (by omega) (by omega)) ml_X5_90 mf_X5_isSegment (o := 13) (ci := 5) rfl rfl rfl rfl ⟨(Nat.le_of_ble_eq_true rfl), (Nat.le_of_ble_eq_true rfl)⟩ rfl rfl rfl (Nat.le_of_ble_eq_true rfl) ⟨(Nat.le_of_ble_eq_true rfl), (Nat.le_of_ble_eq_true rfl)⟩ dX5_isRange_13 (q := 16) rfl ?_
    refine g_if_ne C dX5_isRange_16 (by omega) (q2 := 23) rfl (q := 19) rfl (fun hb3 => ?_) (fun hb3 => ?_)
    · skip
      exfalso; omega
    · skip
      refine g_iconst C dX5_isRange_19 (q := 20) rfl ?_
      refine g_goto C dX5_isRange_20 (q := 33) rfl ?_
      refine gp_X5_38 C dX5_isRange_33 (q := 36) rfl ?_
      refine g_aload_n C dX5_isRange_36 0 rfl rfl (q := 37) rfl ?_
      refine gf_X5_38 C dX5_isRange_37 (q := 40) rfl ?_
      refine g_top (b := 1) rfl ?_
      refine g_if_ne C dX5_isRange_40 (by omega) (q2 := 47) rfl (q := 43) rfl (fun hb4 => ?_) (fun hb4 => ?_)
      · skip
        refine g_iconst C dX5_isRange_47 (q := 48) rfl ?_
        exact hret _ _ _ dX5_isRange_48 (by omega) rfl
      · skip
        exfalso; omega
set_option maxRecDepth 100000 in
set_option maxHeartbeats 4000000 in
theorem c_X5_isRange_12 (l : Launch) (E : EV) (σ : SS) (r x y : Int) (f : Int → Int) (hM : MS f (σ 14)) (hr_r : -2147483648 ≤ r ∧ r ≤ 2147483647) (hr_x : -2147483648 ≤ x ∧ x ≤ 2147483647) (hr_y : -2147483648 ≤ y ∧ y ≤ 2147483647) (hF1 : fX f r x y = 2) : Ki l yX5_isRange (cw yX5_isRange cX5_isRange 4 (some .boolean)) rm_X5_isRange E [.ref (ea E 13), .int (iI r), .int (iI x), .int (iI y)] σ 0 (st σ 13 (pt (σ 13) 0 2)) := by
  refine Kz_of (rm := rm_X5_isRange) (mL := 4) (b := cX5_isRange) RX5 rfl (by decide +kernel) rfl rfl [(0, .ref (ea E 13)), (1, .int (iI r)), (2, .int (iI x)), (3, .int (iI y))] rfl (Nat.le_of_ble_eq_true rfl) (fun p_ e_ s_ m_ a_ b_ h_ c_ Q A C hret => ?_)
  have hB := bP_iff f r x
  have hB1 := bP_01 f r x
  have hC := bP_iff f r y
  have hC1 := bP_01 f r y
  have hcs := fX_cs f r x y
  refine g_aload_n C dX5_isRange_0 0 rfl rfl (q := 1) rfl ?_
  refine g_aload_n C dX5_isRange_1 0 rfl rfl (q := 2) rfl ?_
  refine g_iload_n C dX5_isRange_2 1 rfl rfl (q := 3) rfl ?_
  refine g_iload_n C dX5_isRange_3 2 rfl rfl (q := 4) rfl ?_
  refine g_cV_i C (As := [.int (iI r), .int (iI x)]) (c_X5_isSegment l E _ r x f (by assumption) (by omega) (by omega)) ml_X5_90 mf_X5_isSegment (o := 13) (ci := 5) rfl rfl rfl rfl ⟨(Nat.le_of_ble_eq_true rfl), (Nat.le_of_ble_eq_true rfl)⟩ rfl rfl rfl (Nat.le_of_ble_eq_true rfl) ⟨(Nat.le_of_ble_eq_true rfl), (Nat.le_of_ble_eq_true rfl)⟩ dX5_isRange_4 (q := 7) rfl ?_
  refine g_if_eq C dX5_isRange_7 (by omega) (q2 := 19) rfl (q := 10) rfl (fun hb1 => ?_) (fun hb1 => ?_)
  · skip
    exfalso; omega
  · skip
    refine g_aload_n C dX5_isRange_10 0 rfl rfl (q := 11) rfl ?_
    refine g_iload_n C dX5_isRange_11 1 rfl rfl (q := 12) rfl ?_
    refine g_iload_n C dX5_isRange_12 3 rfl rfl (q := 13) rfl ?_
    refine g_cV_i C (As := [.int (iI r), .int (iI y)]) (c_X5_isSegment l E _ r y f (by assumption) (by omega) (by omega)) ml_X5_90 mf_X5_isSegment (o := 13) (ci := 5) rfl rfl rfl rfl ⟨(Nat.le_of_ble_eq_true rfl), (Nat.le_of_ble_eq_true rfl)⟩ rfl rfl rfl (Nat.le_of_ble_eq_true rfl) ⟨(Nat.le_of_ble_eq_true rfl), (Nat.le_of_ble_eq_true rfl)⟩ dX5_isRange_13 (q := 16) rfl ?_
    refine g_if_ne C dX5_isRange_16 (by omega) (q2 := 23) rfl (q := 19) rfl (fun hb2 => ?_) (fun hb2 => ?_)
    · skip
      refine g_iload_n C dX5_isRange_23 2 rfl rfl (q := 24) rfl ?_
      refine g_iload_n C dX5_isRange_24 3 rfl rfl (q := 25) rfl ?_
      refine g_icmp_le C dX5_isRange_25 (by omega) (q2 := 32) rfl (q := 28) rfl (fun hb3 => ?_) (fun hb3 => ?_)
      · skip
        exfalso; omega
      · skip
        refine g_iconst C dX5_isRange_28 (q := 29) rfl ?_
        refine g_goto C dX5_isRange_29 (q := 33) rfl ?_
        refine gp_X5_38 C dX5_isRange_33 (q := 36) rfl ?_
        refine g_aload_n C dX5_isRange_36 0 rfl rfl (q := 37) rfl ?_
        refine gf_X5_38 C dX5_isRange_37 (q := 40) rfl ?_
        refine g_top (b := 2) rfl ?_
        refine g_if_ne C dX5_isRange_40 (by omega) (q2 := 47) rfl (q := 43) rfl (fun hb4 => ?_) (fun hb4 => ?_)
        · skip
          refine g_iconst C dX5_isRange_47 (q := 48) rfl ?_
          exact hret _ _ _ dX5_isRange_48 (by omega) rfl
        · skip
          exfalso; omega
    · skip
      exfalso; omega
abbrev rm_X5_rangeLength : Room := { frames := 4, cells := 0, slots := 0, locals := 87 }
set_option maxRecDepth 100000 in
set_option maxHeartbeats 4000000 in
theorem c_X5_rangeLength (l : Launch) (E : EV) (σ : SS) (r x y : Int) (f : Int → Int) (hM : MS f (σ 14)) (hr_r : -2147483648 ≤ r ∧ r ≤ 2147483647) (hr_x : -2147483648 ≤ x ∧ x ≤ 2147483647) (hr_y : -2147483648 ≤ y ∧ y ≤ 2147483647) (hF1 : fX f r x y = 0) : Ki l yX5_rangeLength (cw yX5_rangeLength cX5_rangeLength 4 (some .int)) rm_X5_rangeLength E [.ref (ea E 13), .int (iI r), .int (iI x), .int (iI y)] σ (sI (lgs f r) x (y + 1)) (st σ 13 (pt (σ 13) 0 0)) := by
  refine Ki_of (rm := rm_X5_rangeLength) (mL := 4) (b := cX5_rangeLength) RX5 rfl (by decide +kernel) rfl rfl [(0, .ref (ea E 13)), (1, .int (iI r)), (2, .int (iI x)), (3, .int (iI y))] rfl (Nat.le_of_ble_eq_true rfl) (fun p_ e_ s_ m_ a_ b_ h_ c_ Q A C hret => ?_)
  have hG := fX_0 hF1
  have hm_r := (hM.2.1 r (by omega)).1
  have hn_r := (hM.1 r (by omega)).1
  refine g_aload_n C dX5_rangeLength_0 0 rfl rfl (q := 1) rfl ?_
  refine g_iload_n C dX5_rangeLength_1 1 rfl rfl (q := 2) rfl ?_
  refine g_iload_n C dX5_rangeLength_2 2 rfl rfl (q := 3) rfl ?_
  refine g_iload_n C dX5_rangeLength_3 3 rfl rfl (q := 4) rfl ?_
  refine g_cV_i C (As := [.int (iI r), .int (iI x), .int (iI y)]) (c_X5_isRange l E _ r x y f (by assumption) (by omega) (by omega) (by omega) (by assumption)) ml_X5_140 mf_X5_isRange (o := 13) (ci := 5) rfl rfl rfl rfl ⟨(Nat.le_of_ble_eq_true rfl), (Nat.le_of_ble_eq_true rfl)⟩ rfl rfl rfl (Nat.le_of_ble_eq_true rfl) ⟨(Nat.le_of_ble_eq_true rfl), (Nat.le_of_ble_eq_true rfl)⟩ dX5_rangeLength_4 (q := 7) rfl ?_
  refine g_if_eq C dX5_rangeLength_7 (by omega) (q2 := 20) rfl (q := 10) rfl (fun hb1 => ?_) (fun hb1 => ?_)
  · skip
    exfalso; omega
  · skip
    refine g_aload_n C dX5_rangeLength_10 0 rfl rfl (q := 11) rfl ?_
    refine g_iload_n C dX5_rangeLength_11 1 rfl rfl (q := 12) rfl ?_
    refine g_iload_n C dX5_rangeLength_12 2 rfl rfl (q := 13) rfl ?_
    refine g_iload_n C dX5_rangeLength_13 3 rfl rfl (q := 14) rfl ?_
    refine g_cV_i C (As := [.int (iI r), .int (iI x), .int (iI y)]) (c_X5_sumOf l E _ r x y f (by show MS f (σ 14); assumption) (by omega) (by omega) (by omega)) ml_X5_96 mf_X5_sumOf (o := 13) (ci := 5) rfl rfl rfl rfl ⟨(Nat.le_of_ble_eq_true rfl), (Nat.le_of_ble_eq_true rfl)⟩ rfl rfl rfl (Nat.le_of_ble_eq_true rfl) ⟨(Nat.le_of_ble_eq_true rfl), (Nat.le_of_ble_eq_true rfl)⟩ dX5_rangeLength_14 (q := 17) rfl ?_
    refine g_goto C dX5_rangeLength_17 (q := 21) rfl ?_
    exact hret _ _ _ dX5_rangeLength_21 rfl
set_option maxRecDepth 100000 in
set_option maxHeartbeats 4000000 in
theorem c_X5_rangeLength_11 (l : Launch) (E : EV) (σ : SS) (r x y : Int) (f : Int → Int) (hM : MS f (σ 14)) (hr_r : -2147483648 ≤ r ∧ r ≤ 2147483647) (hr_x : -2147483648 ≤ x ∧ x ≤ 2147483647) (hr_y : -2147483648 ≤ y ∧ y ≤ 2147483647) (hF1 : fX f r x y = 1) : Ki l yX5_rangeLength (cw yX5_rangeLength cX5_rangeLength 4 (some .int)) rm_X5_rangeLength E [.ref (ea E 13), .int (iI r), .int (iI x), .int (iI y)] σ 0 (st σ 13 (pt (σ 13) 0 1)) := by
  refine Ki_of (rm := rm_X5_rangeLength) (mL := 4) (b := cX5_rangeLength) RX5 rfl (by decide +kernel) rfl rfl [(0, .ref (ea E 13)), (1, .int (iI r)), (2, .int (iI x)), (3, .int (iI y))] rfl (Nat.le_of_ble_eq_true rfl) (fun p_ e_ s_ m_ a_ b_ h_ c_ Q A C hret => ?_)
  refine g_aload_n C dX5_rangeLength_0 0 rfl rfl (q := 1) rfl ?_
  refine g_iload_n C dX5_rangeLength_1 1 rfl rfl (q := 2) rfl ?_
  refine g_iload_n C dX5_rangeLength_2 2 rfl rfl (q := 3) rfl ?_
  refine g_iload_n C dX5_rangeLength_3 3 rfl rfl (q := 4) rfl ?_
  refine g_cV_i C (As := [.int (iI r), .int (iI x), .int (iI y)]) (c_X5_isRange_11 l E _ r x y f (by assumption) (by omega) (by omega) (by omega) (by assumption)) ml_X5_140 mf_X5_isRange (o := 13) (ci := 5) rfl rfl rfl rfl ⟨(Nat.le_of_ble_eq_true rfl), (Nat.le_of_ble_eq_true rfl)⟩ rfl rfl rfl (Nat.le_of_ble_eq_true rfl) ⟨(Nat.le_of_ble_eq_true rfl), (Nat.le_of_ble_eq_true rfl)⟩ dX5_rangeLength_4 (q := 7) rfl ?_
  refine g_if_eq C dX5_rangeLength_7 (by omega) (q2 := 20) rfl (q := 10) rfl (fun hb1 => ?_) (fun hb1 => ?_)
  · skip
    refine g_iconst C dX5_rangeLength_20 (q := 21) rfl ?_
    exact hret _ _ _ dX5_rangeLength_21 rfl
  · skip
    exfalso; omega
set_option maxRecDepth 100000 in
set_option maxHeartbeats 4000000 in
theorem c_X5_rangeLength_12 (l : Launch) (E : EV) (σ : SS) (r x y : Int) (f : Int → Int) (hM : MS f (σ 14)) (hr_r : -2147483648 ≤ r ∧ r ≤ 2147483647) (hr_x : -2147483648 ≤ x ∧ x ≤ 2147483647) (hr_y : -2147483648 ≤ y ∧ y ≤ 2147483647) (hF1 : fX f r x y = 2) : Ki l yX5_rangeLength (cw yX5_rangeLength cX5_rangeLength 4 (some .int)) rm_X5_rangeLength E [.ref (ea E 13), .int (iI r), .int (iI x), .int (iI y)] σ 0 (st σ 13 (pt (σ 13) 0 2)) := by
  refine Ki_of (rm := rm_X5_rangeLength) (mL := 4) (b := cX5_rangeLength) RX5 rfl (by decide +kernel) rfl rfl [(0, .ref (ea E 13)), (1, .int (iI r)), (2, .int (iI x)), (3, .int (iI y))] rfl (Nat.le_of_ble_eq_true rfl) (fun p_ e_ s_ m_ a_ b_ h_ c_ Q A C hret => ?_)
  refine g_aload_n C dX5_rangeLength_0 0 rfl rfl (q := 1) rfl ?_
  refine g_iload_n C dX5_rangeLength_1 1 rfl rfl (q := 2) rfl ?_
  refine g_iload_n C dX5_rangeLength_2 2 rfl rfl (q := 3) rfl ?_
  refine g_iload_n C dX5_rangeLength_3 3 rfl rfl (q := 4) rfl ?_
  refine g_cV_i C (As := [.int (iI r), .int (iI x), .int (iI y)]) (c_X5_isRange_12 l E _ r x y f (by assumption) (by omega) (by omega) (by omega) (by assumption)) ml_X5_140 mf_X5_isRange (o := 13) (ci := 5) rfl rfl rfl rfl ⟨(Nat.le_of_ble_eq_true rfl), (Nat.le_of_ble_eq_true rfl)⟩ rfl rfl rfl (Nat.le_of_ble_eq_true rfl) ⟨(Nat.le_of_ble_eq_true rfl), (Nat.le_of_ble_eq_true rfl)⟩ dX5_rangeLength_4 (q := 7) rfl ?_
  refine g_if_eq C dX5_rangeLength_7 (by omega) (q2 := 20) rfl (q := 10) rfl (fun hb1 => ?_) (fun hb1 => ?_)
  · skip
    refine g_iconst C dX5_rangeLength_20 (q := 21) rfl ?_
    exact hret _ _ _ dX5_rangeLength_21 rfl
  · skip
    exfalso; omega
abbrev rm_X5_longestInRange : Room := { frames := 4, cells := 0, slots := 0, locals := 87 }
set_option maxRecDepth 100000 in
set_option maxHeartbeats 4000000 in
theorem c_X5_longestInRange (l : Launch) (E : EV) (σ : SS) (r x y : Int) (f : Int → Int) (hM : MS f (σ 14)) (hr_r : -2147483648 ≤ r ∧ r ≤ 2147483647) (hr_x : -2147483648 ≤ x ∧ x ≤ 2147483647) (hr_y : -2147483648 ≤ y ∧ y ≤ 2147483647) (hF1 : fX f r x y = 0) : Ki l yX5_longestInRange (cw yX5_longestInRange cX5_longestInRange 6 (some .int)) rm_X5_longestInRange E [.ref (ea E 13), .int (iI r), .int (iI x), .int (iI y)] σ (mI (lgs f r) x (x + 1) (y + 1)) (st σ 13 (pt (σ 13) 0 0)) := by
  refine Ki_of (rm := rm_X5_longestInRange) (mL := 6) (b := cX5_longestInRange) RX5 rfl (by decide +kernel) rfl rfl [(0, .ref (ea E 13)), (1, .int (iI r)), (2, .int (iI x)), (3, .int (iI y))] rfl (Nat.le_of_ble_eq_true rfl) (fun p_ e_ s_ m_ a_ b_ h_ c_ Q A C hret => ?_)
  have hG := fX_0 hF1
  have hm_r := (hM.2.1 r (by omega)).1
  have hn_r := (hM.1 r (by omega)).1
  refine g_aload_n C dX5_longestInRange_0 0 rfl rfl (q := 1) rfl ?_
  refine g_iload_n C dX5_longestInRange_1 1 rfl rfl (q := 2) rfl ?_
  refine g_iload_n C dX5_longestInRange_2 2 rfl rfl (q := 3) rfl ?_
  refine g_iload_n C dX5_longestInRange_3 3 rfl rfl (q := 4) rfl ?_
  refine g_cV_i C (As := [.int (iI r), .int (iI x), .int (iI y)]) (c_X5_isRange l E _ r x y f (by assumption) (by omega) (by omega) (by omega) (by assumption)) ml_X5_140 mf_X5_isRange (o := 13) (ci := 5) rfl rfl rfl rfl ⟨(Nat.le_of_ble_eq_true rfl), (Nat.le_of_ble_eq_true rfl)⟩ rfl rfl rfl (Nat.le_of_ble_eq_true rfl) ⟨(Nat.le_of_ble_eq_true rfl), (Nat.le_of_ble_eq_true rfl)⟩ dX5_longestInRange_4 (q := 7) rfl ?_
  refine g_if_ne C dX5_longestInRange_7 (by omega) (q2 := 12) rfl (q := 10) rfl (fun hb1 => ?_) (fun hb1 => ?_)
  · skip
    refine g_iload_n C dX5_longestInRange_12 2 rfl rfl (q := 13) rfl ?_
    refine g_istore C (L' := [(4, .int (iI x)), (0, .ref (ea E 13)), (1, .int (iI r)), (2, .int (iI x)), (3, .int (iI y))]) dX5_longestInRange_13 (by decide) rfl (q := 15) rfl ?_
    refine g_iload_n C dX5_longestInRange_15 3 rfl rfl (q := 16) rfl ?_
    refine g_iconst C dX5_longestInRange_16 (q := 17) rfl ?_
    refine g_iadd C dX5_longestInRange_17 (q := 18) rfl ?_
    refine g_istore C (L' := [(5, .int (iI (x + 1))), (4, .int (iI x)), (0, .ref (ea E 13)), (1, .int (iI r)), (2, .int (iI x)), (3, .int (iI y))]) dX5_longestInRange_18 (by decide) rfl (q := 20) rfl ?_
    refine g_sub [2, 3, 4, 5, 1, 0] (L' := [(0, .ref (ea E 13)), (1, .int (iI r)), (2, .int (iI x)), (3, .int (iI y)), (4, .int (iI x)), (5, .int (iI (x + 1)))]) rfl ?_
    have lp20 : ∀ (k9 : Nat) (z : Int) (i : Int), (y + 1 - i).toNat < k9 → (0 ≤ i ∧ i ≤ 61) → (0 ≤ z ∧ z ≤ y) → (mI (lgs f r) x (x + 1) (y + 1) = mI (lgs f r) z i (y + 1)) → GG p_ l e_ rm_X5_longestInRange s_ m_ a_ b_ h_ c_ Q E A 6 (st σ 13 (pt (σ 13) 0 0)) 0 0 20 [(0, .ref (ea E 13)), (1, .int (iI r)), (2, .int (iI x)), (3, .int (iI y)), (4, .int (iI z)), (5, .int (iI i))] [] := by
      intro k9
      induction k9 with
      | zero => intro z i hk9; omega
      | succ k9 ih20 =>
        intro z i hk9 hi hz hR
        refine g_iload C dX5_longestInRange_20 5 rfl (q := 22) rfl ?_
        refine g_iload_n C dX5_longestInRange_22 3 rfl rfl (q := 23) rfl ?_
        refine g_icmp_gt C dX5_longestInRange_23 (by omega) (q2 := 60) rfl (q := 26) rfl (fun hb2 => ?_) (fun hb2 => ?_)
        · skip
          refine g_iload C dX5_longestInRange_60 4 rfl (q := 62) rfl ?_
          exact hret _ _ _ dX5_longestInRange_62 (by rw [hR, mI_nil (by omega)])
        · skip
          have hs1 := (hM.2.1 r (by omega)).2 i (by omega)
          have hs2 := (hM.2.1 r (by omega)).2 z (by omega)
          have hw1 := (hM.1 r (by omega)).2 i (by omega)
          have hw2 := (hM.1 r (by omega)).2 z (by omega)
          refine g_aload_n C dX5_longestInRange_26 0 rfl rfl (q := 27) rfl ?_
          refine g_iload_n C dX5_longestInRange_27 1 rfl rfl (q := 28) rfl ?_
          refine g_iload C dX5_longestInRange_28 5 rfl (q := 30) rfl ?_
          refine g_iconst C dX5_longestInRange_30 (q := 31) rfl ?_
          refine g_cV_i C (As := [.int (iI r), .int (iI i), .int (iI 0)]) (c_X5_at_0 l E _ r i  (by omega) (by omega)) ml_X5_75 mf_X5_at (o := 13) (ci := 5) rfl rfl rfl rfl ⟨(Nat.le_of_ble_eq_true rfl), (Nat.le_of_ble_eq_true rfl)⟩ rfl rfl rfl (Nat.le_of_ble_eq_true rfl) ⟨(Nat.le_of_ble_eq_true rfl), (Nat.le_of_ble_eq_true rfl)⟩ dX5_longestInRange_31 (q := 34) rfl ?_
          refine g_top (b := (σ 14) (3 + 121 * r + 2 * i)) rfl ?_
          refine g_aload_n C dX5_longestInRange_34 0 rfl rfl (q := 35) rfl ?_
          refine g_iload_n C dX5_longestInRange_35 1 rfl rfl (q := 36) rfl ?_
          refine g_iload C dX5_longestInRange_36 4 rfl (q := 38) rfl ?_
          refine g_iconst C dX5_longestInRange_38 (q := 39) rfl ?_
          refine g_cV_i C (As := [.int (iI r), .int (iI z), .int (iI 0)]) (c_X5_at_0 l E _ r z  (by omega) (by omega)) ml_X5_75 mf_X5_at (o := 13) (ci := 5) rfl rfl rfl rfl ⟨(Nat.le_of_ble_eq_true rfl), (Nat.le_of_ble_eq_true rfl)⟩ rfl rfl rfl (Nat.le_of_ble_eq_true rfl) ⟨(Nat.le_of_ble_eq_true rfl), (Nat.le_of_ble_eq_true rfl)⟩ dX5_longestInRange_39 (q := 42) rfl ?_
          refine g_top (b := (σ 14) (3 + 121 * r + 2 * z)) rfl ?_
          refine g_icmp_le C dX5_longestInRange_42 (by omega) (q2 := 50) rfl (q := 45) rfl (fun hb3 => ?_) (fun hb3 => ?_)
          · skip
            refine g_iload C dX5_longestInRange_50 4 rfl (q := 52) rfl ?_
            refine g_istore C (L' := [(4, .int (iI z)), (0, .ref (ea E 13)), (1, .int (iI r)), (2, .int (iI x)), (3, .int (iI y)), (5, .int (iI i))]) dX5_longestInRange_52 (by decide) rfl (q := 54) rfl ?_
            refine g_iinc C (L' := [(5, .int (iI (i + 1))), (4, .int (iI z)), (0, .ref (ea E 13)), (1, .int (iI r)), (2, .int (iI x)), (3, .int (iI y))]) dX5_longestInRange_54 5 rfl (by decide) rfl (q := 57) rfl ?_
            refine g_goto C dX5_longestInRange_57 (q := 20) rfl ?_
            refine g_sub [2, 3, 4, 5, 1, 0] (L' := [(0, .ref (ea E 13)), (1, .int (iI r)), (2, .int (iI x)), (3, .int (iI y)), (4, .int (iI z)), (5, .int (iI (i + 1)))]) rfl ?_
            exact ih20 z (i + 1) (by omega) (by omega) (by omega) (by first | (rw [hR, mI_yes (by omega) (by unfold lgs; omega)]) | (rw [hR, mI_no (by omega) (by unfold lgs; omega)]))
          · skip
            refine g_iload C dX5_longestInRange_45 5 rfl (q := 47) rfl ?_
            refine g_goto C dX5_longestInRange_47 (q := 52) rfl ?_
            refine g_istore C (L' := [(4, .int (iI i)), (0, .ref (ea E 13)), (1, .int (iI r)), (2, .int (iI x)), (3, .int (iI y)), (5, .int (iI i))]) dX5_longestInRange_52 (by decide) rfl (q := 54) rfl ?_
            refine g_iinc C (L' := [(5, .int (iI (i + 1))), (4, .int (iI i)), (0, .ref (ea E 13)), (1, .int (iI r)), (2, .int (iI x)), (3, .int (iI y))]) dX5_longestInRange_54 5 rfl (by decide) rfl (q := 57) rfl ?_
            refine g_goto C dX5_longestInRange_57 (q := 20) rfl ?_
            refine g_sub [2, 3, 4, 5, 1, 0] (L' := [(0, .ref (ea E 13)), (1, .int (iI r)), (2, .int (iI x)), (3, .int (iI y)), (4, .int (iI i)), (5, .int (iI (i + 1)))]) rfl ?_
            exact ih20 i (i + 1) (by omega) (by omega) (by omega) (by first | (rw [hR, mI_yes (by omega) (by unfold lgs; omega)]) | (rw [hR, mI_no (by omega) (by unfold lgs; omega)]))
    exact lp20 _ x (x + 1) (Nat.lt_succ_self _) (by omega) (by omega) (by rfl)
  · skip
    exfalso; omega
set_option maxRecDepth 100000 in
set_option maxHeartbeats 4000000 in
theorem c_X5_longestInRange_11 (l : Launch) (E : EV) (σ : SS) (r x y : Int) (f : Int → Int) (hM : MS f (σ 14)) (hr_r : -2147483648 ≤ r ∧ r ≤ 2147483647) (hr_x : -2147483648 ≤ x ∧ x ≤ 2147483647) (hr_y : -2147483648 ≤ y ∧ y ≤ 2147483647) (hF1 : fX f r x y = 1) : Ki l yX5_longestInRange (cw yX5_longestInRange cX5_longestInRange 6 (some .int)) rm_X5_longestInRange E [.ref (ea E 13), .int (iI r), .int (iI x), .int (iI y)] σ 0 (st σ 13 (pt (σ 13) 0 1)) := by
  refine Ki_of (rm := rm_X5_longestInRange) (mL := 6) (b := cX5_longestInRange) RX5 rfl (by decide +kernel) rfl rfl [(0, .ref (ea E 13)), (1, .int (iI r)), (2, .int (iI x)), (3, .int (iI y))] rfl (Nat.le_of_ble_eq_true rfl) (fun p_ e_ s_ m_ a_ b_ h_ c_ Q A C hret => ?_)
  refine g_aload_n C dX5_longestInRange_0 0 rfl rfl (q := 1) rfl ?_
  refine g_iload_n C dX5_longestInRange_1 1 rfl rfl (q := 2) rfl ?_
  refine g_iload_n C dX5_longestInRange_2 2 rfl rfl (q := 3) rfl ?_
  refine g_iload_n C dX5_longestInRange_3 3 rfl rfl (q := 4) rfl ?_
  refine g_cV_i C (As := [.int (iI r), .int (iI x), .int (iI y)]) (c_X5_isRange_11 l E _ r x y f (by assumption) (by omega) (by omega) (by omega) (by assumption)) ml_X5_140 mf_X5_isRange (o := 13) (ci := 5) rfl rfl rfl rfl ⟨(Nat.le_of_ble_eq_true rfl), (Nat.le_of_ble_eq_true rfl)⟩ rfl rfl rfl (Nat.le_of_ble_eq_true rfl) ⟨(Nat.le_of_ble_eq_true rfl), (Nat.le_of_ble_eq_true rfl)⟩ dX5_longestInRange_4 (q := 7) rfl ?_
  refine g_if_ne C dX5_longestInRange_7 (by omega) (q2 := 12) rfl (q := 10) rfl (fun hb1 => ?_) (fun hb1 => ?_)
  · skip
    exfalso; omega
  · skip
    refine g_iconst C dX5_longestInRange_10 (q := 11) rfl ?_
    exact hret _ _ _ dX5_longestInRange_11 rfl
set_option maxRecDepth 100000 in
set_option maxHeartbeats 4000000 in
theorem c_X5_longestInRange_12 (l : Launch) (E : EV) (σ : SS) (r x y : Int) (f : Int → Int) (hM : MS f (σ 14)) (hr_r : -2147483648 ≤ r ∧ r ≤ 2147483647) (hr_x : -2147483648 ≤ x ∧ x ≤ 2147483647) (hr_y : -2147483648 ≤ y ∧ y ≤ 2147483647) (hF1 : fX f r x y = 2) : Ki l yX5_longestInRange (cw yX5_longestInRange cX5_longestInRange 6 (some .int)) rm_X5_longestInRange E [.ref (ea E 13), .int (iI r), .int (iI x), .int (iI y)] σ 0 (st σ 13 (pt (σ 13) 0 2)) := by
  refine Ki_of (rm := rm_X5_longestInRange) (mL := 6) (b := cX5_longestInRange) RX5 rfl (by decide +kernel) rfl rfl [(0, .ref (ea E 13)), (1, .int (iI r)), (2, .int (iI x)), (3, .int (iI y))] rfl (Nat.le_of_ble_eq_true rfl) (fun p_ e_ s_ m_ a_ b_ h_ c_ Q A C hret => ?_)
  refine g_aload_n C dX5_longestInRange_0 0 rfl rfl (q := 1) rfl ?_
  refine g_iload_n C dX5_longestInRange_1 1 rfl rfl (q := 2) rfl ?_
  refine g_iload_n C dX5_longestInRange_2 2 rfl rfl (q := 3) rfl ?_
  refine g_iload_n C dX5_longestInRange_3 3 rfl rfl (q := 4) rfl ?_
  refine g_cV_i C (As := [.int (iI r), .int (iI x), .int (iI y)]) (c_X5_isRange_12 l E _ r x y f (by assumption) (by omega) (by omega) (by omega) (by assumption)) ml_X5_140 mf_X5_isRange (o := 13) (ci := 5) rfl rfl rfl rfl ⟨(Nat.le_of_ble_eq_true rfl), (Nat.le_of_ble_eq_true rfl)⟩ rfl rfl rfl (Nat.le_of_ble_eq_true rfl) ⟨(Nat.le_of_ble_eq_true rfl), (Nat.le_of_ble_eq_true rfl)⟩ dX5_longestInRange_4 (q := 7) rfl ?_
  refine g_if_ne C dX5_longestInRange_7 (by omega) (q2 := 12) rfl (q := 10) rfl (fun hb1 => ?_) (fun hb1 => ?_)
  · skip
    exfalso; omega
  · skip
    refine g_iconst C dX5_longestInRange_10 (q := 11) rfl ?_
    exact hret _ _ _ dX5_longestInRange_11 rfl
abbrev rm_X5_segmentAtRank : Room := { frames := 2, cells := 0, slots := 0, locals := 42 }
set_option maxRecDepth 100000 in
set_option maxHeartbeats 4000000 in
theorem c_X5_segmentAtRank (l : Launch) (E : EV) (σ : SS) (r k : Int) (f : Int → Int) (hM : MS f (σ 14)) (hr_r : -2147483648 ≤ r ∧ r ≤ 2147483647) (hr_k : -2147483648 ≤ k ∧ k ≤ 2147483647) (hF1 : fR r = 0) (hne : fI (rkP f r k) 0 (f (240 + r)) ≠ -1) : Ki l yX5_segmentAtRank (cw yX5_segmentAtRank cX5_segmentAtRank 6 (some .int)) rm_X5_segmentAtRank E [.ref (ea E 13), .int (iI r), .int (iI k)] σ (fI (rkP f r k) 0 (f (240 + r))) (st σ 13 (pt (σ 13) 0 0)) := by
  refine Ki_of (rm := rm_X5_segmentAtRank) (mL := 6) (b := cX5_segmentAtRank) RX5 rfl (by decide +kernel) rfl rfl [(0, .ref (ea E 13)), (1, .int (iI r)), (2, .int (iI k))] rfl (Nat.le_of_ble_eq_true rfl) (fun p_ e_ s_ m_ a_ b_ h_ c_ Q A C hret => ?_)
  have hB := bR_iff r
  have hB1 := bR_01 r
  have hG1 := fR_0 hF1
  have hm_r := (hM.2.1 r (by omega)).1
  have hn_r := (hM.1 r (by omega)).1
  refine g_aload_n C dX5_segmentAtRank_0 0 rfl rfl (q := 1) rfl ?_
  refine g_iload_n C dX5_segmentAtRank_1 1 rfl rfl (q := 2) rfl ?_
  refine g_cS_i C (As := [.int (iI r)]) (c_X5_isReel l E _ r  (by omega)) ml_X5_58 mf_X5_isReel rfl rfl ⟨(Nat.le_of_ble_eq_true rfl), (Nat.le_of_ble_eq_true rfl)⟩ rfl rfl rfl (Nat.le_of_ble_eq_true rfl) ⟨(Nat.le_of_ble_eq_true rfl), (Nat.le_of_ble_eq_true rfl)⟩ dX5_segmentAtRank_2 (q := 5) rfl ?_
  refine g_if_eq C dX5_segmentAtRank_5 (by omega) (q2 := 12) rfl (q := 8) rfl (fun hb1 => ?_) (fun hb1 => ?_)
  · skip
    exfalso; omega
  · skip
    refine g_iconst C dX5_segmentAtRank_8 (q := 9) rfl ?_
    refine g_goto C dX5_segmentAtRank_9 (q := 13) rfl ?_
    refine gp_X5_38 C dX5_segmentAtRank_13 (q := 16) rfl ?_
    refine g_iconst C dX5_segmentAtRank_16 (q := 17) rfl ?_
    refine g_istore_n C (L' := [(3, .int (iI 0)), (0, .ref (ea E 13)), (1, .int (iI r)), (2, .int (iI k))]) dX5_segmentAtRank_17 rfl (by decide) rfl (q := 18) rfl ?_
    refine g_sub [1, 2, 3, 0] (L' := [(0, .ref (ea E 13)), (1, .int (iI r)), (2, .int (iI k)), (3, .int (iI 0))]) rfl ?_
    have lp18 : ∀ (k9 : Nat) (a : Int), (f (240 + r) - a).toNat < k9 → (0 ≤ a ∧ a ≤ f (240 + r)) → (fI (rkP f r k) 0 (f (240 + r)) = fI (rkP f r k) a (f (240 + r))) → GG p_ l e_ rm_X5_segmentAtRank s_ m_ a_ b_ h_ c_ Q E A 6 (st σ 13 (pt (σ 13) 0 0)) 0 0 18 [(0, .ref (ea E 13)), (1, .int (iI r)), (2, .int (iI k)), (3, .int (iI a))] [] := by
      intro k9
      induction k9 with
      | zero => intro a hk9; omega
      | succ k9 ih18 =>
        intro a hk9 ha hR
        refine g_aload_n C dX5_segmentAtRank_18 0 rfl rfl (q := 19) rfl ?_
        refine gf_X5_38 C dX5_segmentAtRank_19 (q := 22) rfl ?_
        refine g_top (b := 0) rfl ?_
        refine g_if_ne C dX5_segmentAtRank_22 (by omega) (q2 := 122) rfl (q := 25) rfl (fun hb2 => ?_) (fun hb2 => ?_)
        · skip
          exfalso; omega
        · skip
          refine g_iload_n C dX5_segmentAtRank_25 3 rfl rfl (q := 26) rfl ?_
          refine g_aload_n C dX5_segmentAtRank_26 0 rfl rfl (q := 27) rfl ?_
          refine g_iload_n C dX5_segmentAtRank_27 1 rfl rfl (q := 28) rfl ?_
          refine g_cV_i C (As := [.int (iI r)]) (c_X5_many l E _ r  (by omega)) ml_X5_62 mf_X5_many (o := 13) (ci := 5) rfl rfl rfl rfl ⟨(Nat.le_of_ble_eq_true rfl), (Nat.le_of_ble_eq_true rfl)⟩ rfl rfl rfl (Nat.le_of_ble_eq_true rfl) ⟨(Nat.le_of_ble_eq_true rfl), (Nat.le_of_ble_eq_true rfl)⟩ dX5_segmentAtRank_28 (q := 31) rfl ?_
          refine g_top (b := (σ 14) (2 + 121 * r)) rfl ?_
          refine g_icmp_ge C dX5_segmentAtRank_31 (by omega) (q2 := 122) rfl (q := 34) rfl (fun hb3 => ?_) (fun hb3 => ?_)
          · skip
            exfalso; rw [hR, fI_nil (by omega)] at hne; omega
          · skip
            have hs1 := (hM.2.1 r hG1).2 a (by omega)
            have hw1 := (hM.1 r hG1).2 a (by omega)
            have hrr := rk_rg hM.1 hG1 a
            refine g_iconst C dX5_segmentAtRank_34 (q := 35) rfl ?_
            refine g_istore C (L' := [(4, .int (iI 0)), (0, .ref (ea E 13)), (1, .int (iI r)), (2, .int (iI k)), (3, .int (iI a))]) dX5_segmentAtRank_35 (by decide) rfl (q := 37) rfl ?_
            refine g_iconst C dX5_segmentAtRank_37 (q := 38) rfl ?_
            refine g_istore C (L' := [(5, .int (iI 0)), (4, .int (iI 0)), (0, .ref (ea E 13)), (1, .int (iI r)), (2, .int (iI k)), (3, .int (iI a))]) dX5_segmentAtRank_38 (by decide) rfl (q := 40) rfl ?_
            refine g_sub [2, 3, 4, 5, 1, 0] (L' := [(0, .ref (ea E 13)), (1, .int (iI r)), (2, .int (iI k)), (3, .int (iI a)), (4, .int (iI 0)), (5, .int (iI 0))]) rfl ?_
            have lp40 : ∀ (k9 : Nat) (acc : Int) (b : Int), (f (240 + r) - b).toNat < k9 → (0 ≤ b ∧ b ≤ f (240 + r)) → (rk f r a = acc + sI (ri f r a) b (f (240 + r))) → GG p_ l e_ rm_X5_segmentAtRank s_ m_ a_ b_ h_ c_ Q E A 6 (st σ 13 (pt (σ 13) 0 0)) 0 0 40 [(0, .ref (ea E 13)), (1, .int (iI r)), (2, .int (iI k)), (3, .int (iI a)), (4, .int (iI acc)), (5, .int (iI b))] [] := by
              intro k9
              induction k9 with
              | zero => intro acc b hk9; omega
              | succ k9 ih40 =>
                intro acc b hk9 hb hA
                refine g_iload C dX5_segmentAtRank_40 5 rfl (q := 42) rfl ?_
                refine g_aload_n C dX5_segmentAtRank_42 0 rfl rfl (q := 43) rfl ?_
                refine g_iload_n C dX5_segmentAtRank_43 1 rfl rfl (q := 44) rfl ?_
                refine g_cV_i C (As := [.int (iI r)]) (c_X5_many l E _ r  (by omega)) ml_X5_62 mf_X5_many (o := 13) (ci := 5) rfl rfl rfl rfl ⟨(Nat.le_of_ble_eq_true rfl), (Nat.le_of_ble_eq_true rfl)⟩ rfl rfl rfl (Nat.le_of_ble_eq_true rfl) ⟨(Nat.le_of_ble_eq_true rfl), (Nat.le_of_ble_eq_true rfl)⟩ dX5_segmentAtRank_44 (q := 47) rfl ?_
                refine g_top (b := (σ 14) (2 + 121 * r)) rfl ?_
                refine g_icmp_ge C dX5_segmentAtRank_47 (by omega) (q2 := 108) rfl (q := 50) rfl (fun hb4 => ?_) (fun hb4 => ?_)
                · skip
                  have hA2 : rk f r a = acc := by rw [hA, sI_nil (by omega)]; omega
                  refine g_iload C dX5_segmentAtRank_108 4 rfl (q := 110) rfl ?_
                  refine g_iload_n C dX5_segmentAtRank_110 2 rfl rfl (q := 111) rfl ?_
                  refine g_icmp_ne C dX5_segmentAtRank_111 (by omega) (q2 := 116) rfl (q := 114) rfl (fun hb5 => ?_) (fun hb5 => ?_)
                  · skip
                    refine g_iinc C (L' := [(3, .int (iI (a + 1))), (0, .ref (ea E 13)), (1, .int (iI r)), (2, .int (iI k)), (4, .int (iI acc)), (5, .int (iI b))]) dX5_segmentAtRank_116 3 rfl (by decide) rfl (q := 119) rfl ?_
                    refine g_goto C dX5_segmentAtRank_119 (q := 18) rfl ?_
                    refine g_sub [1, 2, 3, 0] (L' := [(0, .ref (ea E 13)), (1, .int (iI r)), (2, .int (iI k)), (3, .int (iI (a + 1)))]) rfl ?_
                    exact ih18 (a + 1) (by omega) (by omega) (by rw [hR, fI_no]; unfold rkP; simp only [decide_eq_true_eq]; omega)
                  · skip
                    refine g_iload_n C dX5_segmentAtRank_114 3 rfl rfl (q := 115) rfl ?_
                    exact hret _ _ _ dX5_segmentAtRank_115 (by rw [hR, fI_yes (by omega)]; unfold rkP; simp only [decide_eq_true_eq]; omega)
                · skip
                  have hs2 := (hM.2.1 r hG1).2 b (by omega)
                  have hw2 := (hM.1 r hG1).2 b (by omega)
                  refine g_iload C dX5_segmentAtRank_50 4 rfl (q := 52) rfl ?_
                  refine g_aload_n C dX5_segmentAtRank_52 0 rfl rfl (q := 53) rfl ?_
                  refine g_iload_n C dX5_segmentAtRank_53 1 rfl rfl (q := 54) rfl ?_
                  refine g_iload C dX5_segmentAtRank_54 5 rfl (q := 56) rfl ?_
                  refine g_iconst C dX5_segmentAtRank_56 (q := 57) rfl ?_
                  refine g_cV_i C (As := [.int (iI r), .int (iI b), .int (iI 0)]) (c_X5_at_0 l E _ r b  (by omega) (by omega)) ml_X5_75 mf_X5_at (o := 13) (ci := 5) rfl rfl rfl rfl ⟨(Nat.le_of_ble_eq_true rfl), (Nat.le_of_ble_eq_true rfl)⟩ rfl rfl rfl (Nat.le_of_ble_eq_true rfl) ⟨(Nat.le_of_ble_eq_true rfl), (Nat.le_of_ble_eq_true rfl)⟩ dX5_segmentAtRank_57 (q := 60) rfl ?_
                  refine g_top (b := (σ 14) (3 + 121 * r + 2 * b)) rfl ?_
                  refine g_aload_n C dX5_segmentAtRank_60 0 rfl rfl (q := 61) rfl ?_
                  refine g_iload_n C dX5_segmentAtRank_61 1 rfl rfl (q := 62) rfl ?_
                  refine g_iload_n C dX5_segmentAtRank_62 3 rfl rfl (q := 63) rfl ?_
                  refine g_iconst C dX5_segmentAtRank_63 (q := 64) rfl ?_
                  refine g_cV_i C (As := [.int (iI r), .int (iI a), .int (iI 0)]) (c_X5_at_0 l E _ r a  (by omega) (by omega)) ml_X5_75 mf_X5_at (o := 13) (ci := 5) rfl rfl rfl rfl ⟨(Nat.le_of_ble_eq_true rfl), (Nat.le_of_ble_eq_true rfl)⟩ rfl rfl rfl (Nat.le_of_ble_eq_true rfl) ⟨(Nat.le_of_ble_eq_true rfl), (Nat.le_of_ble_eq_true rfl)⟩ dX5_segmentAtRank_64 (q := 67) rfl ?_
                  refine g_top (b := (σ 14) (3 + 121 * r + 2 * a)) rfl ?_
                  refine g_icmp_gt C dX5_segmentAtRank_67 (by omega) (q2 := 94) rfl (q := 70) rfl (fun hb6 => ?_) (fun hb6 => ?_)
                  · skip
                    refine g_iconst C dX5_segmentAtRank_94 (q := 95) rfl ?_
                    refine g_goto C dX5_segmentAtRank_95 (q := 99) rfl ?_
                    refine g_iadd C dX5_segmentAtRank_99 (q := 100) rfl ?_
                    refine g_istore C (L' := [(4, .int (iI (acc + 1))), (0, .ref (ea E 13)), (1, .int (iI r)), (2, .int (iI k)), (3, .int (iI a)), (5, .int (iI b))]) dX5_segmentAtRank_100 (by decide) rfl (q := 102) rfl ?_
                    refine g_iinc C (L' := [(5, .int (iI (b + 1))), (4, .int (iI (acc + 1))), (0, .ref (ea E 13)), (1, .int (iI r)), (2, .int (iI k)), (3, .int (iI a))]) dX5_segmentAtRank_102 5 rfl (by decide) rfl (q := 105) rfl ?_
                    refine g_goto C dX5_segmentAtRank_105 (q := 40) rfl ?_
                    refine g_sub [2, 3, 4, 5, 1, 0] (L' := [(0, .ref (ea E 13)), (1, .int (iI r)), (2, .int (iI k)), (3, .int (iI a)), (4, .int (iI (acc + 1))), (5, .int (iI (b + 1)))]) rfl ?_
                    exact ih40 (acc + 1) (b + 1) (by omega) (by omega) (by first | (rw [hA, sI_cons (by omega), show ri f r a b = 1 from if_pos (by omega)]; omega) | (rw [hA, sI_cons (by omega), show ri f r a b = 0 from if_neg (by omega)]; omega))
                  · skip
                    refine g_aload_n C dX5_segmentAtRank_70 0 rfl rfl (q := 71) rfl ?_
                    refine g_iload_n C dX5_segmentAtRank_71 1 rfl rfl (q := 72) rfl ?_
                    refine g_iload C dX5_segmentAtRank_72 5 rfl (q := 74) rfl ?_
                    refine g_iconst C dX5_segmentAtRank_74 (q := 75) rfl ?_
                    refine g_cV_i C (As := [.int (iI r), .int (iI b), .int (iI 0)]) (c_X5_at_0 l E _ r b  (by omega) (by omega)) ml_X5_75 mf_X5_at (o := 13) (ci := 5) rfl rfl rfl rfl ⟨(Nat.le_of_ble_eq_true rfl), (Nat.le_of_ble_eq_true rfl)⟩ rfl rfl rfl (Nat.le_of_ble_eq_true rfl) ⟨(Nat.le_of_ble_eq_true rfl), (Nat.le_of_ble_eq_true rfl)⟩ dX5_segmentAtRank_75 (q := 78) rfl ?_
                    refine g_top (b := (σ 14) (3 + 121 * r + 2 * b)) rfl ?_
                    refine g_aload_n C dX5_segmentAtRank_78 0 rfl rfl (q := 79) rfl ?_
                    refine g_iload_n C dX5_segmentAtRank_79 1 rfl rfl (q := 80) rfl ?_
                    refine g_iload_n C dX5_segmentAtRank_80 3 rfl rfl (q := 81) rfl ?_
                    refine g_iconst C dX5_segmentAtRank_81 (q := 82) rfl ?_
                    refine g_cV_i C (As := [.int (iI r), .int (iI a), .int (iI 0)]) (c_X5_at_0 l E _ r a  (by omega) (by omega)) ml_X5_75 mf_X5_at (o := 13) (ci := 5) rfl rfl rfl rfl ⟨(Nat.le_of_ble_eq_true rfl), (Nat.le_of_ble_eq_true rfl)⟩ rfl rfl rfl (Nat.le_of_ble_eq_true rfl) ⟨(Nat.le_of_ble_eq_true rfl), (Nat.le_of_ble_eq_true rfl)⟩ dX5_segmentAtRank_82 (q := 85) rfl ?_
                    refine g_top (b := (σ 14) (3 + 121 * r + 2 * a)) rfl ?_
                    refine g_icmp_ne C dX5_segmentAtRank_85 (by omega) (q2 := 98) rfl (q := 88) rfl (fun hb7 => ?_) (fun hb7 => ?_)
                    · skip
                      refine g_iconst C dX5_segmentAtRank_98 (q := 99) rfl ?_
                      refine g_iadd C dX5_segmentAtRank_99 (q := 100) rfl ?_
                      refine g_istore C (L' := [(4, .int (iI (acc + 0))), (0, .ref (ea E 13)), (1, .int (iI r)), (2, .int (iI k)), (3, .int (iI a)), (5, .int (iI b))]) dX5_segmentAtRank_100 (by decide) rfl (q := 102) rfl ?_
                      refine g_iinc C (L' := [(5, .int (iI (b + 1))), (4, .int (iI (acc + 0))), (0, .ref (ea E 13)), (1, .int (iI r)), (2, .int (iI k)), (3, .int (iI a))]) dX5_segmentAtRank_102 5 rfl (by decide) rfl (q := 105) rfl ?_
                      refine g_goto C dX5_segmentAtRank_105 (q := 40) rfl ?_
                      refine g_sub [2, 3, 4, 5, 1, 0] (L' := [(0, .ref (ea E 13)), (1, .int (iI r)), (2, .int (iI k)), (3, .int (iI a)), (4, .int (iI (acc + 0))), (5, .int (iI (b + 1)))]) rfl ?_
                      exact ih40 (acc + 0) (b + 1) (by omega) (by omega) (by first | (rw [hA, sI_cons (by omega), show ri f r a b = 1 from if_pos (by omega)]; omega) | (rw [hA, sI_cons (by omega), show ri f r a b = 0 from if_neg (by omega)]; omega))
                    · skip
                      refine g_iload C dX5_segmentAtRank_88 5 rfl (q := 90) rfl ?_
                      refine g_iload_n C dX5_segmentAtRank_90 3 rfl rfl (q := 91) rfl ?_
                      refine g_icmp_ge C dX5_segmentAtRank_91 (by omega) (q2 := 98) rfl (q := 94) rfl (fun hb8 => ?_) (fun hb8 => ?_)
                      · skip
                        refine g_iconst C dX5_segmentAtRank_98 (q := 99) rfl ?_
                        refine g_iadd C dX5_segmentAtRank_99 (q := 100) rfl ?_
                        refine g_istore C (L' := [(4, .int (iI (acc + 0))), (0, .ref (ea E 13)), (1, .int (iI r)), (2, .int (iI k)), (3, .int (iI a)), (5, .int (iI b))]) dX5_segmentAtRank_100 (by decide) rfl (q := 102) rfl ?_
                        refine g_iinc C (L' := [(5, .int (iI (b + 1))), (4, .int (iI (acc + 0))), (0, .ref (ea E 13)), (1, .int (iI r)), (2, .int (iI k)), (3, .int (iI a))]) dX5_segmentAtRank_102 5 rfl (by decide) rfl (q := 105) rfl ?_
                        refine g_goto C dX5_segmentAtRank_105 (q := 40) rfl ?_
                        refine g_sub [2, 3, 4, 5, 1, 0] (L' := [(0, .ref (ea E 13)), (1, .int (iI r)), (2, .int (iI k)), (3, .int (iI a)), (4, .int (iI (acc + 0))), (5, .int (iI (b + 1)))]) rfl ?_
                        exact ih40 (acc + 0) (b + 1) (by omega) (by omega) (by first | (rw [hA, sI_cons (by omega), show ri f r a b = 1 from if_pos (by omega)]; omega) | (rw [hA, sI_cons (by omega), show ri f r a b = 0 from if_neg (by omega)]; omega))
                      · skip
                        refine g_iconst C dX5_segmentAtRank_94 (q := 95) rfl ?_
                        refine g_goto C dX5_segmentAtRank_95 (q := 99) rfl ?_
                        refine g_iadd C dX5_segmentAtRank_99 (q := 100) rfl ?_
                        refine g_istore C (L' := [(4, .int (iI (acc + 1))), (0, .ref (ea E 13)), (1, .int (iI r)), (2, .int (iI k)), (3, .int (iI a)), (5, .int (iI b))]) dX5_segmentAtRank_100 (by decide) rfl (q := 102) rfl ?_
                        refine g_iinc C (L' := [(5, .int (iI (b + 1))), (4, .int (iI (acc + 1))), (0, .ref (ea E 13)), (1, .int (iI r)), (2, .int (iI k)), (3, .int (iI a))]) dX5_segmentAtRank_102 5 rfl (by decide) rfl (q := 105) rfl ?_
                        refine g_goto C dX5_segmentAtRank_105 (q := 40) rfl ?_
                        refine g_sub [2, 3, 4, 5, 1, 0] (L' := [(0, .ref (ea E 13)), (1, .int (iI r)), (2, .int (iI k)), (3, .int (iI a)), (4, .int (iI (acc + 1))), (5, .int (iI (b + 1)))]) rfl ?_
                        exact ih40 (acc + 1) (b + 1) (by omega) (by omega) (by first | (rw [hA, sI_cons (by omega), show ri f r a b = 1 from if_pos (by omega)]; omega) | (rw [hA, sI_cons (by omega), show ri f r a b = 0 from if_neg (by omega)]; omega))
            exact lp40 _ 0 0 (Nat.lt_succ_self _) (by omega) (by unfold rk; omega)
    exact lp18 _ 0 (Nat.lt_succ_self _) (by omega) (by rfl)
set_option maxRecDepth 100000 in
set_option maxHeartbeats 4000000 in
theorem c_X5_segmentAtRank_n (l : Launch) (E : EV) (σ : SS) (r k : Int) (f : Int → Int) (hM : MS f (σ 14)) (hr_r : -2147483648 ≤ r ∧ r ≤ 2147483647) (hr_k : -2147483648 ≤ k ∧ k ≤ 2147483647) (hF1 : fR r = 0) (hne : fI (rkP f r k) 0 (f (240 + r)) = -1) : Ki l yX5_segmentAtRank (cw yX5_segmentAtRank cX5_segmentAtRank 6 (some .int)) rm_X5_segmentAtRank E [.ref (ea E 13), .int (iI r), .int (iI k)] σ 0 (st σ 13 (pt (σ 13) 0 2)) := by
  refine Ki_of (rm := rm_X5_segmentAtRank) (mL := 6) (b := cX5_segmentAtRank) RX5 rfl (by decide +kernel) rfl rfl [(0, .ref (ea E 13)), (1, .int (iI r)), (2, .int (iI k))] rfl (Nat.le_of_ble_eq_true rfl) (fun p_ e_ s_ m_ a_ b_ h_ c_ Q A C hret => ?_)
  have hB := bR_iff r
  have hB1 := bR_01 r
  have hG1 := fR_0 hF1
  have hm_r := (hM.2.1 r (by omega)).1
  have hn_r := (hM.1 r (by omega)).1
  refine g_aload_n C dX5_segmentAtRank_0 0 rfl rfl (q := 1) rfl ?_
  refine g_iload_n C dX5_segmentAtRank_1 1 rfl rfl (q := 2) rfl ?_
  refine g_cS_i C (As := [.int (iI r)]) (c_X5_isReel l E _ r  (by omega)) ml_X5_58 mf_X5_isReel rfl rfl ⟨(Nat.le_of_ble_eq_true rfl), (Nat.le_of_ble_eq_true rfl)⟩ rfl rfl rfl (Nat.le_of_ble_eq_true rfl) ⟨(Nat.le_of_ble_eq_true rfl), (Nat.le_of_ble_eq_true rfl)⟩ dX5_segmentAtRank_2 (q := 5) rfl ?_
  refine g_if_eq C dX5_segmentAtRank_5 (by omega) (q2 := 12) rfl (q := 8) rfl (fun hb1 => ?_) (fun hb1 => ?_)
  · skip
    exfalso; omega
  · skip
    refine g_iconst C dX5_segmentAtRank_8 (q := 9) rfl ?_
    refine g_goto C dX5_segmentAtRank_9 (q := 13) rfl ?_
    refine gp_X5_38 C dX5_segmentAtRank_13 (q := 16) rfl ?_
    refine g_iconst C dX5_segmentAtRank_16 (q := 17) rfl ?_
    refine g_istore_n C (L' := [(3, .int (iI 0)), (0, .ref (ea E 13)), (1, .int (iI r)), (2, .int (iI k))]) dX5_segmentAtRank_17 rfl (by decide) rfl (q := 18) rfl ?_
    refine g_sub [1, 2, 3, 0] (L' := [(0, .ref (ea E 13)), (1, .int (iI r)), (2, .int (iI k)), (3, .int (iI 0))]) rfl ?_
    have lp18 : ∀ (k9 : Nat) (a : Int), (f (240 + r) - a).toNat < k9 → (0 ≤ a ∧ a ≤ f (240 + r)) → (fI (rkP f r k) 0 (f (240 + r)) = fI (rkP f r k) a (f (240 + r))) → GG p_ l e_ rm_X5_segmentAtRank s_ m_ a_ b_ h_ c_ Q E A 6 (st σ 13 (pt (σ 13) 0 0)) 0 0 18 [(0, .ref (ea E 13)), (1, .int (iI r)), (2, .int (iI k)), (3, .int (iI a))] [] := by
      intro k9
      induction k9 with
      | zero => intro a hk9; omega
      | succ k9 ih18 =>
        intro a hk9 ha hR
        refine g_aload_n C dX5_segmentAtRank_18 0 rfl rfl (q := 19) rfl ?_
        refine gf_X5_38 C dX5_segmentAtRank_19 (q := 22) rfl ?_
        refine g_top (b := 0) rfl ?_
        refine g_if_ne C dX5_segmentAtRank_22 (by omega) (q2 := 122) rfl (q := 25) rfl (fun hb2 => ?_) (fun hb2 => ?_)
        · skip
          exfalso; omega
        · skip
          refine g_iload_n C dX5_segmentAtRank_25 3 rfl rfl (q := 26) rfl ?_
          refine g_aload_n C dX5_segmentAtRank_26 0 rfl rfl (q := 27) rfl ?_
          refine g_iload_n C dX5_segmentAtRank_27 1 rfl rfl (q := 28) rfl ?_
          refine g_cV_i C (As := [.int (iI r)]) (c_X5_many l E _ r  (by omega)) ml_X5_62 mf_X5_many (o := 13) (ci := 5) rfl rfl rfl rfl ⟨(Nat.le_of_ble_eq_true rfl), (Nat.le_of_ble_eq_true rfl)⟩ rfl rfl rfl (Nat.le_of_ble_eq_true rfl) ⟨(Nat.le_of_ble_eq_true rfl), (Nat.le_of_ble_eq_true rfl)⟩ dX5_segmentAtRank_28 (q := 31) rfl ?_
          refine g_top (b := (σ 14) (2 + 121 * r)) rfl ?_
          refine g_icmp_ge C dX5_segmentAtRank_31 (by omega) (q2 := 122) rfl (q := 34) rfl (fun hb3 => ?_) (fun hb3 => ?_)
          · skip
            refine g_aload_n C dX5_segmentAtRank_122 0 rfl rfl (q := 123) rfl ?_
            refine gf_X5_38 C dX5_segmentAtRank_123 (q := 126) rfl ?_
            refine g_top (b := 0) rfl ?_
            refine g_if_le C dX5_segmentAtRank_126 (by omega) (q2 := 133) rfl (q := 129) rfl (fun hb4 => ?_) (fun hb4 => ?_)
            · skip
              refine g_aload_n C dX5_segmentAtRank_133 0 rfl rfl (q := 134) rfl ?_
              refine g_iconst C dX5_segmentAtRank_134 (q := 135) rfl ?_
              refine g_cV_i C (As := [.int (iI 2)]) (c_X5_fails l E _ 2) ml_X5_51 mf_X5_fails (o := 13) (ci := 5) rfl rfl rfl rfl ⟨(Nat.le_of_ble_eq_true rfl), (Nat.le_of_ble_eq_true rfl)⟩ rfl rfl rfl (Nat.le_of_ble_eq_true rfl) ⟨(Nat.le_of_ble_eq_true rfl), (Nat.le_of_ble_eq_true rfl)⟩ dX5_segmentAtRank_135 (q := 138) rfl ?_
              refine g_st (σ2 := (st σ 13 (pt (σ 13) 0 2))) ((congrArg (st (st σ 13 (pt (σ 13) 0 0)) 13) (pt_pt _ _ _ _)).trans (st_st _ _ _ _)) ?_
              exact hret _ _ _ dX5_segmentAtRank_138 rfl
            · skip
              exfalso; omega
          · skip
            have hs1 := (hM.2.1 r hG1).2 a (by omega)
            have hw1 := (hM.1 r hG1).2 a (by omega)
            have hrr := rk_rg hM.1 hG1 a
            refine g_iconst C dX5_segmentAtRank_34 (q := 35) rfl ?_
            refine g_istore C (L' := [(4, .int (iI 0)), (0, .ref (ea E 13)), (1, .int (iI r)), (2, .int (iI k)), (3, .int (iI a))]) dX5_segmentAtRank_35 (by decide) rfl (q := 37) rfl ?_
            refine g_iconst C dX5_segmentAtRank_37 (q := 38) rfl ?_
            refine g_istore C (L' := [(5, .int (iI 0)), (4, .int (iI 0)), (0, .ref (ea E 13)), (1, .int (iI r)), (2, .int (iI k)), (3, .int (iI a))]) dX5_segmentAtRank_38 (by decide) rfl (q := 40) rfl ?_
            refine g_sub [2, 3, 4, 5, 1, 0] (L' := [(0, .ref (ea E 13)), (1, .int (iI r)), (2, .int (iI k)), (3, .int (iI a)), (4, .int (iI 0)), (5, .int (iI 0))]) rfl ?_
            have lp40 : ∀ (k9 : Nat) (acc : Int) (b : Int), (f (240 + r) - b).toNat < k9 → (0 ≤ b ∧ b ≤ f (240 + r)) → (rk f r a = acc + sI (ri f r a) b (f (240 + r))) → GG p_ l e_ rm_X5_segmentAtRank s_ m_ a_ b_ h_ c_ Q E A 6 (st σ 13 (pt (σ 13) 0 0)) 0 0 40 [(0, .ref (ea E 13)), (1, .int (iI r)), (2, .int (iI k)), (3, .int (iI a)), (4, .int (iI acc)), (5, .int (iI b))] [] := by
              intro k9
              induction k9 with
              | zero => intro acc b hk9; omega
              | succ k9 ih40 =>
                intro acc b hk9 hb hA
                refine g_iload C dX5_segmentAtRank_40 5 rfl (q := 42) rfl ?_
                refine g_aload_n C dX5_segmentAtRank_42 0 rfl rfl (q := 43) rfl ?_
                refine g_iload_n C dX5_segmentAtRank_43 1 rfl rfl (q := 44) rfl ?_
                refine g_cV_i C (As := [.int (iI r)]) (c_X5_many l E _ r  (by omega)) ml_X5_62 mf_X5_many (o := 13) (ci := 5) rfl rfl rfl rfl ⟨(Nat.le_of_ble_eq_true rfl), (Nat.le_of_ble_eq_true rfl)⟩ rfl rfl rfl (Nat.le_of_ble_eq_true rfl) ⟨(Nat.le_of_ble_eq_true rfl), (Nat.le_of_ble_eq_true rfl)⟩ dX5_segmentAtRank_44 (q := 47) rfl ?_
                refine g_top (b := (σ 14) (2 + 121 * r)) rfl ?_
                refine g_icmp_ge C dX5_segmentAtRank_47 (by omega) (q2 := 108) rfl (q := 50) rfl (fun hb5 => ?_) (fun hb5 => ?_)
                · skip
                  have hA2 : rk f r a = acc := by rw [hA, sI_nil (by omega)]; omega
                  refine g_iload C dX5_segmentAtRank_108 4 rfl (q := 110) rfl ?_
                  refine g_iload_n C dX5_segmentAtRank_110 2 rfl rfl (q := 111) rfl ?_
                  refine g_icmp_ne C dX5_segmentAtRank_111 (by omega) (q2 := 116) rfl (q := 114) rfl (fun hb6 => ?_) (fun hb6 => ?_)
                  · skip
                    refine g_iinc C (L' := [(3, .int (iI (a + 1))), (0, .ref (ea E 13)), (1, .int (iI r)), (2, .int (iI k)), (4, .int (iI acc)), (5, .int (iI b))]) dX5_segmentAtRank_116 3 rfl (by decide) rfl (q := 119) rfl ?_
                    refine g_goto C dX5_segmentAtRank_119 (q := 18) rfl ?_
                    refine g_sub [1, 2, 3, 0] (L' := [(0, .ref (ea E 13)), (1, .int (iI r)), (2, .int (iI k)), (3, .int (iI (a + 1)))]) rfl ?_
                    exact ih18 (a + 1) (by omega) (by omega) (by rw [hR, fI_no]; unfold rkP; simp only [decide_eq_true_eq]; omega)
                  · skip
                    exfalso; rw [hR, fI_yes (by omega) (by unfold rkP; simp only [decide_eq_true_eq]; omega)] at hne; omega
                · skip
                  have hs2 := (hM.2.1 r hG1).2 b (by omega)
                  have hw2 := (hM.1 r hG1).2 b (by omega)
                  refine g_iload C dX5_segmentAtRank_50 4 rfl (q := 52) rfl ?_
                  refine g_aload_n C dX5_segmentAtRank_52 0 rfl rfl (q := 53) rfl ?_
                  refine g_iload_n C dX5_segmentAtRank_53 1 rfl rfl (q := 54) rfl ?_
                  refine g_iload C dX5_segmentAtRank_54 5 rfl (q := 56) rfl ?_
                  refine g_iconst C dX5_segmentAtRank_56 (q := 57) rfl ?_
                  refine g_cV_i C (As := [.int (iI r), .int (iI b), .int (iI 0)]) (c_X5_at_0 l E _ r b  (by omega) (by omega)) ml_X5_75 mf_X5_at (o := 13) (ci := 5) rfl rfl rfl rfl ⟨(Nat.le_of_ble_eq_true rfl), (Nat.le_of_ble_eq_true rfl)⟩ rfl rfl rfl (Nat.le_of_ble_eq_true rfl) ⟨(Nat.le_of_ble_eq_true rfl), (Nat.le_of_ble_eq_true rfl)⟩ dX5_segmentAtRank_57 (q := 60) rfl ?_
                  refine g_top (b := (σ 14) (3 + 121 * r + 2 * b)) rfl ?_
                  refine g_aload_n C dX5_segmentAtRank_60 0 rfl rfl (q := 61) rfl ?_
                  refine g_iload_n C dX5_segmentAtRank_61 1 rfl rfl (q := 62) rfl ?_
                  refine g_iload_n C dX5_segmentAtRank_62 3 rfl rfl (q := 63) rfl ?_
                  refine g_iconst C dX5_segmentAtRank_63 (q := 64) rfl ?_
                  refine g_cV_i C (As := [.int (iI r), .int (iI a), .int (iI 0)]) (c_X5_at_0 l E _ r a  (by omega) (by omega)) ml_X5_75 mf_X5_at (o := 13) (ci := 5) rfl rfl rfl rfl ⟨(Nat.le_of_ble_eq_true rfl), (Nat.le_of_ble_eq_true rfl)⟩ rfl rfl rfl (Nat.le_of_ble_eq_true rfl) ⟨(Nat.le_of_ble_eq_true rfl), (Nat.le_of_ble_eq_true rfl)⟩ dX5_segmentAtRank_64 (q := 67) rfl ?_
                  refine g_top (b := (σ 14) (3 + 121 * r + 2 * a)) rfl ?_
                  refine g_icmp_gt C dX5_segmentAtRank_67 (by omega) (q2 := 94) rfl (q := 70) rfl (fun hb7 => ?_) (fun hb7 => ?_)
                  · skip
                    refine g_iconst C dX5_segmentAtRank_94 (q := 95) rfl ?_
                    refine g_goto C dX5_segmentAtRank_95 (q := 99) rfl ?_
                    refine g_iadd C dX5_segmentAtRank_99 (q := 100) rfl ?_
                    refine g_istore C (L' := [(4, .int (iI (acc + 1))), (0, .ref (ea E 13)), (1, .int (iI r)), (2, .int (iI k)), (3, .int (iI a)), (5, .int (iI b))]) dX5_segmentAtRank_100 (by decide) rfl (q := 102) rfl ?_
                    refine g_iinc C (L' := [(5, .int (iI (b + 1))), (4, .int (iI (acc + 1))), (0, .ref (ea E 13)), (1, .int (iI r)), (2, .int (iI k)), (3, .int (iI a))]) dX5_segmentAtRank_102 5 rfl (by decide) rfl (q := 105) rfl ?_
                    refine g_goto C dX5_segmentAtRank_105 (q := 40) rfl ?_
                    refine g_sub [2, 3, 4, 5, 1, 0] (L' := [(0, .ref (ea E 13)), (1, .int (iI r)), (2, .int (iI k)), (3, .int (iI a)), (4, .int (iI (acc + 1))), (5, .int (iI (b + 1)))]) rfl ?_
                    exact ih40 (acc + 1) (b + 1) (by omega) (by omega) (by first | (rw [hA, sI_cons (by omega), show ri f r a b = 1 from if_pos (by omega)]; omega) | (rw [hA, sI_cons (by omega), show ri f r a b = 0 from if_neg (by omega)]; omega))
                  · skip
                    refine g_aload_n C dX5_segmentAtRank_70 0 rfl rfl (q := 71) rfl ?_
                    refine g_iload_n C dX5_segmentAtRank_71 1 rfl rfl (q := 72) rfl ?_
                    refine g_iload C dX5_segmentAtRank_72 5 rfl (q := 74) rfl ?_
                    refine g_iconst C dX5_segmentAtRank_74 (q := 75) rfl ?_
                    refine g_cV_i C (As := [.int (iI r), .int (iI b), .int (iI 0)]) (c_X5_at_0 l E _ r b  (by omega) (by omega)) ml_X5_75 mf_X5_at (o := 13) (ci := 5) rfl rfl rfl rfl ⟨(Nat.le_of_ble_eq_true rfl), (Nat.le_of_ble_eq_true rfl)⟩ rfl rfl rfl (Nat.le_of_ble_eq_true rfl) ⟨(Nat.le_of_ble_eq_true rfl), (Nat.le_of_ble_eq_true rfl)⟩ dX5_segmentAtRank_75 (q := 78) rfl ?_
                    refine g_top (b := (σ 14) (3 + 121 * r + 2 * b)) rfl ?_
                    refine g_aload_n C dX5_segmentAtRank_78 0 rfl rfl (q := 79) rfl ?_
                    refine g_iload_n C dX5_segmentAtRank_79 1 rfl rfl (q := 80) rfl ?_
                    refine g_iload_n C dX5_segmentAtRank_80 3 rfl rfl (q := 81) rfl ?_
                    refine g_iconst C dX5_segmentAtRank_81 (q := 82) rfl ?_
                    refine g_cV_i C (As := [.int (iI r), .int (iI a), .int (iI 0)]) (c_X5_at_0 l E _ r a  (by omega) (by omega)) ml_X5_75 mf_X5_at (o := 13) (ci := 5) rfl rfl rfl rfl ⟨(Nat.le_of_ble_eq_true rfl), (Nat.le_of_ble_eq_true rfl)⟩ rfl rfl rfl (Nat.le_of_ble_eq_true rfl) ⟨(Nat.le_of_ble_eq_true rfl), (Nat.le_of_ble_eq_true rfl)⟩ dX5_segmentAtRank_82 (q := 85) rfl ?_
                    refine g_top (b := (σ 14) (3 + 121 * r + 2 * a)) rfl ?_
                    refine g_icmp_ne C dX5_segmentAtRank_85 (by omega) (q2 := 98) rfl (q := 88) rfl (fun hb8 => ?_) (fun hb8 => ?_)
                    · skip
                      refine g_iconst C dX5_segmentAtRank_98 (q := 99) rfl ?_
                      refine g_iadd C dX5_segmentAtRank_99 (q := 100) rfl ?_
                      refine g_istore C (L' := [(4, .int (iI (acc + 0))), (0, .ref (ea E 13)), (1, .int (iI r)), (2, .int (iI k)), (3, .int (iI a)), (5, .int (iI b))]) dX5_segmentAtRank_100 (by decide) rfl (q := 102) rfl ?_
                      refine g_iinc C (L' := [(5, .int (iI (b + 1))), (4, .int (iI (acc + 0))), (0, .ref (ea E 13)), (1, .int (iI r)), (2, .int (iI k)), (3, .int (iI a))]) dX5_segmentAtRank_102 5 rfl (by decide) rfl (q := 105) rfl ?_
                      refine g_goto C dX5_segmentAtRank_105 (q := 40) rfl ?_
                      refine g_sub [2, 3, 4, 5, 1, 0] (L' := [(0, .ref (ea E 13)), (1, .int (iI r)), (2, .int (iI k)), (3, .int (iI a)), (4, .int (iI (acc + 0))), (5, .int (iI (b + 1)))]) rfl ?_
                      exact ih40 (acc + 0) (b + 1) (by omega) (by omega) (by first | (rw [hA, sI_cons (by omega), show ri f r a b = 1 from if_pos (by omega)]; omega) | (rw [hA, sI_cons (by omega), show ri f r a b = 0 from if_neg (by omega)]; omega))
                    · skip
                      refine g_iload C dX5_segmentAtRank_88 5 rfl (q := 90) rfl ?_
                      refine g_iload_n C dX5_segmentAtRank_90 3 rfl rfl (q := 91) rfl ?_
                      refine g_icmp_ge C dX5_segmentAtRank_91 (by omega) (q2 := 98) rfl (q := 94) rfl (fun hb9 => ?_) (fun hb9 => ?_)
                      · skip
                        refine g_iconst C dX5_segmentAtRank_98 (q := 99) rfl ?_
                        refine g_iadd C dX5_segmentAtRank_99 (q := 100) rfl ?_
                        refine g_istore C (L' := [(4, .int (iI (acc + 0))), (0, .ref (ea E 13)), (1, .int (iI r)), (2, .int (iI k)), (3, .int (iI a)), (5, .int (iI b))]) dX5_segmentAtRank_100 (by decide) rfl (q := 102) rfl ?_
                        refine g_iinc C (L' := [(5, .int (iI (b + 1))), (4, .int (iI (acc + 0))), (0, .ref (ea E 13)), (1, .int (iI r)), (2, .int (iI k)), (3, .int (iI a))]) dX5_segmentAtRank_102 5 rfl (by decide) rfl (q := 105) rfl ?_
                        refine g_goto C dX5_segmentAtRank_105 (q := 40) rfl ?_
                        refine g_sub [2, 3, 4, 5, 1, 0] (L' := [(0, .ref (ea E 13)), (1, .int (iI r)), (2, .int (iI k)), (3, .int (iI a)), (4, .int (iI (acc + 0))), (5, .int (iI (b + 1)))]) rfl ?_
                        exact ih40 (acc + 0) (b + 1) (by omega) (by omega) (by first | (rw [hA, sI_cons (by omega), show ri f r a b = 1 from if_pos (by omega)]; omega) | (rw [hA, sI_cons (by omega), show ri f r a b = 0 from if_neg (by omega)]; omega))
                      · skip
                        refine g_iconst C dX5_segmentAtRank_94 (q := 95) rfl ?_
                        refine g_goto C dX5_segmentAtRank_95 (q := 99) rfl ?_
                        refine g_iadd C dX5_segmentAtRank_99 (q := 100) rfl ?_
                        refine g_istore C (L' := [(4, .int (iI (acc + 1))), (0, .ref (ea E 13)), (1, .int (iI r)), (2, .int (iI k)), (3, .int (iI a)), (5, .int (iI b))]) dX5_segmentAtRank_100 (by decide) rfl (q := 102) rfl ?_
                        refine g_iinc C (L' := [(5, .int (iI (b + 1))), (4, .int (iI (acc + 1))), (0, .ref (ea E 13)), (1, .int (iI r)), (2, .int (iI k)), (3, .int (iI a))]) dX5_segmentAtRank_102 5 rfl (by decide) rfl (q := 105) rfl ?_
                        refine g_goto C dX5_segmentAtRank_105 (q := 40) rfl ?_
                        refine g_sub [2, 3, 4, 5, 1, 0] (L' := [(0, .ref (ea E 13)), (1, .int (iI r)), (2, .int (iI k)), (3, .int (iI a)), (4, .int (iI (acc + 1))), (5, .int (iI (b + 1)))]) rfl ?_
                        exact ih40 (acc + 1) (b + 1) (by omega) (by omega) (by first | (rw [hA, sI_cons (by omega), show ri f r a b = 1 from if_pos (by omega)]; omega) | (rw [hA, sI_cons (by omega), show ri f r a b = 0 from if_neg (by omega)]; omega))
            exact lp40 _ 0 0 (Nat.lt_succ_self _) (by omega) (by unfold rk; omega)
    exact lp18 _ 0 (Nat.lt_succ_self _) (by omega) (by rfl)
set_option maxRecDepth 100000 in
set_option maxHeartbeats 4000000 in
theorem c_X5_segmentAtRank_11 (l : Launch) (E : EV) (σ : SS) (r k : Int) (f : Int → Int) (hM : MS f (σ 14)) (hr_r : -2147483648 ≤ r ∧ r ≤ 2147483647) (hr_k : -2147483648 ≤ k ∧ k ≤ 2147483647) (hF1 : fR r = 1) : Ki l yX5_segmentAtRank (cw yX5_segmentAtRank cX5_segmentAtRank 6 (some .int)) rm_X5_segmentAtRank E [.ref (ea E 13), .int (iI r), .int (iI k)] σ 0 (st σ 13 (pt (σ 13) 0 1)) := by
  refine Ki_of (rm := rm_X5_segmentAtRank) (mL := 6) (b := cX5_segmentAtRank) RX5 rfl (by decide +kernel) rfl rfl [(0, .ref (ea E 13)), (1, .int (iI r)), (2, .int (iI k))] rfl (Nat.le_of_ble_eq_true rfl) (fun p_ e_ s_ m_ a_ b_ h_ c_ Q A C hret => ?_)
  have hB := bR_iff r
  have hB1 := bR_01 r
  have hnr : ¬ (0 ≤ r ∧ r < 4) := by intro h9; unfold fR at hF1; rw [if_pos h9] at hF1; omega
  refine g_aload_n C dX5_segmentAtRank_0 0 rfl rfl (q := 1) rfl ?_
  refine g_iload_n C dX5_segmentAtRank_1 1 rfl rfl (q := 2) rfl ?_
  refine g_cS_i C (As := [.int (iI r)]) (c_X5_isReel l E _ r  (by omega)) ml_X5_58 mf_X5_isReel rfl rfl ⟨(Nat.le_of_ble_eq_true rfl), (Nat.le_of_ble_eq_true rfl)⟩ rfl rfl rfl (Nat.le_of_ble_eq_true rfl) ⟨(Nat.le_of_ble_eq_true rfl), (Nat.le_of_ble_eq_true rfl)⟩ dX5_segmentAtRank_2 (q := 5) rfl ?_
  refine g_if_eq C dX5_segmentAtRank_5 (by omega) (q2 := 12) rfl (q := 8) rfl (fun hb1 => ?_) (fun hb1 => ?_)
  · skip
    refine g_iconst C dX5_segmentAtRank_12 (q := 13) rfl ?_
    refine gp_X5_38 C dX5_segmentAtRank_13 (q := 16) rfl ?_
    refine g_iconst C dX5_segmentAtRank_16 (q := 17) rfl ?_
    refine g_istore_n C (L' := [(3, .int (iI 0)), (0, .ref (ea E 13)), (1, .int (iI r)), (2, .int (iI k))]) dX5_segmentAtRank_17 rfl (by decide) rfl (q := 18) rfl ?_
    refine g_aload_n C dX5_segmentAtRank_18 1 rfl rfl (q := 19) rfl ?_
    refine gf_X5_38 C dX5_segmentAtRank_19 (q := 22) rfl ?_
    refine g_top (b := 1) rfl ?_
    refine g_if_ne C dX5_segmentAtRank_22 (by omega) (q2 := 122) rfl (q := 25) rfl (fun hb2 => ?_) (fun hb2 => ?_)
    · skip
      refine g_aload_n C dX5_segmentAtRank_122 1 rfl rfl (q := 123) rfl ?_
      refine gf_X5_38 C dX5_segmentAtRank_123 (q := 126) rfl ?_
      refine g_top (b := 1) rfl ?_
      refine g_if_le C dX5_segmentAtRank_126 (by omega) (q2 := 133) rfl (q := 129) rfl (fun hb3 => ?_) (fun hb3 => ?_)
      · skip
        exfalso; omega
      · skip
        refine g_iconst C dX5_segmentAtRank_129 (q := 130) rfl ?_
        refine g_goto C dX5_segmentAtRank_130 (q := 138) rfl ?_
        exact hret _ _ _ dX5_segmentAtRank_138 rfl
    · skip
      exfalso; omega
  · skip
    exfalso; omega
