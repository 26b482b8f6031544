abbrev rm_X5_here : Room := { frames := 0, cells := 0, slots := 0, locals := 0 }
set_option maxRecDepth 100000 in
set_option maxHeartbeats 4000000 in
theorem c_X5_here_0 (l : Launch) (E : EV) (σ : SS) (hT : TW (σ 18) (σ 13 16)) (ha : 0 ≤ (σ 13 15) ∧ (σ 13 15) ≤ 1000) : Ki l yX5_here (cw yX5_here cX5_here 2 (some .int)) rm_X5_here E [.ref (ea E 13), .int (iI 0)] σ (hr (σ 18) (σ 13 16) (σ 13 15)) σ := by
  refine Ki_of (rm := rm_X5_here) (mL := 2) (b := cX5_here) RX5 rfl (by decide +kernel) rfl rfl [(0, .ref (ea E 13)), (1, .int (iI 0))] rfl (Nat.le_of_ble_eq_true rfl) (fun p_ e_ s_ m_ a_ b_ h_ c_ Q A C hret => ?_)
  have hn := hT.1
  refine g_aload_n C dX5_here_0 0 rfl rfl (q := 1) rfl ?_
  refine gf_X5_162 C dX5_here_1 (q := 4) rfl ?_
  refine g_iload_n C dX5_here_4 1 rfl rfl (q := 5) rfl ?_
  refine g_iadd C dX5_here_5 (q := 6) rfl ?_
  refine g_aload_n C dX5_here_6 0 rfl rfl (q := 7) rfl ?_
  refine gf_X5_165 C dX5_here_7 (q := 10) rfl ?_
  refine g_icmp_ge C dX5_here_10 (by omega) (q2 := 27) rfl (q := 13) rfl (fun hb1 => ?_) (fun hb1 => ?_)
  · skip
    refine g_iconst C dX5_here_27 (q := 28) rfl ?_
    exact hret _ _ _ dX5_here_28 (by unfold hr; first | (rw [if_pos (by omega)]; done) | (rw [if_pos (by omega)]; congr 1; omega) | (rw [if_neg (by omega)]))
  · skip
    refine g_aload_n C dX5_here_13 0 rfl rfl (q := 14) rfl ?_
    refine gf_X5_22 C dX5_here_14 (q := 17) rfl ?_
    refine g_aload_n C dX5_here_17 0 rfl rfl (q := 18) rfl ?_
    refine gf_X5_162 C dX5_here_18 (q := 21) rfl ?_
    refine g_iload_n C dX5_here_21 1 rfl rfl (q := 22) rfl ?_
    refine g_iadd C dX5_here_22 (q := 23) rfl ?_
    refine gl_18 C (by omega) dX5_here_23 (q := 24) rfl ?_
    refine g_goto C dX5_here_24 (q := 28) rfl ?_
    exact hret _ _ _ dX5_here_28 (by unfold hr; first | (rw [if_pos (by omega)]; done) | (rw [if_pos (by omega)]; congr 1; omega) | (rw [if_neg (by omega)]))
set_option maxRecDepth 100000 in
set_option maxHeartbeats 4000000 in
theorem c_X5_here_1 (l : Launch) (E : EV) (σ : SS) (hT : TW (σ 18) (σ 13 16)) (ha : 0 ≤ (σ 13 15) ∧ (σ 13 15) ≤ 1000) : Ki l yX5_here (cw yX5_here cX5_here 2 (some .int)) rm_X5_here E [.ref (ea E 13), .int (iI 1)] σ (hr (σ 18) (σ 13 16) ((σ 13 15) + 1)) σ := by
  refine Ki_of (rm := rm_X5_here) (mL := 2) (b := cX5_here) RX5 rfl (by decide +kernel) rfl rfl [(0, .ref (ea E 13)), (1, .int (iI 1))] rfl (Nat.le_of_ble_eq_true rfl) (fun p_ e_ s_ m_ a_ b_ h_ c_ Q A C hret => ?_)
  have hn := hT.1
  refine g_aload_n C dX5_here_0 0 rfl rfl (q := 1) rfl ?_
  refine gf_X5_162 C dX5_here_1 (q := 4) rfl ?_
  refine g_iload_n C dX5_here_4 1 rfl rfl (q := 5) rfl ?_
  refine g_iadd C dX5_here_5 (q := 6) rfl ?_
  refine g_aload_n C dX5_here_6 0 rfl rfl (q := 7) rfl ?_
  refine gf_X5_165 C dX5_here_7 (q := 10) rfl ?_
  refine g_icmp_ge C dX5_here_10 (by omega) (q2 := 27) rfl (q := 13) rfl (fun hb1 => ?_) (fun hb1 => ?_)
  · skip
    refine g_iconst C dX5_here_27 (q := 28) rfl ?_
    exact hret _ _ _ dX5_here_28 (by unfold hr; first | (rw [if_pos (by omega)]; done) | (rw [if_pos (by omega)]; congr 1; omega) | (rw [if_neg (by omega)]))
  · skip
    refine g_aload_n C dX5_here_13 0 rfl rfl (q := 14) rfl ?_
    refine gf_X5_22 C dX5_here_14 (q := 17) rfl ?_
    refine g_aload_n C dX5_here_17 0 rfl rfl (q := 18) rfl ?_
    refine gf_X5_162 C dX5_here_18 (q := 21) rfl ?_
    refine g_iload_n C dX5_here_21 1 rfl rfl (q := 22) rfl ?_
    refine g_iadd C dX5_here_22 (q := 23) rfl ?_
    refine gl_18 C (by omega) dX5_here_23 (q := 24) rfl ?_
    refine g_goto C dX5_here_24 (q := 28) rfl ?_
    exact hret _ _ _ dX5_here_28 (by unfold hr; first | (rw [if_pos (by omega)]; done) | (rw [if_pos (by omega)]; congr 1; omega) | (rw [if_neg (by omega)]))
abbrev rm_X5_says : Room := { frames := 4, cells := 0, slots := 0, locals := 111 }
set_option maxRecDepth 100000 in
set_option maxHeartbeats 4000000 in
theorem c_X5_says (l : Launch) (E : EV) (σ : SS) (w9 : Nat) (hT : TW (σ 18) (σ 13 16)) (ha : 0 ≤ (σ 13 15) ∧ (σ 13 15) ≤ 900) (hw : (σ 13 18) = 0 ∨ (σ 13 18) = 1) (hw9 : 22 ≤ w9 ∧ w9 < 38) : Kv l yX5_says (cw yX5_says cX5_says 3 none) rm_X5_says E [.ref (ea E 13), .ref (ek E w9)] σ (st σ 13 (pt (pt (σ 13) 15 ((msa (σ 18) (σ 13 16) (pl w9) (σ 13 18) (σ 13 15)).2)) 18 ((msa (σ 18) (σ 13 16) (pl w9) (σ 13 18) (σ 13 15)).1))) := by
  refine Kv_of (rm := rm_X5_says) (mL := 3) (b := cX5_says) RX5 rfl (by decide +kernel) rfl rfl [(0, .ref (ea E 13)), (1, .ref (ek E w9))] rfl (Nat.le_of_ble_eq_true rfl) (fun p_ e_ s_ m_ a_ b_ h_ c_ Q A C hret => ?_)
  have hw9s : w9 < sN := hw9.2
  have hpl := pl_len hw9s
  have hsl := sa_l hw9
  refine g_iconst C dX5_says_0 (q := 1) rfl ?_
  refine g_istore_n C (L' := [(2, .int (iI 0)), (0, .ref (ea E 13)), (1, .ref (ek E w9))]) dX5_says_1 rfl (by decide) rfl (q := 2) rfl ?_
  refine g_sub [1, 2, 0] (L' := [(0, .ref (ea E 13)), (1, .ref (ek E w9)), (2, .int (iI 0))]) rfl ?_
  have lp2 : ∀ (k9 : Nat) (i : Int) (w : Int) (a : Int), (sLi w9 - i).toNat < k9 → (0 ≤ i ∧ i ≤ sLi w9) → (w = 0 ∨ w = 1) → (0 ≤ a ∧ a ≤ σ 13 15 + i) → (msa (σ 18) (σ 13 16) (pl w9) (σ 13 18) (σ 13 15) = msa (σ 18) (σ 13 16) ((pl w9).drop i.toNat) w a) → GG p_ l e_ rm_X5_says s_ m_ a_ b_ h_ c_ Q E A 3 (st σ 13 (pt (pt (σ 13) 15 a) 18 w)) 0 0 2 [(0, .ref (ea E 13)), (1, .ref (ek E w9)), (2, .int (iI i))] [] := by
    intro k9
    induction k9 with
    | zero => intro i w a hk9; omega
    | succ k9 ih2 =>
      intro i w a hk9 hi hww haa hR
      refine g_iload_n C dX5_says_2 2 rfl rfl (q := 3) rfl ?_
      refine g_aload_n C dX5_says_3 1 rfl rfl (q := 4) rfl ?_
      refine g_cVs_i C (As := []) (by assumption) (c_length l E _ (by assumption)) ml_X5_168 mf_J0_length_8abf5 rfl rfl ⟨(Nat.le_of_ble_eq_true rfl), (Nat.le_of_ble_eq_true rfl)⟩ rfl rfl rfl (Nat.le_of_ble_eq_true rfl) ⟨(Nat.le_of_ble_eq_true rfl), (Nat.le_of_ble_eq_true rfl)⟩ dX5_says_4 (q := 7) rfl ?_
      refine g_icmp_ge C dX5_says_7 (by omega) (q2 := 66) rfl (q := 10) rfl (fun hb1 => ?_) (fun hb1 => ?_)
      · skip
        refine g_st (σ2 := (st σ 13 (pt (pt (σ 13) 15 ((msa (σ 18) (σ 13 16) (pl w9) (σ 13 18) (σ 13 15)).2)) 18 ((msa (σ 18) (σ 13 16) (pl w9) (σ 13 18) (σ 13 15)).1)))) (by first | (rw [hR, msa_nil (pl_end hw9s (by omega))]; done) | (rw [hR, show w = 1 by omega, msa_1]; done)) ?_
        exact hret _ _ dX5_says_66
      · skip
        refine g_aload_n C dX5_says_10 0 rfl rfl (q := 11) rfl ?_
        refine gf_X5_174 C dX5_says_11 (q := 14) rfl ?_
        refine g_top (b := w) rfl ?_
        refine g_if_ne C dX5_says_14 (by omega) (q2 := 66) rfl (q := 17) rfl (fun hb2 => ?_) (fun hb2 => ?_)
        · skip
          refine g_st (σ2 := (st σ 13 (pt (pt (σ 13) 15 ((msa (σ 18) (σ 13 16) (pl w9) (σ 13 18) (σ 13 15)).2)) 18 ((msa (σ 18) (σ 13 16) (pl w9) (σ 13 18) (σ 13 15)).1)))) (by first | (rw [hR, msa_nil (pl_end hw9s (by omega))]; done) | (rw [hR, show w = 1 by omega, msa_1]; done)) ?_
          exact hret _ _ dX5_says_66
        · skip
          have hvi := sa_i hw9 (i := i) (by omega)
          have hsr := sBi_rg hw9s i
          have hh := hr_sg hT (i := a) (by omega)
          refine g_aload_n C dX5_says_17 0 rfl rfl (q := 18) rfl ?_
          refine g_aload_n C dX5_says_18 0 rfl rfl (q := 19) rfl ?_
          refine g_iconst C dX5_says_19 (q := 20) rfl ?_
          refine g_cV_i C (As := [.int (iI 0)]) (c_X5_here_0 l E _   (by show TW (σ 18) (σ 13 16); assumption) (by show 0 ≤ a ∧ a ≤ 1000; omega)) ml_X5_178 mf_X5_here (o := 13) (ci := 5) rfl rfl rfl rfl ⟨(Nat.le_of_ble_eq_true rfl), (Nat.le_of_ble_eq_true rfl)⟩ rfl rfl rfl (Nat.le_of_ble_eq_true rfl) ⟨(Nat.le_of_ble_eq_true rfl), (Nat.le_of_ble_eq_true rfl)⟩ dX5_says_20 (q := 23) rfl ?_
          refine g_top (b := hr (σ 18) (σ 13 16) a) rfl ?_
          refine g_aload_n C dX5_says_23 1 rfl rfl (q := 24) rfl ?_
          refine g_iload_n C dX5_says_24 2 rfl rfl (q := 25) rfl ?_
          refine g_cVs_i C (As := [.int (iI i)]) (by assumption) (c_charAt l E _ (by assumption) (by omega)) ml_X5_181 mf_J0_charAt_5068e rfl rfl ⟨(Nat.le_of_ble_eq_true rfl), (Nat.le_of_ble_eq_true rfl)⟩ rfl rfl rfl (Nat.le_of_ble_eq_true rfl) ⟨(Nat.le_of_ble_eq_true rfl), (Nat.le_of_ble_eq_true rfl)⟩ dX5_says_25 (q := 28) rfl ?_
          refine g_icmp_eq C dX5_says_28 (by omega) (q2 := 35) rfl (q := 31) rfl (fun hb3 => ?_) (fun hb3 => ?_)
          · skip
            refine g_iconst C dX5_says_35 (q := 36) rfl ?_
            refine gp_X5_174 C (by omega) dX5_says_36 (q := 39) rfl ?_
            refine g_st (σ2 := (st σ 13 (pt (pt (σ 13) 15 a) 18 0))) ((congrArg (st (st σ 13 (pt (pt (σ 13) 15 a) 18 w)) 13) (pt_pt _ _ _ _)).trans (st_st _ _ _ _)) ?_
            refine g_aload_n C dX5_says_39 0 rfl rfl (q := 40) rfl ?_
            refine g_dup C dX5_says_40 rfl (q := 41) rfl ?_
            refine gf_X5_162 C dX5_says_41 (q := 44) rfl ?_
            refine g_top (b := a) rfl ?_
            refine g_aload_n C dX5_says_44 0 rfl rfl (q := 45) rfl ?_
            refine gf_X5_174 C dX5_says_45 (q := 48) rfl ?_
            refine g_top (b := 0) rfl ?_
            refine g_if_eq C dX5_says_48 (by omega) (q2 := 55) rfl (q := 51) rfl (fun hb4 => ?_) (fun hb4 => ?_)
            · skip
              refine g_iconst C dX5_says_55 (q := 56) rfl ?_
              refine g_iadd C dX5_says_56 (q := 57) rfl ?_
              refine gp_X5_162 C dX5_says_57 (q := 60) rfl ?_
              refine g_st (σ2 := (st σ 13 (pt (pt (σ 13) 15 (a + 1)) 18 0))) ((congrArg (st (st σ 13 (pt (pt (σ 13) 15 a) 18 0)) 13) ((pt_cm (pt (σ 13) 15 a) (k := 18) (j := 15) 0 (a + 1) (by decide)).trans (congrArg (fun g9 => pt g9 18 0) (pt_pt _ _ _ _)))).trans (st_st _ _ _ _)) ?_
              refine g_iinc C (L' := [(2, .int (iI (i + 1))), (0, .ref (ea E 13)), (1, .ref (ek E w9))]) dX5_says_60 2 rfl (by decide) rfl (q := 63) rfl ?_
              refine g_goto C dX5_says_63 (q := 2) rfl ?_
              refine g_sub [1, 2, 0] (L' := [(0, .ref (ea E 13)), (1, .ref (ek E w9)), (2, .int (iI (i + 1)))]) rfl ?_
              exact ih2 (i + 1) 0 (a + 1) (by omega) (by omega) (by omega) (by omega) (by first | (rw [hR, show w = 0 by omega, msa_eq (pl_get hw9s (by omega)) hvi.1 (by omega)]; done) | (rw [hR, show w = 0 by omega, msa_ne (pl_get hw9s (by omega)) hvi.1 (by omega), Int.add_zero]; done))
            · skip
              exfalso; omega
          · skip
            refine g_iconst C dX5_says_31 (q := 32) rfl ?_
            refine g_goto C dX5_says_32 (q := 36) rfl ?_
            refine gp_X5_174 C (by omega) dX5_says_36 (q := 39) rfl ?_
            refine g_st (σ2 := (st σ 13 (pt (pt (σ 13) 15 a) 18 1))) ((congrArg (st (st σ 13 (pt (pt (σ 13) 15 a) 18 w)) 13) (pt_pt _ _ _ _)).trans (st_st _ _ _ _)) ?_
            refine g_aload_n C dX5_says_39 0 rfl rfl (q := 40) rfl ?_
            refine g_dup C dX5_says_40 rfl (q := 41) rfl ?_
            refine gf_X5_162 C dX5_says_41 (q := 44) rfl ?_
            refine g_top (b := a) rfl ?_
            refine g_aload_n C dX5_says_44 0 rfl rfl (q := 45) rfl ?_
            refine gf_X5_174 C dX5_says_45 (q := 48) rfl ?_
            refine g_top (b := 1) rfl ?_
            refine g_if_eq C dX5_says_48 (by omega) (q2 := 55) rfl (q := 51) rfl (fun hb5 => ?_) (fun hb5 => ?_)
            · skip
              exfalso; omega
            · skip
              refine g_iconst C dX5_says_51 (q := 52) rfl ?_
              refine g_goto C dX5_says_52 (q := 56) rfl ?_
              refine g_iadd C dX5_says_56 (q := 57) rfl ?_
              refine gp_X5_162 C dX5_says_57 (q := 60) rfl ?_
              refine g_st (σ2 := (st σ 13 (pt (pt (σ 13) 15 (a + 0)) 18 1))) ((congrArg (st (st σ 13 (pt (pt (σ 13) 15 a) 18 1)) 13) ((pt_cm (pt (σ 13) 15 a) (k := 18) (j := 15) 1 (a + 0) (by decide)).trans (congrArg (fun g9 => pt g9 18 1) (pt_pt _ _ _ _)))).trans (st_st _ _ _ _)) ?_
              refine g_iinc C (L' := [(2, .int (iI (i + 1))), (0, .ref (ea E 13)), (1, .ref (ek E w9))]) dX5_says_60 2 rfl (by decide) rfl (q := 63) rfl ?_
              refine g_goto C dX5_says_63 (q := 2) rfl ?_
              refine g_sub [1, 2, 0] (L' := [(0, .ref (ea E 13)), (1, .ref (ek E w9)), (2, .int (iI (i + 1)))]) rfl ?_
              exact ih2 (i + 1) 1 (a + 0) (by omega) (by omega) (by omega) (by omega) (by first | (rw [hR, show w = 0 by omega, msa_eq (pl_get hw9s (by omega)) hvi.1 (by omega)]; done) | (rw [hR, show w = 0 by omega, msa_ne (pl_get hw9s (by omega)) hvi.1 (by omega), Int.add_zero]; done))
  exact lp2 _ 0 (σ 13 18) (σ 13 15) (Nat.lt_succ_self _) (by omega) (by omega) (by omega) (by rfl)
abbrev rm_X5_number : Room := { frames := 1, cells := 0, slots := 0, locals := 22 }
set_option maxRecDepth 100000 in
set_option maxHeartbeats 4000000 in
theorem c_X5_number_1 (l : Launch) (E : EV) (σ : SS) (k : Int) (hT : TW (σ 18) (σ 13 16)) (ha : 0 ≤ (σ 13 15) ∧ (σ 13 15) ≤ 900) (hw : (σ 13 18) = 0 ∨ (σ 13 18) = 1) (hm : 0 ≤ (σ 13 17) ∧ (σ 13 17) < 60) (hk : 1 ≤ k ∧ k ≤ 4) : Kv l yX5_number (cw yX5_number cX5_number 5 none) rm_X5_number E [.ref (ea E 13), .int (iI k), .int (iI 1)] σ (st (st σ 13 (pt (pt (σ 13) 15 (stA (σ 18) (σ 13 16) 68 (σ 13 18) (σ 13 15))) 18 (stW (σ 18) (σ 13 16) 68 (σ 13 18) (σ 13 15)))) 19 (pt (σ 19) (5 * (σ 13 17) + k) (stV (σ 18) (σ 13 16) 68 (σ 13 18) (σ 13 15)))) := by
  refine Kv_of (rm := rm_X5_number) (mL := 5) (b := cX5_number) RX5 rfl (by decide +kernel) rfl rfl [(0, .ref (ea E 13)), (1, .int (iI k)), (2, .int (iI 1))] rfl (Nat.le_of_ble_eq_true rfl) (fun p_ e_ s_ m_ a_ b_ h_ c_ Q A C hret => ?_)
  have hh := hr_sg hT (i := σ 13 15) (by omega)
  have hh1 := hr_sg hT (i := σ 13 15 + 1) (by omega)
  have hI := bI_01 (hr (σ 18) (σ 13 16) (σ 13 15)) 48 57
  have hI1 := bI_iff (hr (σ 18) (σ 13 16) (σ 13 15)) 48 57
  have hJ := bI_01 (hr (σ 18) (σ 13 16) (σ 13 15 + 1)) 48 57
  have hJ1 := bI_iff (hr (σ 18) (σ 13 16) (σ 13 15 + 1)) 48 57
  have hd := bD_iff (sg (σ 18) (σ 13 16) (σ 13 15))
  have hd1 := bD_iff (sg (σ 18) (σ 13 16) (σ 13 15 + 1))
  have hcs := st68_cs (σ 18) (σ 13 16) (σ 13 15) hw
  refine g_iconst C dX5_number_0 (q := 1) rfl ?_
  refine g_istore_n C (L' := [(3, .int (iI 0)), (0, .ref (ea E 13)), (1, .int (iI k)), (2, .int (iI 1))]) dX5_number_1 rfl (by decide) rfl (q := 2) rfl ?_
  refine g_iconst C dX5_number_2 (q := 3) rfl ?_
  refine g_istore C (L' := [(4, .int (iI 0)), (3, .int (iI 0)), (0, .ref (ea E 13)), (1, .int (iI k)), (2, .int (iI 1))]) dX5_number_3 (by decide) rfl (q := 5) rfl ?_
  refine g_aload_n C dX5_number_5 2 rfl rfl (q := 6) rfl ?_
  refine gf_X5_174 C dX5_number_6 (q := 9) rfl ?_
  refine g_if_ne C dX5_number_9 (by omega) (q2 := 63) rfl (q := 12) rfl (fun hb1 => ?_) (fun hb1 => ?_)
  · skip
    refine g_aload_n C dX5_number_63 2 rfl rfl (q := 64) rfl ?_
    refine g_aload_n C dX5_number_64 2 rfl rfl (q := 65) rfl ?_
    refine gf_X5_174 C dX5_number_65 (q := 68) rfl ?_
    refine g_if_ne C dX5_number_68 (by omega) (q2 := 76) rfl (q := 71) rfl (fun hb2 => ?_) (fun hb2 => ?_)
    · skip
      refine g_iconst C dX5_number_76 (q := 77) rfl ?_
      refine g_goto C dX5_number_77 (q := 81) rfl ?_
      refine gp_X5_174 C (by omega) dX5_number_81 (q := 84) rfl ?_
      refine g_st (σ2 := (st σ 13 (pt (pt (σ 13) 15 (σ 13 15)) 18 1))) (by first | rfl | (rw [pt_id])) ?_
      refine g_aload_n C dX5_number_84 2 rfl rfl (q := 85) rfl ?_
      refine gf_X5_25 C dX5_number_85 (q := 88) rfl ?_
      refine g_iconst C dX5_number_88 (q := 89) rfl ?_
      refine g_aload_n C dX5_number_89 2 rfl rfl (q := 90) rfl ?_
      refine gf_X5_185 C dX5_number_90 (q := 93) rfl ?_
      refine g_top (b := (σ 13 17)) rfl ?_
      refine g_imul C dX5_number_93 (q := 94) rfl ?_
      refine g_iload_n C dX5_number_94 3 rfl rfl (q := 95) rfl ?_
      refine g_iadd C dX5_number_95 (q := 96) rfl ?_
      refine g_iload_n C dX5_number_96 1 rfl rfl (q := 97) rfl ?_
      refine gs_19 C (by omega) dX5_number_97 (q := 98) rfl ?_
      refine g_st (σ2 := (st (st σ 13 (pt (pt (σ 13) 15 (σ 13 15)) 18 1)) 19 (pt (σ 19) (5 * (σ 13 17) + k) 0))) rfl ?_
      refine g_st (σ2 := (st (st σ 13 (pt (pt (σ 13) 15 (stA (σ 18) (σ 13 16) 68 (σ 13 18) (σ 13 15))) 18 (stW (σ 18) (σ 13 16) 68 (σ 13 18) (σ 13 15)))) 19 (pt (σ 19) (5 * (σ 13 17) + k) (stV (σ 18) (σ 13 16) 68 (σ 13 18) (σ 13 15))))) (by first | (exfalso; omega) | exact stN_eq (by omega) (by omega) (by omega)) ?_
      exact hret _ _ dX5_number_98
    · skip
      refine g_iload C dX5_number_71 0 rfl (q := 73) rfl ?_
      refine g_if_ne C dX5_number_73 (by omega) (q2 := 80) rfl (q := 76) rfl (fun hb3 => ?_) (fun hb3 => ?_)
      · skip
        exfalso; omega
      · skip
        refine g_iconst C dX5_number_76 (q := 77) rfl ?_
        refine g_goto C dX5_number_77 (q := 81) rfl ?_
        refine gp_X5_174 C (by omega) dX5_number_81 (q := 84) rfl ?_
        refine g_st (σ2 := (st σ 13 (pt (pt (σ 13) 15 (σ 13 15)) 18 1))) (by first | rfl | (rw [pt_id])) ?_
        refine g_aload_n C dX5_number_84 2 rfl rfl (q := 85) rfl ?_
        refine gf_X5_25 C dX5_number_85 (q := 88) rfl ?_
        refine g_iconst C dX5_number_88 (q := 89) rfl ?_
        refine g_aload_n C dX5_number_89 2 rfl rfl (q := 90) rfl ?_
        refine gf_X5_185 C dX5_number_90 (q := 93) rfl ?_
        refine g_top (b := (σ 13 17)) rfl ?_
        refine g_imul C dX5_number_93 (q := 94) rfl ?_
        refine g_iload_n C dX5_number_94 3 rfl rfl (q := 95) rfl ?_
        refine g_iadd C dX5_number_95 (q := 96) rfl ?_
        refine g_iload_n C dX5_number_96 1 rfl rfl (q := 97) rfl ?_
        refine gs_19 C (by omega) dX5_number_97 (q := 98) rfl ?_
        refine g_st (σ2 := (st (st σ 13 (pt (pt (σ 13) 15 (σ 13 15)) 18 1)) 19 (pt (σ 19) (5 * (σ 13 17) + k) 0))) rfl ?_
        refine g_st (σ2 := (st (st σ 13 (pt (pt (σ 13) 15 (stA (σ 18) (σ 13 16) 68 (σ 13 18) (σ 13 15))) 18 (stW (σ 18) (σ 13 16) 68 (σ 13 18) (σ 13 15)))) 19 (pt (σ 19) (5 * (σ 13 17) + k) (stV (σ 18) (σ 13 16) 68 (σ 13 18) (σ 13 15))))) (by first | (exfalso; omega) | exact stN_eq (by omega) (by omega) (by omega)) ?_
        exact hret _ _ dX5_number_98
  · skip
    refine g_iload C dX5_number_12 0 rfl (q := 14) rfl ?_
    refine g_iload_n C dX5_number_14 4 rfl rfl (q := 15) rfl ?_
    refine g_icmp_ge C dX5_number_15 (by omega) (q2 := 63) rfl (q := 18) rfl (fun hb4 => ?_) (fun hb4 => ?_)
    · skip
      exfalso; omega
    · skip
      refine g_aload_n C dX5_number_18 2 rfl rfl (q := 19) rfl ?_
      refine g_iconst C dX5_number_19 (q := 20) rfl ?_
      refine g_cV_i C (As := [.int (iI 0)]) (c_X5_here_0 l E _   (by assumption) (by omega)) ml_X5_178 mf_X5_here (o := 13) (ci := 5) rfl rfl rfl rfl ⟨(Nat.le_of_ble_eq_true rfl), (Nat.le_of_ble_eq_true rfl)⟩ rfl rfl rfl (Nat.le_of_ble_eq_true rfl) ⟨(Nat.le_of_ble_eq_true rfl), (Nat.le_of_ble_eq_true rfl)⟩ dX5_number_20 (q := 23) rfl ?_
      refine g_bipush C dX5_number_23 (by decide) (q := 25) rfl ?_
      refine g_bipush C dX5_number_25 (by decide) (q := 27) rfl ?_
      refine g_cS_i C (As := [.int (iI (hr (σ 18) (σ 13 16) (σ 13 15))), .int (iI 48), .int (iI 57)]) (c_X5_in l E _ (hr (σ 18) (σ 13 16) (σ 13 15)) 48 57  (by omega) (by omega) (by omega)) ml_X5_54 mf_X5_in rfl rfl ⟨(Nat.le_of_ble_eq_true rfl), (Nat.le_of_ble_eq_true rfl)⟩ rfl rfl rfl (Nat.le_of_ble_eq_true rfl) ⟨(Nat.le_of_ble_eq_true rfl), (Nat.le_of_ble_eq_true rfl)⟩ dX5_number_27 (q := 30) rfl ?_
      refine g_if_eq C dX5_number_30 (by omega) (q2 := 63) rfl (q := 33) rfl (fun hb5 => ?_) (fun hb5 => ?_)
      · skip
        refine g_aload_n C dX5_number_63 2 rfl rfl (q := 64) rfl ?_
        refine g_aload_n C dX5_number_64 2 rfl rfl (q := 65) rfl ?_
        refine gf_X5_174 C dX5_number_65 (q := 68) rfl ?_
        refine g_if_ne C dX5_number_68 (by omega) (q2 := 76) rfl (q := 71) rfl (fun hb6 => ?_) (fun hb6 => ?_)
        · skip
          refine g_iconst C dX5_number_76 (q := 77) rfl ?_
          refine g_goto C dX5_number_77 (q := 81) rfl ?_
          refine gp_X5_174 C (by omega) dX5_number_81 (q := 84) rfl ?_
          refine g_st (σ2 := (st σ 13 (pt (pt (σ 13) 15 (σ 13 15)) 18 1))) (by first | rfl | (rw [pt_id])) ?_
          refine g_aload_n C dX5_number_84 2 rfl rfl (q := 85) rfl ?_
          refine gf_X5_25 C dX5_number_85 (q := 88) rfl ?_
          refine g_iconst C dX5_number_88 (q := 89) rfl ?_
          refine g_aload_n C dX5_number_89 2 rfl rfl (q := 90) rfl ?_
          refine gf_X5_185 C dX5_number_90 (q := 93) rfl ?_
          refine g_top (b := (σ 13 17)) rfl ?_
          refine g_imul C dX5_number_93 (q := 94) rfl ?_
          refine g_iload_n C dX5_number_94 3 rfl rfl (q := 95) rfl ?_
          refine g_iadd C dX5_number_95 (q := 96) rfl ?_
          refine g_iload_n C dX5_number_96 1 rfl rfl (q := 97) rfl ?_
          refine gs_19 C (by omega) dX5_number_97 (q := 98) rfl ?_
          refine g_st (σ2 := (st (st σ 13 (pt (pt (σ 13) 15 (σ 13 15)) 18 1)) 19 (pt (σ 19) (5 * (σ 13 17) + k) 0))) rfl ?_
          refine g_st (σ2 := (st (st σ 13 (pt (pt (σ 13) 15 (stA (σ 18) (σ 13 16) 68 (σ 13 18) (σ 13 15))) 18 (stW (σ 18) (σ 13 16) 68 (σ 13 18) (σ 13 15)))) 19 (pt (σ 19) (5 * (σ 13 17) + k) (stV (σ 18) (σ 13 16) 68 (σ 13 18) (σ 13 15))))) (by first | (exfalso; omega) | exact stN_eq (by omega) (by omega) (by omega)) ?_
          exact hret _ _ dX5_number_98
        · skip
          refine g_iload C dX5_number_71 0 rfl (q := 73) rfl ?_
          refine g_if_ne C dX5_number_73 (by omega) (q2 := 80) rfl (q := 76) rfl (fun hb7 => ?_) (fun hb7 => ?_)
          · skip
            exfalso; omega
          · skip
            refine g_iconst C dX5_number_76 (q := 77) rfl ?_
            refine g_goto C dX5_number_77 (q := 81) rfl ?_
            refine gp_X5_174 C (by omega) dX5_number_81 (q := 84) rfl ?_
            refine g_st (σ2 := (st σ 13 (pt (pt (σ 13) 15 (σ 13 15)) 18 1))) (by first | rfl | (rw [pt_id])) ?_
            refine g_aload_n C dX5_number_84 2 rfl rfl (q := 85) rfl ?_
            refine gf_X5_25 C dX5_number_85 (q := 88) rfl ?_
            refine g_iconst C dX5_number_88 (q := 89) rfl ?_
            refine g_aload_n C dX5_number_89 2 rfl rfl (q := 90) rfl ?_
            refine gf_X5_185 C dX5_number_90 (q := 93) rfl ?_
            refine g_top (b := (σ 13 17)) rfl ?_
            refine g_imul C dX5_number_93 (q := 94) rfl ?_
            refine g_iload_n C dX5_number_94 3 rfl rfl (q := 95) rfl ?_
            refine g_iadd C dX5_number_95 (q := 96) rfl ?_
            refine g_iload_n C dX5_number_96 1 rfl rfl (q := 97) rfl ?_
            refine gs_19 C (by omega) dX5_number_97 (q := 98) rfl ?_
            refine g_st (σ2 := (st (st σ 13 (pt (pt (σ 13) 15 (σ 13 15)) 18 1)) 19 (pt (σ 19) (5 * (σ 13 17) + k) 0))) rfl ?_
            refine g_st (σ2 := (st (st σ 13 (pt (pt (σ 13) 15 (stA (σ 18) (σ 13 16) 68 (σ 13 18) (σ 13 15))) 18 (stW (σ 18) (σ 13 16) 68 (σ 13 18) (σ 13 15)))) 19 (pt (σ 19) (5 * (σ 13 17) + k) (stV (σ 18) (σ 13 16) 68 (σ 13 18) (σ 13 15))))) (by first | (exfalso; omega) | exact stN_eq (by omega) (by omega) (by omega)) ?_
            exact hret _ _ dX5_number_98
      · skip
        refine g_bipush C dX5_number_33 (by decide) (q := 35) rfl ?_
        refine g_iload_n C dX5_number_35 1 rfl rfl (q := 36) rfl ?_
        refine g_imul C dX5_number_36 (q := 37) rfl ?_
        refine g_top (b := 0) (by decide) ?_
        refine g_aload_n C dX5_number_37 2 rfl rfl (q := 38) rfl ?_
        refine g_iconst C dX5_number_38 (q := 39) rfl ?_
        refine g_cV_i C (As := [.int (iI 0)]) (c_X5_here_0 l E _   (by assumption) (by omega)) ml_X5_178 mf_X5_here (o := 13) (ci := 5) rfl rfl rfl rfl ⟨(Nat.le_of_ble_eq_true rfl), (Nat.le_of_ble_eq_true rfl)⟩ rfl rfl rfl (Nat.le_of_ble_eq_true rfl) ⟨(Nat.le_of_ble_eq_true rfl), (Nat.le_of_ble_eq_true rfl)⟩ dX5_number_39 (q := 42) rfl ?_
        refine g_iadd C dX5_number_42 (q := 43) rfl ?_
        refine g_bipush C dX5_number_43 (by decide) (q := 45) rfl ?_
        refine g_isub C dX5_number_45 (q := 46) rfl ?_
        refine g_istore_n C (L' := [(3, .int (iI (0 + (hr (σ 18) (σ 13 16) (σ 13 15)) - 48))), (4, .int (iI 0)), (0, .ref (ea E 13)), (1, .int (iI k)), (2, .int (iI 1))]) dX5_number_46 rfl (by decide) rfl (q := 47) rfl ?_
        refine g_aload_n C dX5_number_47 2 rfl rfl (q := 48) rfl ?_
        refine g_dup C dX5_number_48 rfl (q := 49) rfl ?_
        refine gf_X5_162 C dX5_number_49 (q := 52) rfl ?_
        refine g_iconst C dX5_number_52 (q := 53) rfl ?_
        refine g_iadd C dX5_number_53 (q := 54) rfl ?_
        refine gp_X5_162 C dX5_number_54 (q := 57) rfl ?_
        refine g_iinc C (L' := [(4, .int (iI (0 + 1))), (3, .int (iI (0 + (hr (σ 18) (σ 13 16) (σ 13 15)) - 48))), (0, .ref (ea E 13)), (1, .int (iI k)), (2, .int (iI 1))]) dX5_number_57 1 rfl (by decide) rfl (q := 60) rfl ?_
        refine g_loc (L' := [(4, .int (iI 1)), (3, .int (iI (0 + (hr (σ 18) (σ 13 16) (σ 13 15)) - 48))), (0, .ref (ea E 13)), (1, .int (iI k)), (2, .int (iI 1))]) rfl ?_
        refine g_goto C dX5_number_60 (q := 5) rfl ?_
        refine g_aload_n C dX5_number_5 2 rfl rfl (q := 6) rfl ?_
        refine gf_X5_174 C dX5_number_6 (q := 9) rfl ?_
        refine g_top (b := (σ 13 18)) rfl ?_
        refine g_if_ne C dX5_number_9 (by omega) (q2 := 63) rfl (q := 12) rfl (fun hb8 => ?_) (fun hb8 => ?_)
        · skip
          refine g_aload_n C dX5_number_63 2 rfl rfl (q := 64) rfl ?_
          refine g_aload_n C dX5_number_64 2 rfl rfl (q := 65) rfl ?_
          refine gf_X5_174 C dX5_number_65 (q := 68) rfl ?_
          refine g_top (b := (σ 13 18)) rfl ?_
          refine g_if_ne C dX5_number_68 (by omega) (q2 := 76) rfl (q := 71) rfl (fun hb9 => ?_) (fun hb9 => ?_)
          · skip
            refine g_iconst C dX5_number_76 (q := 77) rfl ?_
            refine g_goto C dX5_number_77 (q := 81) rfl ?_
            refine gp_X5_174 C (by omega) dX5_number_81 (q := 84) rfl ?_
            refine g_st (σ2 := (st σ 13 (pt (pt (σ 13) 15 ((σ 13 15) + 1)) 18 1))) (st_st _ _ _ _) ?_
            refine g_st (σ2 := (st σ 13 (pt (pt (σ 13) 15 ((σ 13 15) + 1)) 18 1))) (by first | rfl | (rw [pt_id])) ?_
            refine g_aload_n C dX5_number_84 2 rfl rfl (q := 85) rfl ?_
            refine gf_X5_25 C dX5_number_85 (q := 88) rfl ?_
            refine g_iconst C dX5_number_88 (q := 89) rfl ?_
            refine g_aload_n C dX5_number_89 2 rfl rfl (q := 90) rfl ?_
            refine gf_X5_185 C dX5_number_90 (q := 93) rfl ?_
            refine g_top (b := (σ 13 17)) rfl ?_
            refine g_imul C dX5_number_93 (q := 94) rfl ?_
            refine g_iload_n C dX5_number_94 3 rfl rfl (q := 95) rfl ?_
            refine g_iadd C dX5_number_95 (q := 96) rfl ?_
            refine g_iload_n C dX5_number_96 1 rfl rfl (q := 97) rfl ?_
            refine gs_19 C (by omega) dX5_number_97 (q := 98) rfl ?_
            refine g_st (σ2 := (st (st σ 13 (pt (pt (σ 13) 15 ((σ 13 15) + 1)) 18 1)) 19 (pt (σ 19) (5 * (σ 13 17) + k) (0 + (hr (σ 18) (σ 13 16) (σ 13 15)) - 48)))) rfl ?_
            refine g_st (σ2 := (st (st σ 13 (pt (pt (σ 13) 15 (stA (σ 18) (σ 13 16) 68 (σ 13 18) (σ 13 15))) 18 (stW (σ 18) (σ 13 16) 68 (σ 13 18) (σ 13 15)))) 19 (pt (σ 19) (5 * (σ 13 17) + k) (stV (σ 18) (σ 13 16) 68 (σ 13 18) (σ 13 15))))) (by first | (exfalso; omega) | exact stN_eq (by omega) (by omega) (by omega)) ?_
            exact hret _ _ dX5_number_98
          · skip
            refine g_iload C dX5_number_71 0 rfl (q := 73) rfl ?_
            refine g_if_ne C dX5_number_73 (by omega) (q2 := 80) rfl (q := 76) rfl (fun hb10 => ?_) (fun hb10 => ?_)
            · skip
              refine g_iconst C dX5_number_80 (q := 81) rfl ?_
              refine gp_X5_174 C (by omega) dX5_number_81 (q := 84) rfl ?_
              refine g_st (σ2 := (st σ 13 (pt (pt (σ 13) 15 ((σ 13 15) + 1)) 18 0))) (st_st _ _ _ _) ?_
              refine g_st (σ2 := (st σ 13 (pt (pt (σ 13) 15 ((σ 13 15) + 1)) 18 0))) (by first | rfl | (rw [pt_id])) ?_
              refine g_aload_n C dX5_number_84 2 rfl rfl (q := 85) rfl ?_
              refine gf_X5_25 C dX5_number_85 (q := 88) rfl ?_
              refine g_iconst C dX5_number_88 (q := 89) rfl ?_
              refine g_aload_n C dX5_number_89 2 rfl rfl (q := 90) rfl ?_
              refine gf_X5_185 C dX5_number_90 (q := 93) rfl ?_
              refine g_top (b := (σ 13 17)) rfl ?_
              refine g_imul C dX5_number_93 (q := 94) rfl ?_
              refine g_iload_n C dX5_number_94 3 rfl rfl (q := 95) rfl ?_
              refine g_iadd C dX5_number_95 (q := 96) rfl ?_
              refine g_iload_n C dX5_number_96 1 rfl rfl (q := 97) rfl ?_
              refine gs_19 C (by omega) dX5_number_97 (q := 98) rfl ?_
              refine g_st (σ2 := (st (st σ 13 (pt (pt (σ 13) 15 ((σ 13 15) + 1)) 18 0)) 19 (pt (σ 19) (5 * (σ 13 17) + k) (0 + (hr (σ 18) (σ 13 16) (σ 13 15)) - 48)))) rfl ?_
              refine g_st (σ2 := (st (st σ 13 (pt (pt (σ 13) 15 (stA (σ 18) (σ 13 16) 68 (σ 13 18) (σ 13 15))) 18 (stW (σ 18) (σ 13 16) 68 (σ 13 18) (σ 13 15)))) 19 (pt (σ 19) (5 * (σ 13 17) + k) (stV (σ 18) (σ 13 16) 68 (σ 13 18) (σ 13 15))))) (by first | (exfalso; omega) | exact stN_eq (by omega) (by omega) (by omega)) ?_
              exact hret _ _ dX5_number_98
            · skip
              exfalso; omega
        · skip
          refine g_iload C dX5_number_12 0 rfl (q := 14) rfl ?_
          refine g_iload_n C dX5_number_14 4 rfl rfl (q := 15) rfl ?_
          refine g_icmp_ge C dX5_number_15 (by omega) (q2 := 63) rfl (q := 18) rfl (fun hb11 => ?_) (fun hb11 => ?_)
          · skip
            refine g_aload_n C dX5_number_63 2 rfl rfl (q := 64) rfl ?_
            refine g_aload_n C dX5_number_64 2 rfl rfl (q := 65) rfl ?_
            refine gf_X5_174 C dX5_number_65 (q := 68) rfl ?_
            refine g_top (b := (σ 13 18)) rfl ?_
            refine g_if_ne C dX5_number_68 (by omega) (q2 := 76) rfl (q := 71) rfl (fun hb12 => ?_) (fun hb12 => ?_)
            · skip
              refine g_iconst C dX5_number_76 (q := 77) rfl ?_
              refine g_goto C dX5_number_77 (q := 81) rfl ?_
              refine gp_X5_174 C (by omega) dX5_number_81 (q := 84) rfl ?_
              refine g_st (σ2 := (st σ 13 (pt (pt (σ 13) 15 ((σ 13 15) + 1)) 18 1))) (st_st _ _ _ _) ?_
              refine g_st (σ2 := (st σ 13 (pt (pt (σ 13) 15 ((σ 13 15) + 1)) 18 1))) (by first | rfl | (rw [pt_id])) ?_
              refine g_aload_n C dX5_number_84 2 rfl rfl (q := 85) rfl ?_
              refine gf_X5_25 C dX5_number_85 (q := 88) rfl ?_
              refine g_iconst C dX5_number_88 (q := 89) rfl ?_
              refine g_aload_n C dX5_number_89 2 rfl rfl (q := 90) rfl ?_
              refine gf_X5_185 C dX5_number_90 (q := 93) rfl ?_
              refine g_top (b := (σ 13 17)) rfl ?_
              refine g_imul C dX5_number_93 (q := 94) rfl ?_
              refine g_iload_n C dX5_number_94 3 rfl rfl (q := 95) rfl ?_
              refine g_iadd C dX5_number_95 (q := 96) rfl ?_
              refine g_iload_n C dX5_number_96 1 rfl rfl (q := 97) rfl ?_
              refine gs_19 C (by omega) dX5_number_97 (q := 98) rfl ?_
              refine g_st (σ2 := (st (st σ 13 (pt (pt (σ 13) 15 ((σ 13 15) + 1)) 18 1)) 19 (pt (σ 19) (5 * (σ 13 17) + k) (0 + (hr (σ 18) (σ 13 16) (σ 13 15)) - 48)))) rfl ?_
              refine g_st (σ2 := (st (st σ 13 (pt (pt (σ 13) 15 (stA (σ 18) (σ 13 16) 68 (σ 13 18) (σ 13 15))) 18 (stW (σ 18) (σ 13 16) 68 (σ 13 18) (σ 13 15)))) 19 (pt (σ 19) (5 * (σ 13 17) + k) (stV (σ 18) (σ 13 16) 68 (σ 13 18) (σ 13 15))))) (by first | (exfalso; omega) | exact stN_eq (by omega) (by omega) (by omega)) ?_
              exact hret _ _ dX5_number_98
            · skip
              refine g_iload C dX5_number_71 0 rfl (q := 73) rfl ?_
              refine g_if_ne C dX5_number_73 (by omega) (q2 := 80) rfl (q := 76) rfl (fun hb13 => ?_) (fun hb13 => ?_)
              · skip
                refine g_iconst C dX5_number_80 (q := 81) rfl ?_
                refine gp_X5_174 C (by omega) dX5_number_81 (q := 84) rfl ?_
                refine g_st (σ2 := (st σ 13 (pt (pt (σ 13) 15 ((σ 13 15) + 1)) 18 0))) (st_st _ _ _ _) ?_
                refine g_st (σ2 := (st σ 13 (pt (pt (σ 13) 15 ((σ 13 15) + 1)) 18 0))) (by first | rfl | (rw [pt_id])) ?_
                refine g_aload_n C dX5_number_84 2 rfl rfl (q := 85) rfl ?_
                refine gf_X5_25 C dX5_number_85 (q := 88) rfl ?_
                refine g_iconst C dX5_number_88 (q := 89) rfl ?_
                refine g_aload_n C dX5_number_89 2 rfl rfl (q := 90) rfl ?_
                refine gf_X5_185 C dX5_number_90 (q := 93) rfl ?_
                refine g_top (b := (σ 13 17)) rfl ?_
                refine g_imul C dX5_number_93 (q := 94) rfl ?_
                refine g_iload_n C dX5_number_94 3 rfl rfl (q := 95) rfl ?_
                refine g_iadd C dX5_number_95 (q := 96) rfl ?_
                refine g_iload_n C dX5_number_96 1 rfl rfl (q := 97) rfl ?_
                refine gs_19 C (by omega) dX5_number_97 (q := 98) rfl ?_
                refine g_st (σ2 := (st (st σ 13 (pt (pt (σ 13) 15 ((σ 13 15) + 1)) 18 0)) 19 (pt (σ 19) (5 * (σ 13 17) + k) (0 + (hr (σ 18) (σ 13 16) (σ 13 15)) - 48)))) rfl ?_
                refine g_st (σ2 := (st (st σ 13 (pt (pt (σ 13) 15 (stA (σ 18) (σ 13 16) 68 (σ 13 18) (σ 13 15))) 18 (stW (σ 18) (σ 13 16) 68 (σ 13 18) (σ 13 15)))) 19 (pt (σ 19) (5 * (σ 13 17) + k) (stV (σ 18) (σ 13 16) 68 (σ 13 18) (σ 13 15))))) (by first | (exfalso; omega) | exact stN_eq (by omega) (by omega) (by omega)) ?_
                exact hret _ _ dX5_number_98
              · skip
                exfalso; omega
          · skip
            exfalso; omega
set_option maxRecDepth 100000 in
set_option maxHeartbeats 4000000 in
theorem c_X5_number_2 (l : Launch) (E : EV) (σ : SS) (k : Int) (hT : TW (σ 18) (σ 13 16)) (ha : 0 ≤ (σ 13 15) ∧ (σ 13 15) ≤ 900) (hw : (σ 13 18) = 0 ∨ (σ 13 18) = 1) (hm : 0 ≤ (σ 13 17) ∧ (σ 13 17) < 60) (hk : 1 ≤ k ∧ k ≤ 4) : Kv l yX5_number (cw yX5_number cX5_number 5 none) rm_X5_number E [.ref (ea E 13), .int (iI k), .int (iI 2)] σ (st (st σ 13 (pt (pt (σ 13) 15 (stA (σ 18) (σ 13 16) 78 (σ 13 18) (σ 13 15))) 18 (stW (σ 18) (σ 13 16) 78 (σ 13 18) (σ 13 15)))) 19 (pt (σ 19) (5 * (σ 13 17) + k) (stV (σ 18) (σ 13 16) 78 (σ 13 18) (σ 13 15)))) := by
  refine Kv_of (rm := rm_X5_number) (mL := 5) (b := cX5_number) RX5 rfl (by decide +kernel) rfl rfl [(0, .ref (ea E 13)), (1, .int (iI k)), (2, .int (iI 2))] rfl (Nat.le_of_ble_eq_true rfl) (fun p_ e_ s_ m_ a_ b_ h_ c_ Q A C hret => ?_)
  have hh := hr_sg hT (i := σ 13 15) (by omega)
  have hh1 := hr_sg hT (i := σ 13 15 + 1) (by omega)
  have hI := bI_01 (hr (σ 18) (σ 13 16) (σ 13 15)) 48 57
  have hI1 := bI_iff (hr (σ 18) (σ 13 16) (σ 13 15)) 48 57
  have hJ := bI_01 (hr (σ 18) (σ 13 16) (σ 13 15 + 1)) 48 57
  have hJ1 := bI_iff (hr (σ 18) (σ 13 16) (σ 13 15 + 1)) 48 57
  have hd := bD_iff (sg (σ 18) (σ 13 16) (σ 13 15))
  have hd1 := bD_iff (sg (σ 18) (σ 13 16) (σ 13 15 + 1))
  have hcs := st78_cs (σ 18) (σ 13 16) (σ 13 15) hw
  refine g_iconst C dX5_number_0 (q := 1) rfl ?_
  refine g_istore_n C (L' := [(3, .int (iI 0)), (0, .ref (ea E 13)), (1, .int (iI k)), (2, .int (iI 2))]) dX5_number_1 rfl (by decide) rfl (q := 2) rfl ?_
  refine g_iconst C dX5_number_2 (q := 3) rfl ?_
  refine g_istore C (L' := [(4, .int (iI 0)), (3, .int (iI 0)), (0, .ref (ea E 13)), (1, .int (iI k)), (2, .int (iI 2))]) dX5_number_3 (by decide) rfl (q := 5) rfl ?_
  refine g_aload_n C dX5_number_5 2 rfl rfl (q := 6) rfl ?_
  refine gf_X5_174 C dX5_number_6 (q := 9) rfl ?_
  refine g_if_ne C dX5_number_9 (by omega) (q2 := 63) rfl (q := 12) rfl (fun hb1 => ?_) (fun hb1 => ?_)
  · skip
    refine g_aload_n C dX5_number_63 2 rfl rfl (q := 64) rfl ?_
    refine g_aload_n C dX5_number_64 2 rfl rfl (q := 65) rfl ?_
    refine gf_X5_174 C dX5_number_65 (q := 68) rfl ?_
    refine g_if_ne C dX5_number_68 (by omega) (q2 := 76) rfl (q := 71) rfl (fun hb2 => ?_) (fun hb2 => ?_)
    · skip
      refine g_iconst C dX5_number_76 (q := 77) rfl ?_
      refine g_goto C dX5_number_77 (q := 81) rfl ?_
      refine gp_X5_174 C (by omega) dX5_number_81 (q := 84) rfl ?_
      refine g_st (σ2 := (st σ 13 (pt (pt (σ 13) 15 (σ 13 15)) 18 1))) (by first | rfl | (rw [pt_id])) ?_
      refine g_aload_n C dX5_number_84 2 rfl rfl (q := 85) rfl ?_
      refine gf_X5_25 C dX5_number_85 (q := 88) rfl ?_
      refine g_iconst C dX5_number_88 (q := 89) rfl ?_
      refine g_aload_n C dX5_number_89 2 rfl rfl (q := 90) rfl ?_
      refine gf_X5_185 C dX5_number_90 (q := 93) rfl ?_
      refine g_top (b := (σ 13 17)) rfl ?_
      refine g_imul C dX5_number_93 (q := 94) rfl ?_
      refine g_iload_n C dX5_number_94 3 rfl rfl (q := 95) rfl ?_
      refine g_iadd C dX5_number_95 (q := 96) rfl ?_
      refine g_iload_n C dX5_number_96 1 rfl rfl (q := 97) rfl ?_
      refine gs_19 C (by omega) dX5_number_97 (q := 98) rfl ?_
      refine g_st (σ2 := (st (st σ 13 (pt (pt (σ 13) 15 (σ 13 15)) 18 1)) 19 (pt (σ 19) (5 * (σ 13 17) + k) 0))) rfl ?_
      refine g_st (σ2 := (st (st σ 13 (pt (pt (σ 13) 15 (stA (σ 18) (σ 13 16) 78 (σ 13 18) (σ 13 15))) 18 (stW (σ 18) (σ 13 16) 78 (σ 13 18) (σ 13 15)))) 19 (pt (σ 19) (5 * (σ 13 17) + k) (stV (σ 18) (σ 13 16) 78 (σ 13 18) (σ 13 15))))) (by first | (exfalso; omega) | exact stN_eq (by omega) (by omega) (by omega)) ?_
      exact hret _ _ dX5_number_98
    · skip
      refine g_iload C dX5_number_71 0 rfl (q := 73) rfl ?_
      refine g_if_ne C dX5_number_73 (by omega) (q2 := 80) rfl (q := 76) rfl (fun hb3 => ?_) (fun hb3 => ?_)
      · skip
        exfalso; omega
      · skip
        refine g_iconst C dX5_number_76 (q := 77) rfl ?_
        refine g_goto C dX5_number_77 (q := 81) rfl ?_
        refine gp_X5_174 C (by omega) dX5_number_81 (q := 84) rfl ?_
        refine g_st (σ2 := (st σ 13 (pt (pt (σ 13) 15 (σ 13 15)) 18 1))) (by first | rfl | (rw [pt_id])) ?_
        refine g_aload_n C dX5_number_84 2 rfl rfl (q := 85) rfl ?_
        refine gf_X5_25 C dX5_number_85 (q := 88) rfl ?_
        refine g_iconst C dX5_number_88 (q := 89) rfl ?_
        refine g_aload_n C dX5_number_89 2 rfl rfl (q := 90) rfl ?_
        refine gf_X5_185 C dX5_number_90 (q := 93) rfl ?_
        refine g_top (b := (σ 13 17)) rfl ?_
        refine g_imul C dX5_number_93 (q := 94) rfl ?_
        refine g_iload_n C dX5_number_94 3 rfl rfl (q := 95) rfl ?_
        refine g_iadd C dX5_number_95 (q := 96) rfl ?_
        refine g_iload_n C dX5_number_96 1 rfl rfl (q := 97) rfl ?_
        refine gs_19 C (by omega) dX5_number_97 (q := 98) rfl ?_
        refine g_st (σ2 := (st (st σ 13 (pt (pt (σ 13) 15 (σ 13 15)) 18 1)) 19 (pt (σ 19) (5 * (σ 13 17) + k) 0))) rfl ?_
        refine g_st (σ2 := (st (st σ 13 (pt (pt (σ 13) 15 (stA (σ 18) (σ 13 16) 78 (σ 13 18) (σ 13 15))) 18 (stW (σ 18) (σ 13 16) 78 (σ 13 18) (σ 13 15)))) 19 (pt (σ 19) (5 * (σ 13 17) + k) (stV (σ 18) (σ 13 16) 78 (σ 13 18) (σ 13 15))))) (by first | (exfalso; omega) | exact stN_eq (by omega) (by omega) (by omega)) ?_
        exact hret _ _ dX5_number_98
  · skip
    refine g_iload C dX5_number_12 0 rfl (q := 14) rfl ?_
    refine g_iload_n C dX5_number_14 4 rfl rfl (q := 15) rfl ?_
    refine g_icmp_ge C dX5_number_15 (by omega) (q2 := 63) rfl (q := 18) rfl (fun hb4 => ?_) (fun hb4 => ?_)
    · skip
      exfalso; omega
    · skip
      refine g_aload_n C dX5_number_18 2 rfl rfl (q := 19) rfl ?_
      refine g_iconst C dX5_number_19 (q := 20) rfl ?_
      refine g_cV_i C (As := [.int (iI 0)]) (c_X5_here_0 l E _   (by assumption) (by omega)) ml_X5_178 mf_X5_here (o := 13) (ci := 5) rfl rfl rfl rfl ⟨(Nat.le_of_ble_eq_true rfl), (Nat.le_of_ble_eq_true rfl)⟩ rfl rfl rfl (Nat.le_of_ble_eq_true rfl) ⟨(Nat.le_of_ble_eq_true rfl), (Nat.le_of_ble_eq_true rfl)⟩ dX5_number_20 (q := 23) rfl ?_
      refine g_bipush C dX5_number_23 (by decide) (q := 25) rfl ?_
      refine g_bipush C dX5_number_25 (by decide) (q := 27) rfl ?_
      refine g_cS_i C (As := [.int (iI (hr (σ 18) (σ 13 16) (σ 13 15))), .int (iI 48), .int (iI 57)]) (c_X5_in l E _ (hr (σ 18) (σ 13 16) (σ 13 15)) 48 57  (by omega) (by omega) (by omega)) ml_X5_54 mf_X5_in rfl rfl ⟨(Nat.le_of_ble_eq_true rfl), (Nat.le_of_ble_eq_true rfl)⟩ rfl rfl rfl (Nat.le_of_ble_eq_true rfl) ⟨(Nat.le_of_ble_eq_true rfl), (Nat.le_of_ble_eq_true rfl)⟩ dX5_number_27 (q := 30) rfl ?_
      refine g_if_eq C dX5_number_30 (by omega) (q2 := 63) rfl (q := 33) rfl (fun hb5 => ?_) (fun hb5 => ?_)
      · skip
        refine g_aload_n C dX5_number_63 2 rfl rfl (q := 64) rfl ?_
        refine g_aload_n C dX5_number_64 2 rfl rfl (q := 65) rfl ?_
        refine gf_X5_174 C dX5_number_65 (q := 68) rfl ?_
        refine g_if_ne C dX5_number_68 (by omega) (q2 := 76) rfl (q := 71) rfl (fun hb6 => ?_) (fun hb6 => ?_)
        · skip
          refine g_iconst C dX5_number_76 (q := 77) rfl ?_
          refine g_goto C dX5_number_77 (q := 81) rfl ?_
          refine gp_X5_174 C (by omega) dX5_number_81 (q := 84) rfl ?_
          refine g_st (σ2 := (st σ 13 (pt (pt (σ 13) 15 (σ 13 15)) 18 1))) (by first | rfl | (rw [pt_id])) ?_
          refine g_aload_n C dX5_number_84 2 rfl rfl (q := 85) rfl ?_
          refine gf_X5_25 C dX5_number_85 (q := 88) rfl ?_
          refine g_iconst C dX5_number_88 (q := 89) rfl ?_
          refine g_aload_n C dX5_number_89 2 rfl rfl (q := 90) rfl ?_
          refine gf_X5_185 C dX5_number_90 (q := 93) rfl ?_
          refine g_top (b := (σ 13 17)) rfl ?_
          refine g_imul C dX5_number_93 (q := 94) rfl ?_
          refine g_iload_n C dX5_number_94 3 rfl rfl (q := 95) rfl ?_
          refine g_iadd C dX5_number_95 (q := 96) rfl ?_
          refine g_iload_n C dX5_number_96 1 rfl rfl (q := 97) rfl ?_
          refine gs_19 C (by omega) dX5_number_97 (q := 98) rfl ?_
          refine g_st (σ2 := (st (st σ 13 (pt (pt (σ 13) 15 (σ 13 15)) 18 1)) 19 (pt (σ 19) (5 * (σ 13 17) + k) 0))) rfl ?_
          refine g_st (σ2 := (st (st σ 13 (pt (pt (σ 13) 15 (stA (σ 18) (σ 13 16) 78 (σ 13 18) (σ 13 15))) 18 (stW (σ 18) (σ 13 16) 78 (σ 13 18) (σ 13 15)))) 19 (pt (σ 19) (5 * (σ 13 17) + k) (stV (σ 18) (σ 13 16) 78 (σ 13 18) (σ 13 15))))) (by first | (exfalso; omega) | exact stN_eq (by omega) (by omega) (by omega)) ?_
          exact hret _ _ dX5_number_98
        · skip
          refine g_iload C dX5_number_71 0 rfl (q := 73) rfl ?_
          refine g_if_ne C dX5_number_73 (by omega) (q2 := 80) rfl (q := 76) rfl (fun hb7 => ?_) (fun hb7 => ?_)
          · skip
            exfalso; omega
          · skip
            refine g_iconst C dX5_number_76 (q := 77) rfl ?_
            refine g_goto C dX5_number_77 (q := 81) rfl ?_
            refine gp_X5_174 C (by omega) dX5_number_81 (q := 84) rfl ?_
            refine g_st (σ2 := (st σ 13 (pt (pt (σ 13) 15 (σ 13 15)) 18 1))) (by first | rfl | (rw [pt_id])) ?_
            refine g_aload_n C dX5_number_84 2 rfl rfl (q := 85) rfl ?_
            refine gf_X5_25 C dX5_number_85 (q := 88) rfl ?_
            refine g_iconst C dX5_number_88 (q := 89) rfl ?_
            refine g_aload_n C dX5_number_89 2 rfl rfl (q := 90) rfl ?_
            refine gf_X5_185 C dX5_number_90 (q := 93) rfl ?_
            refine g_top (b := (σ 13 17)) rfl ?_
            refine g_imul C dX5_number_93 (q := 94) rfl ?_
            refine g_iload_n C dX5_number_94 3 rfl rfl (q := 95) rfl ?_
            refine g_iadd C dX5_number_95 (q := 96) rfl ?_
            refine g_iload_n C dX5_number_96 1 rfl rfl (q := 97) rfl ?_
            refine gs_19 C (by omega) dX5_number_97 (q := 98) rfl ?_
            refine g_st (σ2 := (st (st σ 13 (pt (pt (σ 13) 15 (σ 13 15)) 18 1)) 19 (pt (σ 19) (5 * (σ 13 17) + k) 0))) rfl ?_
            refine g_st (σ2 := (st (st σ 13 (pt (pt (σ 13) 15 (stA (σ 18) (σ 13 16) 78 (σ 13 18) (σ 13 15))) 18 (stW (σ 18) (σ 13 16) 78 (σ 13 18) (σ 13 15)))) 19 (pt (σ 19) (5 * (σ 13 17) + k) (stV (σ 18) (σ 13 16) 78 (σ 13 18) (σ 13 15))))) (by first | (exfalso; omega) | exact stN_eq (by omega) (by omega) (by omega)) ?_
            exact hret _ _ dX5_number_98
      · skip
        refine g_bipush C dX5_number_33 (by decide) (q := 35) rfl ?_
        refine g_iload_n C dX5_number_35 1 rfl rfl (q := 36) rfl ?_
        refine g_imul C dX5_number_36 (q := 37) rfl ?_
        refine g_top (b := 0) (by decide) ?_
        refine g_aload_n C dX5_number_37 2 rfl rfl (q := 38) rfl ?_
        refine g_iconst C dX5_number_38 (q := 39) rfl ?_
        refine g_cV_i C (As := [.int (iI 0)]) (c_X5_here_0 l E _   (by assumption) (by omega)) ml_X5_178 mf_X5_here (o := 13) (ci := 5) rfl rfl rfl rfl ⟨(Nat.le_of_ble_eq_true rfl), (Nat.le_of_ble_eq_true rfl)⟩ rfl rfl rfl (Nat.le_of_ble_eq_true rfl) ⟨(Nat.le_of_ble_eq_true rfl), (Nat.le_of_ble_eq_true rfl)⟩ dX5_number_39 (q := 42) rfl ?_
        refine g_iadd C dX5_number_42 (q := 43) rfl ?_
        refine g_bipush C dX5_number_43 (by decide) (q := 45) rfl ?_
        refine g_isub C dX5_number_45 (q := 46) rfl ?_
        refine g_istore_n C (L' := [(3, .int (iI (0 + (hr (σ 18) (σ 13 16) (σ 13 15)) - 48))), (4, .int (iI 0)), (0, .ref (ea E 13)), (1, .int (iI k)), (2, .int (iI 2))]) dX5_number_46 rfl (by decide) rfl (q := 47) rfl ?_
        refine g_aload_n C dX5_number_47 2 rfl rfl (q := 48) rfl ?_
        refine g_dup C dX5_number_48 rfl (q := 49) rfl ?_
        refine gf_X5_162 C dX5_number_49 (q := 52) rfl ?_
        refine g_iconst C dX5_number_52 (q := 53) rfl ?_
        refine g_iadd C dX5_number_53 (q := 54) rfl ?_
        refine gp_X5_162 C dX5_number_54 (q := 57) rfl ?_
        refine g_iinc C (L' := [(4, .int (iI (0 + 1))), (3, .int (iI (0 + (hr (σ 18) (σ 13 16) (σ 13 15)) - 48))), (0, .ref (ea E 13)), (1, .int (iI k)), (2, .int (iI 2))]) dX5_number_57 1 rfl (by decide) rfl (q := 60) rfl ?_
        refine g_loc (L' := [(4, .int (iI 1)), (3, .int (iI (0 + (hr (σ 18) (σ 13 16) (σ 13 15)) - 48))), (0, .ref (ea E 13)), (1, .int (iI k)), (2, .int (iI 2))]) rfl ?_
        refine g_goto C dX5_number_60 (q := 5) rfl ?_
        refine g_aload_n C dX5_number_5 2 rfl rfl (q := 6) rfl ?_
        refine gf_X5_174 C dX5_number_6 (q := 9) rfl ?_
        refine g_top (b := (σ 13 18)) rfl ?_
        refine g_if_ne C dX5_number_9 (by omega) (q2 := 63) rfl (q := 12) rfl (fun hb8 => ?_) (fun hb8 => ?_)
        · skip
          refine g_aload_n C dX5_number_63 2 rfl rfl (q := 64) rfl ?_
          refine g_aload_n C dX5_number_64 2 rfl rfl (q := 65) rfl ?_
          refine gf_X5_174 C dX5_number_65 (q := 68) rfl ?_
          refine g_top (b := (σ 13 18)) rfl ?_
          refine g_if_ne C dX5_number_68 (by omega) (q2 := 76) rfl (q := 71) rfl (fun hb9 => ?_) (fun hb9 => ?_)
          · skip
            refine g_iconst C dX5_number_76 (q := 77) rfl ?_
            refine g_goto C dX5_number_77 (q := 81) rfl ?_
            refine gp_X5_174 C (by omega) dX5_number_81 (q := 84) rfl ?_
            refine g_st (σ2 := (st σ 13 (pt (pt (σ 13) 15 ((σ 13 15) + 1)) 18 1))) (st_st _ _ _ _) ?_
            refine g_st (σ2 := (st σ 13 (pt (pt (σ 13) 15 ((σ 13 15) + 1)) 18 1))) (by first | rfl | (rw [pt_id])) ?_
            refine g_aload_n C dX5_number_84 2 rfl rfl (q := 85) rfl ?_
            refine gf_X5_25 C dX5_number_85 (q := 88) rfl ?_
            refine g_iconst C dX5_number_88 (q := 89) rfl ?_
            refine g_aload_n C dX5_number_89 2 rfl rfl (q := 90) rfl ?_
            refine gf_X5_185 C dX5_number_90 (q := 93) rfl ?_
            refine g_top (b := (σ 13 17)) rfl ?_
            refine g_imul C dX5_number_93 (q := 94) rfl ?_
            refine g_iload_n C dX5_number_94 3 rfl rfl (q := 95) rfl ?_
            refine g_iadd C dX5_number_95 (q := 96) rfl ?_
            refine g_iload_n C dX5_number_96 1 rfl rfl (q := 97) rfl ?_
            refine gs_19 C (by omega) dX5_number_97 (q := 98) rfl ?_
            refine g_st (σ2 := (st (st σ 13 (pt (pt (σ 13) 15 ((σ 13 15) + 1)) 18 1)) 19 (pt (σ 19) (5 * (σ 13 17) + k) (0 + (hr (σ 18) (σ 13 16) (σ 13 15)) - 48)))) rfl ?_
            refine g_st (σ2 := (st (st σ 13 (pt (pt (σ 13) 15 (stA (σ 18) (σ 13 16) 78 (σ 13 18) (σ 13 15))) 18 (stW (σ 18) (σ 13 16) 78 (σ 13 18) (σ 13 15)))) 19 (pt (σ 19) (5 * (σ 13 17) + k) (stV (σ 18) (σ 13 16) 78 (σ 13 18) (σ 13 15))))) (by first | (exfalso; omega) | exact stN_eq (by omega) (by omega) (by omega)) ?_
            exact hret _ _ dX5_number_98
          · skip
            refine g_iload C dX5_number_71 0 rfl (q := 73) rfl ?_
            refine g_if_ne C dX5_number_73 (by omega) (q2 := 80) rfl (q := 76) rfl (fun hb10 => ?_) (fun hb10 => ?_)
            · skip
              refine g_iconst C dX5_number_80 (q := 81) rfl ?_
              refine gp_X5_174 C (by omega) dX5_number_81 (q := 84) rfl ?_
              refine g_st (σ2 := (st σ 13 (pt (pt (σ 13) 15 ((σ 13 15) + 1)) 18 0))) (st_st _ _ _ _) ?_
              refine g_st (σ2 := (st σ 13 (pt (pt (σ 13) 15 ((σ 13 15) + 1)) 18 0))) (by first | rfl | (rw [pt_id])) ?_
              refine g_aload_n C dX5_number_84 2 rfl rfl (q := 85) rfl ?_
              refine gf_X5_25 C dX5_number_85 (q := 88) rfl ?_
              refine g_iconst C dX5_number_88 (q := 89) rfl ?_
              refine g_aload_n C dX5_number_89 2 rfl rfl (q := 90) rfl ?_
              refine gf_X5_185 C dX5_number_90 (q := 93) rfl ?_
              refine g_top (b := (σ 13 17)) rfl ?_
              refine g_imul C dX5_number_93 (q := 94) rfl ?_
              refine g_iload_n C dX5_number_94 3 rfl rfl (q := 95) rfl ?_
              refine g_iadd C dX5_number_95 (q := 96) rfl ?_
              refine g_iload_n C dX5_number_96 1 rfl rfl (q := 97) rfl ?_
              refine gs_19 C (by omega) dX5_number_97 (q := 98) rfl ?_
              refine g_st (σ2 := (st (st σ 13 (pt (pt (σ 13) 15 ((σ 13 15) + 1)) 18 0)) 19 (pt (σ 19) (5 * (σ 13 17) + k) (0 + (hr (σ 18) (σ 13 16) (σ 13 15)) - 48)))) rfl ?_
              refine g_st (σ2 := (st (st σ 13 (pt (pt (σ 13) 15 (stA (σ 18) (σ 13 16) 78 (σ 13 18) (σ 13 15))) 18 (stW (σ 18) (σ 13 16) 78 (σ 13 18) (σ 13 15)))) 19 (pt (σ 19) (5 * (σ 13 17) + k) (stV (σ 18) (σ 13 16) 78 (σ 13 18) (σ 13 15))))) (by first | (exfalso; omega) | exact stN_eq (by omega) (by omega) (by omega)) ?_
              exact hret _ _ dX5_number_98
            · skip
              exfalso; omega
        · skip
          refine g_iload C dX5_number_12 0 rfl (q := 14) rfl ?_
          refine g_iload_n C dX5_number_14 4 rfl rfl (q := 15) rfl ?_
          refine g_icmp_ge C dX5_number_15 (by omega) (q2 := 63) rfl (q := 18) rfl (fun hb11 => ?_) (fun hb11 => ?_)
          · skip
            exfalso; omega
          · skip
            refine g_aload_n C dX5_number_18 2 rfl rfl (q := 19) rfl ?_
            refine g_iconst C dX5_number_19 (q := 20) rfl ?_
            refine g_cV_i C (As := [.int (iI 0)]) (c_X5_here_0 l E _   (by show TW (σ 18) (σ 13 16); assumption) (by show 0 ≤ ((σ 13 15) + 1) ∧ ((σ 13 15) + 1) ≤ 1000; omega)) ml_X5_178 mf_X5_here (o := 13) (ci := 5) rfl rfl rfl rfl ⟨(Nat.le_of_ble_eq_true rfl), (Nat.le_of_ble_eq_true rfl)⟩ rfl rfl rfl (Nat.le_of_ble_eq_true rfl) ⟨(Nat.le_of_ble_eq_true rfl), (Nat.le_of_ble_eq_true rfl)⟩ dX5_number_20 (q := 23) rfl ?_
            refine g_top (b := hr (σ 18) (σ 13 16) ((σ 13 15) + 1)) rfl ?_
            refine g_bipush C dX5_number_23 (by decide) (q := 25) rfl ?_
            refine g_bipush C dX5_number_25 (by decide) (q := 27) rfl ?_
            refine g_cS_i C (As := [.int (iI (hr (σ 18) (σ 13 16) ((σ 13 15) + 1))), .int (iI 48), .int (iI 57)]) (c_X5_in l E _ (hr (σ 18) (σ 13 16) ((σ 13 15) + 1)) 48 57  (by omega) (by omega) (by omega)) ml_X5_54 mf_X5_in rfl rfl ⟨(Nat.le_of_ble_eq_true rfl), (Nat.le_of_ble_eq_true rfl)⟩ rfl rfl rfl (Nat.le_of_ble_eq_true rfl) ⟨(Nat.le_of_ble_eq_true rfl), (Nat.le_of_ble_eq_true rfl)⟩ dX5_number_27 (q := 30) rfl ?_
            refine g_if_eq C dX5_number_30 (by omega) (q2 := 63) rfl (q := 33) rfl (fun hb12 => ?_) (fun hb12 => ?_)
            · skip
              refine g_aload_n C dX5_number_63 2 rfl rfl (q := 64) rfl ?_
              refine g_aload_n C dX5_number_64 2 rfl rfl (q := 65) rfl ?_
              refine gf_X5_174 C dX5_number_65 (q := 68) rfl ?_
              refine g_top (b := (σ 13 18)) rfl ?_
              refine g_if_ne C dX5_number_68 (by omega) (q2 := 76) rfl (q := 71) rfl (fun hb13 => ?_) (fun hb13 => ?_)
              · skip
                refine g_iconst C dX5_number_76 (q := 77) rfl ?_
                refine g_goto C dX5_number_77 (q := 81) rfl ?_
                refine gp_X5_174 C (by omega) dX5_number_81 (q := 84) rfl ?_
                refine g_st (σ2 := (st σ 13 (pt (pt (σ 13) 15 ((σ 13 15) + 1)) 18 1))) (st_st _ _ _ _) ?_
                refine g_st (σ2 := (st σ 13 (pt (pt (σ 13) 15 ((σ 13 15) + 1)) 18 1))) (by first | rfl | (rw [pt_id])) ?_
                refine g_aload_n C dX5_number_84 2 rfl rfl (q := 85) rfl ?_
                refine gf_X5_25 C dX5_number_85 (q := 88) rfl ?_
                refine g_iconst C dX5_number_88 (q := 89) rfl ?_
                refine g_aload_n C dX5_number_89 2 rfl rfl (q := 90) rfl ?_
                refine gf_X5_185 C dX5_number_90 (q := 93) rfl ?_
                refine g_top (b := (σ 13 17)) rfl ?_
                refine g_imul C dX5_number_93 (q := 94) rfl ?_
                refine g_iload_n C dX5_number_94 3 rfl rfl (q := 95) rfl ?_
                refine g_iadd C dX5_number_95 (q := 96) rfl ?_
                refine g_iload_n C dX5_number_96 1 rfl rfl (q := 97) rfl ?_
                refine gs_19 C (by omega) dX5_number_97 (q := 98) rfl ?_
                refine g_st (σ2 := (st (st σ 13 (pt (pt (σ 13) 15 ((σ 13 15) + 1)) 18 1)) 19 (pt (σ 19) (5 * (σ 13 17) + k) (0 + (hr (σ 18) (σ 13 16) (σ 13 15)) - 48)))) rfl ?_
                refine g_st (σ2 := (st (st σ 13 (pt (pt (σ 13) 15 (stA (σ 18) (σ 13 16) 78 (σ 13 18) (σ 13 15))) 18 (stW (σ 18) (σ 13 16) 78 (σ 13 18) (σ 13 15)))) 19 (pt (σ 19) (5 * (σ 13 17) + k) (stV (σ 18) (σ 13 16) 78 (σ 13 18) (σ 13 15))))) (by first | (exfalso; omega) | exact stN_eq (by omega) (by omega) (by omega)) ?_
                exact hret _ _ dX5_number_98
              · skip
                refine g_iload C dX5_number_71 0 rfl (q := 73) rfl ?_
                refine g_if_ne C dX5_number_73 (by omega) (q2 := 80) rfl (q := 76) rfl (fun hb14 => ?_) (fun hb14 => ?_)
                · skip
                  refine g_iconst C dX5_number_80 (q := 81) rfl ?_
                  refine gp_X5_174 C (by omega) dX5_number_81 (q := 84) rfl ?_
                  refine g_st (σ2 := (st σ 13 (pt (pt (σ 13) 15 ((σ 13 15) + 1)) 18 0))) (st_st _ _ _ _) ?_
                  refine g_st (σ2 := (st σ 13 (pt (pt (σ 13) 15 ((σ 13 15) + 1)) 18 0))) (by first | rfl | (rw [pt_id])) ?_
                  refine g_aload_n C dX5_number_84 2 rfl rfl (q := 85) rfl ?_
                  refine gf_X5_25 C dX5_number_85 (q := 88) rfl ?_
                  refine g_iconst C dX5_number_88 (q := 89) rfl ?_
                  refine g_aload_n C dX5_number_89 2 rfl rfl (q := 90) rfl ?_
                  refine gf_X5_185 C dX5_number_90 (q := 93) rfl ?_
                  refine g_top (b := (σ 13 17)) rfl ?_
                  refine g_imul C dX5_number_93 (q := 94) rfl ?_
                  refine g_iload_n C dX5_number_94 3 rfl rfl (q := 95) rfl ?_
                  refine g_iadd C dX5_number_95 (q := 96) rfl ?_
                  refine g_iload_n C dX5_number_96 1 rfl rfl (q := 97) rfl ?_
                  refine gs_19 C (by omega) dX5_number_97 (q := 98) rfl ?_
                  refine g_st (σ2 := (st (st σ 13 (pt (pt (σ 13) 15 ((σ 13 15) + 1)) 18 0)) 19 (pt (σ 19) (5 * (σ 13 17) + k) (0 + (hr (σ 18) (σ 13 16) (σ 13 15)) - 48)))) rfl ?_
                  refine g_st (σ2 := (st (st σ 13 (pt (pt (σ 13) 15 (stA (σ 18) (σ 13 16) 78 (σ 13 18) (σ 13 15))) 18 (stW (σ 18) (σ 13 16) 78 (σ 13 18) (σ 13 15)))) 19 (pt (σ 19) (5 * (σ 13 17) + k) (stV (σ 18) (σ 13 16) 78 (σ 13 18) (σ 13 15))))) (by first | (exfalso; omega) | exact stN_eq (by omega) (by omega) (by omega)) ?_
                  exact hret _ _ dX5_number_98
                · skip
                  exfalso; omega
            · skip
              refine g_bipush C dX5_number_33 (by decide) (q := 35) rfl ?_
              refine g_iload_n C dX5_number_35 1 rfl rfl (q := 36) rfl ?_
              refine g_imul C dX5_number_36 (q := 37) rfl ?_
              refine g_aload_n C dX5_number_37 2 rfl rfl (q := 38) rfl ?_
              refine g_iconst C dX5_number_38 (q := 39) rfl ?_
              refine g_cV_i C (As := [.int (iI 0)]) (c_X5_here_0 l E _   (by show TW (σ 18) (σ 13 16); assumption) (by show 0 ≤ ((σ 13 15) + 1) ∧ ((σ 13 15) + 1) ≤ 1000; omega)) ml_X5_178 mf_X5_here (o := 13) (ci := 5) rfl rfl rfl rfl ⟨(Nat.le_of_ble_eq_true rfl), (Nat.le_of_ble_eq_true rfl)⟩ rfl rfl rfl (Nat.le_of_ble_eq_true rfl) ⟨(Nat.le_of_ble_eq_true rfl), (Nat.le_of_ble_eq_true rfl)⟩ dX5_number_39 (q := 42) rfl ?_
              refine g_top (b := hr (σ 18) (σ 13 16) ((σ 13 15) + 1)) rfl ?_
              refine g_iadd C dX5_number_42 (q := 43) rfl ?_
              refine g_bipush C dX5_number_43 (by decide) (q := 45) rfl ?_
              refine g_isub C dX5_number_45 (q := 46) rfl ?_
              refine g_istore_n C (L' := [(3, .int (iI (10 * (0 + (hr (σ 18) (σ 13 16) (σ 13 15)) - 48) + (hr (σ 18) (σ 13 16) ((σ 13 15) + 1)) - 48))), (4, .int (iI 1)), (0, .ref (ea E 13)), (1, .int (iI k)), (2, .int (iI 2))]) dX5_number_46 rfl (by decide) rfl (q := 47) rfl ?_
              refine g_aload_n C dX5_number_47 2 rfl rfl (q := 48) rfl ?_
              refine g_dup C dX5_number_48 rfl (q := 49) rfl ?_
              refine gf_X5_162 C dX5_number_49 (q := 52) rfl ?_
              refine g_top (b := (σ 13 15) + 1) rfl ?_
              refine g_iconst C dX5_number_52 (q := 53) rfl ?_
              refine g_iadd C dX5_number_53 (q := 54) rfl ?_
              refine gp_X5_162 C dX5_number_54 (q := 57) rfl ?_
              refine g_st (σ2 := (st σ 13 (pt (σ 13) 15 ((σ 13 15) + 1 + 1)))) ((congrArg (st (st σ 13 (pt (σ 13) 15 ((σ 13 15) + 1))) 13) (pt_pt _ _ _ _)).trans (st_st _ _ _ _)) ?_
              refine g_iinc C (L' := [(4, .int (iI (1 + 1))), (3, .int (iI (10 * (0 + (hr (σ 18) (σ 13 16) (σ 13 15)) - 48) + (hr (σ 18) (σ 13 16) ((σ 13 15) + 1)) - 48))), (0, .ref (ea E 13)), (1, .int (iI k)), (2, .int (iI 2))]) dX5_number_57 1 rfl (by decide) rfl (q := 60) rfl ?_
              refine g_loc (L' := [(4, .int (iI 2)), (3, .int (iI (10 * (0 + (hr (σ 18) (σ 13 16) (σ 13 15)) - 48) + (hr (σ 18) (σ 13 16) ((σ 13 15) + 1)) - 48))), (0, .ref (ea E 13)), (1, .int (iI k)), (2, .int (iI 2))]) rfl ?_
              refine g_goto C dX5_number_60 (q := 5) rfl ?_
              refine g_aload_n C dX5_number_5 2 rfl rfl (q := 6) rfl ?_
              refine gf_X5_174 C dX5_number_6 (q := 9) rfl ?_
              refine g_top (b := (σ 13 18)) rfl ?_
              refine g_if_ne C dX5_number_9 (by omega) (q2 := 63) rfl (q := 12) rfl (fun hb15 => ?_) (fun hb15 => ?_)
              · skip
                refine g_aload_n C dX5_number_63 2 rfl rfl (q := 64) rfl ?_
                refine g_aload_n C dX5_number_64 2 rfl rfl (q := 65) rfl ?_
                refine gf_X5_174 C dX5_number_65 (q := 68) rfl ?_
                refine g_top (b := (σ 13 18)) rfl ?_
                refine g_if_ne C dX5_number_68 (by omega) (q2 := 76) rfl (q := 71) rfl (fun hb16 => ?_) (fun hb16 => ?_)
                · skip
                  refine g_iconst C dX5_number_76 (q := 77) rfl ?_
                  refine g_goto C dX5_number_77 (q := 81) rfl ?_
                  refine gp_X5_174 C (by omega) dX5_number_81 (q := 84) rfl ?_
                  refine g_st (σ2 := (st σ 13 (pt (pt (σ 13) 15 ((σ 13 15) + 1 + 1)) 18 1))) (st_st _ _ _ _) ?_
                  refine g_st (σ2 := (st σ 13 (pt (pt (σ 13) 15 ((σ 13 15) + 1 + 1)) 18 1))) (by first | rfl | (rw [pt_id])) ?_
                  refine g_aload_n C dX5_number_84 2 rfl rfl (q := 85) rfl ?_
                  refine gf_X5_25 C dX5_number_85 (q := 88) rfl ?_
                  refine g_iconst C dX5_number_88 (q := 89) rfl ?_
                  refine g_aload_n C dX5_number_89 2 rfl rfl (q := 90) rfl ?_
                  refine gf_X5_185 C dX5_number_90 (q := 93) rfl ?_
                  refine g_top (b := (σ 13 17)) rfl ?_
                  refine g_imul C dX5_number_93 (q := 94) rfl ?_
                  refine g_iload_n C dX5_number_94 3 rfl rfl (q := 95) rfl ?_
                  refine g_iadd C dX5_number_95 (q := 96) rfl ?_
                  refine g_iload_n C dX5_number_96 1 rfl rfl (q := 97) rfl ?_
                  refine gs_19 C (by omega) dX5_number_97 (q := 98) rfl ?_
                  refine g_st (σ2 := (st (st σ 13 (pt (pt (σ 13) 15 ((σ 13 15) + 1 + 1)) 18 1)) 19 (pt (σ 19) (5 * (σ 13 17) + k) (10 * (0 + (hr (σ 18) (σ 13 16) (σ 13 15)) - 48) + (hr (σ 18) (σ 13 16) ((σ 13 15) + 1)) - 48)))) rfl ?_
                  refine g_st (σ2 := (st (st σ 13 (pt (pt (σ 13) 15 (stA (σ 18) (σ 13 16) 78 (σ 13 18) (σ 13 15))) 18 (stW (σ 18) (σ 13 16) 78 (σ 13 18) (σ 13 15)))) 19 (pt (σ 19) (5 * (σ 13 17) + k) (stV (σ 18) (σ 13 16) 78 (σ 13 18) (σ 13 15))))) (by first | (exfalso; omega) | exact stN_eq (by omega) (by omega) (by omega)) ?_
                  exact hret _ _ dX5_number_98
                · skip
                  refine g_iload C dX5_number_71 0 rfl (q := 73) rfl ?_
                  refine g_if_ne C dX5_number_73 (by omega) (q2 := 80) rfl (q := 76) rfl (fun hb17 => ?_) (fun hb17 => ?_)
                  · skip
                    refine g_iconst C dX5_number_80 (q := 81) rfl ?_
                    refine gp_X5_174 C (by omega) dX5_number_81 (q := 84) rfl ?_
                    refine g_st (σ2 := (st σ 13 (pt (pt (σ 13) 15 ((σ 13 15) + 1 + 1)) 18 0))) (st_st _ _ _ _) ?_
                    refine g_st (σ2 := (st σ 13 (pt (pt (σ 13) 15 ((σ 13 15) + 1 + 1)) 18 0))) (by first | rfl | (rw [pt_id])) ?_
                    refine g_aload_n C dX5_number_84 2 rfl rfl (q := 85) rfl ?_
                    refine gf_X5_25 C dX5_number_85 (q := 88) rfl ?_
                    refine g_iconst C dX5_number_88 (q := 89) rfl ?_
                    refine g_aload_n C dX5_number_89 2 rfl rfl (q := 90) rfl ?_
                    refine gf_X5_185 C dX5_number_90 (q := 93) rfl ?_
                    refine g_top (b := (σ 13 17)) rfl ?_
                    refine g_imul C dX5_number_93 (q := 94) rfl ?_
                    refine g_iload_n C dX5_number_94 3 rfl rfl (q := 95) rfl ?_
                    refine g_iadd C dX5_number_95 (q := 96) rfl ?_
                    refine g_iload_n C dX5_number_96 1 rfl rfl (q := 97) rfl ?_
                    refine gs_19 C (by omega) dX5_number_97 (q := 98) rfl ?_
                    refine g_st (σ2 := (st (st σ 13 (pt (pt (σ 13) 15 ((σ 13 15) + 1 + 1)) 18 0)) 19 (pt (σ 19) (5 * (σ 13 17) + k) (10 * (0 + (hr (σ 18) (σ 13 16) (σ 13 15)) - 48) + (hr (σ 18) (σ 13 16) ((σ 13 15) + 1)) - 48)))) rfl ?_
                    refine g_st (σ2 := (st (st σ 13 (pt (pt (σ 13) 15 (stA (σ 18) (σ 13 16) 78 (σ 13 18) (σ 13 15))) 18 (stW (σ 18) (σ 13 16) 78 (σ 13 18) (σ 13 15)))) 19 (pt (σ 19) (5 * (σ 13 17) + k) (stV (σ 18) (σ 13 16) 78 (σ 13 18) (σ 13 15))))) (by first | (exfalso; omega) | exact stN_eq (by omega) (by omega) (by omega)) ?_
                    exact hret _ _ dX5_number_98
                  · skip
                    exfalso; omega
              · skip
                refine g_iload C dX5_number_12 0 rfl (q := 14) rfl ?_
                refine g_iload_n C dX5_number_14 4 rfl rfl (q := 15) rfl ?_
                refine g_icmp_ge C dX5_number_15 (by omega) (q2 := 63) rfl (q := 18) rfl (fun hb18 => ?_) (fun hb18 => ?_)
                · skip
                  refine g_aload_n C dX5_number_63 2 rfl rfl (q := 64) rfl ?_
                  refine g_aload_n C dX5_number_64 2 rfl rfl (q := 65) rfl ?_
                  refine gf_X5_174 C dX5_number_65 (q := 68) rfl ?_
                  refine g_top (b := (σ 13 18)) rfl ?_
                  refine g_if_ne C dX5_number_68 (by omega) (q2 := 76) rfl (q := 71) rfl (fun hb19 => ?_) (fun hb19 => ?_)
                  · skip
                    refine g_iconst C dX5_number_76 (q := 77) rfl ?_
                    refine g_goto C dX5_number_77 (q := 81) rfl ?_
                    refine gp_X5_174 C (by omega) dX5_number_81 (q := 84) rfl ?_
                    refine g_st (σ2 := (st σ 13 (pt (pt (σ 13) 15 ((σ 13 15) + 1 + 1)) 18 1))) (st_st _ _ _ _) ?_
                    refine g_st (σ2 := (st σ 13 (pt (pt (σ 13) 15 ((σ 13 15) + 1 + 1)) 18 1))) (by first | rfl | (rw [pt_id])) ?_
                    refine g_aload_n C dX5_number_84 2 rfl rfl (q := 85) rfl ?_
                    refine gf_X5_25 C dX5_number_85 (q := 88) rfl ?_
                    refine g_iconst C dX5_number_88 (q := 89) rfl ?_
                    refine g_aload_n C dX5_number_89 2 rfl rfl (q := 90) rfl ?_
                    refine gf_X5_185 C dX5_number_90 (q := 93) rfl ?_
                    refine g_top (b := (σ 13 17)) rfl ?_
                    refine g_imul C dX5_number_93 (q := 94) rfl ?_
                    refine g_iload_n C dX5_number_94 3 rfl rfl (q := 95) rfl ?_
                    refine g_iadd C dX5_number_95 (q := 96) rfl ?_
                    refine g_iload_n C dX5_number_96 1 rfl rfl (q := 97) rfl ?_
                    refine gs_19 C (by omega) dX5_number_97 (q := 98) rfl ?_
                    refine g_st (σ2 := (st (st σ 13 (pt (pt (σ 13) 15 ((σ 13 15) + 1 + 1)) 18 1)) 19 (pt (σ 19) (5 * (σ 13 17) + k) (10 * (0 + (hr (σ 18) (σ 13 16) (σ 13 15)) - 48) + (hr (σ 18) (σ 13 16) ((σ 13 15) + 1)) - 48)))) rfl ?_
                    refine g_st (σ2 := (st (st σ 13 (pt (pt (σ 13) 15 (stA (σ 18) (σ 13 16) 78 (σ 13 18) (σ 13 15))) 18 (stW (σ 18) (σ 13 16) 78 (σ 13 18) (σ 13 15)))) 19 (pt (σ 19) (5 * (σ 13 17) + k) (stV (σ 18) (σ 13 16) 78 (σ 13 18) (σ 13 15))))) (by first | (exfalso; omega) | exact stN_eq (by omega) (by omega) (by omega)) ?_
                    exact hret _ _ dX5_number_98
                  · skip
                    refine g_iload C dX5_number_71 0 rfl (q := 73) rfl ?_
                    refine g_if_ne C dX5_number_73 (by omega) (q2 := 80) rfl (q := 76) rfl (fun hb20 => ?_) (fun hb20 => ?_)
                    · skip
                      refine g_iconst C dX5_number_80 (q := 81) rfl ?_
                      refine gp_X5_174 C (by omega) dX5_number_81 (q := 84) rfl ?_
                      refine g_st (σ2 := (st σ 13 (pt (pt (σ 13) 15 ((σ 13 15) + 1 + 1)) 18 0))) (st_st _ _ _ _) ?_
                      refine g_st (σ2 := (st σ 13 (pt (pt (σ 13) 15 ((σ 13 15) + 1 + 1)) 18 0))) (by first | rfl | (rw [pt_id])) ?_
                      refine g_aload_n C dX5_number_84 2 rfl rfl (q := 85) rfl ?_
                      refine gf_X5_25 C dX5_number_85 (q := 88) rfl ?_
                      refine g_iconst C dX5_number_88 (q := 89) rfl ?_
                      refine g_aload_n C dX5_number_89 2 rfl rfl (q := 90) rfl ?_
                      refine gf_X5_185 C dX5_number_90 (q := 93) rfl ?_
                      refine g_top (b := (σ 13 17)) rfl ?_
                      refine g_imul C dX5_number_93 (q := 94) rfl ?_
                      refine g_iload_n C dX5_number_94 3 rfl rfl (q := 95) rfl ?_
                      refine g_iadd C dX5_number_95 (q := 96) rfl ?_
                      refine g_iload_n C dX5_number_96 1 rfl rfl (q := 97) rfl ?_
                      refine gs_19 C (by omega) dX5_number_97 (q := 98) rfl ?_
                      refine g_st (σ2 := (st (st σ 13 (pt (pt (σ 13) 15 ((σ 13 15) + 1 + 1)) 18 0)) 19 (pt (σ 19) (5 * (σ 13 17) + k) (10 * (0 + (hr (σ 18) (σ 13 16) (σ 13 15)) - 48) + (hr (σ 18) (σ 13 16) ((σ 13 15) + 1)) - 48)))) rfl ?_
                      refine g_st (σ2 := (st (st σ 13 (pt (pt (σ 13) 15 (stA (σ 18) (σ 13 16) 78 (σ 13 18) (σ 13 15))) 18 (stW (σ 18) (σ 13 16) 78 (σ 13 18) (σ 13 15)))) 19 (pt (σ 19) (5 * (σ 13 17) + k) (stV (σ 18) (σ 13 16) 78 (σ 13 18) (σ 13 15))))) (by first | (exfalso; omega) | exact stN_eq (by omega) (by omega) (by omega)) ?_
                      exact hret _ _ dX5_number_98
                    · skip
                      exfalso; omega
                · skip
                  exfalso; omega
abbrev rm_X5_hue : Room := { frames := 1, cells := 0, slots := 0, locals := 22 }
set_option maxRecDepth 100000 in
set_option maxHeartbeats 4000000 in
theorem c_X5_hue (l : Launch) (E : EV) (σ : SS) (k : Int) (hT : TW (σ 18) (σ 13 16)) (ha : 0 ≤ (σ 13 15) ∧ (σ 13 15) ≤ 900) (hw : (σ 13 18) = 0 ∨ (σ 13 18) = 1) (hm : 0 ≤ (σ 13 17) ∧ (σ 13 17) < 60) (hk : 1 ≤ k ∧ k ≤ 4) : Kv l yX5_hue (cw yX5_hue cX5_hue 2 none) rm_X5_hue E [.ref (ea E 13), .int (iI k)] σ (st (st σ 13 (pt (pt (σ 13) 15 (stA (σ 18) (σ 13 16) 67 (σ 13 18) (σ 13 15))) 18 (stW (σ 18) (σ 13 16) 67 (σ 13 18) (σ 13 15)))) 19 (pt (σ 19) (5 * (σ 13 17) + k) (stV (σ 18) (σ 13 16) 67 (σ 13 18) (σ 13 15)))) := by
  refine Kv_of (rm := rm_X5_hue) (mL := 2) (b := cX5_hue) RX5 rfl (by decide +kernel) rfl rfl [(0, .ref (ea E 13)), (1, .int (iI k))] rfl (Nat.le_of_ble_eq_true rfl) (fun p_ e_ s_ m_ a_ b_ h_ c_ Q A C hret => ?_)
  have hh := hr_sg hT (i := σ 13 15) (by omega)
  have hh1 := hr_sg hT (i := σ 13 15 + 1) (by omega)
  have hI := bI_01 (hr (σ 18) (σ 13 16) (σ 13 15)) 97 104
  have hI1 := bI_iff (hr (σ 18) (σ 13 16) (σ 13 15)) 97 104
  have hd := bC_iff (sg (σ 18) (σ 13 16) (σ 13 15) - 97)
  have hcs := st67_cs (σ 18) (σ 13 16) (σ 13 15) hw
  refine g_aload_n C dX5_hue_0 0 rfl rfl (q := 1) rfl ?_
  refine g_aload_n C dX5_hue_1 0 rfl rfl (q := 2) rfl ?_
  refine gf_X5_174 C dX5_hue_2 (q := 5) rfl ?_
  refine g_if_ne C dX5_hue_5 (by omega) (q2 := 23) rfl (q := 8) rfl (fun hb1 => ?_) (fun hb1 => ?_)
  · skip
    refine g_iconst C dX5_hue_23 (q := 24) rfl ?_
    refine g_goto C dX5_hue_24 (q := 28) rfl ?_
    refine gp_X5_174 C (by omega) dX5_hue_28 (q := 31) rfl ?_
    refine g_aload_n C dX5_hue_31 0 rfl rfl (q := 32) rfl ?_
    refine gf_X5_25 C dX5_hue_32 (q := 35) rfl ?_
    refine g_iconst C dX5_hue_35 (q := 36) rfl ?_
    refine g_aload_n C dX5_hue_36 0 rfl rfl (q := 37) rfl ?_
    refine gf_X5_185 C dX5_hue_37 (q := 40) rfl ?_
    refine g_top (b := (σ 13 17)) rfl ?_
    refine g_imul C dX5_hue_40 (q := 41) rfl ?_
    refine g_iload_n C dX5_hue_41 1 rfl rfl (q := 42) rfl ?_
    refine g_iadd C dX5_hue_42 (q := 43) rfl ?_
    refine g_aload_n C dX5_hue_43 0 rfl rfl (q := 44) rfl ?_
    refine gf_X5_174 C dX5_hue_44 (q := 47) rfl ?_
    refine g_top (b := 1) rfl ?_
    refine g_if_eq C dX5_hue_47 (by omega) (q2 := 54) rfl (q := 50) rfl (fun hb2 => ?_) (fun hb2 => ?_)
    · skip
      exfalso; omega
    · skip
      refine g_iconst C dX5_hue_50 (q := 51) rfl ?_
      refine g_goto C dX5_hue_51 (q := 62) rfl ?_
      refine gs_19 C (by omega) dX5_hue_62 (q := 63) rfl ?_
      refine g_st (σ2 := (st (st σ 13 (pt (σ 13) 18 1)) 19 (pt (σ 19) (5 * (σ 13 17) + k) 0))) rfl ?_
      refine g_aload_n C dX5_hue_63 0 rfl rfl (q := 64) rfl ?_
      refine g_dup C dX5_hue_64 rfl (q := 65) rfl ?_
      refine gf_X5_162 C dX5_hue_65 (q := 68) rfl ?_
      refine g_top (b := (σ 13 15)) rfl ?_
      refine g_aload_n C dX5_hue_68 0 rfl rfl (q := 69) rfl ?_
      refine gf_X5_174 C dX5_hue_69 (q := 72) rfl ?_
      refine g_top (b := 1) rfl ?_
      refine g_if_eq C dX5_hue_72 (by omega) (q2 := 79) rfl (q := 75) rfl (fun hb3 => ?_) (fun hb3 => ?_)
      · skip
        exfalso; omega
      · skip
        refine g_iconst C dX5_hue_75 (q := 76) rfl ?_
        refine g_goto C dX5_hue_76 (q := 80) rfl ?_
        refine g_iadd C dX5_hue_80 (q := 81) rfl ?_
        refine gp_X5_162 C dX5_hue_81 (q := 84) rfl ?_
        refine g_st (σ2 := (st (st σ 13 (pt (pt (σ 13) 15 ((σ 13 15) + 0)) 18 1)) 19 (pt (σ 19) (5 * (σ 13 17) + k) 0))) ((congrArg (st (st (st σ 13 (pt (σ 13) 18 1)) 19 (pt (σ 19) (5 * (σ 13 17) + k) 0)) 13) (pt_cm (σ 13) (k := 18) (j := 15) 1 ((σ 13 15) + 0) (by decide))).trans ((st_cm (st σ 13 (pt (σ 13) 18 1)) (o := 19) (q := 13) (pt (σ 19) (5 * (σ 13 17) + k) 0) (pt (pt (σ 13) 15 ((σ 13 15) + 0)) 18 1) (by decide)).trans (congrArg (fun g9 => st g9 19 (pt (σ 19) (5 * (σ 13 17) + k) 0)) (st_st _ _ _ _)))) ?_
        refine g_st (σ2 := (st (st σ 13 (pt (pt (σ 13) 15 (stA (σ 18) (σ 13 16) 67 (σ 13 18) (σ 13 15))) 18 (stW (σ 18) (σ 13 16) 67 (σ 13 18) (σ 13 15)))) 19 (pt (σ 19) (5 * (σ 13 17) + k) (stV (σ 18) (σ 13 16) 67 (σ 13 18) (σ 13 15))))) (by first | (exfalso; omega) | exact stN_eq (by omega) (by omega) (by omega)) ?_
        exact hret _ _ dX5_hue_84
  · skip
    refine g_aload_n C dX5_hue_8 0 rfl rfl (q := 9) rfl ?_
    refine g_iconst C dX5_hue_9 (q := 10) rfl ?_
    refine g_cV_i C (As := [.int (iI 0)]) (c_X5_here_0 l E _   (by assumption) (by omega)) ml_X5_178 mf_X5_here (o := 13) (ci := 5) rfl rfl rfl rfl ⟨(Nat.le_of_ble_eq_true rfl), (Nat.le_of_ble_eq_true rfl)⟩ rfl rfl rfl (Nat.le_of_ble_eq_true rfl) ⟨(Nat.le_of_ble_eq_true rfl), (Nat.le_of_ble_eq_true rfl)⟩ dX5_hue_10 (q := 13) rfl ?_
    refine g_bipush C dX5_hue_13 (by decide) (q := 15) rfl ?_
    refine g_bipush C dX5_hue_15 (by decide) (q := 17) rfl ?_
    refine g_cS_i C (As := [.int (iI (hr (σ 18) (σ 13 16) (σ 13 15))), .int (iI 97), .int (iI 104)]) (c_X5_in l E _ (hr (σ 18) (σ 13 16) (σ 13 15)) 97 104  (by omega) (by omega) (by omega)) ml_X5_54 mf_X5_in rfl rfl ⟨(Nat.le_of_ble_eq_true rfl), (Nat.le_of_ble_eq_true rfl)⟩ rfl rfl rfl (Nat.le_of_ble_eq_true rfl) ⟨(Nat.le_of_ble_eq_true rfl), (Nat.le_of_ble_eq_true rfl)⟩ dX5_hue_17 (q := 20) rfl ?_
    refine g_if_ne C dX5_hue_20 (by omega) (q2 := 27) rfl (q := 23) rfl (fun hb4 => ?_) (fun hb4 => ?_)
    · skip
      refine g_iconst C dX5_hue_27 (q := 28) rfl ?_
      refine gp_X5_174 C (by omega) dX5_hue_28 (q := 31) rfl ?_
      refine g_aload_n C dX5_hue_31 0 rfl rfl (q := 32) rfl ?_
      refine gf_X5_25 C dX5_hue_32 (q := 35) rfl ?_
      refine g_iconst C dX5_hue_35 (q := 36) rfl ?_
      refine g_aload_n C dX5_hue_36 0 rfl rfl (q := 37) rfl ?_
      refine gf_X5_185 C dX5_hue_37 (q := 40) rfl ?_
      refine g_top (b := (σ 13 17)) rfl ?_
      refine g_imul C dX5_hue_40 (q := 41) rfl ?_
      refine g_iload_n C dX5_hue_41 1 rfl rfl (q := 42) rfl ?_
      refine g_iadd C dX5_hue_42 (q := 43) rfl ?_
      refine g_aload_n C dX5_hue_43 0 rfl rfl (q := 44) rfl ?_
      refine gf_X5_174 C dX5_hue_44 (q := 47) rfl ?_
      refine g_top (b := 0) rfl ?_
      refine g_if_eq C dX5_hue_47 (by omega) (q2 := 54) rfl (q := 50) rfl (fun hb5 => ?_) (fun hb5 => ?_)
      · skip
        refine g_aload_n C dX5_hue_54 0 rfl rfl (q := 55) rfl ?_
        refine g_iconst C dX5_hue_55 (q := 56) rfl ?_
        refine g_cV_i C (As := [.int (iI 0)]) (c_X5_here_0 l E _   (by show TW (σ 18) (σ 13 16); assumption) (by show 0 ≤ (σ 13 15) ∧ (σ 13 15) ≤ 1000; omega)) ml_X5_178 mf_X5_here (o := 13) (ci := 5) rfl rfl rfl rfl ⟨(Nat.le_of_ble_eq_true rfl), (Nat.le_of_ble_eq_true rfl)⟩ rfl rfl rfl (Nat.le_of_ble_eq_true rfl) ⟨(Nat.le_of_ble_eq_true rfl), (Nat.le_of_ble_eq_true rfl)⟩ dX5_hue_56 (q := 59) rfl ?_
        refine g_top (b := hr (σ 18) (σ 13 16) (σ 13 15)) rfl ?_
        refine g_bipush C dX5_hue_59 (by decide) (q := 61) rfl ?_
        refine g_isub C dX5_hue_61 (q := 62) rfl ?_
        refine gs_19 C (by omega) dX5_hue_62 (q := 63) rfl ?_
        refine g_st (σ2 := (st (st σ 13 (pt (σ 13) 18 0)) 19 (pt (σ 19) (5 * (σ 13 17) + k) (hr (σ 18) (σ 13 16) (σ 13 15) - 97)))) rfl ?_
        refine g_aload_n C dX5_hue_63 0 rfl rfl (q := 64) rfl ?_
        refine g_dup C dX5_hue_64 rfl (q := 65) rfl ?_
        refine gf_X5_162 C dX5_hue_65 (q := 68) rfl ?_
        refine g_top (b := (σ 13 15)) rfl ?_
        refine g_aload_n C dX5_hue_68 0 rfl rfl (q := 69) rfl ?_
        refine gf_X5_174 C dX5_hue_69 (q := 72) rfl ?_
        refine g_top (b := 0) rfl ?_
        refine g_if_eq C dX5_hue_72 (by omega) (q2 := 79) rfl (q := 75) rfl (fun hb6 => ?_) (fun hb6 => ?_)
        · skip
          refine g_iconst C dX5_hue_79 (q := 80) rfl ?_
          refine g_iadd C dX5_hue_80 (q := 81) rfl ?_
          refine gp_X5_162 C dX5_hue_81 (q := 84) rfl ?_
          refine g_st (σ2 := (st (st σ 13 (pt (pt (σ 13) 15 ((σ 13 15) + 1)) 18 0)) 19 (pt (σ 19) (5 * (σ 13 17) + k) (hr (σ 18) (σ 13 16) (σ 13 15) - 97)))) ((congrArg (st (st (st σ 13 (pt (σ 13) 18 0)) 19 (pt (σ 19) (5 * (σ 13 17) + k) (hr (σ 18) (σ 13 16) (σ 13 15) - 97))) 13) (pt_cm (σ 13) (k := 18) (j := 15) 0 ((σ 13 15) + 1) (by decide))).trans ((st_cm (st σ 13 (pt (σ 13) 18 0)) (o := 19) (q := 13) (pt (σ 19) (5 * (σ 13 17) + k) (hr (σ 18) (σ 13 16) (σ 13 15) - 97)) (pt (pt (σ 13) 15 ((σ 13 15) + 1)) 18 0) (by decide)).trans (congrArg (fun g9 => st g9 19 (pt (σ 19) (5 * (σ 13 17) + k) (hr (σ 18) (σ 13 16) (σ 13 15) - 97))) (st_st _ _ _ _)))) ?_
          refine g_st (σ2 := (st (st σ 13 (pt (pt (σ 13) 15 (stA (σ 18) (σ 13 16) 67 (σ 13 18) (σ 13 15))) 18 (stW (σ 18) (σ 13 16) 67 (σ 13 18) (σ 13 15)))) 19 (pt (σ 19) (5 * (σ 13 17) + k) (stV (σ 18) (σ 13 16) 67 (σ 13 18) (σ 13 15))))) (by first | (exfalso; omega) | exact stN_eq (by omega) (by omega) (by omega)) ?_
          exact hret _ _ dX5_hue_84
        · skip
          exfalso; omega
      · skip
        exfalso; omega
    · skip
      refine g_iconst C dX5_hue_23 (q := 24) rfl ?_
      refine g_goto C dX5_hue_24 (q := 28) rfl ?_
      refine gp_X5_174 C (by omega) dX5_hue_28 (q := 31) rfl ?_
      refine g_aload_n C dX5_hue_31 0 rfl rfl (q := 32) rfl ?_
      refine gf_X5_25 C dX5_hue_32 (q := 35) rfl ?_
      refine g_iconst C dX5_hue_35 (q := 36) rfl ?_
      refine g_aload_n C dX5_hue_36 0 rfl rfl (q := 37) rfl ?_
      refine gf_X5_185 C dX5_hue_37 (q := 40) rfl ?_
      refine g_top (b := (σ 13 17)) rfl ?_
      refine g_imul C dX5_hue_40 (q := 41) rfl ?_
      refine g_iload_n C dX5_hue_41 1 rfl rfl (q := 42) rfl ?_
      refine g_iadd C dX5_hue_42 (q := 43) rfl ?_
      refine g_aload_n C dX5_hue_43 0 rfl rfl (q := 44) rfl ?_
      refine gf_X5_174 C dX5_hue_44 (q := 47) rfl ?_
      refine g_top (b := 1) rfl ?_
      refine g_if_eq C dX5_hue_47 (by omega) (q2 := 54) rfl (q := 50) rfl (fun hb7 => ?_) (fun hb7 => ?_)
      · skip
        exfalso; omega
      · skip
        refine g_iconst C dX5_hue_50 (q := 51) rfl ?_
        refine g_goto C dX5_hue_51 (q := 62) rfl ?_
        refine gs_19 C (by omega) dX5_hue_62 (q := 63) rfl ?_
        refine g_st (σ2 := (st (st σ 13 (pt (σ 13) 18 1)) 19 (pt (σ 19) (5 * (σ 13 17) + k) 0))) rfl ?_
        refine g_aload_n C dX5_hue_63 0 rfl rfl (q := 64) rfl ?_
        refine g_dup C dX5_hue_64 rfl (q := 65) rfl ?_
        refine gf_X5_162 C dX5_hue_65 (q := 68) rfl ?_
        refine g_top (b := (σ 13 15)) rfl ?_
        refine g_aload_n C dX5_hue_68 0 rfl rfl (q := 69) rfl ?_
        refine gf_X5_174 C dX5_hue_69 (q := 72) rfl ?_
        refine g_top (b := 1) rfl ?_
        refine g_if_eq C dX5_hue_72 (by omega) (q2 := 79) rfl (q := 75) rfl (fun hb8 => ?_) (fun hb8 => ?_)
        · skip
          exfalso; omega
        · skip
          refine g_iconst C dX5_hue_75 (q := 76) rfl ?_
          refine g_goto C dX5_hue_76 (q := 80) rfl ?_
          refine g_iadd C dX5_hue_80 (q := 81) rfl ?_
          refine gp_X5_162 C dX5_hue_81 (q := 84) rfl ?_
          refine g_st (σ2 := (st (st σ 13 (pt (pt (σ 13) 15 ((σ 13 15) + 0)) 18 1)) 19 (pt (σ 19) (5 * (σ 13 17) + k) 0))) ((congrArg (st (st (st σ 13 (pt (σ 13) 18 1)) 19 (pt (σ 19) (5 * (σ 13 17) + k) 0)) 13) (pt_cm (σ 13) (k := 18) (j := 15) 1 ((σ 13 15) + 0) (by decide))).trans ((st_cm (st σ 13 (pt (σ 13) 18 1)) (o := 19) (q := 13) (pt (σ 19) (5 * (σ 13 17) + k) 0) (pt (pt (σ 13) 15 ((σ 13 15) + 0)) 18 1) (by decide)).trans (congrArg (fun g9 => st g9 19 (pt (σ 19) (5 * (σ 13 17) + k) 0)) (st_st _ _ _ _)))) ?_
          refine g_st (σ2 := (st (st σ 13 (pt (pt (σ 13) 15 (stA (σ 18) (σ 13 16) 67 (σ 13 18) (σ 13 15))) 18 (stW (σ 18) (σ 13 16) 67 (σ 13 18) (σ 13 15)))) 19 (pt (σ 19) (5 * (σ 13 17) + k) (stV (σ 18) (σ 13 16) 67 (σ 13 18) (σ 13 15))))) (by first | (exfalso; omega) | exact stN_eq (by omega) (by omega) (by omega)) ?_
          exact hret _ _ dX5_hue_84
abbrev rm_X5_place : Room := { frames := 5, cells := 0, slots := 0, locals := 133 }
set_option maxRecDepth 100000 in
set_option maxHeartbeats 4000000 in
theorem c_X5_place (l : Launch) (E : EV) (σ : SS) (c : Int) (w9 : Nat) (hT : TW (σ 18) (σ 13 16)) (ha : 0 ≤ (σ 13 15) ∧ (σ 13 15) ≤ 800) (hw : (σ 13 18) = 0 ∨ (σ 13 18) = 1) (hm : 0 ≤ (σ 13 17) ∧ (σ 13 17) < 60) (hw9 : 22 ≤ w9 ∧ w9 < 38) : Kv l yX5_place (cw yX5_place cX5_place 3 none) rm_X5_place E [.ref (ea E 13), .int (iI c), .ref (ek E w9)] σ (st (st σ 13 (pt (pt (σ 13) 15 ((mfo (σ 18) (σ 13 16) (pl w9 ++ (68 :: (pl 25 ++ (78 :: [])))) (σ 13 18) (σ 13 15) (5 * (σ 13 17) + 1) (pt (σ 19) (5 * (σ 13 17)) c)).2.1)) 18 ((mfo (σ 18) (σ 13 16) (pl w9 ++ (68 :: (pl 25 ++ (78 :: [])))) (σ 13 18) (σ 13 15) (5 * (σ 13 17) + 1) (pt (σ 19) (5 * (σ 13 17)) c)).1))) 19 ((mfo (σ 18) (σ 13 16) (pl w9 ++ (68 :: (pl 25 ++ (78 :: [])))) (σ 13 18) (σ 13 15) (5 * (σ 13 17) + 1) (pt (σ 19) (5 * (σ 13 17)) c)).2.2.2)) := by
  refine Kv_of (rm := rm_X5_place) (mL := 3) (b := cX5_place) RX5 rfl (by decide +kernel) rfl rfl [(0, .ref (ea E 13)), (1, .int (iI c)), (2, .ref (ek E w9))] rfl (Nat.le_of_ble_eq_true rfl) (fun p_ e_ s_ m_ a_ b_ h_ c_ Q A C hret => ?_)
  refine g_aload_n C dX5_place_0 0 rfl rfl (q := 1) rfl ?_
  refine gf_X5_25 C dX5_place_1 (q := 4) rfl ?_
  refine g_iconst C dX5_place_4 (q := 5) rfl ?_
  refine g_aload_n C dX5_place_5 0 rfl rfl (q := 6) rfl ?_
  refine gf_X5_185 C dX5_place_6 (q := 9) rfl ?_
  refine g_imul C dX5_place_9 (q := 10) rfl ?_
  refine g_iload_n C dX5_place_10 1 rfl rfl (q := 11) rfl ?_
  refine gs_19 C (by omega) dX5_place_11 (q := 12) rfl ?_
  refine g_aload_n C dX5_place_12 0 rfl rfl (q := 13) rfl ?_
  refine g_aload_n C dX5_place_13 2 rfl rfl (q := 14) rfl ?_
  refine g_cV_v C (As := [.ref (ek E w9)]) (c_X5_says l E _  w9 (by show TW (σ 18) (σ 13 16); assumption) (by show 0 ≤ (σ 13 15) ∧ (σ 13 15) ≤ 900; omega) (by show (σ 13 18) = 0 ∨ (σ 13 18) = 1; omega) (by first | exact hw9 | decide)) ml_X5_188 mf_X5_says (o := 13) (ci := 5) rfl rfl rfl rfl ⟨(Nat.le_of_ble_eq_true rfl), (Nat.le_of_ble_eq_true rfl)⟩ rfl rfl rfl (Nat.le_of_ble_eq_true rfl) ⟨(Nat.le_of_ble_eq_true rfl), (Nat.le_of_ble_eq_true rfl)⟩ dX5_place_14 (q := 17) rfl ?_
  refine g_st (σ2 := (st (st σ 13 (pt (pt (σ 13) 15 ((msa (σ 18) (σ 13 16) (pl w9) (σ 13 18) (σ 13 15)).2)) 18 ((msa (σ 18) (σ 13 16) (pl w9) (σ 13 18) (σ 13 15)).1))) 19 (pt (σ 19) (5 * (σ 13 17)) c))) (st_cm σ (o := 19) (q := 13) (pt (σ 19) (5 * (σ 13 17)) c) (pt (pt (σ 13) 15 ((msa (σ 18) (σ 13 16) (pl w9) (σ 13 18) (σ 13 15)).2)) 18 ((msa (σ 18) (σ 13 16) (pl w9) (σ 13 18) (σ 13 15)).1)) (by decide)) ?_
  have hqw9 := msa_rg (σ 18) (σ 13 16) (pl w9) (w := σ 13 18) (a := σ 13 15) (by omega)
  have hzw9 := sa_l (w := w9) hw9
  refine g_aload_n C dX5_place_17 0 rfl rfl (q := 18) rfl ?_
  refine g_iconst C dX5_place_18 (q := 19) rfl ?_
  refine g_iconst C dX5_place_19 (q := 20) rfl ?_
  refine g_cV_v C (As := [.int (iI 1), .int (iI 1)]) (c_X5_number_1 l E _ 1  (by show TW (σ 18) (σ 13 16); assumption) (by show 0 ≤ ((msa (σ 18) (σ 13 16) (pl w9) (σ 13 18) (σ 13 15)).2) ∧ ((msa (σ 18) (σ 13 16) (pl w9) (σ 13 18) (σ 13 15)).2) ≤ 900; omega) (by show ((msa (σ 18) (σ 13 16) (pl w9) (σ 13 18) (σ 13 15)).1) = 0 ∨ ((msa (σ 18) (σ 13 16) (pl w9) (σ 13 18) (σ 13 15)).1) = 1; omega) (by show 0 ≤ (σ 13 17) ∧ (σ 13 17) < 60; omega) (by omega)) ml_X5_192 mf_X5_number (o := 13) (ci := 5) rfl rfl rfl rfl ⟨(Nat.le_of_ble_eq_true rfl), (Nat.le_of_ble_eq_true rfl)⟩ rfl rfl rfl (Nat.le_of_ble_eq_true rfl) ⟨(Nat.le_of_ble_eq_true rfl), (Nat.le_of_ble_eq_true rfl)⟩ dX5_place_20 (q := 23) rfl ?_
  refine g_st (σ2 := (st (st σ 13 (pt (pt (σ 13) 15 (stA (σ 18) (σ 13 16) 68 ((msa (σ 18) (σ 13 16) (pl w9) (σ 13 18) (σ 13 15)).1) ((msa (σ 18) (σ 13 16) (pl w9) (σ 13 18) (σ 13 15)).2))) 18 (stW (σ 18) (σ 13 16) 68 ((msa (σ 18) (σ 13 16) (pl w9) (σ 13 18) (σ 13 15)).1) ((msa (σ 18) (σ 13 16) (pl w9) (σ 13 18) (σ 13 15)).2)))) 19 (pt (pt (σ 19) (5 * (σ 13 17)) c) (5 * (σ 13 17) + 1) (stV (σ 18) (σ 13 16) 68 ((msa (σ 18) (σ 13 16) (pl w9) (σ 13 18) (σ 13 15)).1) ((msa (σ 18) (σ 13 16) (pl w9) (σ 13 18) (σ 13 15)).2))))) ((congrArg (fun g9 => st g9 19 (pt (pt (σ 19) (5 * (σ 13 17)) c) (5 * (σ 13 17) + 1) (stV (σ 18) (σ 13 16) 68 ((msa (σ 18) (σ 13 16) (pl w9) (σ 13 18) (σ 13 15)).1) ((msa (σ 18) (σ 13 16) (pl w9) (σ 13 18) (σ 13 15)).2)))) ((congrArg (st (st (st σ 13 (pt (pt (σ 13) 15 ((msa (σ 18) (σ 13 16) (pl w9) (σ 13 18) (σ 13 15)).2)) 18 ((msa (σ 18) (σ 13 16) (pl w9) (σ 13 18) (σ 13 15)).1))) 19 (pt (σ 19) (5 * (σ 13 17)) c)) 13) ((congrArg (fun g9 => pt g9 18 (stW (σ 18) (σ 13 16) 68 ((msa (σ 18) (σ 13 16) (pl w9) (σ 13 18) (σ 13 15)).1) ((msa (σ 18) (σ 13 16) (pl w9) (σ 13 18) (σ 13 15)).2))) ((pt_cm (pt (σ 13) 15 ((msa (σ 18) (σ 13 16) (pl w9) (σ 13 18) (σ 13 15)).2)) (k := 18) (j := 15) ((msa (σ 18) (σ 13 16) (pl w9) (σ 13 18) (σ 13 15)).1) (stA (σ 18) (σ 13 16) 68 ((msa (σ 18) (σ 13 16) (pl w9) (σ 13 18) (σ 13 15)).1) ((msa (σ 18) (σ 13 16) (pl w9) (σ 13 18) (σ 13 15)).2)) (by decide)).trans (congrArg (fun g9 => pt g9 18 ((msa (σ 18) (σ 13 16) (pl w9) (σ 13 18) (σ 13 15)).1)) (pt_pt _ _ _ _)))).trans (pt_pt _ _ _ _))).trans ((st_cm (st σ 13 (pt (pt (σ 13) 15 ((msa (σ 18) (σ 13 16) (pl w9) (σ 13 18) (σ 13 15)).2)) 18 ((msa (σ 18) (σ 13 16) (pl w9) (σ 13 18) (σ 13 15)).1))) (o := 19) (q := 13) (pt (σ 19) (5 * (σ 13 17)) c) (pt (pt (σ 13) 15 (stA (σ 18) (σ 13 16) 68 ((msa (σ 18) (σ 13 16) (pl w9) (σ 13 18) (σ 13 15)).1) ((msa (σ 18) (σ 13 16) (pl w9) (σ 13 18) (σ 13 15)).2))) 18 (stW (σ 18) (σ 13 16) 68 ((msa (σ 18) (σ 13 16) (pl w9) (σ 13 18) (σ 13 15)).1) ((msa (σ 18) (σ 13 16) (pl w9) (σ 13 18) (σ 13 15)).2))) (by decide)).trans (congrArg (fun g9 => st g9 19 (pt (σ 19) (5 * (σ 13 17)) c)) (st_st _ _ _ _))))).trans (st_st _ _ _ _)) ?_
  have ho68 := stW_01 (σ 18) (σ 13 16) 68 ((msa (σ 18) (σ 13 16) (pl w9) (σ 13 18) (σ 13 15)).1) ((msa (σ 18) (σ 13 16) (pl w9) (σ 13 18) (σ 13 15)).2)
  have hp68 := stA_rg (σ 18) (σ 13 16) 68 ((msa (σ 18) (σ 13 16) (pl w9) (σ 13 18) (σ 13 15)).1) ((msa (σ 18) (σ 13 16) (pl w9) (σ 13 18) (σ 13 15)).2)
  refine g_aload_n C dX5_place_23 0 rfl rfl (q := 24) rfl ?_
  refine g_ldcS C (w := 25) (tx := "@") (by decide +kernel) dX5_place_24 (q := 26) rfl ?_
  refine g_cV_v C (As := [.ref (ek E 25)]) (c_X5_says l E _  25 (by show TW (σ 18) (σ 13 16); assumption) (by show 0 ≤ (stA (σ 18) (σ 13 16) 68 ((msa (σ 18) (σ 13 16) (pl w9) (σ 13 18) (σ 13 15)).1) ((msa (σ 18) (σ 13 16) (pl w9) (σ 13 18) (σ 13 15)).2)) ∧ (stA (σ 18) (σ 13 16) 68 ((msa (σ 18) (σ 13 16) (pl w9) (σ 13 18) (σ 13 15)).1) ((msa (σ 18) (σ 13 16) (pl w9) (σ 13 18) (σ 13 15)).2)) ≤ 900; omega) (by show (stW (σ 18) (σ 13 16) 68 ((msa (σ 18) (σ 13 16) (pl w9) (σ 13 18) (σ 13 15)).1) ((msa (σ 18) (σ 13 16) (pl w9) (σ 13 18) (σ 13 15)).2)) = 0 ∨ (stW (σ 18) (σ 13 16) 68 ((msa (σ 18) (σ 13 16) (pl w9) (σ 13 18) (σ 13 15)).1) ((msa (σ 18) (σ 13 16) (pl w9) (σ 13 18) (σ 13 15)).2)) = 1; omega) (by first | exact hw9 | decide)) ml_X5_188 mf_X5_says (o := 13) (ci := 5) rfl rfl rfl rfl ⟨(Nat.le_of_ble_eq_true rfl), (Nat.le_of_ble_eq_true rfl)⟩ rfl rfl rfl (Nat.le_of_ble_eq_true rfl) ⟨(Nat.le_of_ble_eq_true rfl), (Nat.le_of_ble_eq_true rfl)⟩ dX5_place_26 (q := 29) rfl ?_
  refine g_st (σ2 := (st (st σ 13 (pt (pt (σ 13) 15 ((msa (σ 18) (σ 13 16) (pl 25) (stW (σ 18) (σ 13 16) 68 ((msa (σ 18) (σ 13 16) (pl w9) (σ 13 18) (σ 13 15)).1) ((msa (σ 18) (σ 13 16) (pl w9) (σ 13 18) (σ 13 15)).2)) (stA (σ 18) (σ 13 16) 68 ((msa (σ 18) (σ 13 16) (pl w9) (σ 13 18) (σ 13 15)).1) ((msa (σ 18) (σ 13 16) (pl w9) (σ 13 18) (σ 13 15)).2))).2)) 18 ((msa (σ 18) (σ 13 16) (pl 25) (stW (σ 18) (σ 13 16) 68 ((msa (σ 18) (σ 13 16) (pl w9) (σ 13 18) (σ 13 15)).1) ((msa (σ 18) (σ 13 16) (pl w9) (σ 13 18) (σ 13 15)).2)) (stA (σ 18) (σ 13 16) 68 ((msa (σ 18) (σ 13 16) (pl w9) (σ 13 18) (σ 13 15)).1) ((msa (σ 18) (σ 13 16) (pl w9) (σ 13 18) (σ 13 15)).2))).1))) 19 (pt (pt (σ 19) (5 * (σ 13 17)) c) (5 * (σ 13 17) + 1) (stV (σ 18) (σ 13 16) 68 ((msa (σ 18) (σ 13 16) (pl w9) (σ 13 18) (σ 13 15)).1) ((msa (σ 18) (σ 13 16) (pl w9) (σ 13 18) (σ 13 15)).2))))) ((congrArg (st (st (st σ 13 (pt (pt (σ 13) 15 (stA (σ 18) (σ 13 16) 68 ((msa (σ 18) (σ 13 16) (pl w9) (σ 13 18) (σ 13 15)).1) ((msa (σ 18) (σ 13 16) (pl w9) (σ 13 18) (σ 13 15)).2))) 18 (stW (σ 18) (σ 13 16) 68 ((msa (σ 18) (σ 13 16) (pl w9) (σ 13 18) (σ 13 15)).1) ((msa (σ 18) (σ 13 16) (pl w9) (σ 13 18) (σ 13 15)).2)))) 19 (pt (pt (σ 19) (5 * (σ 13 17)) c) (5 * (σ 13 17) + 1) (stV (σ 18) (σ 13 16) 68 ((msa (σ 18) (σ 13 16) (pl w9) (σ 13 18) (σ 13 15)).1) ((msa (σ 18) (σ 13 16) (pl w9) (σ 13 18) (σ 13 15)).2)))) 13) ((congrArg (fun g9 => pt g9 18 ((msa (σ 18) (σ 13 16) (pl 25) (stW (σ 18) (σ 13 16) 68 ((msa (σ 18) (σ 13 16) (pl w9) (σ 13 18) (σ 13 15)).1) ((msa (σ 18) (σ 13 16) (pl w9) (σ 13 18) (σ 13 15)).2)) (stA (σ 18) (σ 13 16) 68 ((msa (σ 18) (σ 13 16) (pl w9) (σ 13 18) (σ 13 15)).1) ((msa (σ 18) (σ 13 16) (pl w9) (σ 13 18) (σ 13 15)).2))).1)) ((pt_cm (pt (σ 13) 15 (stA (σ 18) (σ 13 16) 68 ((msa (σ 18) (σ 13 16) (pl w9) (σ 13 18) (σ 13 15)).1) ((msa (σ 18) (σ 13 16) (pl w9) (σ 13 18) (σ 13 15)).2))) (k := 18) (j := 15) (stW (σ 18) (σ 13 16) 68 ((msa (σ 18) (σ 13 16) (pl w9) (σ 13 18) (σ 13 15)).1) ((msa (σ 18) (σ 13 16) (pl w9) (σ 13 18) (σ 13 15)).2)) ((msa (σ 18) (σ 13 16) (pl 25) (stW (σ 18) (σ 13 16) 68 ((msa (σ 18) (σ 13 16) (pl w9) (σ 13 18) (σ 13 15)).1) ((msa (σ 18) (σ 13 16) (pl w9) (σ 13 18) (σ 13 15)).2)) (stA (σ 18) (σ 13 16) 68 ((msa (σ 18) (σ 13 16) (pl w9) (σ 13 18) (σ 13 15)).1) ((msa (σ 18) (σ 13 16) (pl w9) (σ 13 18) (σ 13 15)).2))).2) (by decide)).trans (congrArg (fun g9 => pt g9 18 (stW (σ 18) (σ 13 16) 68 ((msa (σ 18) (σ 13 16) (pl w9) (σ 13 18) (σ 13 15)).1) ((msa (σ 18) (σ 13 16) (pl w9) (σ 13 18) (σ 13 15)).2))) (pt_pt _ _ _ _)))).trans (pt_pt _ _ _ _))).trans ((st_cm (st σ 13 (pt (pt (σ 13) 15 (stA (σ 18) (σ 13 16) 68 ((msa (σ 18) (σ 13 16) (pl w9) (σ 13 18) (σ 13 15)).1) ((msa (σ 18) (σ 13 16) (pl w9) (σ 13 18) (σ 13 15)).2))) 18 (stW (σ 18) (σ 13 16) 68 ((msa (σ 18) (σ 13 16) (pl w9) (σ 13 18) (σ 13 15)).1) ((msa (σ 18) (σ 13 16) (pl w9) (σ 13 18) (σ 13 15)).2)))) (o := 19) (q := 13) (pt (pt (σ 19) (5 * (σ 13 17)) c) (5 * (σ 13 17) + 1) (stV (σ 18) (σ 13 16) 68 ((msa (σ 18) (σ 13 16) (pl w9) (σ 13 18) (σ 13 15)).1) ((msa (σ 18) (σ 13 16) (pl w9) (σ 13 18) (σ 13 15)).2))) (pt (pt (σ 13) 15 ((msa (σ 18) (σ 13 16) (pl 25) (stW (σ 18) (σ 13 16) 68 ((msa (σ 18) (σ 13 16) (pl w9) (σ 13 18) (σ 13 15)).1) ((msa (σ 18) (σ 13 16) (pl w9) (σ 13 18) (σ 13 15)).2)) (stA (σ 18) (σ 13 16) 68 ((msa (σ 18) (σ 13 16) (pl w9) (σ 13 18) (σ 13 15)).1) ((msa (σ 18) (σ 13 16) (pl w9) (σ 13 18) (σ 13 15)).2))).2)) 18 ((msa (σ 18) (σ 13 16) (pl 25) (stW (σ 18) (σ 13 16) 68 ((msa (σ 18) (σ 13 16) (pl w9) (σ 13 18) (σ 13 15)).1) ((msa (σ 18) (σ 13 16) (pl w9) (σ 13 18) (σ 13 15)).2)) (stA (σ 18) (σ 13 16) 68 ((msa (σ 18) (σ 13 16) (pl w9) (σ 13 18) (σ 13 15)).1) ((msa (σ 18) (σ 13 16) (pl w9) (σ 13 18) (σ 13 15)).2))).1)) (by decide)).trans (congrArg (fun g9 => st g9 19 (pt (pt (σ 19) (5 * (σ 13 17)) c) (5 * (σ 13 17) + 1) (stV (σ 18) (σ 13 16) 68 ((msa (σ 18) (σ 13 16) (pl w9) (σ 13 18) (σ 13 15)).1) ((msa (σ 18) (σ 13 16) (pl w9) (σ 13 18) (σ 13 15)).2)))) (st_st _ _ _ _)))) ?_
  have hq25 := msa_rg (σ 18) (σ 13 16) (pl 25) (w := (stW (σ 18) (σ 13 16) 68 ((msa (σ 18) (σ 13 16) (pl w9) (σ 13 18) (σ 13 15)).1) ((msa (σ 18) (σ 13 16) (pl w9) (σ 13 18) (σ 13 15)).2))) (a := (stA (σ 18) (σ 13 16) 68 ((msa (σ 18) (σ 13 16) (pl w9) (σ 13 18) (σ 13 15)).1) ((msa (σ 18) (σ 13 16) (pl w9) (σ 13 18) (σ 13 15)).2))) (by omega)
  have hz25 := sa_l (w := 25) (by decide)
  refine g_aload_n C dX5_place_29 0 rfl rfl (q := 30) rfl ?_
  refine g_iconst C dX5_place_30 (q := 31) rfl ?_
  refine g_iconst C dX5_place_31 (q := 32) rfl ?_
  refine g_cV_v C (As := [.int (iI 2), .int (iI 2)]) (c_X5_number_2 l E _ 2  (by show TW (σ 18) (σ 13 16); assumption) (by show 0 ≤ ((msa (σ 18) (σ 13 16) (pl 25) (stW (σ 18) (σ 13 16) 68 ((msa (σ 18) (σ 13 16) (pl w9) (σ 13 18) (σ 13 15)).1) ((msa (σ 18) (σ 13 16) (pl w9) (σ 13 18) (σ 13 15)).2)) (stA (σ 18) (σ 13 16) 68 ((msa (σ 18) (σ 13 16) (pl w9) (σ 13 18) (σ 13 15)).1) ((msa (σ 18) (σ 13 16) (pl w9) (σ 13 18) (σ 13 15)).2))).2) ∧ ((msa (σ 18) (σ 13 16) (pl 25) (stW (σ 18) (σ 13 16) 68 ((msa (σ 18) (σ 13 16) (pl w9) (σ 13 18) (σ 13 15)).1) ((msa (σ 18) (σ 13 16) (pl w9) (σ 13 18) (σ 13 15)).2)) (stA (σ 18) (σ 13 16) 68 ((msa (σ 18) (σ 13 16) (pl w9) (σ 13 18) (σ 13 15)).1) ((msa (σ 18) (σ 13 16) (pl w9) (σ 13 18) (σ 13 15)).2))).2) ≤ 900; omega) (by show ((msa (σ 18) (σ 13 16) (pl 25) (stW (σ 18) (σ 13 16) 68 ((msa (σ 18) (σ 13 16) (pl w9) (σ 13 18) (σ 13 15)).1) ((msa (σ 18) (σ 13 16) (pl w9) (σ 13 18) (σ 13 15)).2)) (stA (σ 18) (σ 13 16) 68 ((msa (σ 18) (σ 13 16) (pl w9) (σ 13 18) (σ 13 15)).1) ((msa (σ 18) (σ 13 16) (pl w9) (σ 13 18) (σ 13 15)).2))).1) = 0 ∨ ((msa (σ 18) (σ 13 16) (pl 25) (stW (σ 18) (σ 13 16) 68 ((msa (σ 18) (σ 13 16) (pl w9) (σ 13 18) (σ 13 15)).1) ((msa (σ 18) (σ 13 16) (pl w9) (σ 13 18) (σ 13 15)).2)) (stA (σ 18) (σ 13 16) 68 ((msa (σ 18) (σ 13 16) (pl w9) (σ 13 18) (σ 13 15)).1) ((msa (σ 18) (σ 13 16) (pl w9) (σ 13 18) (σ 13 15)).2))).1) = 1; omega) (by show 0 ≤ (σ 13 17) ∧ (σ 13 17) < 60; omega) (by omega)) ml_X5_192 mf_X5_number (o := 13) (ci := 5) rfl rfl rfl rfl ⟨(Nat.le_of_ble_eq_true rfl), (Nat.le_of_ble_eq_true rfl)⟩ rfl rfl rfl (Nat.le_of_ble_eq_true rfl) ⟨(Nat.le_of_ble_eq_true rfl), (Nat.le_of_ble_eq_true rfl)⟩ dX5_place_32 (q := 35) rfl ?_
  refine g_st (σ2 := (st (st σ 13 (pt (pt (σ 13) 15 (stA (σ 18) (σ 13 16) 78 ((msa (σ 18) (σ 13 16) (pl 25) (stW (σ 18) (σ 13 16) 68 ((msa (σ 18) (σ 13 16) (pl w9) (σ 13 18) (σ 13 15)).1) ((msa (σ 18) (σ 13 16) (pl w9) (σ 13 18) (σ 13 15)).2)) (stA (σ 18) (σ 13 16) 68 ((msa (σ 18) (σ 13 16) (pl w9) (σ 13 18) (σ 13 15)).1) ((msa (σ 18) (σ 13 16) (pl w9) (σ 13 18) (σ 13 15)).2))).1) ((msa (σ 18) (σ 13 16) (pl 25) (stW (σ 18) (σ 13 16) 68 ((msa (σ 18) (σ 13 16) (pl w9) (σ 13 18) (σ 13 15)).1) ((msa (σ 18) (σ 13 16) (pl w9) (σ 13 18) (σ 13 15)).2)) (stA (σ 18) (σ 13 16) 68 ((msa (σ 18) (σ 13 16) (pl w9) (σ 13 18) (σ 13 15)).1) ((msa (σ 18) (σ 13 16) (pl w9) (σ 13 18) (σ 13 15)).2))).2))) 18 (stW (σ 18) (σ 13 16) 78 ((msa (σ 18) (σ 13 16) (pl 25) (stW (σ 18) (σ 13 16) 68 ((msa (σ 18) (σ 13 16) (pl w9) (σ 13 18) (σ 13 15)).1) ((msa (σ 18) (σ 13 16) (pl w9) (σ 13 18) (σ 13 15)).2)) (stA (σ 18) (σ 13 16) 68 ((msa (σ 18) (σ 13 16) (pl w9) (σ 13 18) (σ 13 15)).1) ((msa (σ 18) (σ 13 16) (pl w9) (σ 13 18) (σ 13 15)).2))).1) ((msa (σ 18) (σ 13 16) (pl 25) (stW (σ 18) (σ 13 16) 68 ((msa (σ 18) (σ 13 16) (pl w9) (σ 13 18) (σ 13 15)).1) ((msa (σ 18) (σ 13 16) (pl w9) (σ 13 18) (σ 13 15)).2)) (stA (σ 18) (σ 13 16) 68 ((msa (σ 18) (σ 13 16) (pl w9) (σ 13 18) (σ 13 15)).1) ((msa (σ 18) (σ 13 16) (pl w9) (σ 13 18) (σ 13 15)).2))).2)))) 19 (pt (pt (pt (σ 19) (5 * (σ 13 17)) c) (5 * (σ 13 17) + 1) (stV (σ 18) (σ 13 16) 68 ((msa (σ 18) (σ 13 16) (pl w9) (σ 13 18) (σ 13 15)).1) ((msa (σ 18) (σ 13 16) (pl w9) (σ 13 18) (σ 13 15)).2))) (5 * (σ 13 17) + 2) (stV (σ 18) (σ 13 16) 78 ((msa (σ 18) (σ 13 16) (pl 25) (stW (σ 18) (σ 13 16) 68 ((msa (σ 18) (σ 13 16) (pl w9) (σ 13 18) (σ 13 15)).1) ((msa (σ 18) (σ 13 16) (pl w9) (σ 13 18) (σ 13 15)).2)) (stA (σ 18) (σ 13 16) 68 ((msa (σ 18) (σ 13 16) (pl w9) (σ 13 18) (σ 13 15)).1) ((msa (σ 18) (σ 13 16) (pl w9) (σ 13 18) (σ 13 15)).2))).1) ((msa (σ 18) (σ 13 16) (pl 25) (stW (σ 18) (σ 13 16) 68 ((msa (σ 18) (σ 13 16) (pl w9) (σ 13 18) (σ 13 15)).1) ((msa (σ 18) (σ 13 16) (pl w9) (σ 13 18) (σ 13 15)).2)) (stA (σ 18) (σ 13 16) 68 ((msa (σ 18) (σ 13 16) (pl w9) (σ 13 18) (σ 13 15)).1) ((msa (σ 18) (σ 13 16) (pl w9) (σ 13 18) (σ 13 15)).2))).2))))) ((congrArg (fun g9 => st g9 19 (pt (pt (pt (σ 19) (5 * (σ 13 17)) c) (5 * (σ 13 17) + 1) (stV (σ 18) (σ 13 16) 68 ((msa (σ 18) (σ 13 16) (pl w9) (σ 13 18) (σ 13 15)).1) ((msa (σ 18) (σ 13 16) (pl w9) (σ 13 18) (σ 13 15)).2))) (5 * (σ 13 17) + 2) (stV (σ 18) (σ 13 16) 78 ((msa (σ 18) (σ 13 16) (pl 25) (stW (σ 18) (σ 13 16) 68 ((msa (σ 18) (σ 13 16) (pl w9) (σ 13 18) (σ 13 15)).1) ((msa (σ 18) (σ 13 16) (pl w9) (σ 13 18) (σ 13 15)).2)) (stA (σ 18) (σ 13 16) 68 ((msa (σ 18) (σ 13 16) (pl w9) (σ 13 18) (σ 13 15)).1) ((msa (σ 18) (σ 13 16) (pl w9) (σ 13 18) (σ 13 15)).2))).1) ((msa (σ 18) (σ 13 16) (pl 25) (stW (σ 18) (σ 13 16) 68 ((msa (σ 18) (σ 13 16) (pl w9) (σ 13 18) (σ 13 15)).1) ((msa (σ 18) (σ 13 16) (pl w9) (σ 13 18) (σ 13 15)).2)) (stA (σ 18) (σ 13 16) 68 ((msa (σ 18) (σ 13 16) (pl w9) (σ 13 18) (σ 13 15)).1) ((msa (σ 18) (σ 13 16) (pl w9) (σ 13 18) (σ 13 15)).2))).2)))) ((congrArg (st (st (st σ 13 (pt (pt (σ 13) 15 ((msa (σ 18) (σ 13 16) (pl 25) (stW (σ 18) (σ 13 16) 68 ((msa (σ 18) (σ 13 16) (pl w9) (σ 13 18) (σ 13 15)).1) ((msa (σ 18) (σ 13 16) (pl w9) (σ 13 18) (σ 13 15)).2)) (stA (σ 18) (σ 13 16) 68 ((msa (σ 18) (σ 13 16) (pl w9) (σ 13 18) (σ 13 15)).1) ((msa (σ 18) (σ 13 16) (pl w9) (σ 13 18) (σ 13 15)).2))).2)) 18 ((msa (σ 18) (σ 13 16) (pl 25) (stW (σ 18) (σ 13 16) 68 ((msa (σ 18) (σ 13 16) (pl w9) (σ 13 18) (σ 13 15)).1) ((msa (σ 18) (σ 13 16) (pl w9) (σ 13 18) (σ 13 15)).2)) (stA (σ 18) (σ 13 16) 68 ((msa (σ 18) (σ 13 16) (pl w9) (σ 13 18) (σ 13 15)).1) ((msa (σ 18) (σ 13 16) (pl w9) (σ 13 18) (σ 13 15)).2))).1))) 19 (pt (pt (σ 19) (5 * (σ 13 17)) c) (5 * (σ 13 17) + 1) (stV (σ 18) (σ 13 16) 68 ((msa (σ 18) (σ 13 16) (pl w9) (σ 13 18) (σ 13 15)).1) ((msa (σ 18) (σ 13 16) (pl w9) (σ 13 18) (σ 13 15)).2)))) 13) ((congrArg (fun g9 => pt g9 18 (stW (σ 18) (σ 13 16) 78 ((msa (σ 18) (σ 13 16) (pl 25) (stW (σ 18) (σ 13 16) 68 ((msa (σ 18) (σ 13 16) (pl w9) (σ 13 18) (σ 13 15)).1) ((msa (σ 18) (σ 13 16) (pl w9) (σ 13 18) (σ 13 15)).2)) (stA (σ 18) (σ 13 16) 68 ((msa (σ 18) (σ 13 16) (pl w9) (σ 13 18) (σ 13 15)).1) ((msa (σ 18) (σ 13 16) (pl w9) (σ 13 18) (σ 13 15)).2))).1) ((msa (σ 18) (σ 13 16) (pl 25) (stW (σ 18) (σ 13 16) 68 ((msa (σ 18) (σ 13 16) (pl w9) (σ 13 18) (σ 13 15)).1) ((msa (σ 18) (σ 13 16) (pl w9) (σ 13 18) (σ 13 15)).2)) (stA (σ 18) (σ 13 16) 68 ((msa (σ 18) (σ 13 16) (pl w9) (σ 13 18) (σ 13 15)).1) ((msa (σ 18) (σ 13 16) (pl w9) (σ 13 18) (σ 13 15)).2))).2))) ((pt_cm (pt (σ 13) 15 ((msa (σ 18) (σ 13 16) (pl 25) (stW (σ 18) (σ 13 16) 68 ((msa (σ 18) (σ 13 16) (pl w9) (σ 13 18) (σ 13 15)).1) ((msa (σ 18) (σ 13 16) (pl w9) (σ 13 18) (σ 13 15)).2)) (stA (σ 18) (σ 13 16) 68 ((msa (σ 18) (σ 13 16) (pl w9) (σ 13 18) (σ 13 15)).1) ((msa (σ 18) (σ 13 16) (pl w9) (σ 13 18) (σ 13 15)).2))).2)) (k := 18) (j := 15) ((msa (σ 18) (σ 13 16) (pl 25) (stW (σ 18) (σ 13 16) 68 ((msa (σ 18) (σ 13 16) (pl w9) (σ 13 18) (σ 13 15)).1) ((msa (σ 18) (σ 13 16) (pl w9) (σ 13 18) (σ 13 15)).2)) (stA (σ 18) (σ 13 16) 68 ((msa (σ 18) (σ 13 16) (pl w9) (σ 13 18) (σ 13 15)).1) ((msa (σ 18) (σ 13 16) (pl w9) (σ 13 18) (σ 13 15)).2))).1) (stA (σ 18) (σ 13 16) 78 ((msa (σ 18) (σ 13 16) (pl 25) (stW (σ 18) (σ 13 16) 68 ((msa (σ 18) (σ 13 16) (pl w9) (σ 13 18) (σ 13 15)).1) ((msa (σ 18) (σ 13 16) (pl w9) (σ 13 18) (σ 13 15)).2)) (stA (σ 18) (σ 13 16) 68 ((msa (σ 18) (σ 13 16) (pl w9) (σ 13 18) (σ 13 15)).1) ((msa (σ 18) (σ 13 16) (pl w9) (σ 13 18) (σ 13 15)).2))).1) ((msa (σ 18) (σ 13 16) (pl 25) (stW (σ 18) (σ 13 16) 68 ((msa (σ 18) (σ 13 16) (pl w9) (σ 13 18) (σ 13 15)).1) ((msa (σ 18) (σ 13 16) (pl w9) (σ 13 18) (σ 13 15)).2)) (stA (σ 18) (σ 13 16) 68 ((msa (σ 18) (σ 13 16) (pl w9) (σ 13 18) (σ 13 15)).1) ((msa (σ 18) (σ 13 16) (pl w9) (σ 13 18) (σ 13 15)).2))).2)) (by decide)).trans (congrArg (fun g9 => pt g9 18 ((msa (σ 18) (σ 13 16) (pl 25) (stW (σ 18) (σ 13 16) 68 ((msa (σ 18) (σ 13 16) (pl w9) (σ 13 18) (σ 13 15)).1) ((msa (σ 18) (σ 13 16) (pl w9) (σ 13 18) (σ 13 15)).2)) (stA (σ 18) (σ 13 16) 68 ((msa (σ 18) (σ 13 16) (pl w9) (σ 13 18) (σ 13 15)).1) ((msa (σ 18) (σ 13 16) (pl w9) (σ 13 18) (σ 13 15)).2))).1)) (pt_pt _ _ _ _)))).trans (pt_pt _ _ _ _))).trans ((st_cm (st σ 13 (pt (pt (σ 13) 15 ((msa (σ 18) (σ 13 16) (pl 25) (stW (σ 18) (σ 13 16) 68 ((msa (σ 18) (σ 13 16) (pl w9) (σ 13 18) (σ 13 15)).1) ((msa (σ 18) (σ 13 16) (pl w9) (σ 13 18) (σ 13 15)).2)) (stA (σ 18) (σ 13 16) 68 ((msa (σ 18) (σ 13 16) (pl w9) (σ 13 18) (σ 13 15)).1) ((msa (σ 18) (σ 13 16) (pl w9) (σ 13 18) (σ 13 15)).2))).2)) 18 ((msa (σ 18) (σ 13 16) (pl 25) (stW (σ 18) (σ 13 16) 68 ((msa (σ 18) (σ 13 16) (pl w9) (σ 13 18) (σ 13 15)).1) ((msa (σ 18) (σ 13 16) (pl w9) (σ 13 18) (σ 13 15)).2)) (stA (σ 18) (σ 13 16) 68 ((msa (σ 18) (σ 13 16) (pl w9) (σ 13 18) (σ 13 15)).1) ((msa (σ 18) (σ 13 16) (pl w9) (σ 13 18) (σ 13 15)).2))).1))) (o := 19) (q := 13) (pt (pt (σ 19) (5 * (σ 13 17)) c) (5 * (σ 13 17) + 1) (stV (σ 18) (σ 13 16) 68 ((msa (σ 18) (σ 13 16) (pl w9) (σ 13 18) (σ 13 15)).1) ((msa (σ 18) (σ 13 16) (pl w9) (σ 13 18) (σ 13 15)).2))) (pt (pt (σ 13) 15 (stA (σ 18) (σ 13 16) 78 ((msa (σ 18) (σ 13 16) (pl 25) (stW (σ 18) (σ 13 16) 68 ((msa (σ 18) (σ 13 16) (pl w9) (σ 13 18) (σ 13 15)).1) ((msa (σ 18) (σ 13 16) (pl w9) (σ 13 18) (σ 13 15)).2)) (stA (σ 18) (σ 13 16) 68 ((msa (σ 18) (σ 13 16) (pl w9) (σ 13 18) (σ 13 15)).1) ((msa (σ 18) (σ 13 16) (pl w9) (σ 13 18) (σ 13 15)).2))).1) ((msa (σ 18) (σ 13 16) (pl 25) (stW (σ 18) (σ 13 16) 68 ((msa (σ 18) (σ 13 16) (pl w9) (σ 13 18) (σ 13 15)).1) ((msa (σ 18) (σ 13 16) (pl w9) (σ 13 18) (σ 13 15)).2)) (stA (σ 18) (σ 13 16) 68 ((msa (σ 18) (σ 13 16) (pl w9) (σ 13 18) (σ 13 15)).1) ((msa (σ 18) (σ 13 16) (pl w9) (σ 13 18) (σ 13 15)).2))).2))) 18 (stW (σ 18) (σ 13 16) 78 ((msa (σ 18) (σ 13 16) (pl 25) (stW (σ 18) (σ 13 16) 68 ((msa (σ 18) (σ 13 16) (pl w9) (σ 13 18) (σ 13 15)).1) ((msa (σ 18) (σ 13 16) (pl w9) (σ 13 18) (σ 13 15)).2)) (stA (σ 18) (σ 13 16) 68 ((msa (σ 18) (σ 13 16) (pl w9) (σ 13 18) (σ 13 15)).1) ((msa (σ 18) (σ 13 16) (pl w9) (σ 13 18) (σ 13 15)).2))).1) ((msa (σ 18) (σ 13 16) (pl 25) (stW (σ 18) (σ 13 16) 68 ((msa (σ 18) (σ 13 16) (pl w9) (σ 13 18) (σ 13 15)).1) ((msa (σ 18) (σ 13 16) (pl w9) (σ 13 18) (σ 13 15)).2)) (stA (σ 18) (σ 13 16) 68 ((msa (σ 18) (σ 13 16) (pl w9) (σ 13 18) (σ 13 15)).1) ((msa (σ 18) (σ 13 16) (pl w9) (σ 13 18) (σ 13 15)).2))).2))) (by decide)).trans (congrArg (fun g9 => st g9 19 (pt (pt (σ 19) (5 * (σ 13 17)) c) (5 * (σ 13 17) + 1) (stV (σ 18) (σ 13 16) 68 ((msa (σ 18) (σ 13 16) (pl w9) (σ 13 18) (σ 13 15)).1) ((msa (σ 18) (σ 13 16) (pl w9) (σ 13 18) (σ 13 15)).2)))) (st_st _ _ _ _))))).trans (st_st _ _ _ _)) ?_
  refine g_st (σ2 := (st (st σ 13 (pt (pt (σ 13) 15 ((mfo (σ 18) (σ 13 16) (pl w9 ++ (68 :: (pl 25 ++ (78 :: [])))) (σ 13 18) (σ 13 15) (5 * (σ 13 17) + 1) (pt (σ 19) (5 * (σ 13 17)) c)).2.1)) 18 ((mfo (σ 18) (σ 13 16) (pl w9 ++ (68 :: (pl 25 ++ (78 :: [])))) (σ 13 18) (σ 13 15) (5 * (σ 13 17) + 1) (pt (σ 19) (5 * (σ 13 17)) c)).1))) 19 ((mfo (σ 18) (σ 13 16) (pl w9 ++ (68 :: (pl 25 ++ (78 :: [])))) (σ 13 18) (σ 13 15) (5 * (σ 13 17) + 1) (pt (σ 19) (5 * (σ 13 17)) c)).2.2.2))) (by simp only [mfo_msa (pl w9) (sa_v hw9), mfo_app, mfo_msa (pl 23) (sa_v (by decide)), mfo_msa (pl 25) (sa_v (by decide)), mfo_msa (pl 27) (sa_v (by decide)), mfo_msa (pl 30) (sa_v (by decide)), mfo_msa (pl 32) (sa_v (by decide)), mfo_68, mfo_78, mfo_67, mfo_nil, Int.add_assoc, Int.reduceAdd]) ?_
  exact hret _ _ dX5_place_35
abbrev rm_X5_pair : Room := { frames := 5, cells := 0, slots := 0, locals := 133 }
set_option maxRecDepth 100000 in
set_option maxHeartbeats 4000000 in
theorem c_X5_pair (l : Launch) (E : EV) (σ : SS) (c : Int) (w9 v9 : Nat) (hT : TW (σ 18) (σ 13 16)) (ha : 0 ≤ (σ 13 15) ∧ (σ 13 15) ≤ 800) (hw : (σ 13 18) = 0 ∨ (σ 13 18) = 1) (hm : 0 ≤ (σ 13 17) ∧ (σ 13 17) < 60) (hw9 : 22 ≤ w9 ∧ w9 < 38) (hv9 : 22 ≤ v9 ∧ v9 < 38) : Kv l yX5_pair (cw yX5_pair cX5_pair 4 none) rm_X5_pair E [.ref (ea E 13), .int (iI c), .ref (ek E w9), .ref (ek E v9)] σ (st (st σ 13 (pt (pt (σ 13) 15 ((mfo (σ 18) (σ 13 16) (pl w9 ++ (68 :: (pl v9 ++ (68 :: [])))) (σ 13 18) (σ 13 15) (5 * (σ 13 17) + 1) (pt (σ 19) (5 * (σ 13 17)) c)).2.1)) 18 ((mfo (σ 18) (σ 13 16) (pl w9 ++ (68 :: (pl v9 ++ (68 :: [])))) (σ 13 18) (σ 13 15) (5 * (σ 13 17) + 1) (pt (σ 19) (5 * (σ 13 17)) c)).1))) 19 ((mfo (σ 18) (σ 13 16) (pl w9 ++ (68 :: (pl v9 ++ (68 :: [])))) (σ 13 18) (σ 13 15) (5 * (σ 13 17) + 1) (pt (σ 19) (5 * (σ 13 17)) c)).2.2.2)) := by
  refine Kv_of (rm := rm_X5_pair) (mL := 4) (b := cX5_pair) RX5 rfl (by decide +kernel) rfl rfl [(0, .ref (ea E 13)), (1, .int (iI c)), (2, .ref (ek E w9)), (3, .ref (ek E v9))] rfl (Nat.le_of_ble_eq_true rfl) (fun p_ e_ s_ m_ a_ b_ h_ c_ Q A C hret => ?_)
  refine g_aload_n C dX5_pair_0 0 rfl rfl (q := 1) rfl ?_
  refine gf_X5_25 C dX5_pair_1 (q := 4) rfl ?_
  refine g_iconst C dX5_pair_4 (q := 5) rfl ?_
  refine g_aload_n C dX5_pair_5 0 rfl rfl (q := 6) rfl ?_
  refine gf_X5_185 C dX5_pair_6 (q := 9) rfl ?_
  refine g_imul C dX5_pair_9 (q := 10) rfl ?_
  refine g_iload_n C dX5_pair_10 1 rfl rfl (q := 11) rfl ?_
  refine gs_19 C (by omega) dX5_pair_11 (q := 12) rfl ?_
  refine g_aload_n C dX5_pair_12 0 rfl rfl (q := 13) rfl ?_
  refine g_aload_n C dX5_pair_13 2 rfl rfl (q := 14) rfl ?_
  refine g_cV_v C (As := [.ref (ek E w9)]) (c_X5_says l E _  w9 (by show TW (σ 18) (σ 13 16); assumption) (by show 0 ≤ (σ 13 15) ∧ (σ 13 15) ≤ 900; omega) (by show (σ 13 18) = 0 ∨ (σ 13 18) = 1; omega) (by first | exact hw9 | exact hv9)) ml_X5_188 mf_X5_says (o := 13) (ci := 5) rfl rfl rfl rfl ⟨(Nat.le_of_ble_eq_true rfl), (Nat.le_of_ble_eq_true rfl)⟩ rfl rfl rfl (Nat.le_of_ble_eq_true rfl) ⟨(Nat.le_of_ble_eq_true rfl), (Nat.le_of_ble_eq_true rfl)⟩ dX5_pair_14 (q := 17) rfl ?_
  refine g_st (σ2 := (st (st σ 13 (pt (pt (σ 13) 15 ((msa (σ 18) (σ 13 16) (pl w9) (σ 13 18) (σ 13 15)).2)) 18 ((msa (σ 18) (σ 13 16) (pl w9) (σ 13 18) (σ 13 15)).1))) 19 (pt (σ 19) (5 * (σ 13 17)) c))) (st_cm σ (o := 19) (q := 13) (pt (σ 19) (5 * (σ 13 17)) c) (pt (pt (σ 13) 15 ((msa (σ 18) (σ 13 16) (pl w9) (σ 13 18) (σ 13 15)).2)) 18 ((msa (σ 18) (σ 13 16) (pl w9) (σ 13 18) (σ 13 15)).1)) (by decide)) ?_
  have hqw9 := msa_rg (σ 18) (σ 13 16) (pl w9) (w := σ 13 18) (a := σ 13 15) (by omega)
  have hzw9 := sa_l (w := w9) hw9
  refine g_aload_n C dX5_pair_17 0 rfl rfl (q := 18) rfl ?_
  refine g_iconst C dX5_pair_18 (q := 19) rfl ?_
  refine g_iconst C dX5_pair_19 (q := 20) rfl ?_
  refine g_cV_v C (As := [.int (iI 1), .int (iI 1)]) (c_X5_number_1 l E _ 1  (by show TW (σ 18) (σ 13 16); assumption) (by show 0 ≤ ((msa (σ 18) (σ 13 16) (pl w9) (σ 13 18) (σ 13 15)).2) ∧ ((msa (σ 18) (σ 13 16) (pl w9) (σ 13 18) (σ 13 15)).2) ≤ 900; omega) (by show ((msa (σ 18) (σ 13 16) (pl w9) (σ 13 18) (σ 13 15)).1) = 0 ∨ ((msa (σ 18) (σ 13 16) (pl w9) (σ 13 18) (σ 13 15)).1) = 1; omega) (by show 0 ≤ (σ 13 17) ∧ (σ 13 17) < 60; omega) (by omega)) ml_X5_192 mf_X5_number (o := 13) (ci := 5) rfl rfl rfl rfl ⟨(Nat.le_of_ble_eq_true rfl), (Nat.le_of_ble_eq_true rfl)⟩ rfl rfl rfl (Nat.le_of_ble_eq_true rfl) ⟨(Nat.le_of_ble_eq_true rfl), (Nat.le_of_ble_eq_true rfl)⟩ dX5_pair_20 (q := 23) rfl ?_
  refine g_st (σ2 := (st (st σ 13 (pt (pt (σ 13) 15 (stA (σ 18) (σ 13 16) 68 ((msa (σ 18) (σ 13 16) (pl w9) (σ 13 18) (σ 13 15)).1) ((msa (σ 18) (σ 13 16) (pl w9) (σ 13 18) (σ 13 15)).2))) 18 (stW (σ 18) (σ 13 16) 68 ((msa (σ 18) (σ 13 16) (pl w9) (σ 13 18) (σ 13 15)).1) ((msa (σ 18) (σ 13 16) (pl w9) (σ 13 18) (σ 13 15)).2)))) 19 (pt (pt (σ 19) (5 * (σ 13 17)) c) (5 * (σ 13 17) + 1) (stV (σ 18) (σ 13 16) 68 ((msa (σ 18) (σ 13 16) (pl w9) (σ 13 18) (σ 13 15)).1) ((msa (σ 18) (σ 13 16) (pl w9) (σ 13 18) (σ 13 15)).2))))) ((congrArg (fun g9 => st g9 19 (pt (pt (σ 19) (5 * (σ 13 17)) c) (5 * (σ 13 17) + 1) (stV (σ 18) (σ 13 16) 68 ((msa (σ 18) (σ 13 16) (pl w9) (σ 13 18) (σ 13 15)).1) ((msa (σ 18) (σ 13 16) (pl w9) (σ 13 18) (σ 13 15)).2)))) ((congrArg (st (st (st σ 13 (pt (pt (σ 13) 15 ((msa (σ 18) (σ 13 16) (pl w9) (σ 13 18) (σ 13 15)).2)) 18 ((msa (σ 18) (σ 13 16) (pl w9) (σ 13 18) (σ 13 15)).1))) 19 (pt (σ 19) (5 * (σ 13 17)) c)) 13) ((congrArg (fun g9 => pt g9 18 (stW (σ 18) (σ 13 16) 68 ((msa (σ 18) (σ 13 16) (pl w9) (σ 13 18) (σ 13 15)).1) ((msa (σ 18) (σ 13 16) (pl w9) (σ 13 18) (σ 13 15)).2))) ((pt_cm (pt (σ 13) 15 ((msa (σ 18) (σ 13 16) (pl w9) (σ 13 18) (σ 13 15)).2)) (k := 18) (j := 15) ((msa (σ 18) (σ 13 16) (pl w9) (σ 13 18) (σ 13 15)).1) (stA (σ 18) (σ 13 16) 68 ((msa (σ 18) (σ 13 16) (pl w9) (σ 13 18) (σ 13 15)).1) ((msa (σ 18) (σ 13 16) (pl w9) (σ 13 18) (σ 13 15)).2)) (by decide)).trans (congrArg (fun g9 => pt g9 18 ((msa (σ 18) (σ 13 16) (pl w9) (σ 13 18) (σ 13 15)).1)) (pt_pt _ _ _ _)))).trans (pt_pt _ _ _ _))).trans ((st_cm (st σ 13 (pt (pt (σ 13) 15 ((msa (σ 18) (σ 13 16) (pl w9) (σ 13 18) (σ 13 15)).2)) 18 ((msa (σ 18) (σ 13 16) (pl w9) (σ 13 18) (σ 13 15)).1))) (o := 19) (q := 13) (pt (σ 19) (5 * (σ 13 17)) c) (pt (pt (σ 13) 15 (stA (σ 18) (σ 13 16) 68 ((msa (σ 18) (σ 13 16) (pl w9) (σ 13 18) (σ 13 15)).1) ((msa (σ 18) (σ 13 16) (pl w9) (σ 13 18) (σ 13 15)).2))) 18 (stW (σ 18) (σ 13 16) 68 ((msa (σ 18) (σ 13 16) (pl w9) (σ 13 18) (σ 13 15)).1) ((msa (σ 18) (σ 13 16) (pl w9) (σ 13 18) (σ 13 15)).2))) (by decide)).trans (congrArg (fun g9 => st g9 19 (pt (σ 19) (5 * (σ 13 17)) c)) (st_st _ _ _ _))))).trans (st_st _ _ _ _)) ?_
  have ho68 := stW_01 (σ 18) (σ 13 16) 68 ((msa (σ 18) (σ 13 16) (pl w9) (σ 13 18) (σ 13 15)).1) ((msa (σ 18) (σ 13 16) (pl w9) (σ 13 18) (σ 13 15)).2)
  have hp68 := stA_rg (σ 18) (σ 13 16) 68 ((msa (σ 18) (σ 13 16) (pl w9) (σ 13 18) (σ 13 15)).1) ((msa (σ 18) (σ 13 16) (pl w9) (σ 13 18) (σ 13 15)).2)
  refine g_aload_n C dX5_pair_23 0 rfl rfl (q := 24) rfl ?_
  refine g_aload_n C dX5_pair_24 3 rfl rfl (q := 25) rfl ?_
  refine g_cV_v C (As := [.ref (ek E v9)]) (c_X5_says l E _  v9 (by show TW (σ 18) (σ 13 16); assumption) (by show 0 ≤ (stA (σ 18) (σ 13 16) 68 ((msa (σ 18) (σ 13 16) (pl w9) (σ 13 18) (σ 13 15)).1) ((msa (σ 18) (σ 13 16) (pl w9) (σ 13 18) (σ 13 15)).2)) ∧ (stA (σ 18) (σ 13 16) 68 ((msa (σ 18) (σ 13 16) (pl w9) (σ 13 18) (σ 13 15)).1) ((msa (σ 18) (σ 13 16) (pl w9) (σ 13 18) (σ 13 15)).2)) ≤ 900; omega) (by show (stW (σ 18) (σ 13 16) 68 ((msa (σ 18) (σ 13 16) (pl w9) (σ 13 18) (σ 13 15)).1) ((msa (σ 18) (σ 13 16) (pl w9) (σ 13 18) (σ 13 15)).2)) = 0 ∨ (stW (σ 18) (σ 13 16) 68 ((msa (σ 18) (σ 13 16) (pl w9) (σ 13 18) (σ 13 15)).1) ((msa (σ 18) (σ 13 16) (pl w9) (σ 13 18) (σ 13 15)).2)) = 1; omega) (by first | exact hw9 | exact hv9)) ml_X5_188 mf_X5_says (o := 13) (ci := 5) rfl rfl rfl rfl ⟨(Nat.le_of_ble_eq_true rfl), (Nat.le_of_ble_eq_true rfl)⟩ rfl rfl rfl (Nat.le_of_ble_eq_true rfl) ⟨(Nat.le_of_ble_eq_true rfl), (Nat.le_of_ble_eq_true rfl)⟩ dX5_pair_25 (q := 28) rfl ?_
  refine g_st (σ2 := (st (st σ 13 (pt (pt (σ 13) 15 ((msa (σ 18) (σ 13 16) (pl v9) (stW (σ 18) (σ 13 16) 68 ((msa (σ 18) (σ 13 16) (pl w9) (σ 13 18) (σ 13 15)).1) ((msa (σ 18) (σ 13 16) (pl w9) (σ 13 18) (σ 13 15)).2)) (stA (σ 18) (σ 13 16) 68 ((msa (σ 18) (σ 13 16) (pl w9) (σ 13 18) (σ 13 15)).1) ((msa (σ 18) (σ 13 16) (pl w9) (σ 13 18) (σ 13 15)).2))).2)) 18 ((msa (σ 18) (σ 13 16) (pl v9) (stW (σ 18) (σ 13 16) 68 ((msa (σ 18) (σ 13 16) (pl w9) (σ 13 18) (σ 13 15)).1) ((msa (σ 18) (σ 13 16) (pl w9) (σ 13 18) (σ 13 15)).2)) (stA (σ 18) (σ 13 16) 68 ((msa (σ 18) (σ 13 16) (pl w9) (σ 13 18) (σ 13 15)).1) ((msa (σ 18) (σ 13 16) (pl w9) (σ 13 18) (σ 13 15)).2))).1))) 19 (pt (pt (σ 19) (5 * (σ 13 17)) c) (5 * (σ 13 17) + 1) (stV (σ 18) (σ 13 16) 68 ((msa (σ 18) (σ 13 16) (pl w9) (σ 13 18) (σ 13 15)).1) ((msa (σ 18) (σ 13 16) (pl w9) (σ 13 18) (σ 13 15)).2))))) ((congrArg (st (st (st σ 13 (pt (pt (σ 13) 15 (stA (σ 18) (σ 13 16) 68 ((msa (σ 18) (σ 13 16) (pl w9) (σ 13 18) (σ 13 15)).1) ((msa (σ 18) (σ 13 16) (pl w9) (σ 13 18) (σ 13 15)).2))) 18 (stW (σ 18) (σ 13 16) 68 ((msa (σ 18) (σ 13 16) (pl w9) (σ 13 18) (σ 13 15)).1) ((msa (σ 18) (σ 13 16) (pl w9) (σ 13 18) (σ 13 15)).2)))) 19 (pt (pt (σ 19) (5 * (σ 13 17)) c) (5 * (σ 13 17) + 1) (stV (σ 18) (σ 13 16) 68 ((msa (σ 18) (σ 13 16) (pl w9) (σ 13 18) (σ 13 15)).1) ((msa (σ 18) (σ 13 16) (pl w9) (σ 13 18) (σ 13 15)).2)))) 13) ((congrArg (fun g9 => pt g9 18 ((msa (σ 18) (σ 13 16) (pl v9) (stW (σ 18) (σ 13 16) 68 ((msa (σ 18) (σ 13 16) (pl w9) (σ 13 18) (σ 13 15)).1) ((msa (σ 18) (σ 13 16) (pl w9) (σ 13 18) (σ 13 15)).2)) (stA (σ 18) (σ 13 16) 68 ((msa (σ 18) (σ 13 16) (pl w9) (σ 13 18) (σ 13 15)).1) ((msa (σ 18) (σ 13 16) (pl w9) (σ 13 18) (σ 13 15)).2))).1)) ((pt_cm (pt (σ 13) 15 (stA (σ 18) (σ 13 16) 68 ((msa (σ 18) (σ 13 16) (pl w9) (σ 13 18) (σ 13 15)).1) ((msa (σ 18) (σ 13 16) (pl w9) (σ 13 18) (σ 13 15)).2))) (k := 18) (j := 15) (stW (σ 18) (σ 13 16) 68 ((msa (σ 18) (σ 13 16) (pl w9) (σ 13 18) (σ 13 15)).1) ((msa (σ 18) (σ 13 16) (pl w9) (σ 13 18) (σ 13 15)).2)) ((msa (σ 18) (σ 13 16) (pl v9) (stW (σ 18) (σ 13 16) 68 ((msa (σ 18) (σ 13 16) (pl w9) (σ 13 18) (σ 13 15)).1) ((msa (σ 18) (σ 13 16) (pl w9) (σ 13 18) (σ 13 15)).2)) (stA (σ 18) (σ 13 16) 68 ((msa (σ 18) (σ 13 16) (pl w9) (σ 13 18) (σ 13 15)).1) ((msa (σ 18) (σ 13 16) (pl w9) (σ 13 18) (σ 13 15)).2))).2) (by decide)).trans (congrArg (fun g9 => pt g9 18 (stW (σ 18) (σ 13 16) 68 ((msa (σ 18) (σ 13 16) (pl w9) (σ 13 18) (σ 13 15)).1) ((msa (σ 18) (σ 13 16) (pl w9) (σ 13 18) (σ 13 15)).2))) (pt_pt _ _ _ _)))).trans (pt_pt _ _ _ _))).trans ((st_cm (st σ 13 (pt (pt (σ 13) 15 (stA (σ 18) (σ 13 16) 68 ((msa (σ 18) (σ 13 16) (pl w9) (σ 13 18) (σ 13 15)).1) ((msa (σ 18) (σ 13 16) (pl w9) (σ 13 18) (σ 13 15)).2))) 18 (stW (σ 18) (σ 13 16) 68 ((msa (σ 18) (σ 13 16) (pl w9) (σ 13 18) (σ 13 15)).1) ((msa (σ 18) (σ 13 16) (pl w9) (σ 13 18) (σ 13 15)).2)))) (o := 19) (q := 13) (pt (pt (σ 19) (5 * (σ 13 17)) c) (5 * (σ 13 17) + 1) (stV (σ 18) (σ 13 16) 68 ((msa (σ 18) (σ 13 16) (pl w9) (σ 13 18) (σ 13 15)).1) ((msa (σ 18) (σ 13 16) (pl w9) (σ 13 18) (σ 13 15)).2))) (pt (pt (σ 13) 15 ((msa (σ 18) (σ 13 16) (pl v9) (stW (σ 18) (σ 13 16) 68 ((msa (σ 18) (σ 13 16) (pl w9) (σ 13 18) (σ 13 15)).1) ((msa (σ 18) (σ 13 16) (pl w9) (σ 13 18) (σ 13 15)).2)) (stA (σ 18) (σ 13 16) 68 ((msa (σ 18) (σ 13 16) (pl w9) (σ 13 18) (σ 13 15)).1) ((msa (σ 18) (σ 13 16) (pl w9) (σ 13 18) (σ 13 15)).2))).2)) 18 ((msa (σ 18) (σ 13 16) (pl v9) (stW (σ 18) (σ 13 16) 68 ((msa (σ 18) (σ 13 16) (pl w9) (σ 13 18) (σ 13 15)).1) ((msa (σ 18) (σ 13 16) (pl w9) (σ 13 18) (σ 13 15)).2)) (stA (σ 18) (σ 13 16) 68 ((msa (σ 18) (σ 13 16) (pl w9) (σ 13 18) (σ 13 15)).1) ((msa (σ 18) (σ 13 16) (pl w9) (σ 13 18) (σ 13 15)).2))).1)) (by decide)).trans (congrArg (fun g9 => st g9 19 (pt (pt (σ 19) (5 * (σ 13 17)) c) (5 * (σ 13 17) + 1) (stV (σ 18) (σ 13 16) 68 ((msa (σ 18) (σ 13 16) (pl w9) (σ 13 18) (σ 13 15)).1) ((msa (σ 18) (σ 13 16) (pl w9) (σ 13 18) (σ 13 15)).2)))) (st_st _ _ _ _)))) ?_
  have hqv9 := msa_rg (σ 18) (σ 13 16) (pl v9) (w := (stW (σ 18) (σ 13 16) 68 ((msa (σ 18) (σ 13 16) (pl w9) (σ 13 18) (σ 13 15)).1) ((msa (σ 18) (σ 13 16) (pl w9) (σ 13 18) (σ 13 15)).2))) (a := (stA (σ 18) (σ 13 16) 68 ((msa (σ 18) (σ 13 16) (pl w9) (σ 13 18) (σ 13 15)).1) ((msa (σ 18) (σ 13 16) (pl w9) (σ 13 18) (σ 13 15)).2))) (by omega)
  have hzv9 := sa_l (w := v9) hv9
  refine g_aload_n C dX5_pair_28 0 rfl rfl (q := 29) rfl ?_
  refine g_iconst C dX5_pair_29 (q := 30) rfl ?_
  refine g_iconst C dX5_pair_30 (q := 31) rfl ?_
  refine g_cV_v C (As := [.int (iI 2), .int (iI 1)]) (c_X5_number_1 l E _ 2  (by show TW (σ 18) (σ 13 16); assumption) (by show 0 ≤ ((msa (σ 18) (σ 13 16) (pl v9) (stW (σ 18) (σ 13 16) 68 ((msa (σ 18) (σ 13 16) (pl w9) (σ 13 18) (σ 13 15)).1) ((msa (σ 18) (σ 13 16) (pl w9) (σ 13 18) (σ 13 15)).2)) (stA (σ 18) (σ 13 16) 68 ((msa (σ 18) (σ 13 16) (pl w9) (σ 13 18) (σ 13 15)).1) ((msa (σ 18) (σ 13 16) (pl w9) (σ 13 18) (σ 13 15)).2))).2) ∧ ((msa (σ 18) (σ 13 16) (pl v9) (stW (σ 18) (σ 13 16) 68 ((msa (σ 18) (σ 13 16) (pl w9) (σ 13 18) (σ 13 15)).1) ((msa (σ 18) (σ 13 16) (pl w9) (σ 13 18) (σ 13 15)).2)) (stA (σ 18) (σ 13 16) 68 ((msa (σ 18) (σ 13 16) (pl w9) (σ 13 18) (σ 13 15)).1) ((msa (σ 18) (σ 13 16) (pl w9) (σ 13 18) (σ 13 15)).2))).2) ≤ 900; omega) (by show ((msa (σ 18) (σ 13 16) (pl v9) (stW (σ 18) (σ 13 16) 68 ((msa (σ 18) (σ 13 16) (pl w9) (σ 13 18) (σ 13 15)).1) ((msa (σ 18) (σ 13 16) (pl w9) (σ 13 18) (σ 13 15)).2)) (stA (σ 18) (σ 13 16) 68 ((msa (σ 18) (σ 13 16) (pl w9) (σ 13 18) (σ 13 15)).1) ((msa (σ 18) (σ 13 16) (pl w9) (σ 13 18) (σ 13 15)).2))).1) = 0 ∨ ((msa (σ 18) (σ 13 16) (pl v9) (stW (σ 18) (σ 13 16) 68 ((msa (σ 18) (σ 13 16) (pl w9) (σ 13 18) (σ 13 15)).1) ((msa (σ 18) (σ 13 16) (pl w9) (σ 13 18) (σ 13 15)).2)) (stA (σ 18) (σ 13 16) 68 ((msa (σ 18) (σ 13 16) (pl w9) (σ 13 18) (σ 13 15)).1) ((msa (σ 18) (σ 13 16) (pl w9) (σ 13 18) (σ 13 15)).2))).1) = 1; omega) (by show 0 ≤ (σ 13 17) ∧ (σ 13 17) < 60; omega) (by omega)) ml_X5_192 mf_X5_number (o := 13) (ci := 5) rfl rfl rfl rfl ⟨(Nat.le_of_ble_eq_true rfl), (Nat.le_of_ble_eq_true rfl)⟩ rfl rfl rfl (Nat.le_of_ble_eq_true rfl) ⟨(Nat.le_of_ble_eq_true rfl), (Nat.le_of_ble_eq_true rfl)⟩ dX5_pair_31 (q := 34) rfl ?_
  refine g_st (σ2 := (st (st σ 13 (pt (pt (σ 13) 15 (stA (σ 18) (σ 13 16) 68 ((msa (σ 18) (σ 13 16) (pl v9) (stW (σ 18) (σ 13 16) 68 ((msa (σ 18) (σ 13 16) (pl w9) (σ 13 18) (σ 13 15)).1) ((msa (σ 18) (σ 13 16) (pl w9) (σ 13 18) (σ 13 15)).2)) (stA (σ 18) (σ 13 16) 68 ((msa (σ 18) (σ 13 16) (pl w9) (σ 13 18) (σ 13 15)).1) ((msa (σ 18) (σ 13 16) (pl w9) (σ 13 18) (σ 13 15)).2))).1) ((msa (σ 18) (σ 13 16) (pl v9) (stW (σ 18) (σ 13 16) 68 ((msa (σ 18) (σ 13 16) (pl w9) (σ 13 18) (σ 13 15)).1) ((msa (σ 18) (σ 13 16) (pl w9) (σ 13 18) (σ 13 15)).2)) (stA (σ 18) (σ 13 16) 68 ((msa (σ 18) (σ 13 16) (pl w9) (σ 13 18) (σ 13 15)).1) ((msa (σ 18) (σ 13 16) (pl w9) (σ 13 18) (σ 13 15)).2))).2))) 18 (stW (σ 18) (σ 13 16) 68 ((msa (σ 18) (σ 13 16) (pl v9) (stW (σ 18) (σ 13 16) 68 ((msa (σ 18) (σ 13 16) (pl w9) (σ 13 18) (σ 13 15)).1) ((msa (σ 18) (σ 13 16) (pl w9) (σ 13 18) (σ 13 15)).2)) (stA (σ 18) (σ 13 16) 68 ((msa (σ 18) (σ 13 16) (pl w9) (σ 13 18) (σ 13 15)).1) ((msa (σ 18) (σ 13 16) (pl w9) (σ 13 18) (σ 13 15)).2))).1) ((msa (σ 18) (σ 13 16) (pl v9) (stW (σ 18) (σ 13 16) 68 ((msa (σ 18) (σ 13 16) (pl w9) (σ 13 18) (σ 13 15)).1) ((msa (σ 18) (σ 13 16) (pl w9) (σ 13 18) (σ 13 15)).2)) (stA (σ 18) (σ 13 16) 68 ((msa (σ 18) (σ 13 16) (pl w9) (σ 13 18) (σ 13 15)).1) ((msa (σ 18) (σ 13 16) (pl w9) (σ 13 18) (σ 13 15)).2))).2)))) 19 (pt (pt (pt (σ 19) (5 * (σ 13 17)) c) (5 * (σ 13 17) + 1) (stV (σ 18) (σ 13 16) 68 ((msa (σ 18) (σ 13 16) (pl w9) (σ 13 18) (σ 13 15)).1) ((msa (σ 18) (σ 13 16) (pl w9) (σ 13 18) (σ 13 15)).2))) (5 * (σ 13 17) + 2) (stV (σ 18) (σ 13 16) 68 ((msa (σ 18) (σ 13 16) (pl v9) (stW (σ 18) (σ 13 16) 68 ((msa (σ 18) (σ 13 16) (pl w9) (σ 13 18) (σ 13 15)).1) ((msa (σ 18) (σ 13 16) (pl w9) (σ 13 18) (σ 13 15)).2)) (stA (σ 18) (σ 13 16) 68 ((msa (σ 18) (σ 13 16) (pl w9) (σ 13 18) (σ 13 15)).1) ((msa (σ 18) (σ 13 16) (pl w9) (σ 13 18) (σ 13 15)).2))).1) ((msa (σ 18) (σ 13 16) (pl v9) (stW (σ 18) (σ 13 16) 68 ((msa (σ 18) (σ 13 16) (pl w9) (σ 13 18) (σ 13 15)).1) ((msa (σ 18) (σ 13 16) (pl w9) (σ 13 18) (σ 13 15)).2)) (stA (σ 18) (σ 13 16) 68 ((msa (σ 18) (σ 13 16) (pl w9) (σ 13 18) (σ 13 15)).1) ((msa (σ 18) (σ 13 16) (pl w9) (σ 13 18) (σ 13 15)).2))).2))))) ((congrArg (fun g9 => st g9 19 (pt (pt (pt (σ 19) (5 * (σ 13 17)) c) (5 * (σ 13 17) + 1) (stV (σ 18) (σ 13 16) 68 ((msa (σ 18) (σ 13 16) (pl w9) (σ 13 18) (σ 13 15)).1) ((msa (σ 18) (σ 13 16) (pl w9) (σ 13 18) (σ 13 15)).2))) (5 * (σ 13 17) + 2) (stV (σ 18) (σ 13 16) 68 ((msa (σ 18) (σ 13 16) (pl v9) (stW (σ 18) (σ 13 16) 68 ((msa (σ 18) (σ 13 16) (pl w9) (σ 13 18) (σ 13 15)).1) ((msa (σ 18) (σ 13 16) (pl w9) (σ 13 18) (σ 13 15)).2)) (stA (σ 18) (σ 13 16) 68 ((msa (σ 18) (σ 13 16) (pl w9) (σ 13 18) (σ 13 15)).1) ((msa (σ 18) (σ 13 16) (pl w9) (σ 13 18) (σ 13 15)).2))).1) ((msa (σ 18) (σ 13 16) (pl v9) (stW (σ 18) (σ 13 16) 68 ((msa (σ 18) (σ 13 16) (pl w9) (σ 13 18) (σ 13 15)).1) ((msa (σ 18) (σ 13 16) (pl w9) (σ 13 18) (σ 13 15)).2)) (stA (σ 18) (σ 13 16) 68 ((msa (σ 18) (σ 13 16) (pl w9) (σ 13 18) (σ 13 15)).1) ((msa (σ 18) (σ 13 16) (pl w9) (σ 13 18) (σ 13 15)).2))).2)))) ((congrArg (st (st (st σ 13 (pt (pt (σ 13) 15 ((msa (σ 18) (σ 13 16) (pl v9) (stW (σ 18) (σ 13 16) 68 ((msa (σ 18) (σ 13 16) (pl w9) (σ 13 18) (σ 13 15)).1) ((msa (σ 18) (σ 13 16) (pl w9) (σ 13 18) (σ 13 15)).2)) (stA (σ 18) (σ 13 16) 68 ((msa (σ 18) (σ 13 16) (pl w9) (σ 13 18) (σ 13 15)).1) ((msa (σ 18) (σ 13 16) (pl w9) (σ 13 18) (σ 13 15)).2))).2)) 18 ((msa (σ 18) (σ 13 16) (pl v9) (stW (σ 18) (σ 13 16) 68 ((msa (σ 18) (σ 13 16) (pl w9) (σ 13 18) (σ 13 15)).1) ((msa (σ 18) (σ 13 16) (pl w9) (σ 13 18) (σ 13 15)).2)) (stA (σ 18) (σ 13 16) 68 ((msa (σ 18) (σ 13 16) (pl w9) (σ 13 18) (σ 13 15)).1) ((msa (σ 18) (σ 13 16) (pl w9) (σ 13 18) (σ 13 15)).2))).1))) 19 (pt (pt (σ 19) (5 * (σ 13 17)) c) (5 * (σ 13 17) + 1) (stV (σ 18) (σ 13 16) 68 ((msa (σ 18) (σ 13 16) (pl w9) (σ 13 18) (σ 13 15)).1) ((msa (σ 18) (σ 13 16) (pl w9) (σ 13 18) (σ 13 15)).2)))) 13) ((congrArg (fun g9 => pt g9 18 (stW (σ 18) (σ 13 16) 68 ((msa (σ 18) (σ 13 16) (pl v9) (stW (σ 18) (σ 13 16) 68 ((msa (σ 18) (σ 13 16) (pl w9) (σ 13 18) (σ 13 15)).1) ((msa (σ 18) (σ 13 16) (pl w9) (σ 13 18) (σ 13 15)).2)) (stA (σ 18) (σ 13 16) 68 ((msa (σ 18) (σ 13 16) (pl w9) (σ 13 18) (σ 13 15)).1) ((msa (σ 18) (σ 13 16) (pl w9) (σ 13 18) (σ 13 15)).2))).1) ((msa (σ 18) (σ 13 16) (pl v9) (stW (σ 18) (σ 13 16) 68 ((msa (σ 18) (σ 13 16) (pl w9) (σ 13 18) (σ 13 15)).1) ((msa (σ 18) (σ 13 16) (pl w9) (σ 13 18) (σ 13 15)).2)) (stA (σ 18) (σ 13 16) 68 ((msa (σ 18) (σ 13 16) (pl w9) (σ 13 18) (σ 13 15)).1) ((msa (σ 18) (σ 13 16) (pl w9) (σ 13 18) (σ 13 15)).2))).2))) ((pt_cm (pt (σ 13) 15 ((msa (σ 18) (σ 13 16) (pl v9) (stW (σ 18) (σ 13 16) 68 ((msa (σ 18) (σ 13 16) (pl w9) (σ 13 18) (σ 13 15)).1) ((msa (σ 18) (σ 13 16) (pl w9) (σ 13 18) (σ 13 15)).2)) (stA (σ 18) (σ 13 16) 68 ((msa (σ 18) (σ 13 16) (pl w9) (σ 13 18) (σ 13 15)).1) ((msa (σ 18) (σ 13 16) (pl w9) (σ 13 18) (σ 13 15)).2))).2)) (k := 18) (j := 15) ((msa (σ 18) (σ 13 16) (pl v9) (stW (σ 18) (σ 13 16) 68 ((msa (σ 18) (σ 13 16) (pl w9) (σ 13 18) (σ 13 15)).1) ((msa (σ 18) (σ 13 16) (pl w9) (σ 13 18) (σ 13 15)).2)) (stA (σ 18) (σ 13 16) 68 ((msa (σ 18) (σ 13 16) (pl w9) (σ 13 18) (σ 13 15)).1) ((msa (σ 18) (σ 13 16) (pl w9) (σ 13 18) (σ 13 15)).2))).1) (stA (σ 18) (σ 13 16) 68 ((msa (σ 18) (σ 13 16) (pl v9) (stW (σ 18) (σ 13 16) 68 ((msa (σ 18) (σ 13 16) (pl w9) (σ 13 18) (σ 13 15)).1) ((msa (σ 18) (σ 13 16) (pl w9) (σ 13 18) (σ 13 15)).2)) (stA (σ 18) (σ 13 16) 68 ((msa (σ 18) (σ 13 16) (pl w9) (σ 13 18) (σ 13 15)).1) ((msa (σ 18) (σ 13 16) (pl w9) (σ 13 18) (σ 13 15)).2))).1) ((msa (σ 18) (σ 13 16) (pl v9) (stW (σ 18) (σ 13 16) 68 ((msa (σ 18) (σ 13 16) (pl w9) (σ 13 18) (σ 13 15)).1) ((msa (σ 18) (σ 13 16) (pl w9) (σ 13 18) (σ 13 15)).2)) (stA (σ 18) (σ 13 16) 68 ((msa (σ 18) (σ 13 16) (pl w9) (σ 13 18) (σ 13 15)).1) ((msa (σ 18) (σ 13 16) (pl w9) (σ 13 18) (σ 13 15)).2))).2)) (by decide)).trans (congrArg (fun g9 => pt g9 18 ((msa (σ 18) (σ 13 16) (pl v9) (stW (σ 18) (σ 13 16) 68 ((msa (σ 18) (σ 13 16) (pl w9) (σ 13 18) (σ 13 15)).1) ((msa (σ 18) (σ 13 16) (pl w9) (σ 13 18) (σ 13 15)).2)) (stA (σ 18) (σ 13 16) 68 ((msa (σ 18) (σ 13 16) (pl w9) (σ 13 18) (σ 13 15)).1) ((msa (σ 18) (σ 13 16) (pl w9) (σ 13 18) (σ 13 15)).2))).1)) (pt_pt _ _ _ _)))).trans (pt_pt _ _ _ _))).trans ((st_cm (st σ 13 (pt (pt (σ 13) 15 ((msa (σ 18) (σ 13 16) (pl v9) (stW (σ 18) (σ 13 16) 68 ((msa (σ 18) (σ 13 16) (pl w9) (σ 13 18) (σ 13 15)).1) ((msa (σ 18) (σ 13 16) (pl w9) (σ 13 18) (σ 13 15)).2)) (stA (σ 18) (σ 13 16) 68 ((msa (σ 18) (σ 13 16) (pl w9) (σ 13 18) (σ 13 15)).1) ((msa (σ 18) (σ 13 16) (pl w9) (σ 13 18) (σ 13 15)).2))).2)) 18 ((msa (σ 18) (σ 13 16) (pl v9) (stW (σ 18) (σ 13 16) 68 ((msa (σ 18) (σ 13 16) (pl w9) (σ 13 18) (σ 13 15)).1) ((msa (σ 18) (σ 13 16) (pl w9) (σ 13 18) (σ 13 15)).2)) (stA (σ 18) (σ 13 16) 68 ((msa (σ 18) (σ 13 16) (pl w9) (σ 13 18) (σ 13 15)).1) ((msa (σ 18) (σ 13 16) (pl w9) (σ 13 18) (σ 13 15)).2))).1))) (o := 19) (q := 13) (pt (pt (σ 19) (5 * (σ 13 17)) c) (5 * (σ 13 17) + 1) (stV (σ 18) (σ 13 16) 68 ((msa (σ 18) (σ 13 16) (pl w9) (σ 13 18) (σ 13 15)).1) ((msa (σ 18) (σ 13 16) (pl w9) (σ 13 18) (σ 13 15)).2))) (pt (pt (σ 13) 15 (stA (σ 18) (σ 13 16) 68 ((msa (σ 18) (σ 13 16) (pl v9) (stW (σ 18) (σ 13 16) 68 ((msa (σ 18) (σ 13 16) (pl w9) (σ 13 18) (σ 13 15)).1) ((msa (σ 18) (σ 13 16) (pl w9) (σ 13 18) (σ 13 15)).2)) (stA (σ 18) (σ 13 16) 68 ((msa (σ 18) (σ 13 16) (pl w9) (σ 13 18) (σ 13 15)).1) ((msa (σ 18) (σ 13 16) (pl w9) (σ 13 18) (σ 13 15)).2))).1) ((msa (σ 18) (σ 13 16) (pl v9) (stW (σ 18) (σ 13 16) 68 ((msa (σ 18) (σ 13 16) (pl w9) (σ 13 18) (σ 13 15)).1) ((msa (σ 18) (σ 13 16) (pl w9) (σ 13 18) (σ 13 15)).2)) (stA (σ 18) (σ 13 16) 68 ((msa (σ 18) (σ 13 16) (pl w9) (σ 13 18) (σ 13 15)).1) ((msa (σ 18) (σ 13 16) (pl w9) (σ 13 18) (σ 13 15)).2))).2))) 18 (stW (σ 18) (σ 13 16) 68 ((msa (σ 18) (σ 13 16) (pl v9) (stW (σ 18) (σ 13 16) 68 ((msa (σ 18) (σ 13 16) (pl w9) (σ 13 18) (σ 13 15)).1) ((msa (σ 18) (σ 13 16) (pl w9) (σ 13 18) (σ 13 15)).2)) (stA (σ 18) (σ 13 16) 68 ((msa (σ 18) (σ 13 16) (pl w9) (σ 13 18) (σ 13 15)).1) ((msa (σ 18) (σ 13 16) (pl w9) (σ 13 18) (σ 13 15)).2))).1) ((msa (σ 18) (σ 13 16) (pl v9) (stW (σ 18) (σ 13 16) 68 ((msa (σ 18) (σ 13 16) (pl w9) (σ 13 18) (σ 13 15)).1) ((msa (σ 18) (σ 13 16) (pl w9) (σ 13 18) (σ 13 15)).2)) (stA (σ 18) (σ 13 16) 68 ((msa (σ 18) (σ 13 16) (pl w9) (σ 13 18) (σ 13 15)).1) ((msa (σ 18) (σ 13 16) (pl w9) (σ 13 18) (σ 13 15)).2))).2))) (by decide)).trans (congrArg (fun g9 => st g9 19 (pt (pt (σ 19) (5 * (σ 13 17)) c) (5 * (σ 13 17) + 1) (stV (σ 18) (σ 13 16) 68 ((msa (σ 18) (σ 13 16) (pl w9) (σ 13 18) (σ 13 15)).1) ((msa (σ 18) (σ 13 16) (pl w9) (σ 13 18) (σ 13 15)).2)))) (st_st _ _ _ _))))).trans (st_st _ _ _ _)) ?_
  refine g_st (σ2 := (st (st σ 13 (pt (pt (σ 13) 15 ((mfo (σ 18) (σ 13 16) (pl w9 ++ (68 :: (pl v9 ++ (68 :: [])))) (σ 13 18) (σ 13 15) (5 * (σ 13 17) + 1) (pt (σ 19) (5 * (σ 13 17)) c)).2.1)) 18 ((mfo (σ 18) (σ 13 16) (pl w9 ++ (68 :: (pl v9 ++ (68 :: [])))) (σ 13 18) (σ 13 15) (5 * (σ 13 17) + 1) (pt (σ 19) (5 * (σ 13 17)) c)).1))) 19 ((mfo (σ 18) (σ 13 16) (pl w9 ++ (68 :: (pl v9 ++ (68 :: [])))) (σ 13 18) (σ 13 15) (5 * (σ 13 17) + 1) (pt (σ 19) (5 * (σ 13 17)) c)).2.2.2))) (by simp only [mfo_msa (pl w9) (sa_v hw9), mfo_msa (pl v9) (sa_v hv9), mfo_app, mfo_msa (pl 23) (sa_v (by decide)), mfo_msa (pl 25) (sa_v (by decide)), mfo_msa (pl 27) (sa_v (by decide)), mfo_msa (pl 30) (sa_v (by decide)), mfo_msa (pl 32) (sa_v (by decide)), mfo_68, mfo_78, mfo_67, mfo_nil, Int.add_assoc, Int.reduceAdd]) ?_
  exact hret _ _ dX5_pair_34
abbrev rm_X5_segment : Room := { frames := 5, cells := 0, slots := 0, locals := 133 }
set_option maxRecDepth 100000 in
set_option maxHeartbeats 4000000 in
theorem c_X5_segment (l : Launch) (E : EV) (σ : SS) (k : Int) (hT : TW (σ 18) (σ 13 16)) (ha : 0 ≤ (σ 13 15) ∧ (σ 13 15) ≤ 850) (hw : (σ 13 18) = 0 ∨ (σ 13 18) = 1) (hm : 0 ≤ (σ 13 17) ∧ (σ 13 17) < 60) (hk : 1 ≤ k ∧ k ≤ 3) : Kv l yX5_segment (cw yX5_segment cX5_segment 2 none) rm_X5_segment E [.ref (ea E 13), .int (iI k)] σ (st (st σ 13 (pt (pt (σ 13) 15 ((mfo (σ 18) (σ 13 16) (pl 23 ++ (78 :: 67 :: [])) (σ 13 18) (σ 13 15) (5 * (σ 13 17) + k) ((σ 19))).2.1)) 18 ((mfo (σ 18) (σ 13 16) (pl 23 ++ (78 :: 67 :: [])) (σ 13 18) (σ 13 15) (5 * (σ 13 17) + k) ((σ 19))).1))) 19 ((mfo (σ 18) (σ 13 16) (pl 23 ++ (78 :: 67 :: [])) (σ 13 18) (σ 13 15) (5 * (σ 13 17) + k) ((σ 19))).2.2.2)) := by
  refine Kv_of (rm := rm_X5_segment) (mL := 2) (b := cX5_segment) RX5 rfl (by decide +kernel) rfl rfl [(0, .ref (ea E 13)), (1, .int (iI k))] rfl (Nat.le_of_ble_eq_true rfl) (fun p_ e_ s_ m_ a_ b_ h_ c_ Q A C hret => ?_)
  refine g_aload_n C dX5_segment_0 0 rfl rfl (q := 1) rfl ?_
  refine g_ldcS C (w := 23) (tx := " ") (by decide +kernel) dX5_segment_1 (q := 3) rfl ?_
  refine g_cV_v C (As := [.ref (ek E 23)]) (c_X5_says l E _  23 (by assumption) (by omega) (by omega) (by decide)) ml_X5_188 mf_X5_says (o := 13) (ci := 5) rfl rfl rfl rfl ⟨(Nat.le_of_ble_eq_true rfl), (Nat.le_of_ble_eq_true rfl)⟩ rfl rfl rfl (Nat.le_of_ble_eq_true rfl) ⟨(Nat.le_of_ble_eq_true rfl), (Nat.le_of_ble_eq_true rfl)⟩ dX5_segment_3 (q := 6) rfl ?_
  have hq23 := msa_rg (σ 18) (σ 13 16) (pl 23) (w := σ 13 18) (a := σ 13 15) (by omega)
  have hz23 := sa_l (w := 23) (by decide)
  refine g_aload_n C dX5_segment_6 0 rfl rfl (q := 7) rfl ?_
  refine g_iload_n C dX5_segment_7 1 rfl rfl (q := 8) rfl ?_
  refine g_iconst C dX5_segment_8 (q := 9) rfl ?_
  refine g_cV_v C (As := [.int (iI k), .int (iI 2)]) (c_X5_number_2 l E _ k  (by show TW (σ 18) (σ 13 16); assumption) (by show 0 ≤ ((msa (σ 18) (σ 13 16) (pl 23) (σ 13 18) (σ 13 15)).2) ∧ ((msa (σ 18) (σ 13 16) (pl 23) (σ 13 18) (σ 13 15)).2) ≤ 900; omega) (by show ((msa (σ 18) (σ 13 16) (pl 23) (σ 13 18) (σ 13 15)).1) = 0 ∨ ((msa (σ 18) (σ 13 16) (pl 23) (σ 13 18) (σ 13 15)).1) = 1; omega) (by show 0 ≤ (σ 13 17) ∧ (σ 13 17) < 60; omega) (by omega)) ml_X5_192 mf_X5_number (o := 13) (ci := 5) rfl rfl rfl rfl ⟨(Nat.le_of_ble_eq_true rfl), (Nat.le_of_ble_eq_true rfl)⟩ rfl rfl rfl (Nat.le_of_ble_eq_true rfl) ⟨(Nat.le_of_ble_eq_true rfl), (Nat.le_of_ble_eq_true rfl)⟩ dX5_segment_9 (q := 12) rfl ?_
  refine g_st (σ2 := (st (st σ 13 (pt (pt (σ 13) 15 (stA (σ 18) (σ 13 16) 78 ((msa (σ 18) (σ 13 16) (pl 23) (σ 13 18) (σ 13 15)).1) ((msa (σ 18) (σ 13 16) (pl 23) (σ 13 18) (σ 13 15)).2))) 18 (stW (σ 18) (σ 13 16) 78 ((msa (σ 18) (σ 13 16) (pl 23) (σ 13 18) (σ 13 15)).1) ((msa (σ 18) (σ 13 16) (pl 23) (σ 13 18) (σ 13 15)).2)))) 19 (pt (σ 19) (5 * (σ 13 17) + k) (stV (σ 18) (σ 13 16) 78 ((msa (σ 18) (σ 13 16) (pl 23) (σ 13 18) (σ 13 15)).1) ((msa (σ 18) (σ 13 16) (pl 23) (σ 13 18) (σ 13 15)).2))))) (congrArg (fun g9 => st g9 19 (pt (σ 19) (5 * (σ 13 17) + k) (stV (σ 18) (σ 13 16) 78 ((msa (σ 18) (σ 13 16) (pl 23) (σ 13 18) (σ 13 15)).1) ((msa (σ 18) (σ 13 16) (pl 23) (σ 13 18) (σ 13 15)).2)))) ((congrArg (st (st σ 13 (pt (pt (σ 13) 15 ((msa (σ 18) (σ 13 16) (pl 23) (σ 13 18) (σ 13 15)).2)) 18 ((msa (σ 18) (σ 13 16) (pl 23) (σ 13 18) (σ 13 15)).1))) 13) ((congrArg (fun g9 => pt g9 18 (stW (σ 18) (σ 13 16) 78 ((msa (σ 18) (σ 13 16) (pl 23) (σ 13 18) (σ 13 15)).1) ((msa (σ 18) (σ 13 16) (pl 23) (σ 13 18) (σ 13 15)).2))) ((pt_cm (pt (σ 13) 15 ((msa (σ 18) (σ 13 16) (pl 23) (σ 13 18) (σ 13 15)).2)) (k := 18) (j := 15) ((msa (σ 18) (σ 13 16) (pl 23) (σ 13 18) (σ 13 15)).1) (stA (σ 18) (σ 13 16) 78 ((msa (σ 18) (σ 13 16) (pl 23) (σ 13 18) (σ 13 15)).1) ((msa (σ 18) (σ 13 16) (pl 23) (σ 13 18) (σ 13 15)).2)) (by decide)).trans (congrArg (fun g9 => pt g9 18 ((msa (σ 18) (σ 13 16) (pl 23) (σ 13 18) (σ 13 15)).1)) (pt_pt _ _ _ _)))).trans (pt_pt _ _ _ _))).trans (st_st _ _ _ _))) ?_
  have ho78 := stW_01 (σ 18) (σ 13 16) 78 ((msa (σ 18) (σ 13 16) (pl 23) (σ 13 18) (σ 13 15)).1) ((msa (σ 18) (σ 13 16) (pl 23) (σ 13 18) (σ 13 15)).2)
  have hp78 := stA_rg (σ 18) (σ 13 16) 78 ((msa (σ 18) (σ 13 16) (pl 23) (σ 13 18) (σ 13 15)).1) ((msa (σ 18) (σ 13 16) (pl 23) (σ 13 18) (σ 13 15)).2)
  refine g_aload_n C dX5_segment_12 0 rfl rfl (q := 13) rfl ?_
  refine g_iload_n C dX5_segment_13 1 rfl rfl (q := 14) rfl ?_
  refine g_iconst C dX5_segment_14 (q := 15) rfl ?_
  refine g_iadd C dX5_segment_15 (q := 16) rfl ?_
  refine g_cV_v C (As := [.int (iI (k + 1))]) (c_X5_hue l E _ (k + 1)  (by show TW (σ 18) (σ 13 16); assumption) (by show 0 ≤ (stA (σ 18) (σ 13 16) 78 ((msa (σ 18) (σ 13 16) (pl 23) (σ 13 18) (σ 13 15)).1) ((msa (σ 18) (σ 13 16) (pl 23) (σ 13 18) (σ 13 15)).2)) ∧ (stA (σ 18) (σ 13 16) 78 ((msa (σ 18) (σ 13 16) (pl 23) (σ 13 18) (σ 13 15)).1) ((msa (σ 18) (σ 13 16) (pl 23) (σ 13 18) (σ 13 15)).2)) ≤ 900; omega) (by show (stW (σ 18) (σ 13 16) 78 ((msa (σ 18) (σ 13 16) (pl 23) (σ 13 18) (σ 13 15)).1) ((msa (σ 18) (σ 13 16) (pl 23) (σ 13 18) (σ 13 15)).2)) = 0 ∨ (stW (σ 18) (σ 13 16) 78 ((msa (σ 18) (σ 13 16) (pl 23) (σ 13 18) (σ 13 15)).1) ((msa (σ 18) (σ 13 16) (pl 23) (σ 13 18) (σ 13 15)).2)) = 1; omega) (by show 0 ≤ (σ 13 17) ∧ (σ 13 17) < 60; omega) (by omega)) ml_X5_199 mf_X5_hue (o := 13) (ci := 5) rfl rfl rfl rfl ⟨(Nat.le_of_ble_eq_true rfl), (Nat.le_of_ble_eq_true rfl)⟩ rfl rfl rfl (Nat.le_of_ble_eq_true rfl) ⟨(Nat.le_of_ble_eq_true rfl), (Nat.le_of_ble_eq_true rfl)⟩ dX5_segment_16 (q := 19) rfl ?_
  refine g_st (σ2 := (st (st σ 13 (pt (pt (σ 13) 15 (stA (σ 18) (σ 13 16) 67 (stW (σ 18) (σ 13 16) 78 ((msa (σ 18) (σ 13 16) (pl 23) (σ 13 18) (σ 13 15)).1) ((msa (σ 18) (σ 13 16) (pl 23) (σ 13 18) (σ 13 15)).2)) (stA (σ 18) (σ 13 16) 78 ((msa (σ 18) (σ 13 16) (pl 23) (σ 13 18) (σ 13 15)).1) ((msa (σ 18) (σ 13 16) (pl 23) (σ 13 18) (σ 13 15)).2)))) 18 (stW (σ 18) (σ 13 16) 67 (stW (σ 18) (σ 13 16) 78 ((msa (σ 18) (σ 13 16) (pl 23) (σ 13 18) (σ 13 15)).1) ((msa (σ 18) (σ 13 16) (pl 23) (σ 13 18) (σ 13 15)).2)) (stA (σ 18) (σ 13 16) 78 ((msa (σ 18) (σ 13 16) (pl 23) (σ 13 18) (σ 13 15)).1) ((msa (σ 18) (σ 13 16) (pl 23) (σ 13 18) (σ 13 15)).2))))) 19 (pt (pt (σ 19) (5 * (σ 13 17) + k) (stV (σ 18) (σ 13 16) 78 ((msa (σ 18) (σ 13 16) (pl 23) (σ 13 18) (σ 13 15)).1) ((msa (σ 18) (σ 13 16) (pl 23) (σ 13 18) (σ 13 15)).2))) (5 * (σ 13 17) + (k + 1)) (stV (σ 18) (σ 13 16) 67 (stW (σ 18) (σ 13 16) 78 ((msa (σ 18) (σ 13 16) (pl 23) (σ 13 18) (σ 13 15)).1) ((msa (σ 18) (σ 13 16) (pl 23) (σ 13 18) (σ 13 15)).2)) (stA (σ 18) (σ 13 16) 78 ((msa (σ 18) (σ 13 16) (pl 23) (σ 13 18) (σ 13 15)).1) ((msa (σ 18) (σ 13 16) (pl 23) (σ 13 18) (σ 13 15)).2)))))) ((congrArg (fun g9 => st g9 19 (pt (pt (σ 19) (5 * (σ 13 17) + k) (stV (σ 18) (σ 13 16) 78 ((msa (σ 18) (σ 13 16) (pl 23) (σ 13 18) (σ 13 15)).1) ((msa (σ 18) (σ 13 16) (pl 23) (σ 13 18) (σ 13 15)).2))) (5 * (σ 13 17) + (k + 1)) (stV (σ 18) (σ 13 16) 67 (stW (σ 18) (σ 13 16) 78 ((msa (σ 18) (σ 13 16) (pl 23) (σ 13 18) (σ 13 15)).1) ((msa (σ 18) (σ 13 16) (pl 23) (σ 13 18) (σ 13 15)).2)) (stA (σ 18) (σ 13 16) 78 ((msa (σ 18) (σ 13 16) (pl 23) (σ 13 18) (σ 13 15)).1) ((msa (σ 18) (σ 13 16) (pl 23) (σ 13 18) (σ 13 15)).2))))) ((congrArg (st (st (st σ 13 (pt (pt (σ 13) 15 (stA (σ 18) (σ 13 16) 78 ((msa (σ 18) (σ 13 16) (pl 23) (σ 13 18) (σ 13 15)).1) ((msa (σ 18) (σ 13 16) (pl 23) (σ 13 18) (σ 13 15)).2))) 18 (stW (σ 18) (σ 13 16) 78 ((msa (σ 18) (σ 13 16) (pl 23) (σ 13 18) (σ 13 15)).1) ((msa (σ 18) (σ 13 16) (pl 23) (σ 13 18) (σ 13 15)).2)))) 19 (pt (σ 19) (5 * (σ 13 17) + k) (stV (σ 18) (σ 13 16) 78 ((msa (σ 18) (σ 13 16) (pl 23) (σ 13 18) (σ 13 15)).1) ((msa (σ 18) (σ 13 16) (pl 23) (σ 13 18) (σ 13 15)).2)))) 13) ((congrArg (fun g9 => pt g9 18 (stW (σ 18) (σ 13 16) 67 (stW (σ 18) (σ 13 16) 78 ((msa (σ 18) (σ 13 16) (pl 23) (σ 13 18) (σ 13 15)).1) ((msa (σ 18) (σ 13 16) (pl 23) (σ 13 18) (σ 13 15)).2)) (stA (σ 18) (σ 13 16) 78 ((msa (σ 18) (σ 13 16) (pl 23) (σ 13 18) (σ 13 15)).1) ((msa (σ 18) (σ 13 16) (pl 23) (σ 13 18) (σ 13 15)).2)))) ((pt_cm (pt (σ 13) 15 (stA (σ 18) (σ 13 16) 78 ((msa (σ 18) (σ 13 16) (pl 23) (σ 13 18) (σ 13 15)).1) ((msa (σ 18) (σ 13 16) (pl 23) (σ 13 18) (σ 13 15)).2))) (k := 18) (j := 15) (stW (σ 18) (σ 13 16) 78 ((msa (σ 18) (σ 13 16) (pl 23) (σ 13 18) (σ 13 15)).1) ((msa (σ 18) (σ 13 16) (pl 23) (σ 13 18) (σ 13 15)).2)) (stA (σ 18) (σ 13 16) 67 (stW (σ 18) (σ 13 16) 78 ((msa (σ 18) (σ 13 16) (pl 23) (σ 13 18) (σ 13 15)).1) ((msa (σ 18) (σ 13 16) (pl 23) (σ 13 18) (σ 13 15)).2)) (stA (σ 18) (σ 13 16) 78 ((msa (σ 18) (σ 13 16) (pl 23) (σ 13 18) (σ 13 15)).1) ((msa (σ 18) (σ 13 16) (pl 23) (σ 13 18) (σ 13 15)).2))) (by decide)).trans (congrArg (fun g9 => pt g9 18 (stW (σ 18) (σ 13 16) 78 ((msa (σ 18) (σ 13 16) (pl 23) (σ 13 18) (σ 13 15)).1) ((msa (σ 18) (σ 13 16) (pl 23) (σ 13 18) (σ 13 15)).2))) (pt_pt _ _ _ _)))).trans (pt_pt _ _ _ _))).trans ((st_cm (st σ 13 (pt (pt (σ 13) 15 (stA (σ 18) (σ 13 16) 78 ((msa (σ 18) (σ 13 16) (pl 23) (σ 13 18) (σ 13 15)).1) ((msa (σ 18) (σ 13 16) (pl 23) (σ 13 18) (σ 13 15)).2))) 18 (stW (σ 18) (σ 13 16) 78 ((msa (σ 18) (σ 13 16) (pl 23) (σ 13 18) (σ 13 15)).1) ((msa (σ 18) (σ 13 16) (pl 23) (σ 13 18) (σ 13 15)).2)))) (o := 19) (q := 13) (pt (σ 19) (5 * (σ 13 17) + k) (stV (σ 18) (σ 13 16) 78 ((msa (σ 18) (σ 13 16) (pl 23) (σ 13 18) (σ 13 15)).1) ((msa (σ 18) (σ 13 16) (pl 23) (σ 13 18) (σ 13 15)).2))) (pt (pt (σ 13) 15 (stA (σ 18) (σ 13 16) 67 (stW (σ 18) (σ 13 16) 78 ((msa (σ 18) (σ 13 16) (pl 23) (σ 13 18) (σ 13 15)).1) ((msa (σ 18) (σ 13 16) (pl 23) (σ 13 18) (σ 13 15)).2)) (stA (σ 18) (σ 13 16) 78 ((msa (σ 18) (σ 13 16) (pl 23) (σ 13 18) (σ 13 15)).1) ((msa (σ 18) (σ 13 16) (pl 23) (σ 13 18) (σ 13 15)).2)))) 18 (stW (σ 18) (σ 13 16) 67 (stW (σ 18) (σ 13 16) 78 ((msa (σ 18) (σ 13 16) (pl 23) (σ 13 18) (σ 13 15)).1) ((msa (σ 18) (σ 13 16) (pl 23) (σ 13 18) (σ 13 15)).2)) (stA (σ 18) (σ 13 16) 78 ((msa (σ 18) (σ 13 16) (pl 23) (σ 13 18) (σ 13 15)).1) ((msa (σ 18) (σ 13 16) (pl 23) (σ 13 18) (σ 13 15)).2)))) (by decide)).trans (congrArg (fun g9 => st g9 19 (pt (σ 19) (5 * (σ 13 17) + k) (stV (σ 18) (σ 13 16) 78 ((msa (σ 18) (σ 13 16) (pl 23) (σ 13 18) (σ 13 15)).1) ((msa (σ 18) (σ 13 16) (pl 23) (σ 13 18) (σ 13 15)).2)))) (st_st _ _ _ _))))).trans (st_st _ _ _ _)) ?_
  refine g_st (σ2 := (st (st σ 13 (pt (pt (σ 13) 15 ((mfo (σ 18) (σ 13 16) (pl 23 ++ (78 :: 67 :: [])) (σ 13 18) (σ 13 15) (5 * (σ 13 17) + k) ((σ 19))).2.1)) 18 ((mfo (σ 18) (σ 13 16) (pl 23 ++ (78 :: 67 :: [])) (σ 13 18) (σ 13 15) (5 * (σ 13 17) + k) ((σ 19))).1))) 19 ((mfo (σ 18) (σ 13 16) (pl 23 ++ (78 :: 67 :: [])) (σ 13 18) (σ 13 15) (5 * (σ 13 17) + k) ((σ 19))).2.2.2))) (by simp only [mfo_app, mfo_msa (pl 23) (sa_v (by decide)), mfo_msa (pl 25) (sa_v (by decide)), mfo_msa (pl 27) (sa_v (by decide)), mfo_msa (pl 30) (sa_v (by decide)), mfo_msa (pl 32) (sa_v (by decide)), mfo_68, mfo_78, mfo_67, mfo_nil, Int.add_assoc, Int.reduceAdd]) ?_
  exact hret _ _ dX5_segment_19
