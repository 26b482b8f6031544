abbrev rm_X5_remembers : Room := { frames := 0, cells := 0, slots := 0, locals := 0 }
set_option maxRecDepth 100000 in
set_option maxHeartbeats 4000000 in
theorem c_X5_remembers (l : Launch) (E : EV) (σ : SS)  : Kv l yX5_remembers (cw yX5_remembers cX5_remembers 2 none) rm_X5_remembers E [.ref (ea E 13)] σ (st (st σ 13 (pt (σ 13) 0 0)) 15 (cpf (σ 14) (σ 15) 0 0 486)) := by
  refine Kv_of (rm := rm_X5_remembers) (mL := 2) (b := cX5_remembers) RX5 rfl (by decide +kernel) rfl rfl [(0, .ref (ea E 13))] rfl (Nat.le_of_ble_eq_true rfl) (fun p_ e_ s_ m_ a_ b_ h_ c_ Q A C hret => ?_)
  refine g_aload_n C dX5_remembers_0 0 rfl rfl (q := 1) rfl ?_
  refine g_iconst C dX5_remembers_1 (q := 2) rfl ?_
  refine gp_X5_38 C dX5_remembers_2 (q := 5) rfl ?_
  refine g_iconst C dX5_remembers_5 (q := 6) rfl ?_
  refine g_istore_n C (L' := [(1, .int (iI 0)), (0, .ref (ea E 13))]) dX5_remembers_6 rfl (by decide) rfl (q := 7) rfl ?_
  refine g_sub [1, 0] (L' := [(0, .ref (ea E 13)), (1, .int (iI 0))]) rfl ?_
  refine g_st (σ2 := (st (st σ 13 (pt (σ 13) 0 0)) 15 (cpf (σ 14) (σ 15) 0 0 0))) (by rw [cpf_0]; exact (st_id (st σ 13 _) 15).symm) ?_
  have lp7 : ∀ (k9 : Nat) (k : Int), (486 - k).toNat < k9 → (0 ≤ k ∧ k ≤ 486) → GG p_ l e_ rm_X5_remembers s_ m_ a_ b_ h_ c_ Q E A 2 (st (st σ 13 (pt (σ 13) 0 0)) 15 (cpf (σ 14) (σ 15) 0 0 k)) 0 0 7 [(0, .ref (ea E 13)), (1, .int (iI k))] [] := by
    intro k9
    induction k9 with
    | zero => intro k hk9; omega
    | succ k9 ih7 =>
      intro k hk9 hk
      refine g_iload_n C dX5_remembers_7 1 rfl rfl (q := 8) rfl ?_
      refine g_sipush C dX5_remembers_8 (by decide) (q := 11) rfl ?_
      refine g_icmp_ge C dX5_remembers_11 (by omega) (q2 := 32) rfl (q := 14) rfl (fun hb1 => ?_) (fun hb1 => ?_)
      · skip
        refine g_st (σ2 := (st (st σ 13 (pt (σ 13) 0 0)) 15 (cpf (σ 14) (σ 15) 0 0 486))) (by rw [show k = 486 by omega]) ?_
        exact hret _ _ dX5_remembers_32
      · skip
        refine g_aload_n C dX5_remembers_14 0 rfl rfl (q := 15) rfl ?_
        refine gf_X5_13 C dX5_remembers_15 (q := 18) rfl ?_
        refine g_iload_n C dX5_remembers_18 1 rfl rfl (q := 19) rfl ?_
        refine g_aload_n C dX5_remembers_19 0 rfl rfl (q := 20) rfl ?_
        refine gf_X5_7 C dX5_remembers_20 (q := 23) rfl ?_
        refine g_iload_n C dX5_remembers_23 1 rfl rfl (q := 24) rfl ?_
        refine gl_14 C (by omega) dX5_remembers_24 (q := 25) rfl ?_
        refine g_top (b := (σ 14) k) rfl ?_
        refine gs_15 C (by omega) dX5_remembers_25 (q := 26) rfl ?_
        refine g_st (σ2 := (st (st σ 13 (pt (σ 13) 0 0)) 15 (pt (cpf (σ 14) (σ 15) 0 0 k) k ((σ 14) k)))) (st_st _ _ _ _) ?_
        refine g_iinc C (L' := [(1, .int (iI (k + 1))), (0, .ref (ea E 13))]) dX5_remembers_26 1 rfl (by decide) rfl (q := 29) rfl ?_
        refine g_goto C dX5_remembers_29 (q := 7) rfl ?_
        refine g_sub [1, 0] (L' := [(0, .ref (ea E 13)), (1, .int (iI (k + 1)))]) rfl ?_
        refine g_st (σ2 := (st (st σ 13 (pt (σ 13) 0 0)) 15 (cpf (σ 14) (σ 15) 0 0 (k + 1)))) (congrArg (st _ 15) (by funext z9; simp only [pt, cpf]; (repeat' split) <;> first | rfl | omega | (congr 1; omega))) ?_
        exact ih7 (k + 1) (by omega) (by omega)
  exact lp7 _ 0 (Nat.lt_succ_self _) (by omega)
abbrev rm_X5_changed : Room := { frames := 0, cells := 0, slots := 0, locals := 0 }
set_option maxRecDepth 100000 in
set_option maxHeartbeats 4000000 in
theorem c_X5_changed (l : Launch) (E : EV) (σ : SS) (a : Int) (hk : 0 ≤ (σ 13 5) ∧ (σ 13 5) ≤ 8) : Ki l yX5_changed (cw yX5_changed cX5_changed 3 (some .int)) rm_X5_changed E [.ref (ea E 13), .int (iI a)] σ a (st (st σ 13 (pt (σ 13) 5 (min ((σ 13 5) + 1) 8))) 17 (hiF (σ 17) (σ 15) (σ 13 5))) := by
  refine Ki_of (rm := rm_X5_changed) (mL := 3) (b := cX5_changed) RX5 rfl (by decide +kernel) rfl rfl [(0, .ref (ea E 13)), (1, .int (iI a))] rfl (Nat.le_of_ble_eq_true rfl) (fun p_ e_ s_ m_ a_ b_ h_ c_ Q A C hret => ?_)
  refine g_aload_n C dX5_changed_0 0 rfl rfl (q := 1) rfl ?_
  refine gf_X5_41 C dX5_changed_1 (q := 4) rfl ?_
  refine g_bipush C dX5_changed_4 (by decide) (q := 6) rfl ?_
  refine g_icmp_ne C dX5_changed_6 (by omega) (q2 := 43) rfl (q := 9) rfl (fun hb1 => ?_) (fun hb1 => ?_)
  · skip
    refine g_aload_n C dX5_changed_43 0 rfl rfl (q := 44) rfl ?_
    refine g_dup C dX5_changed_44 rfl (q := 45) rfl ?_
    refine gf_X5_41 C dX5_changed_45 (q := 48) rfl ?_
    refine g_iconst C dX5_changed_48 (q := 49) rfl ?_
    refine g_iadd C dX5_changed_49 (q := 50) rfl ?_
    refine gp_X5_41 C dX5_changed_50 (q := 53) rfl ?_
    refine g_iconst C dX5_changed_53 (q := 54) rfl ?_
    refine g_istore_n C (L' := [(2, .int (iI 0)), (0, .ref (ea E 13)), (1, .int (iI a))]) dX5_changed_54 rfl (by decide) rfl (q := 55) rfl ?_
    refine g_sub [1, 2, 0] (L' := [(0, .ref (ea E 13)), (1, .int (iI a)), (2, .int (iI 0))]) rfl ?_
    refine g_st (σ2 := (st (st σ 13 (pt (σ 13) 5 ((σ 13 5) + 1))) 17 (cpf (σ 15) (σ 17) 0 (486 * (((σ 13 5) + 1) - 1)) 0))) (by first | (rw [cpf_0]; done) | (rw [cpf_0]; exact (st_id (st σ 13 _) 17).symm)) ?_
    have lp55 : ∀ (k9 : Nat) (j : Int), (486 - j).toNat < k9 → (0 ≤ j ∧ j ≤ 486) → GG p_ l e_ rm_X5_changed s_ m_ a_ b_ h_ c_ Q E A 3 (st (st σ 13 (pt (σ 13) 5 ((σ 13 5) + 1))) 17 (cpf (σ 15) (σ 17) 0 (486 * (((σ 13 5) + 1) - 1)) j)) 0 0 55 [(0, .ref (ea E 13)), (1, .int (iI a)), (2, .int (iI j))] [] := by
      intro k9
      induction k9 with
      | zero => intro j hk9; omega
      | succ k9 ih55 =>
        intro j hk9 hj1
        refine g_iload_n C dX5_changed_55 2 rfl rfl (q := 56) rfl ?_
        refine g_sipush C dX5_changed_56 (by decide) (q := 59) rfl ?_
        refine g_icmp_ge C dX5_changed_59 (by omega) (q2 := 91) rfl (q := 62) rfl (fun hb2 => ?_) (fun hb2 => ?_)
        · skip
          refine g_iload_n C dX5_changed_91 1 rfl rfl (q := 92) rfl ?_
          refine g_st (σ2 := (st (st σ 13 (pt (σ 13) 5 (min ((σ 13 5) + 1) 8))) 17 (hiF (σ 17) (σ 15) (σ 13 5)))) (by first | (rw [show j = 486 by omega, show k = 3402 by omega, show 486 * (σ 13 5 - 1) = 3402 by omega, show min (σ 13 5 + 1) 8 = σ 13 5 by omega, st1_id σ 13 5, show hiF (σ 17) (σ 15) (σ 13 5) = _ from if_pos (by omega)]; done) | (rw [show j = 486 by omega, show 486 * (σ 13 5 + 1 - 1) = 486 * σ 13 5 by omega, show min (σ 13 5 + 1) 8 = σ 13 5 + 1 by omega, show hiF (σ 17) (σ 15) (σ 13 5) = _ from if_neg (by omega)]; done)) ?_
          exact hret _ _ _ dX5_changed_92 rfl
        · skip
          refine g_aload_n C dX5_changed_62 0 rfl rfl (q := 63) rfl ?_
          refine gf_X5_19 C dX5_changed_63 (q := 66) rfl ?_
          refine g_sipush C dX5_changed_66 (by decide) (q := 69) rfl ?_
          refine g_aload_n C dX5_changed_69 0 rfl rfl (q := 70) rfl ?_
          refine gf_X5_41 C dX5_changed_70 (q := 73) rfl ?_
          refine g_top (b := (σ 13 5) + 1) rfl ?_
          refine g_iconst C dX5_changed_73 (q := 74) rfl ?_
          refine g_isub C dX5_changed_74 (q := 75) rfl ?_
          refine g_imul C dX5_changed_75 (q := 76) rfl ?_
          refine g_iload_n C dX5_changed_76 2 rfl rfl (q := 77) rfl ?_
          refine g_iadd C dX5_changed_77 (q := 78) rfl ?_
          refine g_aload_n C dX5_changed_78 0 rfl rfl (q := 79) rfl ?_
          refine gf_X5_13 C dX5_changed_79 (q := 82) rfl ?_
          refine g_iload_n C dX5_changed_82 2 rfl rfl (q := 83) rfl ?_
          refine gl_15 C (by omega) dX5_changed_83 (q := 84) rfl ?_
          refine g_top (b := (σ 15) j) rfl ?_
          refine gs_17 C (by omega) dX5_changed_84 (q := 85) rfl ?_
          refine g_st (σ2 := (st (st σ 13 (pt (σ 13) 5 ((σ 13 5) + 1))) 17 (pt (cpf (σ 15) (σ 17) 0 (486 * (((σ 13 5) + 1) - 1)) j) (486 * ((σ 13 5) + 1 - 1) + j) ((σ 15) j)))) (st_st _ _ _ _) ?_
          refine g_iinc C (L' := [(2, .int (iI (j + 1))), (0, .ref (ea E 13)), (1, .int (iI a))]) dX5_changed_85 2 rfl (by decide) rfl (q := 88) rfl ?_
          refine g_goto C dX5_changed_88 (q := 55) rfl ?_
          refine g_sub [1, 2, 0] (L' := [(0, .ref (ea E 13)), (1, .int (iI a)), (2, .int (iI (j + 1)))]) rfl ?_
          refine g_st (σ2 := (st (st σ 13 (pt (σ 13) 5 ((σ 13 5) + 1))) 17 (cpf (σ 15) (σ 17) 0 (486 * (((σ 13 5) + 1) - 1)) (j + 1)))) (congrArg (st _ 17) (by funext z9; simp only [pt, cpf]; (repeat' split) <;> first | rfl | omega | (congr 1; omega))) ?_
          exact ih55 (j + 1) (by omega) (by omega)
    exact lp55 _ 0 (Nat.lt_succ_self _) (by omega)
  · skip
    refine g_iconst C dX5_changed_9 (q := 10) rfl ?_
    refine g_istore_n C (L' := [(2, .int (iI 0)), (0, .ref (ea E 13)), (1, .int (iI a))]) dX5_changed_10 rfl (by decide) rfl (q := 11) rfl ?_
    refine g_sub [1, 2, 0] (L' := [(0, .ref (ea E 13)), (1, .int (iI a)), (2, .int (iI 0))]) rfl ?_
    refine g_st (σ2 := (st σ 17 (cpf (σ 17) (σ 17) 486 0 0))) (by rw [cpf_0]; exact (st_id σ 17).symm) ?_
    have lp11 : ∀ (k9 : Nat) (k : Int), (3402 - k).toNat < k9 → (0 ≤ k ∧ k ≤ 3402) → GG p_ l e_ rm_X5_changed s_ m_ a_ b_ h_ c_ Q E A 3 (st σ 17 (cpf (σ 17) (σ 17) 486 0 k)) 0 0 11 [(0, .ref (ea E 13)), (1, .int (iI a)), (2, .int (iI k))] [] := by
      intro k9
      induction k9 with
      | zero => intro k hk9; omega
      | succ k9 ih11 =>
        intro k hk9 hk1
        refine g_iload_n C dX5_changed_11 2 rfl rfl (q := 12) rfl ?_
        refine g_sipush C dX5_changed_12 (by decide) (q := 15) rfl ?_
        refine g_icmp_ge C dX5_changed_15 (by omega) (q2 := 40) rfl (q := 18) rfl (fun hb3 => ?_) (fun hb3 => ?_)
        · skip
          refine g_goto C dX5_changed_40 (q := 53) rfl ?_
          refine g_iconst C dX5_changed_53 (q := 54) rfl ?_
          refine g_istore_n C (L' := [(2, .int (iI 0)), (0, .ref (ea E 13)), (1, .int (iI a))]) dX5_changed_54 rfl (by decide) rfl (q := 55) rfl ?_
          refine g_sub [1, 2, 0] (L' := [(0, .ref (ea E 13)), (1, .int (iI a)), (2, .int (iI 0))]) rfl ?_
          refine g_st (σ2 := (st σ 17 (cpf (σ 15) (cpf (σ 17) (σ 17) 486 0 k) 0 (486 * ((σ 13 5) - 1)) 0))) (by first | (rw [cpf_0]; done) | (rw [cpf_0]; exact (st_id (st σ 13 _) 17).symm)) ?_
          have lp55 : ∀ (k9 : Nat) (j : Int), (486 - j).toNat < k9 → (0 ≤ j ∧ j ≤ 486) → GG p_ l e_ rm_X5_changed s_ m_ a_ b_ h_ c_ Q E A 3 (st σ 17 (cpf (σ 15) (cpf (σ 17) (σ 17) 486 0 k) 0 (486 * ((σ 13 5) - 1)) j)) 0 0 55 [(0, .ref (ea E 13)), (1, .int (iI a)), (2, .int (iI j))] [] := by
            intro k9
            induction k9 with
            | zero => intro j hk9; omega
            | succ k9 ih55 =>
              intro j hk9 hj1
              refine g_iload_n C dX5_changed_55 2 rfl rfl (q := 56) rfl ?_
              refine g_sipush C dX5_changed_56 (by decide) (q := 59) rfl ?_
              refine g_icmp_ge C dX5_changed_59 (by omega) (q2 := 91) rfl (q := 62) rfl (fun hb4 => ?_) (fun hb4 => ?_)
              · skip
                refine g_iload_n C dX5_changed_91 1 rfl rfl (q := 92) rfl ?_
                refine g_st (σ2 := (st (st σ 13 (pt (σ 13) 5 (min ((σ 13 5) + 1) 8))) 17 (hiF (σ 17) (σ 15) (σ 13 5)))) (by first | (rw [show j = 486 by omega, show k = 3402 by omega, show 486 * (σ 13 5 - 1) = 3402 by omega, show min (σ 13 5 + 1) 8 = σ 13 5 by omega, st1_id σ 13 5, show hiF (σ 17) (σ 15) (σ 13 5) = _ from if_pos (by omega)]; done) | (rw [show j = 486 by omega, show 486 * (σ 13 5 + 1 - 1) = 486 * σ 13 5 by omega, show min (σ 13 5 + 1) 8 = σ 13 5 + 1 by omega, show hiF (σ 17) (σ 15) (σ 13 5) = _ from if_neg (by omega)]; done)) ?_
                exact hret _ _ _ dX5_changed_92 rfl
              · skip
                refine g_aload_n C dX5_changed_62 0 rfl rfl (q := 63) rfl ?_
                refine gf_X5_19 C dX5_changed_63 (q := 66) rfl ?_
                refine g_sipush C dX5_changed_66 (by decide) (q := 69) rfl ?_
                refine g_aload_n C dX5_changed_69 0 rfl rfl (q := 70) rfl ?_
                refine gf_X5_41 C dX5_changed_70 (q := 73) rfl ?_
                refine g_top (b := (σ 13 5)) rfl ?_
                refine g_iconst C dX5_changed_73 (q := 74) rfl ?_
                refine g_isub C dX5_changed_74 (q := 75) rfl ?_
                refine g_imul C dX5_changed_75 (q := 76) rfl ?_
                refine g_iload_n C dX5_changed_76 2 rfl rfl (q := 77) rfl ?_
                refine g_iadd C dX5_changed_77 (q := 78) rfl ?_
                refine g_aload_n C dX5_changed_78 0 rfl rfl (q := 79) rfl ?_
                refine gf_X5_13 C dX5_changed_79 (q := 82) rfl ?_
                refine g_iload_n C dX5_changed_82 2 rfl rfl (q := 83) rfl ?_
                refine gl_15 C (by omega) dX5_changed_83 (q := 84) rfl ?_
                refine g_top (b := (σ 15) j) rfl ?_
                refine gs_17 C (by omega) dX5_changed_84 (q := 85) rfl ?_
                refine g_st (σ2 := (st σ 17 (pt (cpf (σ 15) (cpf (σ 17) (σ 17) 486 0 k) 0 (486 * ((σ 13 5) - 1)) j) (486 * ((σ 13 5) - 1) + j) ((σ 15) j)))) (st_st _ _ _ _) ?_
                refine g_iinc C (L' := [(2, .int (iI (j + 1))), (0, .ref (ea E 13)), (1, .int (iI a))]) dX5_changed_85 2 rfl (by decide) rfl (q := 88) rfl ?_
                refine g_goto C dX5_changed_88 (q := 55) rfl ?_
                refine g_sub [1, 2, 0] (L' := [(0, .ref (ea E 13)), (1, .int (iI a)), (2, .int (iI (j + 1)))]) rfl ?_
                refine g_st (σ2 := (st σ 17 (cpf (σ 15) (cpf (σ 17) (σ 17) 486 0 k) 0 (486 * ((σ 13 5) - 1)) (j + 1)))) (congrArg (st _ 17) (by funext z9; simp only [pt, cpf]; (repeat' split) <;> first | rfl | omega | (congr 1; omega))) ?_
                exact ih55 (j + 1) (by omega) (by omega)
          exact lp55 _ 0 (Nat.lt_succ_self _) (by omega)
        · skip
          refine g_aload_n C dX5_changed_18 0 rfl rfl (q := 19) rfl ?_
          refine gf_X5_19 C dX5_changed_19 (q := 22) rfl ?_
          refine g_iload_n C dX5_changed_22 2 rfl rfl (q := 23) rfl ?_
          refine g_aload_n C dX5_changed_23 0 rfl rfl (q := 24) rfl ?_
          refine gf_X5_19 C dX5_changed_24 (q := 27) rfl ?_
          refine g_iload_n C dX5_changed_27 2 rfl rfl (q := 28) rfl ?_
          refine g_sipush C dX5_changed_28 (by decide) (q := 31) rfl ?_
          refine g_iadd C dX5_changed_31 (q := 32) rfl ?_
          refine gl_17 C (by omega) dX5_changed_32 (q := 33) rfl ?_
          refine g_top (b := (cpf (σ 17) (σ 17) 486 0 k) (k + 486)) rfl ?_
          refine g_top (b := (σ 17) (k + 486)) (by unfold cpf; rw [if_neg (by omega)]) ?_
          refine gs_17 C (by omega) dX5_changed_33 (q := 34) rfl ?_
          refine g_st (σ2 := (st σ 17 (pt (cpf (σ 17) (σ 17) 486 0 k) k ((σ 17) (k + 486))))) (st_st _ _ _ _) ?_
          refine g_iinc C (L' := [(2, .int (iI (k + 1))), (0, .ref (ea E 13)), (1, .int (iI a))]) dX5_changed_34 2 rfl (by decide) rfl (q := 37) rfl ?_
          refine g_goto C dX5_changed_37 (q := 11) rfl ?_
          refine g_sub [1, 2, 0] (L' := [(0, .ref (ea E 13)), (1, .int (iI a)), (2, .int (iI (k + 1)))]) rfl ?_
          refine g_st (σ2 := (st σ 17 (cpf (σ 17) (σ 17) 486 0 (k + 1)))) (congrArg (st _ 17) (by funext z9; simp only [pt, cpf]; (repeat' split) <;> first | rfl | omega | (congr 1; omega))) ?_
          exact ih11 (k + 1) (by omega) (by omega)
    exact lp11 _ 0 (Nat.lt_succ_self _) (by omega)
abbrev rm_X5_ends : Room := { frames := 1, cells := 0, slots := 0, locals := 22 }
set_option maxRecDepth 100000 in
set_option maxHeartbeats 4000000 in
theorem c_X5_ends_0 (l : Launch) (E : EV) (σ : SS) (hk : 0 ≤ (σ 13 5) ∧ (σ 13 5) ≤ 8) : Ki l yX5_ends (cw yX5_ends cX5_ends 2 (some .int)) rm_X5_ends E [.ref (ea E 13), .int (iI 0)] σ (σ 13 14) (st (st σ 13 (pt (σ 13) 5 (min ((σ 13 5) + 1) 8))) 17 (hiF (σ 17) (σ 15) (σ 13 5))) := by
  refine Ki_of (rm := rm_X5_ends) (mL := 2) (b := cX5_ends) RX5 rfl (by decide +kernel) rfl rfl [(0, .ref (ea E 13)), (1, .int (iI 0))] rfl (Nat.le_of_ble_eq_true rfl) (fun p_ e_ s_ m_ a_ b_ h_ c_ Q A C hret => ?_)
  refine g_iload_n C dX5_ends_0 1 rfl rfl (q := 1) rfl ?_
  refine g_if_ne C dX5_ends_1 (by omega) (q2 := 15) rfl (q := 4) rfl (fun hb1 => ?_) (fun hb1 => ?_)
  · skip
    exfalso; omega
  · skip
    refine g_aload_n C dX5_ends_4 0 rfl rfl (q := 5) rfl ?_
    refine g_aload_n C dX5_ends_5 0 rfl rfl (q := 6) rfl ?_
    refine gf_X5_44 C dX5_ends_6 (q := 9) rfl ?_
    refine g_cV_i C (As := [.int (iI (σ 13 14))]) (c_X5_changed l E _ (σ 13 14)  (by omega)) ml_X5_47 mf_X5_changed (o := 13) (ci := 5) rfl rfl rfl rfl ⟨(Nat.le_of_ble_eq_true rfl), (Nat.le_of_ble_eq_true rfl)⟩ rfl rfl rfl (Nat.le_of_ble_eq_true rfl) ⟨(Nat.le_of_ble_eq_true rfl), (Nat.le_of_ble_eq_true rfl)⟩ dX5_ends_9 (q := 12) rfl ?_
    refine g_goto C dX5_ends_12 (q := 20) rfl ?_
    exact hret _ _ _ dX5_ends_20 rfl
set_option maxRecDepth 100000 in
set_option maxHeartbeats 4000000 in
theorem c_X5_ends_x (l : Launch) (E : EV) (σ : SS) (r : Int) (hz : r ≠ 0 ∧ -2147483648 ≤ r ∧ r ≤ 2147483647) : Ki l yX5_ends (cw yX5_ends cX5_ends 2 (some .int)) rm_X5_ends E [.ref (ea E 13), .int (iI r)] σ 0 (st σ 13 (pt (σ 13) 0 r)) := by
  refine Ki_of (rm := rm_X5_ends) (mL := 2) (b := cX5_ends) RX5 rfl (by decide +kernel) rfl rfl [(0, .ref (ea E 13)), (1, .int (iI r))] rfl (Nat.le_of_ble_eq_true rfl) (fun p_ e_ s_ m_ a_ b_ h_ c_ Q A C hret => ?_)
  refine g_iload_n C dX5_ends_0 1 rfl rfl (q := 1) rfl ?_
  refine g_if_ne C dX5_ends_1 (by omega) (q2 := 15) rfl (q := 4) rfl (fun hb1 => ?_) (fun hb1 => ?_)
  · skip
    refine g_aload_n C dX5_ends_15 0 rfl rfl (q := 16) rfl ?_
    refine g_iload_n C dX5_ends_16 1 rfl rfl (q := 17) rfl ?_
    refine g_cV_i C (As := [.int (iI r)]) (c_X5_fails l E _ r) ml_X5_51 mf_X5_fails (o := 13) (ci := 5) rfl rfl rfl rfl ⟨(Nat.le_of_ble_eq_true rfl), (Nat.le_of_ble_eq_true rfl)⟩ rfl rfl rfl (Nat.le_of_ble_eq_true rfl) ⟨(Nat.le_of_ble_eq_true rfl), (Nat.le_of_ble_eq_true rfl)⟩ dX5_ends_17 (q := 20) rfl ?_
    exact hret _ _ _ dX5_ends_20 rfl
  · skip
    exfalso; omega
abbrev rm_X5_flips : Room := { frames := 3, cells := 0, slots := 0, locals := 64 }
set_option maxRecDepth 100000 in
set_option maxHeartbeats 4000000 in
theorem c_X5_flips (l : Launch) (E : EV) (σ : SS) (r x y : Int) (f : Int → Int) (hM : MS f (σ 14)) (hr_r : -2147483648 ≤ r ∧ r ≤ 2147483647) (hr_x : -2147483648 ≤ x ∧ x ≤ 2147483647) (hr_y : -2147483648 ≤ y ∧ y ≤ 2147483647) (hF : fX f r x y = 0) : Ki l yX5_flips (cw yX5_flips cX5_flips 8 (some .int)) rm_X5_flips E [.ref (ea E 13), .int (iI r), .int (iI x), .int (iI y)] σ 0 (st (st σ 13 (pt (σ 13) 14 (sI (lgs (rvF f r x y) r) x (y + 1)))) 14 (mRv (σ 14) r x y)) := by
  refine Ki_of (rm := rm_X5_flips) (mL := 8) (b := cX5_flips) RX5 rfl (by decide +kernel) rfl rfl [(0, .ref (ea E 13)), (1, .int (iI r)), (2, .int (iI x)), (3, .int (iI y))] rfl (Nat.le_of_ble_eq_true rfl) (fun p_ e_ s_ m_ a_ b_ h_ c_ Q A C hret => ?_)
  have hcs := fX_cs f r x y
  have hB := bP_iff f r x
  have hB1 := bP_01 f r x
  have hC := bP_iff f r y
  have hC1 := bP_01 f r y
  refine g_aload_n C dX5_flips_0 0 rfl rfl (q := 1) rfl ?_
  refine g_iload_n C dX5_flips_1 1 rfl rfl (q := 2) rfl ?_
  refine g_iload_n C dX5_flips_2 2 rfl rfl (q := 3) rfl ?_
  refine g_cV_i C (As := [.int (iI r), .int (iI x)]) (c_X5_isSegment l E _ r x f (by assumption) (by omega) (by omega)) ml_X5_90 mf_X5_isSegment (o := 13) (ci := 5) rfl rfl rfl rfl ⟨(Nat.le_of_ble_eq_true rfl), (Nat.le_of_ble_eq_true rfl)⟩ rfl rfl rfl (Nat.le_of_ble_eq_true rfl) ⟨(Nat.le_of_ble_eq_true rfl), (Nat.le_of_ble_eq_true rfl)⟩ dX5_flips_3 (q := 6) rfl ?_
  refine g_if_eq C dX5_flips_6 (by omega) (q2 := 18) rfl (q := 9) rfl (fun hb1 => ?_) (fun hb1 => ?_)
  · skip
    exfalso; omega
  · skip
    refine g_aload_n C dX5_flips_9 0 rfl rfl (q := 10) rfl ?_
    refine g_iload_n C dX5_flips_10 1 rfl rfl (q := 11) rfl ?_
    refine g_iload_n C dX5_flips_11 3 rfl rfl (q := 12) rfl ?_
    refine g_cV_i C (As := [.int (iI r), .int (iI y)]) (c_X5_isSegment l E _ r y f (by assumption) (by omega) (by omega)) ml_X5_90 mf_X5_isSegment (o := 13) (ci := 5) rfl rfl rfl rfl ⟨(Nat.le_of_ble_eq_true rfl), (Nat.le_of_ble_eq_true rfl)⟩ rfl rfl rfl (Nat.le_of_ble_eq_true rfl) ⟨(Nat.le_of_ble_eq_true rfl), (Nat.le_of_ble_eq_true rfl)⟩ dX5_flips_12 (q := 15) rfl ?_
    refine g_if_ne C dX5_flips_15 (by omega) (q2 := 20) rfl (q := 18) rfl (fun hb2 => ?_) (fun hb2 => ?_)
    · skip
      refine g_iload_n C dX5_flips_20 2 rfl rfl (q := 21) rfl ?_
      refine g_iload_n C dX5_flips_21 3 rfl rfl (q := 22) rfl ?_
      refine g_icmp_le C dX5_flips_22 (by omega) (q2 := 27) rfl (q := 25) rfl (fun hb3 => ?_) (fun hb3 => ?_)
      · skip
        have hm_r := (hM.2.1 r (by omega)).1
        have hn_r := (hM.1 r (by omega)).1
        refine g_iload_n C dX5_flips_27 2 rfl rfl (q := 28) rfl ?_
        refine g_istore C (L' := [(4, .int (iI x)), (0, .ref (ea E 13)), (1, .int (iI r)), (2, .int (iI x)), (3, .int (iI y))]) dX5_flips_28 (by decide) rfl (q := 30) rfl ?_
        refine g_iload_n C dX5_flips_30 4 rfl rfl (q := 31) rfl ?_
        refine g_istore C (L' := [(5, .int (iI y)), (4, .int (iI x)), (0, .ref (ea E 13)), (1, .int (iI r)), (2, .int (iI x)), (3, .int (iI y))]) dX5_flips_31 (by decide) rfl (q := 33) rfl ?_
        refine g_sub [2, 3, 4, 5, 1, 0] (L' := [(0, .ref (ea E 13)), (1, .int (iI r)), (2, .int (iI x)), (3, .int (iI y)), (4, .int (iI x)), (5, .int (iI y))]) rfl ?_
        refine g_st (σ2 := (st σ 14 (mRvL (σ 14) r x y x))) (by rw [show mRvL (σ 14) r x y x = σ 14 from by funext z9; simp only [mRvL]; (repeat' split) <;> first | rfl | omega | (congr 1; omega)]; exact (st_id σ 14).symm) ?_
        have lp33 : ∀ (k9 : Nat) (k : Int) (j : Int), (j - k + 1).toNat < k9 → (x ≤ k ∧ k ≤ y + 1 ∧ j = x + y - k ∧ k ≤ j + 2) → GG p_ l e_ rm_X5_flips s_ m_ a_ b_ h_ c_ Q E A 8 (st σ 14 (mRvL (σ 14) r x y k)) 0 0 33 [(0, .ref (ea E 13)), (1, .int (iI r)), (2, .int (iI x)), (3, .int (iI y)), (4, .int (iI k)), (5, .int (iI j))] [] := by
          intro k9
          induction k9 with
          | zero => intro k j hk9; omega
          | succ k9 ih33 =>
            intro k j hk9 hk
            refine g_iload C dX5_flips_33 4 rfl (q := 35) rfl ?_
            refine g_iload C dX5_flips_35 5 rfl (q := 37) rfl ?_
            refine g_icmp_ge C dX5_flips_37 (by omega) (q2 := 103) rfl (q := 40) rfl (fun hb4 => ?_) (fun hb4 => ?_)
            · skip
              refine g_st (σ2 := (st σ 14 (mRv (σ 14) r x y))) (by exact congrArg (st _ 14) (by funext z9; simp only [mRvL, mRv]; (repeat' split) <;> first | rfl | omega | (congr 1; omega))) ?_
              refine g_aload_n C dX5_flips_103 0 rfl rfl (q := 104) rfl ?_
              refine g_aload_n C dX5_flips_104 0 rfl rfl (q := 105) rfl ?_
              refine g_iload_n C dX5_flips_105 1 rfl rfl (q := 106) rfl ?_
              refine g_iload_n C dX5_flips_106 2 rfl rfl (q := 107) rfl ?_
              refine g_iload_n C dX5_flips_107 3 rfl rfl (q := 108) rfl ?_
              refine g_cV_i C (As := [.int (iI r), .int (iI x), .int (iI y)]) (c_X5_sumOf l E _ r x y (rvF f r x y) (by exact MS_rv hM (by omega) (by omega)) (by omega) (by omega) (by rw [show rvF f r x y (240 + r) = f (240 + r) from if_neg (by omega)]; omega)) ml_X5_96 mf_X5_sumOf (o := 13) (ci := 5) rfl rfl rfl rfl ⟨(Nat.le_of_ble_eq_true rfl), (Nat.le_of_ble_eq_true rfl)⟩ rfl rfl rfl (Nat.le_of_ble_eq_true rfl) ⟨(Nat.le_of_ble_eq_true rfl), (Nat.le_of_ble_eq_true rfl)⟩ dX5_flips_108 (q := 111) rfl ?_
              refine g_cV_i C (As := [.int (iI (sI (lgs (rvF f r x y) r) x (y + 1)))]) (c_X5_done l E _ (sI (lgs (rvF f r x y) r) x (y + 1))) ml_X5_87 mf_X5_done (o := 13) (ci := 5) rfl rfl rfl rfl ⟨(Nat.le_of_ble_eq_true rfl), (Nat.le_of_ble_eq_true rfl)⟩ rfl rfl rfl (Nat.le_of_ble_eq_true rfl) ⟨(Nat.le_of_ble_eq_true rfl), (Nat.le_of_ble_eq_true rfl)⟩ dX5_flips_111 (q := 114) rfl ?_
              refine g_st (σ2 := (st (st σ 13 (pt (σ 13) 14 (sI (lgs (rvF f r x y) r) x (y + 1)))) 14 (mRv (σ 14) r x y))) (st_cm σ (o := 14) (q := 13) (mRv (σ 14) r x y) (pt (σ 13) 14 (sI (lgs (rvF f r x y) r) x (y + 1))) (by decide)) ?_
              exact hret _ _ _ dX5_flips_114 rfl
            · skip
              refine g_aload_n C dX5_flips_40 0 rfl rfl (q := 41) rfl ?_
              refine g_iload_n C dX5_flips_41 1 rfl rfl (q := 42) rfl ?_
              refine g_iload C dX5_flips_42 4 rfl (q := 44) rfl ?_
              refine g_iconst C dX5_flips_44 (q := 45) rfl ?_
              refine g_cV_i C (As := [.int (iI r), .int (iI k), .int (iI 0)]) (c_X5_at_0 l E _ r k  (by omega) (by omega)) ml_X5_75 mf_X5_at (o := 13) (ci := 5) rfl rfl rfl rfl ⟨(Nat.le_of_ble_eq_true rfl), (Nat.le_of_ble_eq_true rfl)⟩ rfl rfl rfl (Nat.le_of_ble_eq_true rfl) ⟨(Nat.le_of_ble_eq_true rfl), (Nat.le_of_ble_eq_true rfl)⟩ dX5_flips_45 (q := 48) rfl ?_
              refine g_top (b := (mRvL (σ 14) r x y k) (3 + 121 * r + 2 * k)) rfl ?_
              refine g_top (b := (σ 14) (3 + 121 * r + 2 * k)) (by exact if_neg (by omega)) ?_
              refine g_istore C (L' := [(6, .int (iI ((σ 14) (3 + 121 * r + 2 * k)))), (0, .ref (ea E 13)), (1, .int (iI r)), (2, .int (iI x)), (3, .int (iI y)), (4, .int (iI k)), (5, .int (iI j))]) dX5_flips_48 (by decide) rfl (q := 50) rfl ?_
              refine g_aload_n C dX5_flips_50 1 rfl rfl (q := 51) rfl ?_
              refine g_iload_n C dX5_flips_51 2 rfl rfl (q := 52) rfl ?_
              refine g_iload C dX5_flips_52 5 rfl (q := 54) rfl ?_
              refine g_iconst C dX5_flips_54 (q := 55) rfl ?_
              refine g_cV_i C (As := [.int (iI r), .int (iI k), .int (iI 1)]) (c_X5_at_1 l E _ r k  (by omega) (by omega)) ml_X5_75 mf_X5_at (o := 13) (ci := 5) rfl rfl rfl rfl ⟨(Nat.le_of_ble_eq_true rfl), (Nat.le_of_ble_eq_true rfl)⟩ rfl rfl rfl (Nat.le_of_ble_eq_true rfl) ⟨(Nat.le_of_ble_eq_true rfl), (Nat.le_of_ble_eq_true rfl)⟩ dX5_flips_55 (q := 58) rfl ?_
              refine g_top (b := (mRvL (σ 14) r x y k) (4 + 121 * r + 2 * k)) rfl ?_
              refine g_top (b := (σ 14) (4 + 121 * r + 2 * k)) (by exact if_neg (by omega)) ?_
              refine g_istore C (L' := [(7, .int (iI ((σ 14) (4 + 121 * r + 2 * k)))), (6, .int (iI ((σ 14) (3 + 121 * r + 2 * k)))), (0, .ref (ea E 13)), (1, .int (iI r)), (2, .int (iI x)), (3, .int (iI y)), (4, .int (iI k)), (5, .int (iI j))]) dX5_flips_58 (by decide) rfl (q := 60) rfl ?_
              refine g_aload_n C dX5_flips_60 2 rfl rfl (q := 61) rfl ?_
              refine g_iload_n C dX5_flips_61 3 rfl rfl (q := 62) rfl ?_
              refine g_iload C dX5_flips_62 6 rfl (q := 64) rfl ?_
              refine g_aload_n C dX5_flips_64 2 rfl rfl (q := 65) rfl ?_
              refine g_iload_n C dX5_flips_65 3 rfl rfl (q := 66) rfl ?_
              refine g_iload C dX5_flips_66 7 rfl (q := 68) rfl ?_
              refine g_iconst C dX5_flips_68 (q := 69) rfl ?_
              refine g_cV_i C (As := [.int (iI r), .int (iI j), .int (iI 0)]) (c_X5_at_0 l E _ r j  (by omega) (by omega)) ml_X5_75 mf_X5_at (o := 13) (ci := 5) rfl rfl rfl rfl ⟨(Nat.le_of_ble_eq_true rfl), (Nat.le_of_ble_eq_true rfl)⟩ rfl rfl rfl (Nat.le_of_ble_eq_true rfl) ⟨(Nat.le_of_ble_eq_true rfl), (Nat.le_of_ble_eq_true rfl)⟩ dX5_flips_69 (q := 72) rfl ?_
              refine g_top (b := (mRvL (σ 14) r x y k) (3 + 121 * r + 2 * j)) rfl ?_
              refine g_top (b := (σ 14) (3 + 121 * r + 2 * j)) (by exact if_neg (by omega)) ?_
              refine g_aload_n C dX5_flips_72 2 rfl rfl (q := 73) rfl ?_
              refine g_iload_n C dX5_flips_73 3 rfl rfl (q := 74) rfl ?_
              refine g_iload C dX5_flips_74 7 rfl (q := 76) rfl ?_
              refine g_iconst C dX5_flips_76 (q := 77) rfl ?_
              refine g_cV_i C (As := [.int (iI r), .int (iI j), .int (iI 1)]) (c_X5_at_1 l E _ r j  (by omega) (by omega)) ml_X5_75 mf_X5_at (o := 13) (ci := 5) rfl rfl rfl rfl ⟨(Nat.le_of_ble_eq_true rfl), (Nat.le_of_ble_eq_true rfl)⟩ rfl rfl rfl (Nat.le_of_ble_eq_true rfl) ⟨(Nat.le_of_ble_eq_true rfl), (Nat.le_of_ble_eq_true rfl)⟩ dX5_flips_77 (q := 80) rfl ?_
              refine g_top (b := (mRvL (σ 14) r x y k) (4 + 121 * r + 2 * j)) rfl ?_
              refine g_top (b := (σ 14) (4 + 121 * r + 2 * j)) (by exact if_neg (by omega)) ?_
              refine g_cV_v C (As := [.int (iI r), .int (iI k), .int (iI ((σ 14) (3 + 121 * r + 2 * j))), .int (iI ((σ 14) (4 + 121 * r + 2 * j)))]) (c_X5_sets l E _ r k ((σ 14) (3 + 121 * r + 2 * j)) ((σ 14) (4 + 121 * r + 2 * j))  (by omega) (by omega)) ml_X5_79 mf_X5_sets (o := 13) (ci := 5) rfl rfl rfl rfl ⟨(Nat.le_of_ble_eq_true rfl), (Nat.le_of_ble_eq_true rfl)⟩ rfl rfl rfl (Nat.le_of_ble_eq_true rfl) ⟨(Nat.le_of_ble_eq_true rfl), (Nat.le_of_ble_eq_true rfl)⟩ dX5_flips_80 (q := 83) rfl ?_
              refine g_st (σ2 := (st σ 14 (mS (mRvL (σ 14) r x y k) r k ((σ 14) (3 + 121 * r + 2 * j)) ((σ 14) (4 + 121 * r + 2 * j))))) (st_st _ _ _ _) ?_
              refine g_aload_n C dX5_flips_83 2 rfl rfl (q := 84) rfl ?_
              refine g_iload_n C dX5_flips_84 3 rfl rfl (q := 85) rfl ?_
              refine g_iload C dX5_flips_85 7 rfl (q := 87) rfl ?_
              refine g_iload C dX5_flips_87 1 rfl (q := 89) rfl ?_
              refine g_iload C dX5_flips_89 0 rfl (q := 91) rfl ?_
              refine g_cV_v C (As := [.int (iI r), .int (iI j), .int (iI ((σ 14) (3 + 121 * r + 2 * k))), .int (iI ((σ 14) (4 + 121 * r + 2 * k)))]) (c_X5_sets l E _ r j ((σ 14) (3 + 121 * r + 2 * k)) ((σ 14) (4 + 121 * r + 2 * k))  (by omega) (by omega)) ml_X5_79 mf_X5_sets (o := 13) (ci := 5) rfl rfl rfl rfl ⟨(Nat.le_of_ble_eq_true rfl), (Nat.le_of_ble_eq_true rfl)⟩ rfl rfl rfl (Nat.le_of_ble_eq_true rfl) ⟨(Nat.le_of_ble_eq_true rfl), (Nat.le_of_ble_eq_true rfl)⟩ dX5_flips_91 (q := 94) rfl ?_
              refine g_st (σ2 := (st σ 14 (mS (mS (mRvL (σ 14) r x y k) r k ((σ 14) (3 + 121 * r + 2 * j)) ((σ 14) (4 + 121 * r + 2 * j))) r j ((σ 14) (3 + 121 * r + 2 * k)) ((σ 14) (4 + 121 * r + 2 * k))))) (st_st _ _ _ _) ?_
              refine g_iinc C (L' := [(4, .int (iI (k + 1))), (7, .int (iI ((σ 14) (4 + 121 * r + 2 * k)))), (6, .int (iI ((σ 14) (3 + 121 * r + 2 * k)))), (0, .ref (ea E 13)), (1, .int (iI r)), (2, .int (iI x)), (3, .int (iI y)), (5, .int (iI j))]) dX5_flips_94 6 rfl (by decide) rfl (q := 97) rfl ?_
              refine g_iinc C (L' := [(5, .int (iI (j + (-1)))), (4, .int (iI (k + 1))), (7, .int (iI ((σ 14) (4 + 121 * r + 2 * k)))), (6, .int (iI ((σ 14) (3 + 121 * r + 2 * k)))), (0, .ref (ea E 13)), (1, .int (iI r)), (2, .int (iI x)), (3, .int (iI y))]) dX5_flips_97 7 rfl (by decide) rfl (q := 100) rfl ?_
              refine g_goto C dX5_flips_100 (q := 33) rfl ?_
              refine g_sub [4, 5, 6, 7, 1, 0] (L' := [(0, .ref (ea E 13)), (1, .int (iI r)), (2, .int (iI x)), (3, .int (iI y)), (4, .int (iI (k + 1))), (5, .int (iI (j + (-1))))]) rfl ?_
              refine g_st (σ2 := (st σ 14 (mRvL (σ 14) r x y (k + 1)))) (congrArg (st _ 14) (by funext z9; simp only [mS, pt, mRvL]; (repeat' split) <;> first | rfl | omega | (congr 1; omega))) ?_
              exact ih33 (k + 1) (j + (-1)) (by omega) (by omega)
        exact lp33 _ x y (Nat.lt_succ_self _) (by omega)
      · skip
        exfalso; omega
    · skip
      exfalso; omega
set_option maxRecDepth 100000 in
set_option maxHeartbeats 4000000 in
theorem c_X5_flips_1 (l : Launch) (E : EV) (σ : SS) (r x y : Int) (f : Int → Int) (hM : MS f (σ 14)) (hr_r : -2147483648 ≤ r ∧ r ≤ 2147483647) (hr_x : -2147483648 ≤ x ∧ x ≤ 2147483647) (hr_y : -2147483648 ≤ y ∧ y ≤ 2147483647) (hF : fX f r x y = 1) : Ki l yX5_flips (cw yX5_flips cX5_flips 8 (some .int)) rm_X5_flips E [.ref (ea E 13), .int (iI r), .int (iI x), .int (iI y)] σ 1 σ := by
  refine Ki_of (rm := rm_X5_flips) (mL := 8) (b := cX5_flips) RX5 rfl (by decide +kernel) rfl rfl [(0, .ref (ea E 13)), (1, .int (iI r)), (2, .int (iI x)), (3, .int (iI y))] rfl (Nat.le_of_ble_eq_true rfl) (fun p_ e_ s_ m_ a_ b_ h_ c_ Q A C hret => ?_)
  have hcs := fX_cs f r x y
  have hB := bP_iff f r x
  have hB1 := bP_01 f r x
  have hC := bP_iff f r y
  have hC1 := bP_01 f r y
  refine g_aload_n C dX5_flips_0 0 rfl rfl (q := 1) rfl ?_
  refine g_iload_n C dX5_flips_1 1 rfl rfl (q := 2) rfl ?_
  refine g_iload_n C dX5_flips_2 2 rfl rfl (q := 3) rfl ?_
  refine g_cV_i C (As := [.int (iI r), .int (iI x)]) (c_X5_isSegment l E _ r x f (by assumption) (by omega) (by omega)) ml_X5_90 mf_X5_isSegment (o := 13) (ci := 5) rfl rfl rfl rfl ⟨(Nat.le_of_ble_eq_true rfl), (Nat.le_of_ble_eq_true rfl)⟩ rfl rfl rfl (Nat.le_of_ble_eq_true rfl) ⟨(Nat.le_of_ble_eq_true rfl), (Nat.le_of_ble_eq_true rfl)⟩ dX5_flips_3 (q := 6) rfl ?_
  refine g_if_eq C dX5_flips_6 (by omega) (q2 := 18) rfl (q := 9) rfl (fun hb1 => ?_) (fun hb1 => ?_)
  · skip
    refine g_iconst C dX5_flips_18 (q := 19) rfl ?_
    exact hret _ _ _ dX5_flips_19 rfl
  · skip
    refine g_aload_n C dX5_flips_9 0 rfl rfl (q := 10) rfl ?_
    refine g_iload_n C dX5_flips_10 1 rfl rfl (q := 11) rfl ?_
    refine g_iload_n C dX5_flips_11 3 rfl rfl (q := 12) rfl ?_
    refine g_cV_i C (As := [.int (iI r), .int (iI y)]) (c_X5_isSegment l E _ r y f (by assumption) (by omega) (by omega)) ml_X5_90 mf_X5_isSegment (o := 13) (ci := 5) rfl rfl rfl rfl ⟨(Nat.le_of_ble_eq_true rfl), (Nat.le_of_ble_eq_true rfl)⟩ rfl rfl rfl (Nat.le_of_ble_eq_true rfl) ⟨(Nat.le_of_ble_eq_true rfl), (Nat.le_of_ble_eq_true rfl)⟩ dX5_flips_12 (q := 15) rfl ?_
    refine g_if_ne C dX5_flips_15 (by omega) (q2 := 20) rfl (q := 18) rfl (fun hb2 => ?_) (fun hb2 => ?_)
    · skip
      exfalso; omega
    · skip
      refine g_iconst C dX5_flips_18 (q := 19) rfl ?_
      exact hret _ _ _ dX5_flips_19 rfl
set_option maxRecDepth 100000 in
set_option maxHeartbeats 4000000 in
theorem c_X5_flips_2 (l : Launch) (E : EV) (σ : SS) (r x y : Int) (f : Int → Int) (hM : MS f (σ 14)) (hr_r : -2147483648 ≤ r ∧ r ≤ 2147483647) (hr_x : -2147483648 ≤ x ∧ x ≤ 2147483647) (hr_y : -2147483648 ≤ y ∧ y ≤ 2147483647) (hF : fX f r x y = 2) : Ki l yX5_flips (cw yX5_flips cX5_flips 8 (some .int)) rm_X5_flips E [.ref (ea E 13), .int (iI r), .int (iI x), .int (iI y)] σ 2 σ := by
  refine Ki_of (rm := rm_X5_flips) (mL := 8) (b := cX5_flips) RX5 rfl (by decide +kernel) rfl rfl [(0, .ref (ea E 13)), (1, .int (iI r)), (2, .int (iI x)), (3, .int (iI y))] rfl (Nat.le_of_ble_eq_true rfl) (fun p_ e_ s_ m_ a_ b_ h_ c_ Q A C hret => ?_)
  have hcs := fX_cs f r x y
  have hB := bP_iff f r x
  have hB1 := bP_01 f r x
  have hC := bP_iff f r y
  have hC1 := bP_01 f r y
  refine g_aload_n C dX5_flips_0 0 rfl rfl (q := 1) rfl ?_
  refine g_iload_n C dX5_flips_1 1 rfl rfl (q := 2) rfl ?_
  refine g_iload_n C dX5_flips_2 2 rfl rfl (q := 3) rfl ?_
  refine g_cV_i C (As := [.int (iI r), .int (iI x)]) (c_X5_isSegment l E _ r x f (by assumption) (by omega) (by omega)) ml_X5_90 mf_X5_isSegment (o := 13) (ci := 5) rfl rfl rfl rfl ⟨(Nat.le_of_ble_eq_true rfl), (Nat.le_of_ble_eq_true rfl)⟩ rfl rfl rfl (Nat.le_of_ble_eq_true rfl) ⟨(Nat.le_of_ble_eq_true rfl), (Nat.le_of_ble_eq_true rfl)⟩ dX5_flips_3 (q := 6) rfl ?_
  refine g_if_eq C dX5_flips_6 (by omega) (q2 := 18) rfl (q := 9) rfl (fun hb1 => ?_) (fun hb1 => ?_)
  · skip
    exfalso; omega
  · skip
    refine g_aload_n C dX5_flips_9 0 rfl rfl (q := 10) rfl ?_
    refine g_iload_n C dX5_flips_10 1 rfl rfl (q := 11) rfl ?_
    refine g_iload_n C dX5_flips_11 3 rfl rfl (q := 12) rfl ?_
    refine g_cV_i C (As := [.int (iI r), .int (iI y)]) (c_X5_isSegment l E _ r y f (by assumption) (by omega) (by omega)) ml_X5_90 mf_X5_isSegment (o := 13) (ci := 5) rfl rfl rfl rfl ⟨(Nat.le_of_ble_eq_true rfl), (Nat.le_of_ble_eq_true rfl)⟩ rfl rfl rfl (Nat.le_of_ble_eq_true rfl) ⟨(Nat.le_of_ble_eq_true rfl), (Nat.le_of_ble_eq_true rfl)⟩ dX5_flips_12 (q := 15) rfl ?_
    refine g_if_ne C dX5_flips_15 (by omega) (q2 := 20) rfl (q := 18) rfl (fun hb2 => ?_) (fun hb2 => ?_)
    · skip
      refine g_iload_n C dX5_flips_20 2 rfl rfl (q := 21) rfl ?_
      refine g_iload_n C dX5_flips_21 3 rfl rfl (q := 22) rfl ?_
      refine g_icmp_le C dX5_flips_22 (by omega) (q2 := 27) rfl (q := 25) rfl (fun hb3 => ?_) (fun hb3 => ?_)
      · skip
        exfalso; omega
      · skip
        refine g_iconst C dX5_flips_25 (q := 26) rfl ?_
        exact hret _ _ _ dX5_flips_26 rfl
    · skip
      exfalso; omega
abbrev rm_X5_dyes : Room := { frames := 3, cells := 0, slots := 0, locals := 64 }
set_option maxRecDepth 100000 in
set_option maxHeartbeats 4000000 in
theorem c_X5_dyes (l : Launch) (E : EV) (σ : SS) (r x y c : Int) (f : Int → Int) (hM : MS f (σ 14)) (hr_r : -2147483648 ≤ r ∧ r ≤ 2147483647) (hr_x : -2147483648 ≤ x ∧ x ≤ 2147483647) (hr_y : -2147483648 ≤ y ∧ y ≤ 2147483647) (hr_c : -2147483648 ≤ c ∧ c ≤ 2147483647) (hF : fD f r x y c = 0) : Ki l yX5_dyes (cw yX5_dyes cX5_dyes 7 (some .int)) rm_X5_dyes E [.ref (ea E 13), .int (iI r), .int (iI x), .int (iI y), .int (iI c)] σ 0 (st (st σ 13 (pt (σ 13) 14 (sI (dyI f r c) x (y + 1)))) 14 (mDyL (σ 14) r x c (y + 1))) := by
  refine Ki_of (rm := rm_X5_dyes) (mL := 7) (b := cX5_dyes) RX5 rfl (by decide +kernel) rfl rfl [(0, .ref (ea E 13)), (1, .int (iI r)), (2, .int (iI x)), (3, .int (iI y)), (4, .int (iI c))] rfl (Nat.le_of_ble_eq_true rfl) (fun p_ e_ s_ m_ a_ b_ h_ c_ Q A C hret => ?_)
  have hcs := fD_cs f r x y c
  have hB := bP_iff f r x
  have hB1 := bP_01 f r x
  have hC := bP_iff f r y
  have hC1 := bP_01 f r y
  have hL := bC_iff c
  have hL1 := bC_01 c
  refine g_aload_n C dX5_dyes_0 0 rfl rfl (q := 1) rfl ?_
  refine g_iload_n C dX5_dyes_1 1 rfl rfl (q := 2) rfl ?_
  refine g_iload_n C dX5_dyes_2 2 rfl rfl (q := 3) rfl ?_
  refine g_cV_i C (As := [.int (iI r), .int (iI x)]) (c_X5_isSegment l E _ r x f (by assumption) (by omega) (by omega)) ml_X5_90 mf_X5_isSegment (o := 13) (ci := 5) rfl rfl rfl rfl ⟨(Nat.le_of_ble_eq_true rfl), (Nat.le_of_ble_eq_true rfl)⟩ rfl rfl rfl (Nat.le_of_ble_eq_true rfl) ⟨(Nat.le_of_ble_eq_true rfl), (Nat.le_of_ble_eq_true rfl)⟩ dX5_dyes_3 (q := 6) rfl ?_
  refine g_if_eq C dX5_dyes_6 (by omega) (q2 := 18) rfl (q := 9) rfl (fun hb1 => ?_) (fun hb1 => ?_)
  · skip
    exfalso; omega
  · skip
    refine g_aload_n C dX5_dyes_9 0 rfl rfl (q := 10) rfl ?_
    refine g_iload_n C dX5_dyes_10 1 rfl rfl (q := 11) rfl ?_
    refine g_iload_n C dX5_dyes_11 3 rfl rfl (q := 12) rfl ?_
    refine g_cV_i C (As := [.int (iI r), .int (iI y)]) (c_X5_isSegment l E _ r y f (by assumption) (by omega) (by omega)) ml_X5_90 mf_X5_isSegment (o := 13) (ci := 5) rfl rfl rfl rfl ⟨(Nat.le_of_ble_eq_true rfl), (Nat.le_of_ble_eq_true rfl)⟩ rfl rfl rfl (Nat.le_of_ble_eq_true rfl) ⟨(Nat.le_of_ble_eq_true rfl), (Nat.le_of_ble_eq_true rfl)⟩ dX5_dyes_12 (q := 15) rfl ?_
    refine g_if_ne C dX5_dyes_15 (by omega) (q2 := 20) rfl (q := 18) rfl (fun hb2 => ?_) (fun hb2 => ?_)
    · skip
      refine g_iload_n C dX5_dyes_20 2 rfl rfl (q := 21) rfl ?_
      refine g_iload_n C dX5_dyes_21 3 rfl rfl (q := 22) rfl ?_
      refine g_icmp_gt C dX5_dyes_22 (by omega) (q2 := 33) rfl (q := 25) rfl (fun hb3 => ?_) (fun hb3 => ?_)
      · skip
        exfalso; omega
      · skip
        refine g_iload C dX5_dyes_25 4 rfl (q := 27) rfl ?_
        refine g_cS_i C (As := [.int (iI c)]) (c_X5_isColour l E _ c  (by omega)) ml_X5_72 mf_X5_isColour rfl rfl ⟨(Nat.le_of_ble_eq_true rfl), (Nat.le_of_ble_eq_true rfl)⟩ rfl rfl rfl (Nat.le_of_ble_eq_true rfl) ⟨(Nat.le_of_ble_eq_true rfl), (Nat.le_of_ble_eq_true rfl)⟩ dX5_dyes_27 (q := 30) rfl ?_
        refine g_if_ne C dX5_dyes_30 (by omega) (q2 := 35) rfl (q := 33) rfl (fun hb4 => ?_) (fun hb4 => ?_)
        · skip
          have hm_r := (hM.2.1 r (by omega)).1
          have hn_r := (hM.1 r (by omega)).1
          refine g_iconst C dX5_dyes_35 (q := 36) rfl ?_
          refine g_istore C (L' := [(5, .int (iI 0)), (0, .ref (ea E 13)), (1, .int (iI r)), (2, .int (iI x)), (3, .int (iI y)), (4, .int (iI c))]) dX5_dyes_36 (by decide) rfl (q := 38) rfl ?_
          refine g_iload_n C dX5_dyes_38 3 rfl rfl (q := 39) rfl ?_
          refine g_istore C (L' := [(6, .int (iI x)), (5, .int (iI 0)), (0, .ref (ea E 13)), (1, .int (iI r)), (2, .int (iI x)), (3, .int (iI y)), (4, .int (iI c))]) dX5_dyes_39 (by decide) rfl (q := 41) rfl ?_
          refine g_sub [2, 3, 4, 5, 6, 1, 0] (L' := [(0, .ref (ea E 13)), (1, .int (iI r)), (2, .int (iI x)), (3, .int (iI y)), (4, .int (iI c)), (5, .int (iI 0)), (6, .int (iI x))]) rfl ?_
          refine g_st (σ2 := (st σ 14 (mDyL (σ 14) r x c x))) (by rw [show mDyL (σ 14) r x c x = σ 14 from by funext z9; simp only [mDyL]; (repeat' split) <;> first | rfl | omega | (congr 1; omega)]; exact (st_id σ 14).symm) ?_
          have lp41 : ∀ (k9 : Nat) (acc : Int) (k : Int), (y + 1 - k).toNat < k9 → (x ≤ k ∧ k ≤ y + 1) → (sI (dyI f r c) x (y + 1) = acc + sI (dyI f r c) k (y + 1)) → GG p_ l e_ rm_X5_dyes s_ m_ a_ b_ h_ c_ Q E A 7 (st σ 14 (mDyL (σ 14) r x c k)) 0 0 41 [(0, .ref (ea E 13)), (1, .int (iI r)), (2, .int (iI x)), (3, .int (iI y)), (4, .int (iI c)), (5, .int (iI acc)), (6, .int (iI k))] [] := by
            intro k9
            induction k9 with
            | zero => intro acc k hk9; omega
            | succ k9 ih41 =>
              intro acc k hk9 hk hR
              refine g_iload C dX5_dyes_41 6 rfl (q := 43) rfl ?_
              refine g_iload_n C dX5_dyes_43 3 rfl rfl (q := 44) rfl ?_
              refine g_icmp_gt C dX5_dyes_44 (by omega) (q2 := 93) rfl (q := 47) rfl (fun hb5 => ?_) (fun hb5 => ?_)
              · skip
                refine g_aload_n C dX5_dyes_93 0 rfl rfl (q := 94) rfl ?_
                refine g_iload C dX5_dyes_94 5 rfl (q := 96) rfl ?_
                refine g_cV_i C (As := [.int (iI acc)]) (c_X5_done l E _ acc) ml_X5_87 mf_X5_done (o := 13) (ci := 5) rfl rfl rfl rfl ⟨(Nat.le_of_ble_eq_true rfl), (Nat.le_of_ble_eq_true rfl)⟩ rfl rfl rfl (Nat.le_of_ble_eq_true rfl) ⟨(Nat.le_of_ble_eq_true rfl), (Nat.le_of_ble_eq_true rfl)⟩ dX5_dyes_96 (q := 99) rfl ?_
                refine g_st (σ2 := (st (st σ 13 (pt (σ 13) 14 acc)) 14 (mDyL (σ 14) r x c k))) (st_cm σ (o := 14) (q := 13) (mDyL (σ 14) r x c k) (pt (σ 13) 14 acc) (by decide)) ?_
                refine g_st (σ2 := (st (st σ 13 (pt (σ 13) 14 (sI (dyI f r c) x (y + 1)))) 14 (mDyL (σ 14) r x c (y + 1)))) (by rw [show k = y + 1 by omega, show sI (dyI f r c) x (y + 1) = acc by (rw [hR, sI_nil (by omega)]; omega)]) ?_
                exact hret _ _ _ dX5_dyes_99 rfl
              · skip
                have hs := (hM.2.1 r (by omega)).2 k (by omega)
                refine g_iload C dX5_dyes_47 5 rfl (q := 49) rfl ?_
                refine g_aload_n C dX5_dyes_49 0 rfl rfl (q := 50) rfl ?_
                refine g_iload_n C dX5_dyes_50 1 rfl rfl (q := 51) rfl ?_
                refine g_iload C dX5_dyes_51 6 rfl (q := 53) rfl ?_
                refine g_iconst C dX5_dyes_53 (q := 54) rfl ?_
                refine g_cV_i C (As := [.int (iI r), .int (iI k), .int (iI 1)]) (c_X5_at_1 l E _ r k  (by omega) (by omega)) ml_X5_75 mf_X5_at (o := 13) (ci := 5) rfl rfl rfl rfl ⟨(Nat.le_of_ble_eq_true rfl), (Nat.le_of_ble_eq_true rfl)⟩ rfl rfl rfl (Nat.le_of_ble_eq_true rfl) ⟨(Nat.le_of_ble_eq_true rfl), (Nat.le_of_ble_eq_true rfl)⟩ dX5_dyes_54 (q := 57) rfl ?_
                refine g_top (b := (mDyL (σ 14) r x c k) (4 + 121 * r + 2 * k)) rfl ?_
                refine g_top (b := f (r * 60 + k) % 8) (by rw [show mDyL (σ 14) r x c k (4 + 121 * r + 2 * k) = σ 14 (4 + 121 * r + 2 * k) from if_neg (by omega)]; exact hs.2) ?_
                refine g_iload C dX5_dyes_57 4 rfl (q := 59) rfl ?_
                refine g_icmp_ne C dX5_dyes_59 (by omega) (q2 := 66) rfl (q := 62) rfl (fun hb6 => ?_) (fun hb6 => ?_)
                · skip
                  refine g_iconst C dX5_dyes_66 (q := 67) rfl ?_
                  refine g_iadd C dX5_dyes_67 (q := 68) rfl ?_
                  refine g_istore C (L' := [(5, .int (iI (acc + 1))), (0, .ref (ea E 13)), (1, .int (iI r)), (2, .int (iI x)), (3, .int (iI y)), (4, .int (iI c)), (6, .int (iI k))]) dX5_dyes_68 (by decide) rfl (q := 70) rfl ?_
                  refine g_aload_n C dX5_dyes_70 1 rfl rfl (q := 71) rfl ?_
                  refine g_iload_n C dX5_dyes_71 2 rfl rfl (q := 72) rfl ?_
                  refine g_iload C dX5_dyes_72 6 rfl (q := 74) rfl ?_
                  refine g_aload_n C dX5_dyes_74 1 rfl rfl (q := 75) rfl ?_
                  refine g_iload_n C dX5_dyes_75 2 rfl rfl (q := 76) rfl ?_
                  refine g_iload C dX5_dyes_76 6 rfl (q := 78) rfl ?_
                  refine g_iconst C dX5_dyes_78 (q := 79) rfl ?_
                  refine g_cV_i C (As := [.int (iI r), .int (iI k), .int (iI 0)]) (c_X5_at_0 l E _ r k  (by omega) (by omega)) ml_X5_75 mf_X5_at (o := 13) (ci := 5) rfl rfl rfl rfl ⟨(Nat.le_of_ble_eq_true rfl), (Nat.le_of_ble_eq_true rfl)⟩ rfl rfl rfl (Nat.le_of_ble_eq_true rfl) ⟨(Nat.le_of_ble_eq_true rfl), (Nat.le_of_ble_eq_true rfl)⟩ dX5_dyes_79 (q := 82) rfl ?_
                  refine g_top (b := (mDyL (σ 14) r x c k) (3 + 121 * r + 2 * k)) rfl ?_
                  refine g_top (b := (σ 14) (3 + 121 * r + 2 * k)) (by exact if_neg (by omega)) ?_
                  refine g_iload C dX5_dyes_82 5 rfl (q := 84) rfl ?_
                  refine g_cV_v C (As := [.int (iI r), .int (iI k), .int (iI ((σ 14) (3 + 121 * r + 2 * k))), .int (iI c)]) (c_X5_sets l E _ r k ((σ 14) (3 + 121 * r + 2 * k)) c  (by omega) (by omega)) ml_X5_79 mf_X5_sets (o := 13) (ci := 5) rfl rfl rfl rfl ⟨(Nat.le_of_ble_eq_true rfl), (Nat.le_of_ble_eq_true rfl)⟩ rfl rfl rfl (Nat.le_of_ble_eq_true rfl) ⟨(Nat.le_of_ble_eq_true rfl), (Nat.le_of_ble_eq_true rfl)⟩ dX5_dyes_84 (q := 87) rfl ?_
                  refine g_st (σ2 := (st σ 14 (mS (mDyL (σ 14) r x c k) r k ((σ 14) (3 + 121 * r + 2 * k)) c))) (st_st _ _ _ _) ?_
                  refine g_iinc C (L' := [(6, .int (iI (k + 1))), (5, .int (iI (acc + 1))), (0, .ref (ea E 13)), (1, .int (iI r)), (2, .int (iI x)), (3, .int (iI y)), (4, .int (iI c))]) dX5_dyes_87 6 rfl (by decide) rfl (q := 90) rfl ?_
                  refine g_goto C dX5_dyes_90 (q := 41) rfl ?_
                  refine g_sub [2, 3, 4, 5, 6, 1, 0] (L' := [(0, .ref (ea E 13)), (1, .int (iI r)), (2, .int (iI x)), (3, .int (iI y)), (4, .int (iI c)), (5, .int (iI (acc + 1))), (6, .int (iI (k + 1)))]) rfl ?_
                  refine g_st (σ2 := (st σ 14 (mDyL (σ 14) r x c (k + 1)))) (congrArg (st _ 14) (by funext z9; simp only [mS, pt, mDyL]; (repeat' split) <;> first | rfl | omega | (congr 1; omega))) ?_
                  exact ih41 (acc + 1) (k + 1) (by omega) (by omega) (by first | (rw [hR, sI_cons (by omega), show dyI f r c k = 1 from if_neg (by omega)]; omega) | (rw [hR, sI_cons (by omega), show dyI f r c k = 0 from if_pos (by omega)]; omega))
                · skip
                  refine g_iconst C dX5_dyes_62 (q := 63) rfl ?_
                  refine g_goto C dX5_dyes_63 (q := 67) rfl ?_
                  refine g_iadd C dX5_dyes_67 (q := 68) rfl ?_
                  refine g_istore C (L' := [(5, .int (iI (acc + 0))), (0, .ref (ea E 13)), (1, .int (iI r)), (2, .int (iI x)), (3, .int (iI y)), (4, .int (iI c)), (6, .int (iI k))]) dX5_dyes_68 (by decide) rfl (q := 70) rfl ?_
                  refine g_aload_n C dX5_dyes_70 1 rfl rfl (q := 71) rfl ?_
                  refine g_iload_n C dX5_dyes_71 2 rfl rfl (q := 72) rfl ?_
                  refine g_iload C dX5_dyes_72 6 rfl (q := 74) rfl ?_
                  refine g_aload_n C dX5_dyes_74 1 rfl rfl (q := 75) rfl ?_
                  refine g_iload_n C dX5_dyes_75 2 rfl rfl (q := 76) rfl ?_
                  refine g_iload C dX5_dyes_76 6 rfl (q := 78) rfl ?_
                  refine g_iconst C dX5_dyes_78 (q := 79) rfl ?_
                  refine g_cV_i C (As := [.int (iI r), .int (iI k), .int (iI 0)]) (c_X5_at_0 l E _ r k  (by omega) (by omega)) ml_X5_75 mf_X5_at (o := 13) (ci := 5) rfl rfl rfl rfl ⟨(Nat.le_of_ble_eq_true rfl), (Nat.le_of_ble_eq_true rfl)⟩ rfl rfl rfl (Nat.le_of_ble_eq_true rfl) ⟨(Nat.le_of_ble_eq_true rfl), (Nat.le_of_ble_eq_true rfl)⟩ dX5_dyes_79 (q := 82) rfl ?_
                  refine g_top (b := (mDyL (σ 14) r x c k) (3 + 121 * r + 2 * k)) rfl ?_
                  refine g_top (b := (σ 14) (3 + 121 * r + 2 * k)) (by exact if_neg (by omega)) ?_
                  refine g_iload C dX5_dyes_82 5 rfl (q := 84) rfl ?_
                  refine g_cV_v C (As := [.int (iI r), .int (iI k), .int (iI ((σ 14) (3 + 121 * r + 2 * k))), .int (iI c)]) (c_X5_sets l E _ r k ((σ 14) (3 + 121 * r + 2 * k)) c  (by omega) (by omega)) ml_X5_79 mf_X5_sets (o := 13) (ci := 5) rfl rfl rfl rfl ⟨(Nat.le_of_ble_eq_true rfl), (Nat.le_of_ble_eq_true rfl)⟩ rfl rfl rfl (Nat.le_of_ble_eq_true rfl) ⟨(Nat.le_of_ble_eq_true rfl), (Nat.le_of_ble_eq_true rfl)⟩ dX5_dyes_84 (q := 87) rfl ?_
                  refine g_st (σ2 := (st σ 14 (mS (mDyL (σ 14) r x c k) r k ((σ 14) (3 + 121 * r + 2 * k)) c))) (st_st _ _ _ _) ?_
                  refine g_iinc C (L' := [(6, .int (iI (k + 1))), (5, .int (iI (acc + 0))), (0, .ref (ea E 13)), (1, .int (iI r)), (2, .int (iI x)), (3, .int (iI y)), (4, .int (iI c))]) dX5_dyes_87 6 rfl (by decide) rfl (q := 90) rfl ?_
                  refine g_goto C dX5_dyes_90 (q := 41) rfl ?_
                  refine g_sub [2, 3, 4, 5, 6, 1, 0] (L' := [(0, .ref (ea E 13)), (1, .int (iI r)), (2, .int (iI x)), (3, .int (iI y)), (4, .int (iI c)), (5, .int (iI (acc + 0))), (6, .int (iI (k + 1)))]) rfl ?_
                  refine g_st (σ2 := (st σ 14 (mDyL (σ 14) r x c (k + 1)))) (congrArg (st _ 14) (by funext z9; simp only [mS, pt, mDyL]; (repeat' split) <;> first | rfl | omega | (congr 1; omega))) ?_
                  exact ih41 (acc + 0) (k + 1) (by omega) (by omega) (by first | (rw [hR, sI_cons (by omega), show dyI f r c k = 1 from if_neg (by omega)]; omega) | (rw [hR, sI_cons (by omega), show dyI f r c k = 0 from if_pos (by omega)]; omega))
          exact lp41 _ 0 x (Nat.lt_succ_self _) (by omega) (by omega)
        · skip
          exfalso; omega
    · skip
      exfalso; omega
set_option maxRecDepth 100000 in
set_option maxHeartbeats 4000000 in
theorem c_X5_dyes_1 (l : Launch) (E : EV) (σ : SS) (r x y c : Int) (f : Int → Int) (hM : MS f (σ 14)) (hr_r : -2147483648 ≤ r ∧ r ≤ 2147483647) (hr_x : -2147483648 ≤ x ∧ x ≤ 2147483647) (hr_y : -2147483648 ≤ y ∧ y ≤ 2147483647) (hr_c : -2147483648 ≤ c ∧ c ≤ 2147483647) (hF : fD f r x y c = 1) : Ki l yX5_dyes (cw yX5_dyes cX5_dyes 7 (some .int)) rm_X5_dyes E [.ref (ea E 13), .int (iI r), .int (iI x), .int (iI y), .int (iI c)] σ 1 σ := by
  refine Ki_of (rm := rm_X5_dyes) (mL := 7) (b := cX5_dyes) RX5 rfl (by decide +kernel) rfl rfl [(0, .ref (ea E 13)), (1, .int (iI r)), (2, .int (iI x)), (3, .int (iI y)), (4, .int (iI c))] rfl (Nat.le_of_ble_eq_true rfl) (fun p_ e_ s_ m_ a_ b_ h_ c_ Q A C hret => ?_)
  have hcs := fD_cs f r x y c
  have hB := bP_iff f r x
  have hB1 := bP_01 f r x
  have hC := bP_iff f r y
  have hC1 := bP_01 f r y
  have hL := bC_iff c
  have hL1 := bC_01 c
  refine g_aload_n C dX5_dyes_0 0 rfl rfl (q := 1) rfl ?_
  refine g_iload_n C dX5_dyes_1 1 rfl rfl (q := 2) rfl ?_
  refine g_iload_n C dX5_dyes_2 2 rfl rfl (q := 3) rfl ?_
  refine g_cV_i C (As := [.int (iI r), .int (iI x)]) (c_X5_isSegment l E _ r x f (by assumption) (by omega) (by omega)) ml_X5_90 mf_X5_isSegment (o := 13) (ci := 5) rfl rfl rfl rfl ⟨(Nat.le_of_ble_eq_true rfl), (Nat.le_of_ble_eq_true rfl)⟩ rfl rfl rfl (Nat.le_of_ble_eq_true rfl) ⟨(Nat.le_of_ble_eq_true rfl), (Nat.le_of_ble_eq_true rfl)⟩ dX5_dyes_3 (q := 6) rfl ?_
  refine g_if_eq C dX5_dyes_6 (by omega) (q2 := 18) rfl (q := 9) rfl (fun hb1 => ?_) (fun hb1 => ?_)
  · skip
    refine g_iconst C dX5_dyes_18 (q := 19) rfl ?_
    exact hret _ _ _ dX5_dyes_19 rfl
  · skip
    refine g_aload_n C dX5_dyes_9 0 rfl rfl (q := 10) rfl ?_
    refine g_iload_n C dX5_dyes_10 1 rfl rfl (q := 11) rfl ?_
    refine g_iload_n C dX5_dyes_11 3 rfl rfl (q := 12) rfl ?_
    refine g_cV_i C (As := [.int (iI r), .int (iI y)]) (c_X5_isSegment l E _ r y f (by assumption) (by omega) (by omega)) ml_X5_90 mf_X5_isSegment (o := 13) (ci := 5) rfl rfl rfl rfl ⟨(Nat.le_of_ble_eq_true rfl), (Nat.le_of_ble_eq_true rfl)⟩ rfl rfl rfl (Nat.le_of_ble_eq_true rfl) ⟨(Nat.le_of_ble_eq_true rfl), (Nat.le_of_ble_eq_true rfl)⟩ dX5_dyes_12 (q := 15) rfl ?_
    refine g_if_ne C dX5_dyes_15 (by omega) (q2 := 20) rfl (q := 18) rfl (fun hb2 => ?_) (fun hb2 => ?_)
    · skip
      exfalso; omega
    · skip
      refine g_iconst C dX5_dyes_18 (q := 19) rfl ?_
      exact hret _ _ _ dX5_dyes_19 rfl
set_option maxRecDepth 100000 in
set_option maxHeartbeats 4000000 in
theorem c_X5_dyes_2 (l : Launch) (E : EV) (σ : SS) (r x y c : Int) (f : Int → Int) (hM : MS f (σ 14)) (hr_r : -2147483648 ≤ r ∧ r ≤ 2147483647) (hr_x : -2147483648 ≤ x ∧ x ≤ 2147483647) (hr_y : -2147483648 ≤ y ∧ y ≤ 2147483647) (hr_c : -2147483648 ≤ c ∧ c ≤ 2147483647) (hF : fD f r x y c = 2) : Ki l yX5_dyes (cw yX5_dyes cX5_dyes 7 (some .int)) rm_X5_dyes E [.ref (ea E 13), .int (iI r), .int (iI x), .int (iI y), .int (iI c)] σ 2 σ := by
  refine Ki_of (rm := rm_X5_dyes) (mL := 7) (b := cX5_dyes) RX5 rfl (by decide +kernel) rfl rfl [(0, .ref (ea E 13)), (1, .int (iI r)), (2, .int (iI x)), (3, .int (iI y)), (4, .int (iI c))] rfl (Nat.le_of_ble_eq_true rfl) (fun p_ e_ s_ m_ a_ b_ h_ c_ Q A C hret => ?_)
  have hcs := fD_cs f r x y c
  have hB := bP_iff f r x
  have hB1 := bP_01 f r x
  have hC := bP_iff f r y
  have hC1 := bP_01 f r y
  have hL := bC_iff c
  have hL1 := bC_01 c
  refine g_aload_n C dX5_dyes_0 0 rfl rfl (q := 1) rfl ?_
  refine g_iload_n C dX5_dyes_1 1 rfl rfl (q := 2) rfl ?_
  refine g_iload_n C dX5_dyes_2 2 rfl rfl (q := 3) rfl ?_
  refine g_cV_i C (As := [.int (iI r), .int (iI x)]) (c_X5_isSegment l E _ r x f (by assumption) (by omega) (by omega)) ml_X5_90 mf_X5_isSegment (o := 13) (ci := 5) rfl rfl rfl rfl ⟨(Nat.le_of_ble_eq_true rfl), (Nat.le_of_ble_eq_true rfl)⟩ rfl rfl rfl (Nat.le_of_ble_eq_true rfl) ⟨(Nat.le_of_ble_eq_true rfl), (Nat.le_of_ble_eq_true rfl)⟩ dX5_dyes_3 (q := 6) rfl ?_
  refine g_if_eq C dX5_dyes_6 (by omega) (q2 := 18) rfl (q := 9) rfl (fun hb1 => ?_) (fun hb1 => ?_)
  · skip
    exfalso; omega
  · skip
    refine g_aload_n C dX5_dyes_9 0 rfl rfl (q := 10) rfl ?_
    refine g_iload_n C dX5_dyes_10 1 rfl rfl (q := 11) rfl ?_
    refine g_iload_n C dX5_dyes_11 3 rfl rfl (q := 12) rfl ?_
    refine g_cV_i C (As := [.int (iI r), .int (iI y)]) (c_X5_isSegment l E _ r y f (by assumption) (by omega) (by omega)) ml_X5_90 mf_X5_isSegment (o := 13) (ci := 5) rfl rfl rfl rfl ⟨(Nat.le_of_ble_eq_true rfl), (Nat.le_of_ble_eq_true rfl)⟩ rfl rfl rfl (Nat.le_of_ble_eq_true rfl) ⟨(Nat.le_of_ble_eq_true rfl), (Nat.le_of_ble_eq_true rfl)⟩ dX5_dyes_12 (q := 15) rfl ?_
    refine g_if_ne C dX5_dyes_15 (by omega) (q2 := 20) rfl (q := 18) rfl (fun hb2 => ?_) (fun hb2 => ?_)
    · skip
      refine g_iload_n C dX5_dyes_20 2 rfl rfl (q := 21) rfl ?_
      refine g_iload_n C dX5_dyes_21 3 rfl rfl (q := 22) rfl ?_
      refine g_icmp_gt C dX5_dyes_22 (by omega) (q2 := 33) rfl (q := 25) rfl (fun hb3 => ?_) (fun hb3 => ?_)
      · skip
        refine g_iconst C dX5_dyes_33 (q := 34) rfl ?_
        exact hret _ _ _ dX5_dyes_34 rfl
      · skip
        refine g_iload C dX5_dyes_25 4 rfl (q := 27) rfl ?_
        refine g_cS_i C (As := [.int (iI c)]) (c_X5_isColour l E _ c  (by omega)) ml_X5_72 mf_X5_isColour rfl rfl ⟨(Nat.le_of_ble_eq_true rfl), (Nat.le_of_ble_eq_true rfl)⟩ rfl rfl rfl (Nat.le_of_ble_eq_true rfl) ⟨(Nat.le_of_ble_eq_true rfl), (Nat.le_of_ble_eq_true rfl)⟩ dX5_dyes_27 (q := 30) rfl ?_
        refine g_if_ne C dX5_dyes_30 (by omega) (q2 := 35) rfl (q := 33) rfl (fun hb4 => ?_) (fun hb4 => ?_)
        · skip
          exfalso; omega
        · skip
          refine g_iconst C dX5_dyes_33 (q := 34) rfl ?_
          exact hret _ _ _ dX5_dyes_34 rfl
    · skip
      exfalso; omega
