abbrev rm_L_isReel_24_144 : Room := { frames := 9, cells := 24, slots := 144, locals := 184 }
set_option maxRecDepth 100000 in
set_option maxHeartbeats 8000000 in
theorem c_L_isReel (l : Launch) (hst : l.stackTraces = false) (E : EV) (σ : SS) (r k : Int) (hW : CW (σ 2)) (hP : PW (σ 2)) (hr : 0 ≤ r ∧ r < 4) (hk : 0 ≤ k ∧ k ≤ 900) (hN : (eN E : Int) ≤ 260) : NI l yL_isReel (cw yL_isReel cL_isReel 17 (some .boolean)) rm_L_isReel_24_144 E [.ref (ea E 0), .int (iI r), .ref (eb E), .int (iI k)] σ 1 (st (st σ 11 (pt (σ 11) 1 ((dsI (σ 2) r 0 (σ 12) 0 ((σ 2) (240 + r))).2))) 12 ((dsI (σ 2) r 0 (σ 12) 0 ((σ 2) (240 + r))).1)) 24 144 := by
  refine NZ_of (rm := rm_L_isReel_24_144) (mL := 17) (b := cL_isReel) RL rfl (by decide +kernel) [(0, .ref (ea E 0)), (1, .int (iI r)), (2, .ref (eb E)), (3, .int (iI k))] rfl (Nat.le_of_ble_eq_true rfl) (fun p_ e_ s_ m_ a_ b_ h_ c_ Q A C hret => ?_)
  have hn := (hW r hr).1
  have hsg := sgl_rg hW hr
  have qsb := sgl_sb hW hP hr
  have hpt := sum_rg hW (r := r) (a := 0) (b := 0) hr (by omega)
  refine g_aload_n C dL_isReel_0 0 rfl rfl (q := 1) rfl ?_
  refine g_iload_n C dL_isReel_1 1 rfl rfl (q := 2) rfl ?_
  refine g_cT_i C (hh := th_L_segmentCount) (As := [.ref (ea E 0), .int (iI r)]) (c_L_segmentCount l hst E _ r  (by first | assumption | omega) (by first | assumption | omega) (by exact fR_ok (by omega))) ml_L_186 mf_L_segmentCount rfl ⟨(Nat.le_of_ble_eq_true rfl), (Nat.le_of_ble_eq_true rfl)⟩ rfl rfl rfl (Nat.le_of_ble_eq_true rfl) ⟨(Nat.le_of_ble_eq_true rfl), (Nat.le_of_ble_eq_true rfl)⟩ dL_isReel_2 (q := 5) rfl ?_
  refine g_istore C (L' := [(4, .int (iI ((σ 2) (240 + r)))), (0, .ref (ea E 0)), (1, .int (iI r)), (2, .ref (eb E)), (3, .int (iI k))]) dL_isReel_5 (by decide) rfl (q := 7) rfl ?_
  refine g_iconst C dL_isReel_7 (q := 8) rfl ?_
  refine g_istore C (L' := [(5, .int (iI 0)), (4, .int (iI ((σ 2) (240 + r)))), (0, .ref (ea E 0)), (1, .int (iI r)), (2, .ref (eb E)), (3, .int (iI k))]) dL_isReel_8 (by decide) rfl (q := 10) rfl ?_
  refine g_iconst C dL_isReel_10 (q := 11) rfl ?_
  refine g_istore C (L' := [(6, .int (iI 0)), (5, .int (iI 0)), (4, .int (iI ((σ 2) (240 + r)))), (0, .ref (ea E 0)), (1, .int (iI r)), (2, .ref (eb E)), (3, .int (iI k))]) dL_isReel_11 (by decide) rfl (q := 13) rfl ?_
  refine g_iconst C dL_isReel_13 (q := 14) rfl ?_
  refine g_istore C (L' := [(7, .int (iI 0)), (6, .int (iI 0)), (5, .int (iI 0)), (4, .int (iI ((σ 2) (240 + r)))), (0, .ref (ea E 0)), (1, .int (iI r)), (2, .ref (eb E)), (3, .int (iI k))]) dL_isReel_14 (by decide) rfl (q := 16) rfl ?_
  refine g_iconst C dL_isReel_16 (q := 17) rfl ?_
  refine g_istore C (L' := [(8, .int (iI 0)), (7, .int (iI 0)), (6, .int (iI 0)), (5, .int (iI 0)), (4, .int (iI ((σ 2) (240 + r)))), (0, .ref (ea E 0)), (1, .int (iI r)), (2, .ref (eb E)), (3, .int (iI k))]) dL_isReel_17 (by decide) rfl (q := 19) rfl ?_
  refine g_iconst C dL_isReel_19 (q := 20) rfl ?_
  refine g_istore C (L' := [(9, .int (iI 0)), (8, .int (iI 0)), (7, .int (iI 0)), (6, .int (iI 0)), (5, .int (iI 0)), (4, .int (iI ((σ 2) (240 + r)))), (0, .ref (ea E 0)), (1, .int (iI r)), (2, .ref (eb E)), (3, .int (iI k))]) dL_isReel_20 (by decide) rfl (q := 22) rfl ?_
  refine g_sub [6, 7, 8, 9, 5, 4, 3, 2, 1, 0] (L' := [(0, .ref (ea E 0)), (1, .int (iI r)), (2, .ref (eb E)), (3, .int (iI k)), (4, .int (iI ((σ 2) (240 + r)))), (5, .int (iI 0)), (6, .int (iI 0)), (7, .int (iI 0)), (8, .int (iI 0)), (9, .int (iI 0))]) rfl ?_
  have lp22 : ∀ (k9 : Nat) (bf : Int) (tn : Int) (yr : Int) (xl : Int) (p : Int), ((σ 2) (240 + r) - p).toNat < k9 → (0 ≤ p ∧ p ≤ (σ 2) (240 + r)) → (bf = sI (lgs (σ 2) r) 0 p) → (tn = sI (fun q => tg (σ 2) r (q - 1)) 1 p) → (lrI (tg (σ 2) r) xl yr p ((σ 2) (240 + r)) = lrI (tg (σ 2) r) 0 0 0 ((σ 2) (240 + r))) → ((0 ≤ xl ∧ xl ≤ p) ∧ (0 ≤ yr ∧ yr ≤ p) ∧ (0 ≤ tn ∧ tn ≤ p)) → GG p_ l e_ rm_L_isReel_24_144 s_ m_ a_ b_ h_ c_ Q E A 17 σ 0 0 22 [(0, .ref (ea E 0)), (1, .int (iI r)), (2, .ref (eb E)), (3, .int (iI k)), (4, .int (iI ((σ 2) (240 + r)))), (5, .int (iI bf)), (6, .int (iI tn)), (7, .int (iI yr)), (8, .int (iI xl)), (9, .int (iI p))] [] := by
    intro k9
    induction k9 with
    | zero => intro bf tn yr xl p hk9; omega
    | succ k9 ih22 =>
      intro bf tn yr xl p hk9 hp hbf htn hlr hxy
      refine g_iload C dL_isReel_22 9 rfl (q := 24) rfl ?_
      refine g_iload C dL_isReel_24 4 rfl (q := 26) rfl ?_
      refine g_icmp_ge C dL_isReel_26 (by omega) (q2 := 356) rfl (q := 29) rfl (fun hb1 => ?_) (fun hb1 => ?_)
      · skip
        have hpn : p = (σ 2) (240 + r) := by omega
        have qbf : sI (lgs (σ 2) r) 0 ((σ 2) (240 + r)) = bf := by rw [hbf, hpn]
        have qsb2 : sb (σ 2) r ((σ 2) (240 + r)) = bf := by rw [qsb]; exact qbf
        have qb0 : 0 ≤ bf ∧ bf ≤ 5940 := by rw [← qbf]; exact hsg
        have qbz := (sum_z hW hr).2
        rw [qbf] at qbz
        refine g_iconst C dL_isReel_356 (q := 357) rfl ?_
        refine g_istore C (L' := [(9, .int (iI 0)), (0, .ref (ea E 0)), (1, .int (iI r)), (2, .ref (eb E)), (3, .int (iI k)), (4, .int (iI ((σ 2) (240 + r)))), (5, .int (iI bf)), (6, .int (iI tn)), (7, .int (iI yr)), (8, .int (iI xl))]) dL_isReel_357 (by decide) rfl (q := 359) rfl ?_
        refine g_iconst C dL_isReel_359 (q := 360) rfl ?_
        refine g_istore C (L' := [(10, .int (iI 0)), (9, .int (iI 0)), (0, .ref (ea E 0)), (1, .int (iI r)), (2, .ref (eb E)), (3, .int (iI k)), (4, .int (iI ((σ 2) (240 + r)))), (5, .int (iI bf)), (6, .int (iI tn)), (7, .int (iI yr)), (8, .int (iI xl))]) dL_isReel_360 (by decide) rfl (q := 362) rfl ?_
        refine g_sub [2, 3, 4, 5, 6, 7, 8, 9, 10, 1, 0] (L' := [(0, .ref (ea E 0)), (1, .int (iI r)), (2, .ref (eb E)), (3, .int (iI k)), (4, .int (iI ((σ 2) (240 + r)))), (5, .int (iI bf)), (6, .int (iI tn)), (7, .int (iI yr)), (8, .int (iI xl)), (9, .int (iI 0)), (10, .int (iI 0))]) rfl ?_
        have lp362 : ∀ (k9 : Nat) (cs : Int) (c : Int) (ka na : Nat), (8 - c).toNat < k9 → (0 ≤ c ∧ c ≤ 8) → (cs = sI (sc (σ 2) r) 0 c) → ((ka : Int) ≤ 2 * c) → ((na : Int) ≤ 12 * c) → GG p_ l e_ rm_L_isReel_24_144 s_ m_ a_ b_ h_ c_ Q E A 17 σ ka na 362 [(0, .ref (ea E 0)), (1, .int (iI r)), (2, .ref (eb E)), (3, .int (iI k)), (4, .int (iI ((σ 2) (240 + r)))), (5, .int (iI bf)), (6, .int (iI tn)), (7, .int (iI yr)), (8, .int (iI xl)), (9, .int (iI cs)), (10, .int (iI c))] [] := by
          intro k9
          induction k9 with
          | zero => intro cs c ka na hk9; omega
          | succ k9 ih362 =>
            intro cs c ka na hk9 hc hcs hka hna
            refine g_iload C dL_isReel_362 10 rfl (q := 364) rfl ?_
            refine g_bipush C dL_isReel_364 (by decide) (q := 366) rfl ?_
            refine g_icmp_ge C dL_isReel_366 (by omega) (q2 := 499) rfl (q := 369) rfl (fun hb2 => ?_) (fun hb2 => ?_)
            · skip
              have qcs : cs = bf := by rw [hcs, show c = 8 by omega, sc_sum hW hr]; exact qbf
              refine g_wide (k2 := 16) (n2 := 96) (by omega) (by omega) ?_
              refine g_iconst C dL_isReel_499 (q := 500) rfl ?_
              refine g_istore C (L' := [(10, .int (iI 0)), (0, .ref (ea E 0)), (1, .int (iI r)), (2, .ref (eb E)), (3, .int (iI k)), (4, .int (iI ((σ 2) (240 + r)))), (5, .int (iI bf)), (6, .int (iI tn)), (7, .int (iI yr)), (8, .int (iI xl)), (9, .int (iI cs))]) dL_isReel_500 (by decide) rfl (q := 502) rfl ?_
              refine g_sub [1, 2, 3, 4, 5, 6, 7, 8, 9, 10, 0] (L' := [(0, .ref (ea E 0)), (1, .int (iI r)), (2, .ref (eb E)), (3, .int (iI k)), (4, .int (iI ((σ 2) (240 + r)))), (5, .int (iI bf)), (6, .int (iI tn)), (7, .int (iI yr)), (8, .int (iI xl)), (9, .int (iI cs)), (10, .int (iI 0))]) rfl ?_
              have lp502 : ∀ (k9 : Nat) (k1 : Int), (9 - k1).toNat < k9 → (0 ≤ k1 ∧ k1 ≤ 8) → GG p_ l e_ rm_L_isReel_24_144 s_ m_ a_ b_ h_ c_ Q E A 17 σ 16 96 502 [(0, .ref (ea E 0)), (1, .int (iI r)), (2, .ref (eb E)), (3, .int (iI k)), (4, .int (iI ((σ 2) (240 + r)))), (5, .int (iI bf)), (6, .int (iI tn)), (7, .int (iI yr)), (8, .int (iI xl)), (9, .int (iI cs)), (10, .int (iI k1))] [] := by
                intro k9
                induction k9 with
                | zero => intro k1 hk9; omega
                | succ k9 ih502 =>
                  intro k1 hk9 hk1
                  refine g_aload_n C dL_isReel_502 0 rfl rfl (q := 503) rfl ?_
                  refine g_iload_n C dL_isReel_503 1 rfl rfl (q := 504) rfl ?_
                  refine g_iload C dL_isReel_504 10 rfl (q := 506) rfl ?_
                  rcases (show (coA (σ 2) r k1 = -1) ∨ (coA (σ 2) r k1 ≠ -1) by omega) with ha0 | ha0
                  · skip
                    refine g_cT_i C (hh := th_L_colourAtRank) (As := [.ref (ea E 0), .int (iI r), .int (iI k1)]) (c_L_colourAtRank_n l hst E _ r k1  (by first | assumption | omega) (by first | assumption | omega) (by first | assumption | omega) (by exact fR_ok (by omega)) (by exact ha0)) ml_L_301 mf_L_colourAtRank rfl ⟨(Nat.le_of_ble_eq_true rfl), (Nat.le_of_ble_eq_true rfl)⟩ rfl rfl rfl (Nat.le_of_ble_eq_true rfl) ⟨by show 16 + 1 ≤ 24; omega, by show 96 + 6 ≤ 144; omega⟩ dL_isReel_506 (q := 509) rfl ?_
                    refine g_k (k2 := 17) (n2 := 102) (by omega) (by omega) ?_
                    refine g_if_lt C dL_isReel_509 (by omega) (q2 := 606) rfl (q := 512) rfl (fun hb3 => ?_) (fun hb3 => ?_)
                    · skip
                      refine g_iconst C dL_isReel_606 (q := 607) rfl ?_
                      refine g_istore C (L' := [(11, .int (iI 1)), (0, .ref (ea E 0)), (1, .int (iI r)), (2, .ref (eb E)), (3, .int (iI k)), (4, .int (iI ((σ 2) (240 + r)))), (5, .int (iI bf)), (6, .int (iI tn)), (7, .int (iI yr)), (8, .int (iI xl)), (9, .int (iI cs)), (10, .int (iI k1))]) dL_isReel_607 (by decide) rfl (q := 609) rfl ?_
                      have j609_1 : GG p_ l e_ rm_L_isReel_24_144 s_ m_ a_ b_ h_ c_ Q E A 17 σ 17 102 771 [(11, .int (iI 1)), (0, .ref (ea E 0)), (1, .int (iI r)), (2, .ref (eb E)), (3, .int (iI k)), (4, .int (iI ((σ 2) (240 + r)))), (5, .int (iI bf)), (6, .int (iI tn)), (7, .int (iI yr)), (8, .int (iI xl)), (9, .int (iI cs)), (10, .int (iI k1))] [] := by
                        have j771_2 : GG p_ l e_ rm_L_isReel_24_144 s_ m_ a_ b_ h_ c_ Q E A 17 σ 19 114 844 [(11, .int (iI 1)), (0, .ref (ea E 0)), (1, .int (iI r)), (2, .ref (eb E)), (3, .int (iI k)), (4, .int (iI ((σ 2) (240 + r)))), (5, .int (iI bf)), (6, .int (iI tn)), (7, .int (iI yr)), (8, .int (iI xl)), (9, .int (iI cs)), (10, .int (iI k1))] [.int (iI 1)] := by
                          refine g_istore C (L' := [(12, .int (iI 1)), (11, .int (iI 1)), (0, .ref (ea E 0)), (1, .int (iI r)), (2, .ref (eb E)), (3, .int (iI k)), (4, .int (iI ((σ 2) (240 + r)))), (5, .int (iI bf)), (6, .int (iI tn)), (7, .int (iI yr)), (8, .int (iI xl)), (9, .int (iI cs)), (10, .int (iI k1))]) dL_isReel_844 (by decide) rfl (q := 846) rfl ?_
                          have j846_3 : GG p_ l e_ rm_L_isReel_24_144 s_ m_ a_ b_ h_ c_ Q E A 17 σ 19 114 881 [(12, .int (iI 1)), (11, .int (iI 1)), (0, .ref (ea E 0)), (1, .int (iI r)), (2, .ref (eb E)), (3, .int (iI k)), (4, .int (iI ((σ 2) (240 + r)))), (5, .int (iI bf)), (6, .int (iI tn)), (7, .int (iI yr)), (8, .int (iI xl)), (9, .int (iI cs)), (10, .int (iI k1))] [.int (iI 1)] := by
                            refine g_istore C (L' := [(13, .int (iI 1)), (12, .int (iI 1)), (11, .int (iI 1)), (0, .ref (ea E 0)), (1, .int (iI r)), (2, .ref (eb E)), (3, .int (iI k)), (4, .int (iI ((σ 2) (240 + r)))), (5, .int (iI bf)), (6, .int (iI tn)), (7, .int (iI yr)), (8, .int (iI xl)), (9, .int (iI cs)), (10, .int (iI k1))]) dL_isReel_881 (by decide) rfl (q := 883) rfl ?_
                            obtain ⟨dn, hdn⟩ : ∃ dn, dn = (dsI (σ 2) r 0 (σ 12) 0 ((σ 2) (240 + r))).2 := ⟨_, rfl⟩
                            refine g_aload_n C dL_isReel_883 3 rfl rfl (q := 884) rfl ?_
                            refine g_iload_n C dL_isReel_884 4 rfl rfl (q := 885) rfl ?_
                            refine g_cT_i C (hh := th_L_describeReel) (As := [.ref (ea E 0), .int (iI r)]) (c_L_describeReel l hst E _ r  (by first | assumption | omega) (by first | assumption | omega) (by exact fR_ok (by omega))) ml_L_316 mf_L_describeReel rfl ⟨(Nat.le_of_ble_eq_true rfl), (Nat.le_of_ble_eq_true rfl)⟩ rfl rfl rfl (Nat.le_of_ble_eq_true rfl) ⟨by show 19 + 0 ≤ 24; omega, by show 114 + 0 ≤ 144; omega⟩ dL_isReel_885 (q := 888) rfl ?_
                            refine g_k (k2 := 19) (n2 := 114) (by omega) (by omega) ?_
                            refine g_top (b := dn) (by exact hdn.symm) ?_
                            refine g_istore C (L' := [(14, .int (iI dn)), (13, .int (iI 1)), (12, .int (iI 1)), (11, .int (iI 1)), (0, .ref (ea E 0)), (1, .int (iI r)), (2, .ref (eb E)), (3, .int (iI k)), (4, .int (iI ((σ 2) (240 + r)))), (5, .int (iI bf)), (6, .int (iI tn)), (7, .int (iI yr)), (8, .int (iI xl)), (9, .int (iI cs)), (10, .int (iI k1))]) dL_isReel_888 (by decide) rfl (q := 890) rfl ?_
                            have qd0 : (σ 2) (240 + r) = 0 → dn = 0 := by intro h; rw [hdn, dsI_nil (by omega)]
                            have qd1 : 1 ≤ (σ 2) (240 + r) → (3 * ((σ 2) (240 + r)) - 1 ≤ dn ∧ dn ≤ 4 * ((σ 2) (240 + r)) - 1) ∧ (dsI (σ 2) r 0 (σ 12) 0 ((σ 2) (240 + r))).1 (dn - 1) = 97 + (σ 2) (r * 60 + ((σ 2) (240 + r) - 1)) % 8 := by intro h; rw [hdn]; exact ds_all (σ 12) h
                            refine g_iload C dL_isReel_890 3 rfl (q := 892) rfl ?_
                            refine g_if_eq C dL_isReel_892 (by omega) (q2 := 986) rfl (q := 895) rfl (fun hb4 => ?_) (fun hb4 => ?_)
                            · skip
                              exfalso; omega
                            · skip
                              refine g_iload C dL_isReel_895 2 rfl (q := 897) rfl ?_
                              refine g_if_eq C dL_isReel_897 (by omega) (q2 := 986) rfl (q := 900) rfl (fun hb5 => ?_) (fun hb5 => ?_)
                              · skip
                                exfalso; omega
                              · skip
                                refine g_iload C dL_isReel_900 1 rfl (q := 902) rfl ?_
                                refine g_if_eq C dL_isReel_902 (by omega) (q2 := 986) rfl (q := 905) rfl (fun hb6 => ?_) (fun hb6 => ?_)
                                · skip
                                  exfalso; omega
                                · skip
                                  refine g_aload_n C dL_isReel_905 4 rfl rfl (q := 906) rfl ?_
                                  refine g_iload_n C dL_isReel_906 5 rfl rfl (q := 907) rfl ?_
                                  refine g_iload C dL_isReel_907 8 rfl (q := 909) rfl ?_
                                  refine g_cT_i C (hh := th_L_segmentAtRank) (As := [.ref (ea E 0), .int (iI r), .int (iI ((σ 2) (240 + r)))]) (c_L_segmentAtRank_n l hst E _ r ((σ 2) (240 + r))  (by first | assumption | omega) (by first | assumption | omega) (by show CW (σ 2); first | assumption | omega) (by exact fR_ok (by omega)) (by show fI (rkP (σ 2) r ((σ 2) (240 + r))) 0 ((σ 2) (240 + r)) = -1; exact sgA_no)) ml_L_284 mf_L_segmentAtRank rfl ⟨(Nat.le_of_ble_eq_true rfl), (Nat.le_of_ble_eq_true rfl)⟩ rfl rfl rfl (Nat.le_of_ble_eq_true rfl) ⟨by show 19 + 1 ≤ 24; omega, by show 114 + 6 ≤ 144; omega⟩ dL_isReel_909 (q := 912) rfl ?_
                                  refine g_k (k2 := 20) (n2 := 120) (by omega) (by omega) ?_
                                  refine g_bipush C dL_isReel_912 (by decide) (q := 914) rfl ?_
                                  refine g_icmp_ne C dL_isReel_914 (by omega) (q2 := 986) rfl (q := 917) rfl (fun hb7 => ?_) (fun hb7 => ?_)
                                  · skip
                                    exfalso; omega
                                  · skip
                                    refine g_iload C dL_isReel_917 8 rfl (q := 919) rfl ?_
                                    refine g_bipush C dL_isReel_919 (by decide) (q := 921) rfl ?_
                                    refine g_icmp_gt C dL_isReel_921 (by omega) (q2 := 986) rfl (q := 924) rfl (fun hb8 => ?_) (fun hb8 => ?_)
                                    · skip
                                      exfalso; omega
                                    · skip
                                      refine g_iload C dL_isReel_924 8 rfl (q := 926) rfl ?_
                                      refine g_if_ne C dL_isReel_926 (by omega) (q2 := 937) rfl (q := 929) rfl (fun hb9 => ?_) (fun hb9 => ?_)
                                      · skip
                                        refine g_iload C dL_isReel_937 0 rfl (q := 939) rfl ?_
                                        refine g_iconst C dL_isReel_939 (q := 940) rfl ?_
                                        refine g_iload C dL_isReel_940 8 rfl (q := 942) rfl ?_
                                        refine g_imul C dL_isReel_942 (q := 943) rfl ?_
                                        refine g_iconst C dL_isReel_943 (q := 944) rfl ?_
                                        refine g_isub C dL_isReel_944 (q := 945) rfl ?_
                                        refine g_icmp_lt C dL_isReel_945 (by omega) (q2 := 986) rfl (q := 948) rfl (fun hb10 => ?_) (fun hb10 => ?_)
                                        · skip
                                          exfalso; omega
                                        · skip
                                          refine g_iload C dL_isReel_948 0 rfl (q := 950) rfl ?_
                                          refine g_iconst C dL_isReel_950 (q := 951) rfl ?_
                                          refine g_iload C dL_isReel_951 8 rfl (q := 953) rfl ?_
                                          refine g_imul C dL_isReel_953 (q := 954) rfl ?_
                                          refine g_iconst C dL_isReel_954 (q := 955) rfl ?_
                                          refine g_isub C dL_isReel_955 (q := 956) rfl ?_
                                          refine g_icmp_gt C dL_isReel_956 (by omega) (q2 := 986) rfl (q := 959) rfl (fun hb11 => ?_) (fun hb11 => ?_)
                                          · skip
                                            exfalso; omega
                                          · skip
                                            have qd2 := qd1 (by omega)
                                            refine g_aload_n C dL_isReel_959 4 rfl rfl (q := 960) rfl ?_
                                            refine g_iload C dL_isReel_960 0 rfl (q := 962) rfl ?_
                                            refine g_iconst C dL_isReel_962 (q := 963) rfl ?_
                                            refine g_isub C dL_isReel_963 (q := 964) rfl ?_
                                            refine g_cT_i C (hh := th_L_lineAt) (As := [.ref (ea E 0), .int (iI (dn - 1))]) (c_L_lineAt l hst E _ (dn - 1)  (by first | assumption | omega) (by show 0 ≤ ((dsI (σ 2) r 0 (σ 12) 0 ((σ 2) (240 + r))).2) ∧ ((dsI (σ 2) r 0 (σ 12) 0 ((σ 2) (240 + r))).2) ≤ 240; omega) (by show 0 ≤ (dn - 1) ∧ (dn - 1) < ((dsI (σ 2) r 0 (σ 12) 0 ((σ 2) (240 + r))).2); omega) (by show 0 ≤ ((dsI (σ 2) r 0 (σ 12) 0 ((σ 2) (240 + r))).1) (dn - 1) ∧ ((dsI (σ 2) r 0 (σ 12) 0 ((σ 2) (240 + r))).1) (dn - 1) < 65536; rw [qd2.2]; omega)) ml_L_174 mf_L_lineAt rfl ⟨(Nat.le_of_ble_eq_true rfl), (Nat.le_of_ble_eq_true rfl)⟩ rfl rfl rfl (Nat.le_of_ble_eq_true rfl) ⟨by show 20 + 0 ≤ 24; omega, by show 120 + 0 ≤ 144; omega⟩ dL_isReel_964 (q := 967) rfl ?_
                                            refine g_k (k2 := 20) (n2 := 120) (by omega) (by omega) ?_
                                            refine g_top (b := ((dsI (σ 2) r 0 (σ 12) 0 ((σ 2) (240 + r))).1) (dn - 1)) rfl ?_
                                            refine g_bipush C dL_isReel_967 (by decide) (q := 969) rfl ?_
                                            refine g_aload_n C dL_isReel_969 4 rfl rfl (q := 970) rfl ?_
                                            refine g_iload_n C dL_isReel_970 5 rfl rfl (q := 971) rfl ?_
                                            refine g_iload C dL_isReel_971 8 rfl (q := 973) rfl ?_
                                            refine g_iconst C dL_isReel_973 (q := 974) rfl ?_
                                            refine g_isub C dL_isReel_974 (q := 975) rfl ?_
                                            refine g_cT_i C (hh := th_L_colour) (As := [.ref (ea E 0), .int (iI r), .int (iI ((σ 2) (240 + r) - 1))]) (c_L_colour l hst E _ r ((σ 2) (240 + r) - 1)  (by first | assumption | omega) (by first | assumption | omega) (by show CW (σ 2); first | assumption | omega) (by show fP (σ 2) r ((σ 2) (240 + r) - 1) = 0; exact fP_ok (by omega) (by omega))) ml_L_282 mf_L_colour rfl ⟨(Nat.le_of_ble_eq_true rfl), (Nat.le_of_ble_eq_true rfl)⟩ rfl rfl rfl (Nat.le_of_ble_eq_true rfl) ⟨by show 20 + 0 ≤ 24; omega, by show 120 + 0 ≤ 144; omega⟩ dL_isReel_975 (q := 978) rfl ?_
                                            refine g_k (k2 := 20) (n2 := 120) (by omega) (by omega) ?_
                                            refine g_top (b := (σ 2) (r * 60 + ((σ 2) (240 + r) - 1)) % 8) rfl ?_
                                            refine g_iadd C dL_isReel_978 (q := 979) rfl ?_
                                            refine g_icmp_ne C dL_isReel_979 (by omega) (q2 := 986) rfl (q := 982) rfl (fun hb12 => ?_) (fun hb12 => ?_)
                                            · skip
                                              exfalso; omega
                                            · skip
                                              refine g_iconst C dL_isReel_982 (q := 983) rfl ?_
                                              refine g_goto C dL_isReel_983 (q := 987) rfl ?_
                                              exact hret _ _ _ _ _ (by omega) (by omega) dL_isReel_987 (by omega) rfl
                                      · skip
                                        refine g_iload C dL_isReel_929 0 rfl (q := 931) rfl ?_
                                        refine g_if_ne C dL_isReel_931 (by omega) (q2 := 986) rfl (q := 934) rfl (fun hb13 => ?_) (fun hb13 => ?_)
                                        · skip
                                          exfalso; omega
                                        · skip
                                          refine g_goto C dL_isReel_934 (q := 982) rfl ?_
                                          refine g_iconst C dL_isReel_982 (q := 983) rfl ?_
                                          refine g_goto C dL_isReel_983 (q := 987) rfl ?_
                                          exact hret _ _ _ _ _ (by omega) (by omega) dL_isReel_987 (by omega) rfl
                          refine g_aload_n C dL_isReel_846 2 rfl rfl (q := 847) rfl ?_
                          refine g_iload_n C dL_isReel_847 3 rfl rfl (q := 848) rfl ?_
                          refine g_cT_i C (hh := th_L_tangleCount) (As := [.ref (ea E 0), .int (iI r)]) (c_L_tangleCount l hst E _ r  (by first | assumption | omega) (by first | assumption | omega) (by exact fR_ok (by omega))) ml_L_310 mf_L_tangleCount rfl ⟨(Nat.le_of_ble_eq_true rfl), (Nat.le_of_ble_eq_true rfl)⟩ rfl rfl rfl (Nat.le_of_ble_eq_true rfl) ⟨by show 19 + 0 ≤ 24; omega, by show 114 + 0 ≤ 144; omega⟩ dL_isReel_848 (q := 851) rfl ?_
                          refine g_k (k2 := 19) (n2 := 114) (by omega) (by omega) ?_
                          refine g_top (b := tn) (by rw [tt_eq hP hr hn, htn, hpn]; rfl) ?_
                          refine g_iload C dL_isReel_851 8 rfl (q := 853) rfl ?_
                          refine g_icmp_ne C dL_isReel_853 (by omega) (q2 := 880) rfl (q := 856) rfl (fun hb14 => ?_) (fun hb14 => ?_)
                          · skip
                            exfalso; omega
                          · skip
                            refine g_aload_n C dL_isReel_856 2 rfl rfl (q := 857) rfl ?_
                            refine g_iload_n C dL_isReel_857 3 rfl rfl (q := 858) rfl ?_
                            refine g_cT_i C (hh := th_L_tangleCountByScan) (As := [.ref (ea E 0), .int (iI r)]) (c_L_tangleCountByScan l hst E _ r  (by first | assumption | omega) (by first | assumption | omega) (by exact fR_ok (by omega))) ml_L_312 mf_L_tangleCountByScan rfl ⟨(Nat.le_of_ble_eq_true rfl), (Nat.le_of_ble_eq_true rfl)⟩ rfl rfl rfl (Nat.le_of_ble_eq_true rfl) ⟨by show 19 + 0 ≤ 24; omega, by show 114 + 0 ≤ 144; omega⟩ dL_isReel_858 (q := 861) rfl ?_
                            refine g_k (k2 := 19) (n2 := 114) (by omega) (by omega) ?_
                            refine g_top (b := tn) (by rw [htn, hpn]; rfl) ?_
                            refine g_iload C dL_isReel_861 8 rfl (q := 863) rfl ?_
                            refine g_icmp_ne C dL_isReel_863 (by omega) (q2 := 880) rfl (q := 866) rfl (fun hb15 => ?_) (fun hb15 => ?_)
                            · skip
                              exfalso; omega
                            · skip
                              refine g_aload_n C dL_isReel_866 2 rfl rfl (q := 867) rfl ?_
                              refine g_iload_n C dL_isReel_867 3 rfl rfl (q := 868) rfl ?_
                              refine g_cT_i C (hh := th_L_longestRun) (As := [.ref (ea E 0), .int (iI r)]) (c_L_longestRun l hst E _ r  (by first | assumption | omega) (by first | assumption | omega) (by exact fR_ok (by omega))) ml_L_314 mf_L_longestRun rfl ⟨(Nat.le_of_ble_eq_true rfl), (Nat.le_of_ble_eq_true rfl)⟩ rfl rfl rfl (Nat.le_of_ble_eq_true rfl) ⟨by show 19 + 0 ≤ 24; omega, by show 114 + 0 ≤ 144; omega⟩ dL_isReel_868 (q := 871) rfl ?_
                              refine g_k (k2 := 19) (n2 := 114) (by omega) (by omega) ?_
                              refine g_top (b := xl) (by rw [← hlr, lrI_nil (by omega)]) ?_
                              refine g_iload C dL_isReel_871 10 rfl (q := 873) rfl ?_
                              refine g_icmp_ne C dL_isReel_873 (by omega) (q2 := 880) rfl (q := 876) rfl (fun hb16 => ?_) (fun hb16 => ?_)
                              · skip
                                exfalso; omega
                              · skip
                                refine g_iconst C dL_isReel_876 (q := 877) rfl ?_
                                refine g_goto C dL_isReel_877 (q := 881) rfl ?_
                                exact j846_3 
                        refine g_aload_n C dL_isReel_771 1 rfl rfl (q := 772) rfl ?_
                        refine g_iload_n C dL_isReel_772 2 rfl rfl (q := 773) rfl ?_
                        refine g_cT_i C (hh := th_L_reelLength) (As := [.ref (ea E 0), .int (iI r)]) (c_L_reelLength l hst E _ r  (by first | assumption | omega) (by first | assumption | omega) (by exact fR_ok (by omega))) ml_L_188 mf_L_reelLength rfl ⟨(Nat.le_of_ble_eq_true rfl), (Nat.le_of_ble_eq_true rfl)⟩ rfl rfl rfl (Nat.le_of_ble_eq_true rfl) ⟨by show 17 + 0 ≤ 24; omega, by show 102 + 0 ≤ 144; omega⟩ dL_isReel_773 (q := 776) rfl ?_
                        refine g_k (k2 := 17) (n2 := 102) (by omega) (by omega) ?_
                        refine g_top (b := bf) (by exact qsb2) ?_
                        refine g_iload C dL_isReel_776 6 rfl (q := 778) rfl ?_
                        refine g_icmp_ne C dL_isReel_778 (by omega) (q2 := 843) rfl (q := 781) rfl (fun hb17 => ?_) (fun hb17 => ?_)
                        · skip
                          exfalso; omega
                        · skip
                          refine g_aload_n C dL_isReel_781 1 rfl rfl (q := 782) rfl ?_
                          refine g_iload_n C dL_isReel_782 2 rfl rfl (q := 783) rfl ?_
                          refine g_iload C dL_isReel_783 5 rfl (q := 785) rfl ?_
                          refine g_cT_i C (hh := th_L_lengthBefore) (As := [.ref (ea E 0), .int (iI r), .int (iI ((σ 2) (240 + r)))]) (c_L_lengthBefore l hst E _ r ((σ 2) (240 + r))  (by first | assumption | omega) (by first | assumption | omega) (by first | assumption | omega) (by exact fB_ok (by omega) (by omega))) ml_L_286 mf_L_lengthBefore rfl ⟨(Nat.le_of_ble_eq_true rfl), (Nat.le_of_ble_eq_true rfl)⟩ rfl rfl rfl (Nat.le_of_ble_eq_true rfl) ⟨by show 17 + 0 ≤ 24; omega, by show 102 + 0 ≤ 144; omega⟩ dL_isReel_785 (q := 788) rfl ?_
                          refine g_k (k2 := 17) (n2 := 102) (by omega) (by omega) ?_
                          refine g_top (b := bf) (by exact qsb2) ?_
                          refine g_iload C dL_isReel_788 6 rfl (q := 790) rfl ?_
                          refine g_icmp_ne C dL_isReel_790 (by omega) (q2 := 843) rfl (q := 793) rfl (fun hb18 => ?_) (fun hb18 => ?_)
                          · skip
                            exfalso; omega
                          · skip
                            refine g_iload C dL_isReel_793 10 rfl (q := 795) rfl ?_
                            refine g_iload C dL_isReel_795 6 rfl (q := 797) rfl ?_
                            refine g_icmp_ne C dL_isReel_797 (by omega) (q2 := 843) rfl (q := 800) rfl (fun hb19 => ?_) (fun hb19 => ?_)
                            · skip
                              exfalso; omega
                            · skip
                              refine g_aload_n C dL_isReel_800 1 rfl rfl (q := 801) rfl ?_
                              refine g_iload_n C dL_isReel_801 2 rfl rfl (q := 802) rfl ?_
                              refine g_iload C dL_isReel_802 6 rfl (q := 804) rfl ?_
                              refine g_cT_i C (hh := th_L_positionAt) (As := [.ref (ea E 0), .int (iI r), .int (iI bf)]) (c_L_positionAt_n l hst E _ r bf  (by first | assumption | omega) (by first | assumption | omega) (by first | assumption | omega) (by exact fR_ok (by omega)) (by rw [← qbf]; exact po_end hW hr)) ml_L_290 mf_L_positionAt rfl ⟨(Nat.le_of_ble_eq_true rfl), (Nat.le_of_ble_eq_true rfl)⟩ rfl rfl rfl (Nat.le_of_ble_eq_true rfl) ⟨by show 17 + 1 ≤ 24; omega, by show 102 + 6 ≤ 144; omega⟩ dL_isReel_804 (q := 807) rfl ?_
                              refine g_k (k2 := 18) (n2 := 108) (by omega) (by omega) ?_
                              refine g_bipush C dL_isReel_807 (by decide) (q := 809) rfl ?_
                              refine g_icmp_ne C dL_isReel_809 (by omega) (q2 := 843) rfl (q := 812) rfl (fun hb20 => ?_) (fun hb20 => ?_)
                              · skip
                                exfalso; omega
                              · skip
                                rcases (show ((σ 2) (240 + r) = 0) ∨ ((σ 2) (240 + r) ≠ 0) by omega) with hm1 | hm1
                                · skip
                                  refine g_aload_n C dL_isReel_812 1 rfl rfl (q := 813) rfl ?_
                                  refine g_iload_n C dL_isReel_813 2 rfl rfl (q := 814) rfl ?_
                                  refine g_cT_d C (hh := th_L_meanLength) (As := [.ref (ea E 0), .int (iI r)]) (c_L_meanLength_2 l hst E _ r  (by first | assumption | omega) (by first | assumption | omega) (by first | assumption | omega) (by exact fR_ok (by omega)) (by first | assumption | omega)) ml_L_307 mf_L_meanLength rfl ⟨(Nat.le_of_ble_eq_true rfl), (Nat.le_of_ble_eq_true rfl)⟩ rfl rfl rfl (Nat.le_of_ble_eq_true rfl) ⟨by show 18 + 1 ≤ 24; omega, by show 108 + 6 ≤ 144; omega⟩ dL_isReel_814 (q := 817) rfl ?_
                                  refine g_k (k2 := 19) (n2 := 114) (by omega) (by omega) ?_
                                  refine g_iload C dL_isReel_817 5 rfl (q := 819) rfl ?_
                                  refine g_if_ne C dL_isReel_819 (by omega) (q2 := 828) rfl (q := 822) rfl (fun hb21 => ?_) (fun hb21 => ?_)
                                  · skip
                                    exfalso; omega
                                  · skip
                                    refine g_ldc2d C lc_ldc2d_146 dL_isReel_822 (q := 825) rfl ?_
                                    refine g_goto C dL_isReel_825 (q := 835) rfl ?_
                                    refine g_dcmpX C (by decide +kernel) dL_isReel_835 (q := 836) rfl ?_
                                    refine g_if_ne C dL_isReel_836 (by omega) (q2 := 843) rfl (q := 839) rfl (fun hb22 => ?_) (fun hb22 => ?_)
                                    · skip
                                      exfalso; omega
                                    · skip
                                      refine g_iconst C dL_isReel_839 (q := 840) rfl ?_
                                      refine g_goto C dL_isReel_840 (q := 844) rfl ?_
                                      exact j771_2 
                                · skip
                                  refine g_aload_n C dL_isReel_812 1 rfl rfl (q := 813) rfl ?_
                                  refine g_iload_n C dL_isReel_813 2 rfl rfl (q := 814) rfl ?_
                                  refine g_cT_d C (hh := th_L_meanLength) (As := [.ref (ea E 0), .int (iI r)]) (c_L_meanLength l hst E _ r  (by first | assumption | omega) (by first | assumption | omega) (by first | assumption | omega) (by exact fR_ok (by omega)) (by first | assumption | omega)) ml_L_307 mf_L_meanLength rfl ⟨(Nat.le_of_ble_eq_true rfl), (Nat.le_of_ble_eq_true rfl)⟩ rfl rfl rfl (Nat.le_of_ble_eq_true rfl) ⟨by show 18 + 0 ≤ 24; omega, by show 108 + 0 ≤ 144; omega⟩ dL_isReel_814 (q := 817) rfl ?_
                                  refine g_k (k2 := 18) (n2 := 108) (by omega) (by omega) ?_
                                  refine g_iload C dL_isReel_817 5 rfl (q := 819) rfl ?_
                                  refine g_if_ne C dL_isReel_819 (by omega) (q2 := 828) rfl (q := 822) rfl (fun hb23 => ?_) (fun hb23 => ?_)
                                  · skip
                                    refine g_iload C dL_isReel_828 6 rfl (q := 830) rfl ?_
                                    refine g_i2d C dL_isReel_830 (q := 831) rfl ?_
                                    refine g_iload C dL_isReel_831 5 rfl (q := 833) rfl ?_
                                    refine g_i2d C dL_isReel_833 (q := 834) rfl ?_
                                    refine g_ddiv C (by exact nn64 (by omega) (by omega)) dL_isReel_834 (q := 835) rfl ?_
                                    refine g_dcmpX C (by rw [qsb2]; obtain ⟨v9, hv9, hw9⟩ := dv64 (a := bf) (b := (σ 2) (240 + r)) (by omega) (by omega); rw [hv9]; exact dcmp_self hw9) dL_isReel_835 (q := 836) rfl ?_
                                    refine g_if_ne C dL_isReel_836 (by omega) (q2 := 843) rfl (q := 839) rfl (fun hb24 => ?_) (fun hb24 => ?_)
                                    · skip
                                      exfalso; omega
                                    · skip
                                      refine g_iconst C dL_isReel_839 (q := 840) rfl ?_
                                      refine g_goto C dL_isReel_840 (q := 844) rfl ?_
                                      refine g_wide (k2 := 19) (n2 := 114) (by omega) (by omega) ?_
                                      exact j771_2 
                                  · skip
                                    exfalso; omega
                      refine g_iload C dL_isReel_609 5 rfl (q := 611) rfl ?_
                      refine g_if_le C dL_isReel_611 (by omega) (q2 := 771) rfl (q := 614) rfl (fun hb25 => ?_) (fun hb25 => ?_)
                      · skip
                        exact j609_1 
                      · skip
                        have qf := pkE_rg E (k + 1) (n := (σ 2) (240 + r)) (by omega)
                        obtain ⟨fi, hfi⟩ : ∃ fi, fi = pkE E (k + 1) ((σ 2) (240 + r)) := ⟨_, rfl⟩
                        rw [← hfi] at qf
                        have qg := pkE_rg E (k + 2) (n := (σ 2) (240 + r) - fi) (by omega)
                        obtain ⟨lx, hlx⟩ : ∃ lx, lx = pkE E (k + 2) ((σ 2) (240 + r) - fi) := ⟨_, rfl⟩
                        rw [← hlx] at qg
                        have qm := mI_sp (g := lgs (σ 2) r) (a := fi + 1) (b := fi + lx + 1) (c := fi) (by omega)
                        obtain ⟨bs, hbs⟩ : ∃ bs, bs = mI (lgs (σ 2) r) fi (fi + 1) (fi + lx + 1) := ⟨_, rfl⟩
                        rw [← hbs] at qm
                        have qrg := rg_sb hW hP hr (a := fi) (b := fi + lx + 1) (by omega)
                        have qr1 := sb_rg2 hW hP hr (a := fi) (by omega)
                        have qr2 := sb_rg2 hW hP hr (a := fi + lx + 1) (by omega)
                        have hsb := (hW r hr).2 bs (by omega)
                        refine g_aload_n C dL_isReel_614 3 rfl rfl (q := 615) rfl ?_
                        refine g_iload_n C dL_isReel_615 4 rfl rfl (q := 616) rfl ?_
                        refine g_iconst C dL_isReel_616 (q := 617) rfl ?_
                        refine g_iadd C dL_isReel_617 (q := 618) rfl ?_
                        refine g_iload C dL_isReel_618 5 rfl (q := 620) rfl ?_
                        refine g_cN_i C (As := [.ref (eb E), .int (iI (k + 1)), .int (iI ((σ 2) (240 + r)))]) (c_L_pick l hst E _ (k + 1) ((σ 2) (240 + r))  (by first | assumption | omega) (by first | assumption | omega) (by first | assumption | omega)) ml_L_182 mf_L_pick rfl rfl ⟨(Nat.le_of_ble_eq_true rfl), (Nat.le_of_ble_eq_true rfl)⟩ rfl rfl rfl (Nat.le_of_ble_eq_true rfl) ⟨by show 17 + 0 ≤ 24; omega, by show 102 + 0 ≤ 144; omega⟩ dL_isReel_620 (q := 623) rfl ?_
                        refine g_k (k2 := 17) (n2 := 102) (by omega) (by omega) ?_
                        refine g_top (b := fi) (by exact hfi.symm) ?_
                        refine g_istore C (L' := [(12, .int (iI fi)), (11, .int (iI 1)), (0, .ref (ea E 0)), (1, .int (iI r)), (2, .ref (eb E)), (3, .int (iI k)), (4, .int (iI ((σ 2) (240 + r)))), (5, .int (iI bf)), (6, .int (iI tn)), (7, .int (iI yr)), (8, .int (iI xl)), (9, .int (iI cs)), (10, .int (iI k1))]) dL_isReel_623 (by decide) rfl (q := 625) rfl ?_
                        refine g_iload C dL_isReel_625 0 rfl (q := 627) rfl ?_
                        refine g_aload_n C dL_isReel_627 4 rfl rfl (q := 628) rfl ?_
                        refine g_iload_n C dL_isReel_628 5 rfl rfl (q := 629) rfl ?_
                        refine g_iconst C dL_isReel_629 (q := 630) rfl ?_
                        refine g_iadd C dL_isReel_630 (q := 631) rfl ?_
                        refine g_iload C dL_isReel_631 6 rfl (q := 633) rfl ?_
                        refine g_iload C dL_isReel_633 0 rfl (q := 635) rfl ?_
                        refine g_isub C dL_isReel_635 (q := 636) rfl ?_
                        refine g_cN_i C (As := [.ref (eb E), .int (iI (k + 2)), .int (iI ((σ 2) (240 + r) - fi))]) (c_L_pick l hst E _ (k + 2) ((σ 2) (240 + r) - fi)  (by first | assumption | omega) (by first | assumption | omega) (by first | assumption | omega)) ml_L_182 mf_L_pick rfl rfl ⟨(Nat.le_of_ble_eq_true rfl), (Nat.le_of_ble_eq_true rfl)⟩ rfl rfl rfl (Nat.le_of_ble_eq_true rfl) ⟨by show 17 + 0 ≤ 24; omega, by show 102 + 0 ≤ 144; omega⟩ dL_isReel_636 (q := 639) rfl ?_
                        refine g_k (k2 := 17) (n2 := 102) (by omega) (by omega) ?_
                        refine g_top (b := lx) (by exact hlx.symm) ?_
                        refine g_iadd C dL_isReel_639 (q := 640) rfl ?_
                        refine g_istore C (L' := [(13, .int (iI (fi + lx))), (12, .int (iI fi)), (11, .int (iI 1)), (0, .ref (ea E 0)), (1, .int (iI r)), (2, .ref (eb E)), (3, .int (iI k)), (4, .int (iI ((σ 2) (240 + r)))), (5, .int (iI bf)), (6, .int (iI tn)), (7, .int (iI yr)), (8, .int (iI xl)), (9, .int (iI cs)), (10, .int (iI k1))]) dL_isReel_640 (by decide) rfl (q := 642) rfl ?_
                        refine g_aload_n C dL_isReel_642 3 rfl rfl (q := 643) rfl ?_
                        refine g_iload_n C dL_isReel_643 4 rfl rfl (q := 644) rfl ?_
                        refine g_iload C dL_isReel_644 1 rfl (q := 646) rfl ?_
                        refine g_iload C dL_isReel_646 0 rfl (q := 648) rfl ?_
                        refine g_cT_i C (hh := th_L_longestInRange) (As := [.ref (ea E 0), .int (iI r), .int (iI fi), .int (iI (fi + lx))]) (c_L_longestInRange l hst E _ r fi (fi + lx)  (by first | assumption | omega) (by first | assumption | omega) (by first | assumption | omega) (by first | assumption | omega) (by exact fX_ok (by omega) (by omega))) ml_L_303 mf_L_longestInRange rfl ⟨(Nat.le_of_ble_eq_true rfl), (Nat.le_of_ble_eq_true rfl)⟩ rfl rfl rfl (Nat.le_of_ble_eq_true rfl) ⟨by show 17 + 0 ≤ 24; omega, by show 102 + 0 ≤ 144; omega⟩ dL_isReel_648 (q := 651) rfl ?_
                        refine g_k (k2 := 17) (n2 := 102) (by omega) (by omega) ?_
                        refine g_top (b := bs) (by exact hbs.symm) ?_
                        refine g_istore C (L' := [(14, .int (iI bs)), (13, .int (iI (fi + lx))), (12, .int (iI fi)), (11, .int (iI 1)), (0, .ref (ea E 0)), (1, .int (iI r)), (2, .ref (eb E)), (3, .int (iI k)), (4, .int (iI ((σ 2) (240 + r)))), (5, .int (iI bf)), (6, .int (iI tn)), (7, .int (iI yr)), (8, .int (iI xl)), (9, .int (iI cs)), (10, .int (iI k1))]) dL_isReel_651 (by decide) rfl (q := 653) rfl ?_
                        have j653_4 : GG p_ l e_ rm_L_isReel_24_144 s_ m_ a_ b_ h_ c_ Q E A 17 σ 17 102 701 [(14, .int (iI bs)), (13, .int (iI (fi + lx))), (12, .int (iI fi)), (11, .int (iI 1)), (0, .ref (ea E 0)), (1, .int (iI r)), (2, .ref (eb E)), (3, .int (iI k)), (4, .int (iI ((σ 2) (240 + r)))), (5, .int (iI bf)), (6, .int (iI tn)), (7, .int (iI yr)), (8, .int (iI xl)), (9, .int (iI cs)), (10, .int (iI k1))] [.int (iI 1)] := by
                          refine g_istore C (L' := [(11, .int (iI 1)), (14, .int (iI bs)), (13, .int (iI (fi + lx))), (12, .int (iI fi)), (0, .ref (ea E 0)), (1, .int (iI r)), (2, .ref (eb E)), (3, .int (iI k)), (4, .int (iI ((σ 2) (240 + r)))), (5, .int (iI bf)), (6, .int (iI tn)), (7, .int (iI yr)), (8, .int (iI xl)), (9, .int (iI cs)), (10, .int (iI k1))]) dL_isReel_701 (by decide) rfl (q := 703) rfl ?_
                          refine g_iload C dL_isReel_703 3 rfl (q := 705) rfl ?_
                          refine g_istore C (L' := [(15, .int (iI fi)), (11, .int (iI 1)), (14, .int (iI bs)), (13, .int (iI (fi + lx))), (12, .int (iI fi)), (0, .ref (ea E 0)), (1, .int (iI r)), (2, .ref (eb E)), (3, .int (iI k)), (4, .int (iI ((σ 2) (240 + r)))), (5, .int (iI bf)), (6, .int (iI tn)), (7, .int (iI yr)), (8, .int (iI xl)), (9, .int (iI cs)), (10, .int (iI k1))]) dL_isReel_705 (by decide) rfl (q := 707) rfl ?_
                          refine g_sub [5, 6, 7, 8, 9, 10, 11, 12, 13, 14, 15, 1, 4, 3, 2, 0] (L' := [(0, .ref (ea E 0)), (1, .int (iI r)), (2, .ref (eb E)), (3, .int (iI k)), (4, .int (iI ((σ 2) (240 + r)))), (5, .int (iI bf)), (6, .int (iI tn)), (7, .int (iI yr)), (8, .int (iI xl)), (9, .int (iI cs)), (10, .int (iI k1)), (11, .int (iI 1)), (12, .int (iI fi)), (13, .int (iI (fi + lx))), (14, .int (iI bs)), (15, .int (iI fi))]) rfl ?_
                          have lp707 : ∀ (k9 : Nat) (pp : Int), (fi + lx + 1 - pp).toNat < k9 → (fi ≤ pp ∧ pp ≤ fi + lx + 1) → GG p_ l e_ rm_L_isReel_24_144 s_ m_ a_ b_ h_ c_ Q E A 17 σ 17 102 707 [(0, .ref (ea E 0)), (1, .int (iI r)), (2, .ref (eb E)), (3, .int (iI k)), (4, .int (iI ((σ 2) (240 + r)))), (5, .int (iI bf)), (6, .int (iI tn)), (7, .int (iI yr)), (8, .int (iI xl)), (9, .int (iI cs)), (10, .int (iI k1)), (11, .int (iI 1)), (12, .int (iI fi)), (13, .int (iI (fi + lx))), (14, .int (iI bs)), (15, .int (iI pp))] [] := by
                            intro k9
                            induction k9 with
                            | zero => intro pp hk9; omega
                            | succ k9 ih707 =>
                              intro pp hk9 hpp
                              refine g_iload C dL_isReel_707 15 rfl (q := 709) rfl ?_
                              refine g_iload C dL_isReel_709 13 rfl (q := 711) rfl ?_
                              refine g_icmp_gt C dL_isReel_711 (by omega) (q2 := 771) rfl (q := 714) rfl (fun hb26 => ?_) (fun hb26 => ?_)
                              · skip
                                refine g_sub [11, 0, 1, 2, 3, 4, 5, 6, 7, 8, 9, 10] (L' := [(11, .int (iI 1)), (0, .ref (ea E 0)), (1, .int (iI r)), (2, .ref (eb E)), (3, .int (iI k)), (4, .int (iI ((σ 2) (240 + r)))), (5, .int (iI bf)), (6, .int (iI tn)), (7, .int (iI yr)), (8, .int (iI xl)), (9, .int (iI cs)), (10, .int (iI k1))]) rfl ?_
                                exact j609_1 
                              · skip
                                have hs15 := (hW r hr).2 pp (by omega)
                                have qq := qm.2 pp (by omega)
                                unfold lgs at qq
                                refine g_iload C dL_isReel_714 11 rfl (q := 716) rfl ?_
                                have j716_5 : GG p_ l e_ rm_L_isReel_24_144 s_ m_ a_ b_ h_ c_ Q E A 17 σ 17 102 762 [(0, .ref (ea E 0)), (1, .int (iI r)), (2, .ref (eb E)), (3, .int (iI k)), (4, .int (iI ((σ 2) (240 + r)))), (5, .int (iI bf)), (6, .int (iI tn)), (7, .int (iI yr)), (8, .int (iI xl)), (9, .int (iI cs)), (10, .int (iI k1)), (11, .int (iI 1)), (12, .int (iI fi)), (13, .int (iI (fi + lx))), (14, .int (iI bs)), (15, .int (iI pp))] [.int (iI 1), .int (iI 1)] := by
                                  refine g_iand01 C (by omega) (by omega) dL_isReel_762 (q := 763) rfl ?_
                                  refine g_top (b := 1) (by decide) ?_
                                  refine g_istore C (L' := [(11, .int (iI 1)), (0, .ref (ea E 0)), (1, .int (iI r)), (2, .ref (eb E)), (3, .int (iI k)), (4, .int (iI ((σ 2) (240 + r)))), (5, .int (iI bf)), (6, .int (iI tn)), (7, .int (iI yr)), (8, .int (iI xl)), (9, .int (iI cs)), (10, .int (iI k1)), (12, .int (iI fi)), (13, .int (iI (fi + lx))), (14, .int (iI bs)), (15, .int (iI pp))]) dL_isReel_763 (by decide) rfl (q := 765) rfl ?_
                                  refine g_iinc C (L' := [(15, .int (iI (pp + 1))), (11, .int (iI 1)), (0, .ref (ea E 0)), (1, .int (iI r)), (2, .ref (eb E)), (3, .int (iI k)), (4, .int (iI ((σ 2) (240 + r)))), (5, .int (iI bf)), (6, .int (iI tn)), (7, .int (iI yr)), (8, .int (iI xl)), (9, .int (iI cs)), (10, .int (iI k1)), (12, .int (iI fi)), (13, .int (iI (fi + lx))), (14, .int (iI bs))]) dL_isReel_765 15 rfl (by decide) rfl (q := 768) rfl ?_
                                  refine g_goto C dL_isReel_768 (q := 707) rfl ?_
                                  refine g_sub [2, 3, 4, 5, 6, 7, 8, 9, 10, 11, 12, 1, 13, 14, 15, 0] (L' := [(0, .ref (ea E 0)), (1, .int (iI r)), (2, .ref (eb E)), (3, .int (iI k)), (4, .int (iI ((σ 2) (240 + r)))), (5, .int (iI bf)), (6, .int (iI tn)), (7, .int (iI yr)), (8, .int (iI xl)), (9, .int (iI cs)), (10, .int (iI k1)), (11, .int (iI 1)), (12, .int (iI fi)), (13, .int (iI (fi + lx))), (14, .int (iI bs)), (15, .int (iI (pp + 1)))]) rfl ?_
                                  exact ih707 (pp + 1) (by omega) (by omega)
                                refine g_aload_n C dL_isReel_716 0 rfl rfl (q := 717) rfl ?_
                                refine g_iload_n C dL_isReel_717 1 rfl rfl (q := 718) rfl ?_
                                refine g_iload C dL_isReel_718 15 rfl (q := 720) rfl ?_
                                refine g_cT_i C (hh := th_L_length) (As := [.ref (ea E 0), .int (iI r), .int (iI pp)]) (c_L_length l hst E _ r pp  (by first | assumption | omega) (by first | assumption | omega) (by first | assumption | omega) (by exact fP_ok (by omega) (by omega))) ml_L_280 mf_L_length rfl ⟨(Nat.le_of_ble_eq_true rfl), (Nat.le_of_ble_eq_true rfl)⟩ rfl rfl rfl (Nat.le_of_ble_eq_true rfl) ⟨by show 17 + 0 ≤ 24; omega, by show 102 + 0 ≤ 144; omega⟩ dL_isReel_720 (q := 723) rfl ?_
                                refine g_k (k2 := 17) (n2 := 102) (by omega) (by omega) ?_
                                refine g_aload_n C dL_isReel_723 0 rfl rfl (q := 724) rfl ?_
                                refine g_iload_n C dL_isReel_724 1 rfl rfl (q := 725) rfl ?_
                                refine g_iload C dL_isReel_725 14 rfl (q := 727) rfl ?_
                                refine g_cT_i C (hh := th_L_length) (As := [.ref (ea E 0), .int (iI r), .int (iI bs)]) (c_L_length l hst E _ r bs  (by first | assumption | omega) (by first | assumption | omega) (by first | assumption | omega) (by exact fP_ok (by omega) (by omega))) ml_L_280 mf_L_length rfl ⟨(Nat.le_of_ble_eq_true rfl), (Nat.le_of_ble_eq_true rfl)⟩ rfl rfl rfl (Nat.le_of_ble_eq_true rfl) ⟨by show 17 + 0 ≤ 24; omega, by show 102 + 0 ≤ 144; omega⟩ dL_isReel_727 (q := 730) rfl ?_
                                refine g_k (k2 := 17) (n2 := 102) (by omega) (by omega) ?_
                                refine g_icmp_lt C dL_isReel_730 (by omega) (q2 := 757) rfl (q := 733) rfl (fun hb27 => ?_) (fun hb27 => ?_)
                                · skip
                                  refine g_iconst C dL_isReel_757 (q := 758) rfl ?_
                                  refine g_goto C dL_isReel_758 (q := 762) rfl ?_
                                  exact j716_5 
                                · skip
                                  refine g_aload_n C dL_isReel_733 0 rfl rfl (q := 734) rfl ?_
                                  refine g_iload_n C dL_isReel_734 1 rfl rfl (q := 735) rfl ?_
                                  refine g_iload C dL_isReel_735 15 rfl (q := 737) rfl ?_
                                  refine g_cT_i C (hh := th_L_length) (As := [.ref (ea E 0), .int (iI r), .int (iI pp)]) (c_L_length l hst E _ r pp  (by first | assumption | omega) (by first | assumption | omega) (by first | assumption | omega) (by exact fP_ok (by omega) (by omega))) ml_L_280 mf_L_length rfl ⟨(Nat.le_of_ble_eq_true rfl), (Nat.le_of_ble_eq_true rfl)⟩ rfl rfl rfl (Nat.le_of_ble_eq_true rfl) ⟨by show 17 + 0 ≤ 24; omega, by show 102 + 0 ≤ 144; omega⟩ dL_isReel_737 (q := 740) rfl ?_
                                  refine g_k (k2 := 17) (n2 := 102) (by omega) (by omega) ?_
                                  refine g_aload_n C dL_isReel_740 0 rfl rfl (q := 741) rfl ?_
                                  refine g_iload_n C dL_isReel_741 1 rfl rfl (q := 742) rfl ?_
                                  refine g_iload C dL_isReel_742 14 rfl (q := 744) rfl ?_
                                  refine g_cT_i C (hh := th_L_length) (As := [.ref (ea E 0), .int (iI r), .int (iI bs)]) (c_L_length l hst E _ r bs  (by first | assumption | omega) (by first | assumption | omega) (by first | assumption | omega) (by exact fP_ok (by omega) (by omega))) ml_L_280 mf_L_length rfl ⟨(Nat.le_of_ble_eq_true rfl), (Nat.le_of_ble_eq_true rfl)⟩ rfl rfl rfl (Nat.le_of_ble_eq_true rfl) ⟨by show 17 + 0 ≤ 24; omega, by show 102 + 0 ≤ 144; omega⟩ dL_isReel_744 (q := 747) rfl ?_
                                  refine g_k (k2 := 17) (n2 := 102) (by omega) (by omega) ?_
                                  refine g_icmp_ne C dL_isReel_747 (by omega) (q2 := 761) rfl (q := 750) rfl (fun hb28 => ?_) (fun hb28 => ?_)
                                  · skip
                                    exfalso; omega
                                  · skip
                                    refine g_iload C dL_isReel_750 15 rfl (q := 752) rfl ?_
                                    refine g_iload C dL_isReel_752 14 rfl (q := 754) rfl ?_
                                    refine g_icmp_lt C dL_isReel_754 (by omega) (q2 := 761) rfl (q := 757) rfl (fun hb29 => ?_) (fun hb29 => ?_)
                                    · skip
                                      exfalso; omega
                                    · skip
                                      refine g_iconst C dL_isReel_757 (q := 758) rfl ?_
                                      refine g_goto C dL_isReel_758 (q := 762) rfl ?_
                                      exact j716_5 
                          exact lp707 _ fi (Nat.lt_succ_self _) (by omega)
                        refine g_aload_n C dL_isReel_653 4 rfl rfl (q := 654) rfl ?_
                        refine g_iload_n C dL_isReel_654 5 rfl rfl (q := 655) rfl ?_
                        refine g_iload C dL_isReel_655 2 rfl (q := 657) rfl ?_
                        refine g_iload C dL_isReel_657 1 rfl (q := 659) rfl ?_
                        refine g_cT_i C (hh := th_L_rangeLength) (As := [.ref (ea E 0), .int (iI r), .int (iI fi), .int (iI (fi + lx))]) (c_L_rangeLength l hst E _ r fi (fi + lx)  (by first | assumption | omega) (by first | assumption | omega) (by first | assumption | omega) (by first | assumption | omega) (by exact fX_ok (by omega) (by omega))) ml_L_305 mf_L_rangeLength rfl ⟨(Nat.le_of_ble_eq_true rfl), (Nat.le_of_ble_eq_true rfl)⟩ rfl rfl rfl (Nat.le_of_ble_eq_true rfl) ⟨by show 17 + 0 ≤ 24; omega, by show 102 + 0 ≤ 144; omega⟩ dL_isReel_659 (q := 662) rfl ?_
                        refine g_k (k2 := 17) (n2 := 102) (by omega) (by omega) ?_
                        refine g_aload_n C dL_isReel_662 4 rfl rfl (q := 663) rfl ?_
                        refine g_iload_n C dL_isReel_663 5 rfl rfl (q := 664) rfl ?_
                        refine g_iload C dL_isReel_664 1 rfl (q := 666) rfl ?_
                        refine g_iconst C dL_isReel_666 (q := 667) rfl ?_
                        refine g_iadd C dL_isReel_667 (q := 668) rfl ?_
                        refine g_cT_i C (hh := th_L_lengthBefore) (As := [.ref (ea E 0), .int (iI r), .int (iI (fi + lx + 1))]) (c_L_lengthBefore l hst E _ r (fi + lx + 1)  (by first | assumption | omega) (by first | assumption | omega) (by first | assumption | omega) (by exact fB_ok (by omega) (by omega))) ml_L_286 mf_L_lengthBefore rfl ⟨(Nat.le_of_ble_eq_true rfl), (Nat.le_of_ble_eq_true rfl)⟩ rfl rfl rfl (Nat.le_of_ble_eq_true rfl) ⟨by show 17 + 0 ≤ 24; omega, by show 102 + 0 ≤ 144; omega⟩ dL_isReel_668 (q := 671) rfl ?_
                        refine g_k (k2 := 17) (n2 := 102) (by omega) (by omega) ?_
                        refine g_aload_n C dL_isReel_671 4 rfl rfl (q := 672) rfl ?_
                        refine g_iload_n C dL_isReel_672 5 rfl rfl (q := 673) rfl ?_
                        refine g_iload C dL_isReel_673 2 rfl (q := 675) rfl ?_
                        refine g_cT_i C (hh := th_L_lengthBefore) (As := [.ref (ea E 0), .int (iI r), .int (iI fi)]) (c_L_lengthBefore l hst E _ r fi  (by first | assumption | omega) (by first | assumption | omega) (by first | assumption | omega) (by exact fB_ok (by omega) (by omega))) ml_L_286 mf_L_lengthBefore rfl ⟨(Nat.le_of_ble_eq_true rfl), (Nat.le_of_ble_eq_true rfl)⟩ rfl rfl rfl (Nat.le_of_ble_eq_true rfl) ⟨by show 17 + 0 ≤ 24; omega, by show 102 + 0 ≤ 144; omega⟩ dL_isReel_675 (q := 678) rfl ?_
                        refine g_k (k2 := 17) (n2 := 102) (by omega) (by omega) ?_
                        refine g_isub C dL_isReel_678 (q := 679) rfl ?_
                        refine g_icmp_ne C dL_isReel_679 (by omega) (q2 := 700) rfl (q := 682) rfl (fun hb30 => ?_) (fun hb30 => ?_)
                        · skip
                          exfalso; omega
                        · skip
                          refine g_iload C dL_isReel_682 0 rfl (q := 684) rfl ?_
                          refine g_iload C dL_isReel_684 2 rfl (q := 686) rfl ?_
                          refine g_icmp_lt C dL_isReel_686 (by omega) (q2 := 700) rfl (q := 689) rfl (fun hb31 => ?_) (fun hb31 => ?_)
                          · skip
                            exfalso; omega
                          · skip
                            refine g_iload C dL_isReel_689 0 rfl (q := 691) rfl ?_
                            refine g_iload C dL_isReel_691 1 rfl (q := 693) rfl ?_
                            refine g_icmp_gt C dL_isReel_693 (by omega) (q2 := 700) rfl (q := 696) rfl (fun hb32 => ?_) (fun hb32 => ?_)
                            · skip
                              exfalso; omega
                            · skip
                              refine g_iconst C dL_isReel_696 (q := 697) rfl ?_
                              refine g_goto C dL_isReel_697 (q := 701) rfl ?_
                              exact j653_4 
                    · skip
                      exfalso; omega
                  · skip
                    have qa := coA_ok ha0
                    refine g_cT_i C (hh := th_L_colourAtRank) (As := [.ref (ea E 0), .int (iI r), .int (iI k1)]) (c_L_colourAtRank l hst E _ r k1  (by first | assumption | omega) (by first | assumption | omega) (by first | assumption | omega) (by exact fR_ok (by omega)) (by exact ha0)) ml_L_301 mf_L_colourAtRank rfl ⟨(Nat.le_of_ble_eq_true rfl), (Nat.le_of_ble_eq_true rfl)⟩ rfl rfl rfl (Nat.le_of_ble_eq_true rfl) ⟨by show 16 + 0 ≤ 24; omega, by show 96 + 0 ≤ 144; omega⟩ dL_isReel_506 (q := 509) rfl ?_
                    refine g_k (k2 := 16) (n2 := 96) (by omega) (by omega) ?_
                    refine g_top (b := coA (σ 2) r k1) (by rfl) ?_
                    refine g_if_lt C dL_isReel_509 (by omega) (q2 := 606) rfl (q := 512) rfl (fun hb33 => ?_) (fun hb33 => ?_)
                    · skip
                      exfalso; omega
                    · skip
                      have qa2 := coA_rank ha0
                      have hsc1 := sc_rg hW hr (coA (σ 2) r k1)
                      refine g_aload_n C dL_isReel_512 0 rfl rfl (q := 513) rfl ?_
                      refine g_iload_n C dL_isReel_513 1 rfl rfl (q := 514) rfl ?_
                      refine g_iload C dL_isReel_514 10 rfl (q := 516) rfl ?_
                      refine g_cT_i C (hh := th_L_colourAtRank) (As := [.ref (ea E 0), .int (iI r), .int (iI k1)]) (c_L_colourAtRank l hst E _ r k1  (by first | assumption | omega) (by first | assumption | omega) (by first | assumption | omega) (by exact fR_ok (by omega)) (by exact ha0)) ml_L_301 mf_L_colourAtRank rfl ⟨(Nat.le_of_ble_eq_true rfl), (Nat.le_of_ble_eq_true rfl)⟩ rfl rfl rfl (Nat.le_of_ble_eq_true rfl) ⟨by show 16 + 0 ≤ 24; omega, by show 96 + 0 ≤ 144; omega⟩ dL_isReel_516 (q := 519) rfl ?_
                      refine g_k (k2 := 16) (n2 := 96) (by omega) (by omega) ?_
                      refine g_top (b := coA (σ 2) r k1) (by rfl) ?_
                      refine g_istore C (L' := [(11, .int (iI (coA (σ 2) r k1))), (0, .ref (ea E 0)), (1, .int (iI r)), (2, .ref (eb E)), (3, .int (iI k)), (4, .int (iI ((σ 2) (240 + r)))), (5, .int (iI bf)), (6, .int (iI tn)), (7, .int (iI yr)), (8, .int (iI xl)), (9, .int (iI cs)), (10, .int (iI k1))]) dL_isReel_519 (by decide) rfl (q := 521) rfl ?_
                      have j521_6 : ∀ (w12 : Int), ((k1 = 0 ∧ w12 = coA (σ 2) r k1) ∨ (0 < k1 ∧ w12 = coA (σ 2) r (k1 - 1))) → GG p_ l e_ rm_L_isReel_24_144 s_ m_ a_ b_ h_ c_ Q E A 17 σ 16 96 540 [(11, .int (iI (coA (σ 2) r k1))), (0, .ref (ea E 0)), (1, .int (iI r)), (2, .ref (eb E)), (3, .int (iI k)), (4, .int (iI ((σ 2) (240 + r)))), (5, .int (iI bf)), (6, .int (iI tn)), (7, .int (iI yr)), (8, .int (iI xl)), (9, .int (iI cs)), (10, .int (iI k1))] [.int (iI w12)] := by
                        intro w12 h12
                        have h13 := co_rank ha0 h12
                        have hsd := sc_rg hW hr w12
                        refine g_istore C (L' := [(12, .int (iI w12)), (11, .int (iI (coA (σ 2) r k1))), (0, .ref (ea E 0)), (1, .int (iI r)), (2, .ref (eb E)), (3, .int (iI k)), (4, .int (iI ((σ 2) (240 + r)))), (5, .int (iI bf)), (6, .int (iI tn)), (7, .int (iI yr)), (8, .int (iI xl)), (9, .int (iI cs)), (10, .int (iI k1))]) dL_isReel_540 (by decide) rfl (q := 542) rfl ?_
                        have j542_7 : GG p_ l e_ rm_L_isReel_24_144 s_ m_ a_ b_ h_ c_ Q E A 17 σ 16 96 600 [(12, .int (iI w12)), (11, .int (iI (coA (σ 2) r k1))), (0, .ref (ea E 0)), (1, .int (iI r)), (2, .ref (eb E)), (3, .int (iI k)), (4, .int (iI ((σ 2) (240 + r)))), (5, .int (iI bf)), (6, .int (iI tn)), (7, .int (iI yr)), (8, .int (iI xl)), (9, .int (iI cs)), (10, .int (iI k1))] [] := by
                          refine g_iinc C (L' := [(10, .int (iI (k1 + 1))), (12, .int (iI w12)), (11, .int (iI (coA (σ 2) r k1))), (0, .ref (ea E 0)), (1, .int (iI r)), (2, .ref (eb E)), (3, .int (iI k)), (4, .int (iI ((σ 2) (240 + r)))), (5, .int (iI bf)), (6, .int (iI tn)), (7, .int (iI yr)), (8, .int (iI xl)), (9, .int (iI cs))]) dL_isReel_600 12 rfl (by decide) rfl (q := 603) rfl ?_
                          refine g_goto C dL_isReel_603 (q := 502) rfl ?_
                          refine g_sub [3, 4, 5, 6, 7, 8, 9, 10, 11, 12, 0] (L' := [(0, .ref (ea E 0)), (1, .int (iI r)), (2, .ref (eb E)), (3, .int (iI k)), (4, .int (iI ((σ 2) (240 + r)))), (5, .int (iI bf)), (6, .int (iI tn)), (7, .int (iI yr)), (8, .int (iI xl)), (9, .int (iI cs)), (10, .int (iI (k1 + 1)))]) rfl ?_
                          exact ih502 (k1 + 1) (by omega) (by omega)
                        refine g_aload_n C dL_isReel_542 2 rfl rfl (q := 543) rfl ?_
                        refine g_iload_n C dL_isReel_543 3 rfl rfl (q := 544) rfl ?_
                        refine g_iload C dL_isReel_544 1 rfl (q := 546) rfl ?_
                        refine g_cT_i C (hh := th_L_colourLength) (As := [.ref (ea E 0), .int (iI r), .int (iI (coA (σ 2) r k1))]) (c_L_colourLength l hst E _ r (coA (σ 2) r k1)  (by first | assumption | omega) (by first | assumption | omega) (by first | assumption | omega) (by exact fR_ok (by omega)) (by exact fC_ok (by omega))) ml_L_296 mf_L_colourLength rfl ⟨(Nat.le_of_ble_eq_true rfl), (Nat.le_of_ble_eq_true rfl)⟩ rfl rfl rfl (Nat.le_of_ble_eq_true rfl) ⟨by show 16 + 0 ≤ 24; omega, by show 96 + 0 ≤ 144; omega⟩ dL_isReel_546 (q := 549) rfl ?_
                        refine g_k (k2 := 16) (n2 := 96) (by omega) (by omega) ?_
                        refine g_if_eq C dL_isReel_549 (by omega) (q2 := 598) rfl (q := 552) rfl (fun hb34 => ?_) (fun hb34 => ?_)
                        · skip
                          exfalso; omega
                        · skip
                          refine g_aload_n C dL_isReel_552 2 rfl rfl (q := 553) rfl ?_
                          refine g_iload_n C dL_isReel_553 3 rfl rfl (q := 554) rfl ?_
                          refine g_iload C dL_isReel_554 0 rfl (q := 556) rfl ?_
                          refine g_cT_i C (hh := th_L_colourLength) (As := [.ref (ea E 0), .int (iI r), .int (iI w12)]) (c_L_colourLength l hst E _ r w12  (by first | assumption | omega) (by first | assumption | omega) (by first | assumption | omega) (by exact fR_ok (by omega)) (by exact fC_ok (by omega))) ml_L_296 mf_L_colourLength rfl ⟨(Nat.le_of_ble_eq_true rfl), (Nat.le_of_ble_eq_true rfl)⟩ rfl rfl rfl (Nat.le_of_ble_eq_true rfl) ⟨by show 16 + 0 ≤ 24; omega, by show 96 + 0 ≤ 144; omega⟩ dL_isReel_556 (q := 559) rfl ?_
                          refine g_k (k2 := 16) (n2 := 96) (by omega) (by omega) ?_
                          refine g_aload_n C dL_isReel_559 2 rfl rfl (q := 560) rfl ?_
                          refine g_iload_n C dL_isReel_560 3 rfl rfl (q := 561) rfl ?_
                          refine g_iload C dL_isReel_561 1 rfl (q := 563) rfl ?_
                          refine g_cT_i C (hh := th_L_colourLength) (As := [.ref (ea E 0), .int (iI r), .int (iI (coA (σ 2) r k1))]) (c_L_colourLength l hst E _ r (coA (σ 2) r k1)  (by first | assumption | omega) (by first | assumption | omega) (by first | assumption | omega) (by exact fR_ok (by omega)) (by exact fC_ok (by omega))) ml_L_296 mf_L_colourLength rfl ⟨(Nat.le_of_ble_eq_true rfl), (Nat.le_of_ble_eq_true rfl)⟩ rfl rfl rfl (Nat.le_of_ble_eq_true rfl) ⟨by show 16 + 0 ≤ 24; omega, by show 96 + 0 ≤ 144; omega⟩ dL_isReel_563 (q := 566) rfl ?_
                          refine g_k (k2 := 16) (n2 := 96) (by omega) (by omega) ?_
                          refine g_icmp_lt C dL_isReel_566 (by omega) (q2 := 598) rfl (q := 569) rfl (fun hb35 => ?_) (fun hb35 => ?_)
                          · skip
                            exfalso; omega
                          · skip
                            refine g_iload C dL_isReel_569 12 rfl (q := 571) rfl ?_
                            refine g_if_le C dL_isReel_571 (by omega) (q2 := 600) rfl (q := 574) rfl (fun hb36 => ?_) (fun hb36 => ?_)
                            · skip
                              exact j542_7 
                            · skip
                              refine g_aload_n C dL_isReel_574 2 rfl rfl (q := 575) rfl ?_
                              refine g_iload_n C dL_isReel_575 3 rfl rfl (q := 576) rfl ?_
                              refine g_iload C dL_isReel_576 0 rfl (q := 578) rfl ?_
                              refine g_cT_i C (hh := th_L_colourLength) (As := [.ref (ea E 0), .int (iI r), .int (iI w12)]) (c_L_colourLength l hst E _ r w12  (by first | assumption | omega) (by first | assumption | omega) (by first | assumption | omega) (by exact fR_ok (by omega)) (by exact fC_ok (by omega))) ml_L_296 mf_L_colourLength rfl ⟨(Nat.le_of_ble_eq_true rfl), (Nat.le_of_ble_eq_true rfl)⟩ rfl rfl rfl (Nat.le_of_ble_eq_true rfl) ⟨by show 16 + 0 ≤ 24; omega, by show 96 + 0 ≤ 144; omega⟩ dL_isReel_578 (q := 581) rfl ?_
                              refine g_k (k2 := 16) (n2 := 96) (by omega) (by omega) ?_
                              refine g_aload_n C dL_isReel_581 2 rfl rfl (q := 582) rfl ?_
                              refine g_iload_n C dL_isReel_582 3 rfl rfl (q := 583) rfl ?_
                              refine g_iload C dL_isReel_583 1 rfl (q := 585) rfl ?_
                              refine g_cT_i C (hh := th_L_colourLength) (As := [.ref (ea E 0), .int (iI r), .int (iI (coA (σ 2) r k1))]) (c_L_colourLength l hst E _ r (coA (σ 2) r k1)  (by first | assumption | omega) (by first | assumption | omega) (by first | assumption | omega) (by exact fR_ok (by omega)) (by exact fC_ok (by omega))) ml_L_296 mf_L_colourLength rfl ⟨(Nat.le_of_ble_eq_true rfl), (Nat.le_of_ble_eq_true rfl)⟩ rfl rfl rfl (Nat.le_of_ble_eq_true rfl) ⟨by show 16 + 0 ≤ 24; omega, by show 96 + 0 ≤ 144; omega⟩ dL_isReel_585 (q := 588) rfl ?_
                              refine g_k (k2 := 16) (n2 := 96) (by omega) (by omega) ?_
                              refine g_icmp_ne C dL_isReel_588 (by omega) (q2 := 600) rfl (q := 591) rfl (fun hb37 => ?_) (fun hb37 => ?_)
                              · skip
                                exact j542_7 
                              · skip
                                refine g_iload C dL_isReel_591 0 rfl (q := 593) rfl ?_
                                refine g_iload C dL_isReel_593 1 rfl (q := 595) rfl ?_
                                refine g_icmp_le C dL_isReel_595 (by omega) (q2 := 600) rfl (q := 598) rfl (fun hb38 => ?_) (fun hb38 => ?_)
                                · skip
                                  exact j542_7 
                                · skip
                                  exfalso; omega
                      refine g_iload C dL_isReel_521 11 rfl (q := 523) rfl ?_
                      refine g_if_ne C dL_isReel_523 (by omega) (q2 := 531) rfl (q := 526) rfl (fun hb39 => ?_) (fun hb39 => ?_)
                      · skip
                        refine g_aload_n C dL_isReel_531 1 rfl rfl (q := 532) rfl ?_
                        refine g_iload_n C dL_isReel_532 2 rfl rfl (q := 533) rfl ?_
                        refine g_iload C dL_isReel_533 11 rfl (q := 535) rfl ?_
                        refine g_iconst C dL_isReel_535 (q := 536) rfl ?_
                        refine g_isub C dL_isReel_536 (q := 537) rfl ?_
                        refine g_cT_i C (hh := th_L_colourAtRank) (As := [.ref (ea E 0), .int (iI r), .int (iI (k1 - 1))]) (c_L_colourAtRank l hst E _ r (k1 - 1)  (by first | assumption | omega) (by first | assumption | omega) (by first | assumption | omega) (by exact fR_ok (by omega)) (by exact (coA_prev ha0 (by omega)).1)) ml_L_301 mf_L_colourAtRank rfl ⟨(Nat.le_of_ble_eq_true rfl), (Nat.le_of_ble_eq_true rfl)⟩ rfl rfl rfl (Nat.le_of_ble_eq_true rfl) ⟨by show 16 + 0 ≤ 24; omega, by show 96 + 0 ≤ 144; omega⟩ dL_isReel_537 (q := 540) rfl ?_
                        refine g_k (k2 := 16) (n2 := 96) (by omega) (by omega) ?_
                        refine g_top (b := coA (σ 2) r (k1 - 1)) (by rfl) ?_
                        exact j521_6 (coA (σ 2) r (k1 - 1)) (by omega)
                      · skip
                        refine g_iload C dL_isReel_526 0 rfl (q := 528) rfl ?_
                        refine g_goto C dL_isReel_528 (q := 540) rfl ?_
                        exact j521_6 (coA (σ 2) r k1) (by omega)
              exact lp502 _ 0 (Nat.lt_succ_self _) (by omega)
            · skip
              have qc := sc_rg hW hr c
              have j369_8 : ∀ (w11 : Int), ((w11 < 0 ∧ sc (σ 2) r c = 0 ∧ -100 ≤ w11) ∨ ((0 ≤ w11 ∧ w11 < (σ 2) (240 + r)) ∧ (σ 2) (r * 60 + w11) % 8 = c ∧ (σ 2) (r * 60 + w11) / 8 ≤ sc (σ 2) r c)) → GG p_ l e_ rm_L_isReel_24_144 s_ m_ a_ b_ h_ c_ Q E A 17 σ (ka + 1) (na + 6) 387 [(0, .ref (ea E 0)), (1, .int (iI r)), (2, .ref (eb E)), (3, .int (iI k)), (4, .int (iI ((σ 2) (240 + r)))), (5, .int (iI bf)), (6, .int (iI tn)), (7, .int (iI yr)), (8, .int (iI xl)), (9, .int (iI cs)), (10, .int (iI c))] [.int (iI w11)] := by
                intro w11 h11
                refine g_istore C (L' := [(11, .int (iI w11)), (0, .ref (ea E 0)), (1, .int (iI r)), (2, .ref (eb E)), (3, .int (iI k)), (4, .int (iI ((σ 2) (240 + r)))), (5, .int (iI bf)), (6, .int (iI tn)), (7, .int (iI yr)), (8, .int (iI xl)), (9, .int (iI cs)), (10, .int (iI c))]) dL_isReel_387 (by decide) rfl (q := 389) rfl ?_
                refine g_aload_n C dL_isReel_389 1 rfl rfl (q := 390) rfl ?_
                refine g_iload_n C dL_isReel_390 2 rfl rfl (q := 391) rfl ?_
                refine g_iload C dL_isReel_391 11 rfl (q := 393) rfl ?_
                refine g_cT_i C (hh := th_L_colourLength) (As := [.ref (ea E 0), .int (iI r), .int (iI c)]) (c_L_colourLength l hst E _ r c  (by first | assumption | omega) (by first | assumption | omega) (by first | assumption | omega) (by exact fR_ok (by omega)) (by exact fC_ok (by omega))) ml_L_296 mf_L_colourLength rfl ⟨(Nat.le_of_ble_eq_true rfl), (Nat.le_of_ble_eq_true rfl)⟩ rfl rfl rfl (Nat.le_of_ble_eq_true rfl) ⟨by show (ka + 1) + 0 ≤ 24; omega, by show (na + 6) + 0 ≤ 144; omega⟩ dL_isReel_393 (q := 396) rfl ?_
                refine g_k (k2 := (ka + 1)) (n2 := (na + 6)) (by omega) (by omega) ?_
                refine g_istore C (L' := [(12, .int (iI (sc (σ 2) r c))), (11, .int (iI w11)), (0, .ref (ea E 0)), (1, .int (iI r)), (2, .ref (eb E)), (3, .int (iI k)), (4, .int (iI ((σ 2) (240 + r)))), (5, .int (iI bf)), (6, .int (iI tn)), (7, .int (iI yr)), (8, .int (iI xl)), (9, .int (iI cs)), (10, .int (iI c))]) dL_isReel_396 (by decide) rfl (q := 398) rfl ?_
                refine g_iload C dL_isReel_398 11 rfl (q := 400) rfl ?_
                refine g_iload C dL_isReel_400 0 rfl (q := 402) rfl ?_
                refine g_iadd C dL_isReel_402 (q := 403) rfl ?_
                refine g_istore C (L' := [(9, .int (iI (cs + (sc (σ 2) r c)))), (12, .int (iI (sc (σ 2) r c))), (11, .int (iI w11)), (0, .ref (ea E 0)), (1, .int (iI r)), (2, .ref (eb E)), (3, .int (iI k)), (4, .int (iI ((σ 2) (240 + r)))), (5, .int (iI bf)), (6, .int (iI tn)), (7, .int (iI yr)), (8, .int (iI xl)), (10, .int (iI c))]) dL_isReel_403 (by decide) rfl (q := 405) rfl ?_
                have j405_9 : GG p_ l e_ rm_L_isReel_24_144 s_ m_ a_ b_ h_ c_ Q E A 17 σ (ka + 1) (na + 6) 452 [(9, .int (iI (cs + (sc (σ 2) r c)))), (12, .int (iI (sc (σ 2) r c))), (11, .int (iI w11)), (0, .ref (ea E 0)), (1, .int (iI r)), (2, .ref (eb E)), (3, .int (iI k)), (4, .int (iI ((σ 2) (240 + r)))), (5, .int (iI bf)), (6, .int (iI tn)), (7, .int (iI yr)), (8, .int (iI xl)), (10, .int (iI c))] [.int (iI 1)] := by
                  refine g_istore C (L' := [(13, .int (iI 1)), (9, .int (iI (cs + (sc (σ 2) r c)))), (12, .int (iI (sc (σ 2) r c))), (11, .int (iI w11)), (0, .ref (ea E 0)), (1, .int (iI r)), (2, .ref (eb E)), (3, .int (iI k)), (4, .int (iI ((σ 2) (240 + r)))), (5, .int (iI bf)), (6, .int (iI tn)), (7, .int (iI yr)), (8, .int (iI xl)), (10, .int (iI c))]) dL_isReel_452 (by decide) rfl (q := 454) rfl ?_
                  have j454_10 : GG p_ l e_ rm_L_isReel_24_144 s_ m_ a_ b_ h_ c_ Q E A 17 σ (ka + 2) (na + 12) 493 [(13, .int (iI 1)), (9, .int (iI (cs + (sc (σ 2) r c)))), (12, .int (iI (sc (σ 2) r c))), (11, .int (iI w11)), (0, .ref (ea E 0)), (1, .int (iI r)), (2, .ref (eb E)), (3, .int (iI k)), (4, .int (iI ((σ 2) (240 + r)))), (5, .int (iI bf)), (6, .int (iI tn)), (7, .int (iI yr)), (8, .int (iI xl)), (10, .int (iI c))] [] := by
                    refine g_iinc C (L' := [(10, .int (iI (c + 1))), (13, .int (iI 1)), (9, .int (iI (cs + (sc (σ 2) r c)))), (12, .int (iI (sc (σ 2) r c))), (11, .int (iI w11)), (0, .ref (ea E 0)), (1, .int (iI r)), (2, .ref (eb E)), (3, .int (iI k)), (4, .int (iI ((σ 2) (240 + r)))), (5, .int (iI bf)), (6, .int (iI tn)), (7, .int (iI yr)), (8, .int (iI xl))]) dL_isReel_493 13 rfl (by decide) rfl (q := 496) rfl ?_
                    refine g_goto C dL_isReel_496 (q := 362) rfl ?_
                    refine g_sub [5, 6, 7, 8, 9, 10, 11, 12, 13, 2, 0] (L' := [(0, .ref (ea E 0)), (1, .int (iI r)), (2, .ref (eb E)), (3, .int (iI k)), (4, .int (iI ((σ 2) (240 + r)))), (5, .int (iI bf)), (6, .int (iI tn)), (7, .int (iI yr)), (8, .int (iI xl)), (9, .int (iI (cs + (sc (σ 2) r c)))), (10, .int (iI (c + 1)))]) rfl ?_
                    exact ih362 (cs + (sc (σ 2) r c)) (c + 1) (ka + 2) (na + 12) (by omega) (by omega) (by rw [sI_snoc (by omega), ← hcs]) (by omega) (by omega)
                  refine g_iload C dL_isReel_454 8 rfl (q := 456) rfl ?_
                  rcases (show ((σ 2) (240 + r) = 0) ∨ ((σ 2) (240 + r) ≠ 0) by omega) with hm0 | hm0
                  · skip
                    refine g_if_ne C dL_isReel_456 (by omega) (q2 := 464) rfl (q := 459) rfl (fun hb40 => ?_) (fun hb40 => ?_)
                    · skip
                      exfalso; omega
                    · skip
                      refine g_ldcf C lc_ldcf_154 dL_isReel_459 (q := 461) rfl ?_
                      refine g_goto C dL_isReel_461 (q := 471) rfl ?_
                      refine g_fstore C (L' := [(14, .float (3264479232 : UInt32)), (13, .int (iI 1)), (9, .int (iI (cs + (sc (σ 2) r c)))), (12, .int (iI (sc (σ 2) r c))), (11, .int (iI w11)), (0, .ref (ea E 0)), (1, .int (iI r)), (2, .ref (eb E)), (3, .int (iI k)), (4, .int (iI ((σ 2) (240 + r)))), (5, .int (iI bf)), (6, .int (iI tn)), (7, .int (iI yr)), (8, .int (iI xl)), (10, .int (iI c))]) dL_isReel_471 (by decide) rfl (q := 473) rfl ?_
                      refine g_iload C dL_isReel_473 1 rfl (q := 475) rfl ?_
                      refine g_if_eq C dL_isReel_475 (by omega) (q2 := 491) rfl (q := 478) rfl (fun hb41 => ?_) (fun hb41 => ?_)
                      · skip
                        exfalso; omega
                      · skip
                        refine g_aload_n C dL_isReel_478 5 rfl rfl (q := 479) rfl ?_
                        refine g_iload_n C dL_isReel_479 6 rfl rfl (q := 480) rfl ?_
                        refine g_iload C dL_isReel_480 14 rfl (q := 482) rfl ?_
                        refine g_cT_f C (hh := th_L_colourShare) (As := [.ref (ea E 0), .int (iI r), .int (iI c)]) (c_L_colourShare_3 l hst E _ r c  (by first | assumption | omega) (by first | assumption | omega) (by first | assumption | omega) (by first | assumption | omega) (by exact fR_ok (by omega)) (by exact fC_ok (by omega)) (by first | assumption | omega)) ml_L_298 mf_L_colourShare rfl ⟨(Nat.le_of_ble_eq_true rfl), (Nat.le_of_ble_eq_true rfl)⟩ rfl rfl rfl (Nat.le_of_ble_eq_true rfl) ⟨by show (ka + 1) + 1 ≤ 24; omega, by show (na + 6) + 6 ≤ 144; omega⟩ dL_isReel_482 (q := 485) rfl ?_
                        refine g_k (k2 := (ka + 2)) (n2 := (na + 12)) (by omega) (by omega) ?_
                        refine g_fload C dL_isReel_485 0 rfl (q := 487) rfl ?_
                        refine g_fcmpE C (by decide +kernel) dL_isReel_487 (q := 488) rfl ?_
                        refine g_if_eq C dL_isReel_488 (by omega) (q2 := 493) rfl (q := 491) rfl (fun hb42 => ?_) (fun hb42 => ?_)
                        · skip
                          refine g_sub [1, 2, 3, 4, 5, 6, 7, 8, 9, 10, 11, 12, 13, 14] (L' := [(13, .int (iI 1)), (9, .int (iI (cs + (sc (σ 2) r c)))), (12, .int (iI (sc (σ 2) r c))), (11, .int (iI w11)), (0, .ref (ea E 0)), (1, .int (iI r)), (2, .ref (eb E)), (3, .int (iI k)), (4, .int (iI ((σ 2) (240 + r)))), (5, .int (iI bf)), (6, .int (iI tn)), (7, .int (iI yr)), (8, .int (iI xl)), (10, .int (iI c))]) rfl ?_
                          exact j454_10 
                        · skip
                          exfalso; omega
                  · skip
                    refine g_if_ne C dL_isReel_456 (by omega) (q2 := 464) rfl (q := 459) rfl (fun hb43 => ?_) (fun hb43 => ?_)
                    · skip
                      refine g_iload C dL_isReel_464 2 rfl (q := 466) rfl ?_
                      refine g_i2f C dL_isReel_466 (q := 467) rfl ?_
                      refine g_iload C dL_isReel_467 9 rfl (q := 469) rfl ?_
                      refine g_i2f C dL_isReel_469 (q := 470) rfl ?_
                      refine g_fdiv C (by exact nn32 (by omega) (by omega)) dL_isReel_470 (q := 471) rfl ?_
                      refine g_fstore C (L' := [(14, .float (FP.fdiv (FP.i2f (iI (sc (σ 2) r c))) (FP.i2f (iI bf)))), (13, .int (iI 1)), (9, .int (iI (cs + (sc (σ 2) r c)))), (12, .int (iI (sc (σ 2) r c))), (11, .int (iI w11)), (0, .ref (ea E 0)), (1, .int (iI r)), (2, .ref (eb E)), (3, .int (iI k)), (4, .int (iI ((σ 2) (240 + r)))), (5, .int (iI bf)), (6, .int (iI tn)), (7, .int (iI yr)), (8, .int (iI xl)), (10, .int (iI c))]) dL_isReel_471 (by decide) rfl (q := 473) rfl ?_
                      refine g_iload C dL_isReel_473 1 rfl (q := 475) rfl ?_
                      refine g_if_eq C dL_isReel_475 (by omega) (q2 := 491) rfl (q := 478) rfl (fun hb44 => ?_) (fun hb44 => ?_)
                      · skip
                        exfalso; omega
                      · skip
                        refine g_aload_n C dL_isReel_478 5 rfl rfl (q := 479) rfl ?_
                        refine g_iload_n C dL_isReel_479 6 rfl rfl (q := 480) rfl ?_
                        refine g_iload C dL_isReel_480 14 rfl (q := 482) rfl ?_
                        refine g_cT_f C (hh := th_L_colourShare) (As := [.ref (ea E 0), .int (iI r), .int (iI c)]) (c_L_colourShare l hst E _ r c  (by first | assumption | omega) (by first | assumption | omega) (by first | assumption | omega) (by first | assumption | omega) (by exact fR_ok (by omega)) (by exact fC_ok (by omega)) (by first | assumption | omega)) ml_L_298 mf_L_colourShare rfl ⟨(Nat.le_of_ble_eq_true rfl), (Nat.le_of_ble_eq_true rfl)⟩ rfl rfl rfl (Nat.le_of_ble_eq_true rfl) ⟨by show (ka + 1) + 0 ≤ 24; omega, by show (na + 6) + 0 ≤ 144; omega⟩ dL_isReel_482 (q := 485) rfl ?_
                        refine g_k (k2 := (ka + 1)) (n2 := (na + 6)) (by omega) (by omega) ?_
                        refine g_fload C dL_isReel_485 0 rfl (q := 487) rfl ?_
                        refine g_fcmpE C (by rw [qsb2]; obtain ⟨v9, hv9, hw9⟩ := dv32 (a := sc (σ 2) r c) (b := bf) (by omega) (by omega); rw [hv9]; exact fcmp_self hw9) dL_isReel_487 (q := 488) rfl ?_
                        refine g_if_eq C dL_isReel_488 (by omega) (q2 := 493) rfl (q := 491) rfl (fun hb45 => ?_) (fun hb45 => ?_)
                        · skip
                          refine g_wide (k2 := (ka + 2)) (n2 := (na + 12)) (by omega) (by omega) ?_
                          refine g_sub [1, 2, 3, 4, 5, 6, 7, 8, 9, 10, 11, 12, 13, 14] (L' := [(13, .int (iI 1)), (9, .int (iI (cs + (sc (σ 2) r c)))), (12, .int (iI (sc (σ 2) r c))), (11, .int (iI w11)), (0, .ref (ea E 0)), (1, .int (iI r)), (2, .ref (eb E)), (3, .int (iI k)), (4, .int (iI ((σ 2) (240 + r)))), (5, .int (iI bf)), (6, .int (iI tn)), (7, .int (iI yr)), (8, .int (iI xl)), (10, .int (iI c))]) rfl ?_
                          exact j454_10 
                        · skip
                          exfalso; omega
                    · skip
                      exfalso; omega
                refine g_iload C dL_isReel_405 2 rfl (q := 407) rfl ?_
                refine g_if_lt C dL_isReel_407 (by omega) (q2 := 442) rfl (q := 410) rfl (fun hb46 => ?_) (fun hb46 => ?_)
                · skip
                  refine g_iload C dL_isReel_442 1 rfl (q := 444) rfl ?_
                  refine g_if_ne C dL_isReel_444 (by omega) (q2 := 451) rfl (q := 447) rfl (fun hb47 => ?_) (fun hb47 => ?_)
                  · skip
                    exfalso; omega
                  · skip
                    refine g_iconst C dL_isReel_447 (q := 448) rfl ?_
                    refine g_goto C dL_isReel_448 (q := 452) rfl ?_
                    exact j405_9 
                · skip
                  have hs11 := (hW r hr).2 w11 (by omega)
                  refine g_aload_n C dL_isReel_410 3 rfl rfl (q := 411) rfl ?_
                  refine g_iload_n C dL_isReel_411 4 rfl rfl (q := 412) rfl ?_
                  refine g_iload C dL_isReel_412 2 rfl (q := 414) rfl ?_
                  refine g_cT_i C (hh := th_L_colour) (As := [.ref (ea E 0), .int (iI r), .int (iI w11)]) (c_L_colour l hst E _ r w11  (by first | assumption | omega) (by first | assumption | omega) (by first | assumption | omega) (by exact fP_ok (by omega) (by omega))) ml_L_282 mf_L_colour rfl ⟨(Nat.le_of_ble_eq_true rfl), (Nat.le_of_ble_eq_true rfl)⟩ rfl rfl rfl (Nat.le_of_ble_eq_true rfl) ⟨by show (ka + 1) + 0 ≤ 24; omega, by show (na + 6) + 0 ≤ 144; omega⟩ dL_isReel_414 (q := 417) rfl ?_
                  refine g_k (k2 := (ka + 1)) (n2 := (na + 6)) (by omega) (by omega) ?_
                  refine g_iload C dL_isReel_417 12 rfl (q := 419) rfl ?_
                  refine g_icmp_ne C dL_isReel_419 (by omega) (q2 := 438) rfl (q := 422) rfl (fun hb48 => ?_) (fun hb48 => ?_)
                  · skip
                    exfalso; omega
                  · skip
                    refine g_iload C dL_isReel_422 1 rfl (q := 424) rfl ?_
                    refine g_aload_n C dL_isReel_424 3 rfl rfl (q := 425) rfl ?_
                    refine g_iload_n C dL_isReel_425 4 rfl rfl (q := 426) rfl ?_
                    refine g_iload C dL_isReel_426 2 rfl (q := 428) rfl ?_
                    refine g_cT_i C (hh := th_L_length) (As := [.ref (ea E 0), .int (iI r), .int (iI w11)]) (c_L_length l hst E _ r w11  (by first | assumption | omega) (by first | assumption | omega) (by first | assumption | omega) (by exact fP_ok (by omega) (by omega))) ml_L_280 mf_L_length rfl ⟨(Nat.le_of_ble_eq_true rfl), (Nat.le_of_ble_eq_true rfl)⟩ rfl rfl rfl (Nat.le_of_ble_eq_true rfl) ⟨by show (ka + 1) + 0 ≤ 24; omega, by show (na + 6) + 0 ≤ 144; omega⟩ dL_isReel_428 (q := 431) rfl ?_
                    refine g_k (k2 := (ka + 1)) (n2 := (na + 6)) (by omega) (by omega) ?_
                    refine g_icmp_lt C dL_isReel_431 (by omega) (q2 := 438) rfl (q := 434) rfl (fun hb49 => ?_) (fun hb49 => ?_)
                    · skip
                      exfalso; omega
                    · skip
                      refine g_iconst C dL_isReel_434 (q := 435) rfl ?_
                      refine g_goto C dL_isReel_435 (q := 452) rfl ?_
                      exact j405_9 
              refine g_iload C dL_isReel_369 4 rfl (q := 371) rfl ?_
              refine g_if_ne C dL_isReel_371 (by omega) (q2 := 379) rfl (q := 374) rfl (fun hb50 => ?_) (fun hb50 => ?_)
              · skip
                refine g_aload_n C dL_isReel_379 0 rfl rfl (q := 380) rfl ?_
                refine g_iload_n C dL_isReel_380 1 rfl rfl (q := 381) rfl ?_
                refine g_iconst C dL_isReel_381 (q := 382) rfl ?_
                refine g_iload C dL_isReel_382 10 rfl (q := 384) rfl ?_
                rcases (show (fI (coP (σ 2) r c) 0 ((σ 2) (240 + r)) = -1) ∨ (fI (coP (σ 2) r c) 0 ((σ 2) (240 + r)) ≠ -1) by omega) with hf0 | hf0
                · skip
                  refine g_cT_i C (hh := th_L_nextOfColour) (As := [.ref (ea E 0), .int (iI r), .int (iI 0), .int (iI c)]) (c_L_nextOfColour_n l hst E _ r 0 c  (by first | assumption | omega) (by first | assumption | omega) (by first | assumption | omega) (by first | assumption | omega) (by exact fP_ok (by omega) (by omega)) (by exact fC_ok (by omega)) (by exact hf0)) ml_L_294 mf_L_nextOfColour rfl ⟨(Nat.le_of_ble_eq_true rfl), (Nat.le_of_ble_eq_true rfl)⟩ rfl rfl rfl (Nat.le_of_ble_eq_true rfl) ⟨by show ka + 1 ≤ 24; omega, by show na + 6 ≤ 144; omega⟩ dL_isReel_384 (q := 387) rfl ?_
                  refine g_k (k2 := (ka + 1)) (n2 := (na + 6)) (by omega) (by omega) ?_
                  exact j369_8 (-75) (by first | exact Or.inl ⟨by omega, sc_zero (by omega), by omega⟩ | exact Or.inl ⟨by omega, sc_none hf0, by omega⟩ | exact Or.inr (sc_some hW hr hf0))
                · skip
                  refine g_cT_i C (hh := th_L_nextOfColour) (As := [.ref (ea E 0), .int (iI r), .int (iI 0), .int (iI c)]) (c_L_nextOfColour l hst E _ r 0 c  (by first | assumption | omega) (by first | assumption | omega) (by first | assumption | omega) (by first | assumption | omega) (by exact fP_ok (by omega) (by omega)) (by exact fC_ok (by omega)) (by exact hf0)) ml_L_294 mf_L_nextOfColour rfl ⟨(Nat.le_of_ble_eq_true rfl), (Nat.le_of_ble_eq_true rfl)⟩ rfl rfl rfl (Nat.le_of_ble_eq_true rfl) ⟨by show ka + 0 ≤ 24; omega, by show na + 0 ≤ 144; omega⟩ dL_isReel_384 (q := 387) rfl ?_
                  refine g_k (k2 := ka) (n2 := na) (by omega) (by omega) ?_
                  refine g_wide (k2 := (ka + 1)) (n2 := (na + 6)) (by omega) (by omega) ?_
                  exact j369_8 (fI (coP (σ 2) r c) 0 ((σ 2) (240 + r))) (by first | exact Or.inl ⟨by omega, sc_zero (by omega), by omega⟩ | exact Or.inl ⟨by omega, sc_none hf0, by omega⟩ | exact Or.inr (sc_some hW hr hf0))
              · skip
                refine g_bipush C dL_isReel_374 (by decide) (q := 376) rfl ?_
                refine g_goto C dL_isReel_376 (q := 387) rfl ?_
                refine g_wide (k2 := (ka + 1)) (n2 := (na + 6)) (by omega) (by omega) ?_
                exact j369_8 (-77) (by first | exact Or.inl ⟨by omega, sc_zero (by omega), by omega⟩ | exact Or.inl ⟨by omega, sc_none hf0, by omega⟩ | exact Or.inr (sc_some hW hr hf0))
        exact lp362 _ 0 0 0 0 (Nat.lt_succ_self _) (by omega) (by exact (sI_nil (Int.le_refl 0)).symm) (by omega) (by omega)
      · skip
        have hs := (hW r hr).2 p (by omega)
        have q1 : sI (lgs (σ 2) r) 0 (p + 1) = bf + (σ 2) (r * 60 + p) / 8 := by rw [sI_snoc (by omega), ← hbf]; rfl
        have q2 := sum_rg hW (r := r) (a := 0) (b := p) hr (by omega)
        rw [← hbf] at q2
        have qA := sgA_ok (f := (σ 2)) (r := r) (k := p) (by omega)
        have qS : sb (σ 2) r p = bf := by rw [sb_eq hP hr hn.2 (by omega)]; exact hbf.symm
        have qP1 : po (σ 2) r bf = p := po_at hW hr (by omega) (by rw [q1, ← hbf]; omega)
        have qP2 : po (σ 2) r (bf + (σ 2) (r * 60 + p) / 8 - 1) = p := po_at hW hr (by omega) (by rw [q1, ← hbf]; omega)
        have qI := iT_01 (σ 2) r p
        have qT1 := tg_01 (σ 2) r (p - 1)
        have qT2 := tg_01 (σ 2) r p
        refine g_aload_n C dL_isReel_29 0 rfl rfl (q := 30) rfl ?_
        refine g_iload_n C dL_isReel_30 1 rfl rfl (q := 31) rfl ?_
        refine g_iload C dL_isReel_31 9 rfl (q := 33) rfl ?_
        refine g_cT_i C (hh := th_L_length) (As := [.ref (ea E 0), .int (iI r), .int (iI p)]) (c_L_length l hst E _ r p  (by first | assumption | omega) (by first | assumption | omega) (by first | assumption | omega) (by exact fP_ok (by omega) (by omega))) ml_L_280 mf_L_length rfl ⟨(Nat.le_of_ble_eq_true rfl), (Nat.le_of_ble_eq_true rfl)⟩ rfl rfl rfl (Nat.le_of_ble_eq_true rfl) ⟨(Nat.le_of_ble_eq_true rfl), (Nat.le_of_ble_eq_true rfl)⟩ dL_isReel_33 (q := 36) rfl ?_
        refine g_istore C (L' := [(10, .int (iI ((σ 2) (r * 60 + p) / 8))), (0, .ref (ea E 0)), (1, .int (iI r)), (2, .ref (eb E)), (3, .int (iI k)), (4, .int (iI ((σ 2) (240 + r)))), (5, .int (iI bf)), (6, .int (iI tn)), (7, .int (iI yr)), (8, .int (iI xl)), (9, .int (iI p))]) dL_isReel_36 (by decide) rfl (q := 38) rfl ?_
        have j38_11 : ∀ (w11 : Int), (w11 = tg (σ 2) r (p - 1)) → GG p_ l e_ rm_L_isReel_24_144 s_ m_ a_ b_ h_ c_ Q E A 17 σ 0 0 67 [(10, .int (iI ((σ 2) (r * 60 + p) / 8))), (0, .ref (ea E 0)), (1, .int (iI r)), (2, .ref (eb E)), (3, .int (iI k)), (4, .int (iI ((σ 2) (240 + r)))), (5, .int (iI bf)), (6, .int (iI tn)), (7, .int (iI yr)), (8, .int (iI xl)), (9, .int (iI p))] [.int (iI w11)] := by
          intro w11 h11
          refine g_istore C (L' := [(11, .int (iI w11)), (10, .int (iI ((σ 2) (r * 60 + p) / 8))), (0, .ref (ea E 0)), (1, .int (iI r)), (2, .ref (eb E)), (3, .int (iI k)), (4, .int (iI ((σ 2) (240 + r)))), (5, .int (iI bf)), (6, .int (iI tn)), (7, .int (iI yr)), (8, .int (iI xl)), (9, .int (iI p))]) dL_isReel_67 (by decide) rfl (q := 69) rfl ?_
          have j69_12 : ∀ (w12 : Int), (w12 = tg (σ 2) r p) → GG p_ l e_ rm_L_isReel_24_144 s_ m_ a_ b_ h_ c_ Q E A 17 σ 0 0 102 [(11, .int (iI w11)), (10, .int (iI ((σ 2) (r * 60 + p) / 8))), (0, .ref (ea E 0)), (1, .int (iI r)), (2, .ref (eb E)), (3, .int (iI k)), (4, .int (iI ((σ 2) (240 + r)))), (5, .int (iI bf)), (6, .int (iI tn)), (7, .int (iI yr)), (8, .int (iI xl)), (9, .int (iI p))] [.int (iI w12)] := by
            intro w12 h12
            refine g_istore C (L' := [(12, .int (iI w12)), (11, .int (iI w11)), (10, .int (iI ((σ 2) (r * 60 + p) / 8))), (0, .ref (ea E 0)), (1, .int (iI r)), (2, .ref (eb E)), (3, .int (iI k)), (4, .int (iI ((σ 2) (240 + r)))), (5, .int (iI bf)), (6, .int (iI tn)), (7, .int (iI yr)), (8, .int (iI xl)), (9, .int (iI p))]) dL_isReel_102 (by decide) rfl (q := 104) rfl ?_
            refine g_aload_n C dL_isReel_104 3 rfl rfl (q := 105) rfl ?_
            refine g_iload_n C dL_isReel_105 4 rfl rfl (q := 106) rfl ?_
            refine g_iload C dL_isReel_106 12 rfl (q := 108) rfl ?_
            refine g_cT_i C (hh := th_L_segmentAtRank) (As := [.ref (ea E 0), .int (iI r), .int (iI p)]) (c_L_segmentAtRank l hst E _ r p  (by first | assumption | omega) (by first | assumption | omega) (by first | assumption | omega) (by exact fR_ok (by omega)) (by exact qA.1)) ml_L_284 mf_L_segmentAtRank rfl ⟨(Nat.le_of_ble_eq_true rfl), (Nat.le_of_ble_eq_true rfl)⟩ rfl rfl rfl (Nat.le_of_ble_eq_true rfl) ⟨(Nat.le_of_ble_eq_true rfl), (Nat.le_of_ble_eq_true rfl)⟩ dL_isReel_108 (q := 111) rfl ?_
            refine g_top (b := sgA (σ 2) r p) (by rfl) ?_
            refine g_istore C (L' := [(13, .int (iI (sgA (σ 2) r p))), (12, .int (iI w12)), (11, .int (iI w11)), (10, .int (iI ((σ 2) (r * 60 + p) / 8))), (0, .ref (ea E 0)), (1, .int (iI r)), (2, .ref (eb E)), (3, .int (iI k)), (4, .int (iI ((σ 2) (240 + r)))), (5, .int (iI bf)), (6, .int (iI tn)), (7, .int (iI yr)), (8, .int (iI xl)), (9, .int (iI p))]) dL_isReel_111 (by decide) rfl (q := 113) rfl ?_
            have j113_13 : ∀ (w14 : Int), ((p = 0 ∧ w14 = sgA (σ 2) r p) ∨ (0 < p ∧ w14 = sgA (σ 2) r (p - 1))) → GG p_ l e_ rm_L_isReel_24_144 s_ m_ a_ b_ h_ c_ Q E A 17 σ 0 0 132 [(13, .int (iI (sgA (σ 2) r p))), (12, .int (iI w12)), (11, .int (iI w11)), (10, .int (iI ((σ 2) (r * 60 + p) / 8))), (0, .ref (ea E 0)), (1, .int (iI r)), (2, .ref (eb E)), (3, .int (iI k)), (4, .int (iI ((σ 2) (240 + r)))), (5, .int (iI bf)), (6, .int (iI tn)), (7, .int (iI yr)), (8, .int (iI xl)), (9, .int (iI p))] [.int (iI w14)] := by
              intro w14 h14
              have h15 := sg_rank (f := (σ 2)) (r := r) (p := p) (by omega) h14
              have hs14 := (hW r hr).2 w14 h15.1
              have hs13 := (hW r hr).2 _ qA.2.1
              refine g_istore C (L' := [(14, .int (iI w14)), (13, .int (iI (sgA (σ 2) r p))), (12, .int (iI w12)), (11, .int (iI w11)), (10, .int (iI ((σ 2) (r * 60 + p) / 8))), (0, .ref (ea E 0)), (1, .int (iI r)), (2, .ref (eb E)), (3, .int (iI k)), (4, .int (iI ((σ 2) (240 + r)))), (5, .int (iI bf)), (6, .int (iI tn)), (7, .int (iI yr)), (8, .int (iI xl)), (9, .int (iI p))]) dL_isReel_132 (by decide) rfl (q := 134) rfl ?_
              have j134_14 : GG p_ l e_ rm_L_isReel_24_144 s_ m_ a_ b_ h_ c_ Q E A 17 σ 0 0 192 [(14, .int (iI w14)), (13, .int (iI (sgA (σ 2) r p))), (12, .int (iI w12)), (11, .int (iI w11)), (10, .int (iI ((σ 2) (r * 60 + p) / 8))), (0, .ref (ea E 0)), (1, .int (iI r)), (2, .ref (eb E)), (3, .int (iI k)), (4, .int (iI ((σ 2) (240 + r)))), (5, .int (iI bf)), (6, .int (iI tn)), (7, .int (iI yr)), (8, .int (iI xl)), (9, .int (iI p))] [.int (iI 1)] := by
                refine g_istore C (L' := [(15, .int (iI 1)), (14, .int (iI w14)), (13, .int (iI (sgA (σ 2) r p))), (12, .int (iI w12)), (11, .int (iI w11)), (10, .int (iI ((σ 2) (r * 60 + p) / 8))), (0, .ref (ea E 0)), (1, .int (iI r)), (2, .ref (eb E)), (3, .int (iI k)), (4, .int (iI ((σ 2) (240 + r)))), (5, .int (iI bf)), (6, .int (iI tn)), (7, .int (iI yr)), (8, .int (iI xl)), (9, .int (iI p))]) dL_isReel_192 (by decide) rfl (q := 194) rfl ?_
                have j194_15 : GG p_ l e_ rm_L_isReel_24_144 s_ m_ a_ b_ h_ c_ Q E A 17 σ 0 0 252 [(15, .int (iI 1)), (14, .int (iI w14)), (13, .int (iI (sgA (σ 2) r p))), (12, .int (iI w12)), (11, .int (iI w11)), (10, .int (iI ((σ 2) (r * 60 + p) / 8))), (0, .ref (ea E 0)), (1, .int (iI r)), (2, .ref (eb E)), (3, .int (iI k)), (4, .int (iI ((σ 2) (240 + r)))), (5, .int (iI bf)), (6, .int (iI tn)), (7, .int (iI yr)), (8, .int (iI xl)), (9, .int (iI p))] [.int (iI 1)] := by
                  refine g_istore C (L' := [(16, .int (iI 1)), (15, .int (iI 1)), (14, .int (iI w14)), (13, .int (iI (sgA (σ 2) r p))), (12, .int (iI w12)), (11, .int (iI w11)), (10, .int (iI ((σ 2) (r * 60 + p) / 8))), (0, .ref (ea E 0)), (1, .int (iI r)), (2, .ref (eb E)), (3, .int (iI k)), (4, .int (iI ((σ 2) (240 + r)))), (5, .int (iI bf)), (6, .int (iI tn)), (7, .int (iI yr)), (8, .int (iI xl)), (9, .int (iI p))]) dL_isReel_252 (by decide) rfl (q := 254) rfl ?_
                  refine g_iload C dL_isReel_254 1 rfl (q := 256) rfl ?_
                  refine g_if_eq C dL_isReel_256 (by omega) (q2 := 302) rfl (q := 259) rfl (fun hb51 => ?_) (fun hb51 => ?_)
                  · skip
                    exfalso; omega
                  · skip
                    refine g_iload C dL_isReel_259 0 rfl (q := 261) rfl ?_
                    refine g_if_eq C dL_isReel_261 (by omega) (q2 := 302) rfl (q := 264) rfl (fun hb52 => ?_) (fun hb52 => ?_)
                    · skip
                      exfalso; omega
                    · skip
                      refine g_aload_n C dL_isReel_264 7 rfl rfl (q := 265) rfl ?_
                      refine g_iload_n C dL_isReel_265 8 rfl rfl (q := 266) rfl ?_
                      refine g_iload C dL_isReel_266 16 rfl (q := 268) rfl ?_
                      refine g_cT_i C (hh := th_L_isTangled) (As := [.ref (ea E 0), .int (iI r), .int (iI p)]) (c_L_isTangled l hst E _ r p  (by first | assumption | omega) (by first | assumption | omega) (by first | assumption | omega) (by exact fP_ok (by omega) (by omega))) ml_L_292 mf_L_isTangled rfl ⟨(Nat.le_of_ble_eq_true rfl), (Nat.le_of_ble_eq_true rfl)⟩ rfl rfl rfl (Nat.le_of_ble_eq_true rfl) ⟨(Nat.le_of_ble_eq_true rfl), (Nat.le_of_ble_eq_true rfl)⟩ dL_isReel_268 (q := 271) rfl ?_
                      have j271_16 : GG p_ l e_ rm_L_isReel_24_144 s_ m_ a_ b_ h_ c_ Q E A 17 σ 0 0 286 [(16, .int (iI 1)), (15, .int (iI 1)), (14, .int (iI w14)), (13, .int (iI (sgA (σ 2) r p))), (12, .int (iI w12)), (11, .int (iI w11)), (10, .int (iI ((σ 2) (r * 60 + p) / 8))), (0, .ref (ea E 0)), (1, .int (iI r)), (2, .ref (eb E)), (3, .int (iI k)), (4, .int (iI ((σ 2) (240 + r)))), (5, .int (iI bf)), (6, .int (iI tn)), (7, .int (iI yr)), (8, .int (iI xl)), (9, .int (iI p))] [.int (iI (iT (σ 2) r p)), .int (iI (iT (σ 2) r p))] := by
                        refine g_icmp_ne C dL_isReel_286 (by omega) (q2 := 302) rfl (q := 289) rfl (fun hb53 => ?_) (fun hb53 => ?_)
                        · skip
                          exfalso; omega
                        · skip
                          refine g_iload C dL_isReel_289 6 rfl (q := 291) rfl ?_
                          refine g_iconst C dL_isReel_291 (q := 292) rfl ?_
                          refine g_icmp_lt C dL_isReel_292 (by omega) (q2 := 302) rfl (q := 295) rfl (fun hb54 => ?_) (fun hb54 => ?_)
                          · skip
                            exfalso; omega
                          · skip
                            refine g_iload C dL_isReel_295 6 rfl (q := 297) rfl ?_
                            refine g_bipush C dL_isReel_297 (by decide) (q := 299) rfl ?_
                            refine g_icmp_le C dL_isReel_299 (by omega) (q2 := 304) rfl (q := 302) rfl (fun hb55 => ?_) (fun hb55 => ?_)
                            · skip
                              refine g_iload C dL_isReel_304 12 rfl (q := 306) rfl ?_
                              refine g_iload C dL_isReel_306 6 rfl (q := 308) rfl ?_
                              refine g_iadd C dL_isReel_308 (q := 309) rfl ?_
                              refine g_istore C (L' := [(5, .int (iI (bf + ((σ 2) (r * 60 + p) / 8)))), (16, .int (iI 1)), (15, .int (iI 1)), (14, .int (iI w14)), (13, .int (iI (sgA (σ 2) r p))), (12, .int (iI w12)), (11, .int (iI w11)), (10, .int (iI ((σ 2) (r * 60 + p) / 8))), (0, .ref (ea E 0)), (1, .int (iI r)), (2, .ref (eb E)), (3, .int (iI k)), (4, .int (iI ((σ 2) (240 + r)))), (6, .int (iI tn)), (7, .int (iI yr)), (8, .int (iI xl)), (9, .int (iI p))]) dL_isReel_309 (by decide) rfl (q := 311) rfl ?_
                              refine g_iload C dL_isReel_311 13 rfl (q := 313) rfl ?_
                              have j313_17 : GG p_ l e_ rm_L_isReel_24_144 s_ m_ a_ b_ h_ c_ Q E A 17 σ 0 0 323 [(5, .int (iI (bf + ((σ 2) (r * 60 + p) / 8)))), (16, .int (iI 1)), (15, .int (iI 1)), (14, .int (iI w14)), (13, .int (iI (sgA (σ 2) r p))), (12, .int (iI w12)), (11, .int (iI w11)), (10, .int (iI ((σ 2) (r * 60 + p) / 8))), (0, .ref (ea E 0)), (1, .int (iI r)), (2, .ref (eb E)), (3, .int (iI k)), (4, .int (iI ((σ 2) (240 + r)))), (6, .int (iI tn)), (7, .int (iI yr)), (8, .int (iI xl)), (9, .int (iI p))] [.int (iI w11), .int (iI tn)] := by
                                refine g_iadd C dL_isReel_323 (q := 324) rfl ?_
                                refine g_istore C (L' := [(6, .int (iI (tn + w11))), (5, .int (iI (bf + ((σ 2) (r * 60 + p) / 8)))), (16, .int (iI 1)), (15, .int (iI 1)), (14, .int (iI w14)), (13, .int (iI (sgA (σ 2) r p))), (12, .int (iI w12)), (11, .int (iI w11)), (10, .int (iI ((σ 2) (r * 60 + p) / 8))), (0, .ref (ea E 0)), (1, .int (iI r)), (2, .ref (eb E)), (3, .int (iI k)), (4, .int (iI ((σ 2) (240 + r)))), (7, .int (iI yr)), (8, .int (iI xl)), (9, .int (iI p))]) dL_isReel_324 (by decide) rfl (q := 326) rfl ?_
                                have j326_18 : ∀ (w7 : Int), ((w11 = 0 ∧ w7 = 1) ∨ (w11 = 1 ∧ w7 = yr + 1)) → GG p_ l e_ rm_L_isReel_24_144 s_ m_ a_ b_ h_ c_ Q E A 17 σ 0 0 339 [(6, .int (iI (tn + w11))), (5, .int (iI (bf + ((σ 2) (r * 60 + p) / 8)))), (16, .int (iI 1)), (15, .int (iI 1)), (14, .int (iI w14)), (13, .int (iI (sgA (σ 2) r p))), (12, .int (iI w12)), (11, .int (iI w11)), (10, .int (iI ((σ 2) (r * 60 + p) / 8))), (0, .ref (ea E 0)), (1, .int (iI r)), (2, .ref (eb E)), (3, .int (iI k)), (4, .int (iI ((σ 2) (240 + r)))), (7, .int (iI yr)), (8, .int (iI xl)), (9, .int (iI p))] [.int (iI w7)] := by
                                  intro w7 h7
                                  refine g_istore C (L' := [(7, .int (iI w7)), (6, .int (iI (tn + w11))), (5, .int (iI (bf + ((σ 2) (r * 60 + p) / 8)))), (16, .int (iI 1)), (15, .int (iI 1)), (14, .int (iI w14)), (13, .int (iI (sgA (σ 2) r p))), (12, .int (iI w12)), (11, .int (iI w11)), (10, .int (iI ((σ 2) (r * 60 + p) / 8))), (0, .ref (ea E 0)), (1, .int (iI r)), (2, .ref (eb E)), (3, .int (iI k)), (4, .int (iI ((σ 2) (240 + r)))), (8, .int (iI xl)), (9, .int (iI p))]) dL_isReel_339 (by decide) rfl (q := 341) rfl ?_
                                  refine g_iload C dL_isReel_341 15 rfl (q := 343) rfl ?_
                                  refine g_iload C dL_isReel_343 0 rfl (q := 345) rfl ?_
                                  refine g_max C ml_L_200 (by omega) dL_isReel_345 (Nat.le_of_ble_eq_true rfl) (Nat.le_of_ble_eq_true rfl) (Nat.le_of_ble_eq_true rfl) (Nat.le_of_ble_eq_true rfl) (q := 348) rfl ?_
                                  refine g_istore C (L' := [(8, .int (iI (max xl w7))), (7, .int (iI w7)), (6, .int (iI (tn + w11))), (5, .int (iI (bf + ((σ 2) (r * 60 + p) / 8)))), (16, .int (iI 1)), (15, .int (iI 1)), (14, .int (iI w14)), (13, .int (iI (sgA (σ 2) r p))), (12, .int (iI w12)), (11, .int (iI w11)), (10, .int (iI ((σ 2) (r * 60 + p) / 8))), (0, .ref (ea E 0)), (1, .int (iI r)), (2, .ref (eb E)), (3, .int (iI k)), (4, .int (iI ((σ 2) (240 + r)))), (9, .int (iI p))]) dL_isReel_348 (by decide) rfl (q := 350) rfl ?_
                                  refine g_iinc C (L' := [(9, .int (iI (p + 1))), (8, .int (iI (max xl w7))), (7, .int (iI w7)), (6, .int (iI (tn + w11))), (5, .int (iI (bf + ((σ 2) (r * 60 + p) / 8)))), (16, .int (iI 1)), (15, .int (iI 1)), (14, .int (iI w14)), (13, .int (iI (sgA (σ 2) r p))), (12, .int (iI w12)), (11, .int (iI w11)), (10, .int (iI ((σ 2) (r * 60 + p) / 8))), (0, .ref (ea E 0)), (1, .int (iI r)), (2, .ref (eb E)), (3, .int (iI k)), (4, .int (iI ((σ 2) (240 + r))))]) dL_isReel_350 16 rfl (by decide) rfl (q := 353) rfl ?_
                                  refine g_goto C dL_isReel_353 (q := 22) rfl ?_
                                  refine g_sub [12, 13, 14, 15, 16, 4, 3, 2, 1, 0] (L' := [(0, .ref (ea E 0)), (1, .int (iI r)), (2, .ref (eb E)), (3, .int (iI k)), (4, .int (iI ((σ 2) (240 + r)))), (5, .int (iI (bf + ((σ 2) (r * 60 + p) / 8)))), (6, .int (iI (tn + w11))), (7, .int (iI w7)), (8, .int (iI (max xl w7))), (9, .int (iI (p + 1)))]) rfl ?_
                                  exact ih22 (bf + ((σ 2) (r * 60 + p) / 8)) (tn + w11) w7 (max xl w7) (p + 1) (by omega) (by omega) (by exact q1.symm) (by rw [tbs_step hp.1, ← htn, ← h11]) (by rw [← hlr]; exact (lr_step (by omega) h11 h7).symm) (by omega)
                                refine g_iload C dL_isReel_326 7 rfl (q := 328) rfl ?_
                                refine g_if_eq C dL_isReel_328 (by omega) (q2 := 338) rfl (q := 331) rfl (fun hb56 => ?_) (fun hb56 => ?_)
                                · skip
                                  refine g_iconst C dL_isReel_338 (q := 339) rfl ?_
                                  exact j326_18 1 (by omega)
                                · skip
                                  refine g_iload C dL_isReel_331 14 rfl (q := 333) rfl ?_
                                  refine g_iconst C dL_isReel_333 (q := 334) rfl ?_
                                  refine g_iadd C dL_isReel_334 (q := 335) rfl ?_
                                  refine g_goto C dL_isReel_335 (q := 339) rfl ?_
                                  exact j326_18 (yr + 1) (by omega)
                              refine g_iload C dL_isReel_313 6 rfl (q := 315) rfl ?_
                              refine g_if_eq C dL_isReel_315 (by omega) (q2 := 322) rfl (q := 318) rfl (fun hb57 => ?_) (fun hb57 => ?_)
                              · skip
                                refine g_iconst C dL_isReel_322 (q := 323) rfl ?_
                                refine g_top (b := w11) (by omega) ?_
                                exact j313_17 
                              · skip
                                refine g_iconst C dL_isReel_318 (q := 319) rfl ?_
                                refine g_goto C dL_isReel_319 (q := 323) rfl ?_
                                refine g_top (b := w11) (by omega) ?_
                                exact j313_17 
                            · skip
                              exfalso; omega
                      refine g_iload C dL_isReel_271 5 rfl (q := 273) rfl ?_
                      refine g_if_ne C dL_isReel_273 (by omega) (q2 := 281) rfl (q := 276) rfl (fun hb58 => ?_) (fun hb58 => ?_)
                      · skip
                        refine g_iconst C dL_isReel_281 (q := 282) rfl ?_
                        refine g_goto C dL_isReel_282 (q := 286) rfl ?_
                        refine g_top (b := iT (σ 2) r p) (by unfold iT; first | rw [if_neg (by omega)] | rw [if_pos (by omega)]) ?_
                        exact j271_16 
                      · skip
                        refine g_iload C dL_isReel_276 4 rfl (q := 278) rfl ?_
                        refine g_if_eq C dL_isReel_278 (by omega) (q2 := 285) rfl (q := 281) rfl (fun hb59 => ?_) (fun hb59 => ?_)
                        · skip
                          refine g_iconst C dL_isReel_285 (q := 286) rfl ?_
                          refine g_top (b := iT (σ 2) r p) (by unfold iT; first | rw [if_neg (by omega)] | rw [if_pos (by omega)]) ?_
                          exact j271_16 
                        · skip
                          refine g_iconst C dL_isReel_281 (q := 282) rfl ?_
                          refine g_goto C dL_isReel_282 (q := 286) rfl ?_
                          refine g_top (b := iT (σ 2) r p) (by unfold iT; first | rw [if_neg (by omega)] | rw [if_pos (by omega)]) ?_
                          exact j271_16 
                refine g_aload_n C dL_isReel_194 6 rfl rfl (q := 195) rfl ?_
                refine g_iload_n C dL_isReel_195 7 rfl rfl (q := 196) rfl ?_
                refine g_iload C dL_isReel_196 15 rfl (q := 198) rfl ?_
                refine g_cT_i C (hh := th_L_lengthBefore) (As := [.ref (ea E 0), .int (iI r), .int (iI p)]) (c_L_lengthBefore l hst E _ r p  (by first | assumption | omega) (by first | assumption | omega) (by first | assumption | omega) (by exact fB_ok (by omega) (by omega))) ml_L_286 mf_L_lengthBefore rfl ⟨(Nat.le_of_ble_eq_true rfl), (Nat.le_of_ble_eq_true rfl)⟩ rfl rfl rfl (Nat.le_of_ble_eq_true rfl) ⟨(Nat.le_of_ble_eq_true rfl), (Nat.le_of_ble_eq_true rfl)⟩ dL_isReel_198 (q := 201) rfl ?_
                refine g_top (b := bf) (by exact qS) ?_
                refine g_iload C dL_isReel_201 11 rfl (q := 203) rfl ?_
                refine g_icmp_ne C dL_isReel_203 (by omega) (q2 := 251) rfl (q := 206) rfl (fun hb60 => ?_) (fun hb60 => ?_)
                · skip
                  exfalso; omega
                · skip
                  refine g_aload_n C dL_isReel_206 6 rfl rfl (q := 207) rfl ?_
                  refine g_iload_n C dL_isReel_207 7 rfl rfl (q := 208) rfl ?_
                  refine g_iload C dL_isReel_208 15 rfl (q := 210) rfl ?_
                  refine g_cT_i C (hh := th_L_lengthBeforeByScan) (As := [.ref (ea E 0), .int (iI r), .int (iI p)]) (c_L_lengthBeforeByScan l hst E _ r p  (by first | assumption | omega) (by first | assumption | omega) (by first | assumption | omega) (by exact fB_ok (by omega) (by omega))) ml_L_288 mf_L_lengthBeforeByScan rfl ⟨(Nat.le_of_ble_eq_true rfl), (Nat.le_of_ble_eq_true rfl)⟩ rfl rfl rfl (Nat.le_of_ble_eq_true rfl) ⟨(Nat.le_of_ble_eq_true rfl), (Nat.le_of_ble_eq_true rfl)⟩ dL_isReel_210 (q := 213) rfl ?_
                  refine g_top (b := bf) (by rw [show p - 1 + 1 = p by omega]; exact hbf.symm) ?_
                  refine g_iload C dL_isReel_213 11 rfl (q := 215) rfl ?_
                  refine g_icmp_ne C dL_isReel_215 (by omega) (q2 := 251) rfl (q := 218) rfl (fun hb61 => ?_) (fun hb61 => ?_)
                  · skip
                    exfalso; omega
                  · skip
                    refine g_aload_n C dL_isReel_218 6 rfl rfl (q := 219) rfl ?_
                    refine g_iload_n C dL_isReel_219 7 rfl rfl (q := 220) rfl ?_
                    refine g_iload C dL_isReel_220 11 rfl (q := 222) rfl ?_
                    refine g_cT_i C (hh := th_L_positionAt) (As := [.ref (ea E 0), .int (iI r), .int (iI bf)]) (c_L_positionAt l hst E _ r bf  (by first | assumption | omega) (by first | assumption | omega) (by first | assumption | omega) (by exact fR_ok (by omega)) (by rw [qP1]; omega)) ml_L_290 mf_L_positionAt rfl ⟨(Nat.le_of_ble_eq_true rfl), (Nat.le_of_ble_eq_true rfl)⟩ rfl rfl rfl (Nat.le_of_ble_eq_true rfl) ⟨(Nat.le_of_ble_eq_true rfl), (Nat.le_of_ble_eq_true rfl)⟩ dL_isReel_222 (q := 225) rfl ?_
                    refine g_top (b := p) (by exact qP1) ?_
                    refine g_iload C dL_isReel_225 15 rfl (q := 227) rfl ?_
                    refine g_icmp_ne C dL_isReel_227 (by omega) (q2 := 251) rfl (q := 230) rfl (fun hb62 => ?_) (fun hb62 => ?_)
                    · skip
                      exfalso; omega
                    · skip
                      refine g_aload_n C dL_isReel_230 6 rfl rfl (q := 231) rfl ?_
                      refine g_iload_n C dL_isReel_231 7 rfl rfl (q := 232) rfl ?_
                      refine g_iload C dL_isReel_232 11 rfl (q := 234) rfl ?_
                      refine g_iload C dL_isReel_234 5 rfl (q := 236) rfl ?_
                      refine g_iadd C dL_isReel_236 (q := 237) rfl ?_
                      refine g_iconst C dL_isReel_237 (q := 238) rfl ?_
                      refine g_isub C dL_isReel_238 (q := 239) rfl ?_
                      refine g_cT_i C (hh := th_L_positionAt) (As := [.ref (ea E 0), .int (iI r), .int (iI (bf + ((σ 2) (r * 60 + p) / 8) - 1))]) (c_L_positionAt l hst E _ r (bf + ((σ 2) (r * 60 + p) / 8) - 1)  (by first | assumption | omega) (by first | assumption | omega) (by first | assumption | omega) (by exact fR_ok (by omega)) (by rw [qP2]; omega)) ml_L_290 mf_L_positionAt rfl ⟨(Nat.le_of_ble_eq_true rfl), (Nat.le_of_ble_eq_true rfl)⟩ rfl rfl rfl (Nat.le_of_ble_eq_true rfl) ⟨(Nat.le_of_ble_eq_true rfl), (Nat.le_of_ble_eq_true rfl)⟩ dL_isReel_239 (q := 242) rfl ?_
                      refine g_top (b := p) (by exact qP2) ?_
                      refine g_iload C dL_isReel_242 15 rfl (q := 244) rfl ?_
                      refine g_icmp_ne C dL_isReel_244 (by omega) (q2 := 251) rfl (q := 247) rfl (fun hb63 => ?_) (fun hb63 => ?_)
                      · skip
                        exfalso; omega
                      · skip
                        refine g_iconst C dL_isReel_247 (q := 248) rfl ?_
                        refine g_goto C dL_isReel_248 (q := 252) rfl ?_
                        exact j194_15 
              refine g_aload_n C dL_isReel_134 5 rfl rfl (q := 135) rfl ?_
              refine g_iload_n C dL_isReel_135 6 rfl rfl (q := 136) rfl ?_
              refine g_iload C dL_isReel_136 0 rfl (q := 138) rfl ?_
              refine g_cT_i C (hh := th_L_length) (As := [.ref (ea E 0), .int (iI r), .int (iI w14)]) (c_L_length l hst E _ r w14  (by first | assumption | omega) (by first | assumption | omega) (by first | assumption | omega) (by exact fP_ok (by omega) (by omega))) ml_L_280 mf_L_length rfl ⟨(Nat.le_of_ble_eq_true rfl), (Nat.le_of_ble_eq_true rfl)⟩ rfl rfl rfl (Nat.le_of_ble_eq_true rfl) ⟨(Nat.le_of_ble_eq_true rfl), (Nat.le_of_ble_eq_true rfl)⟩ dL_isReel_138 (q := 141) rfl ?_
              refine g_aload_n C dL_isReel_141 5 rfl rfl (q := 142) rfl ?_
              refine g_iload_n C dL_isReel_142 6 rfl rfl (q := 143) rfl ?_
              refine g_iload C dL_isReel_143 1 rfl (q := 145) rfl ?_
              refine g_cT_i C (hh := th_L_length) (As := [.ref (ea E 0), .int (iI r), .int (iI (sgA (σ 2) r p))]) (c_L_length l hst E _ r (sgA (σ 2) r p)  (by first | assumption | omega) (by first | assumption | omega) (by first | assumption | omega) (by exact fP_ok (by omega) (by omega))) ml_L_280 mf_L_length rfl ⟨(Nat.le_of_ble_eq_true rfl), (Nat.le_of_ble_eq_true rfl)⟩ rfl rfl rfl (Nat.le_of_ble_eq_true rfl) ⟨(Nat.le_of_ble_eq_true rfl), (Nat.le_of_ble_eq_true rfl)⟩ dL_isReel_145 (q := 148) rfl ?_
              refine g_icmp_gt C dL_isReel_148 (by omega) (q2 := 187) rfl (q := 151) rfl (fun hb64 => ?_) (fun hb64 => ?_)
              · skip
                refine g_iconst C dL_isReel_187 (q := 188) rfl ?_
                refine g_goto C dL_isReel_188 (q := 192) rfl ?_
                exact j134_14 
              · skip
                refine g_aload_n C dL_isReel_151 5 rfl rfl (q := 152) rfl ?_
                refine g_iload_n C dL_isReel_152 6 rfl rfl (q := 153) rfl ?_
                refine g_iload C dL_isReel_153 0 rfl (q := 155) rfl ?_
                refine g_cT_i C (hh := th_L_length) (As := [.ref (ea E 0), .int (iI r), .int (iI w14)]) (c_L_length l hst E _ r w14  (by first | assumption | omega) (by first | assumption | omega) (by first | assumption | omega) (by exact fP_ok (by omega) (by omega))) ml_L_280 mf_L_length rfl ⟨(Nat.le_of_ble_eq_true rfl), (Nat.le_of_ble_eq_true rfl)⟩ rfl rfl rfl (Nat.le_of_ble_eq_true rfl) ⟨(Nat.le_of_ble_eq_true rfl), (Nat.le_of_ble_eq_true rfl)⟩ dL_isReel_155 (q := 158) rfl ?_
                refine g_aload_n C dL_isReel_158 5 rfl rfl (q := 159) rfl ?_
                refine g_iload_n C dL_isReel_159 6 rfl rfl (q := 160) rfl ?_
                refine g_iload C dL_isReel_160 1 rfl (q := 162) rfl ?_
                refine g_cT_i C (hh := th_L_length) (As := [.ref (ea E 0), .int (iI r), .int (iI (sgA (σ 2) r p))]) (c_L_length l hst E _ r (sgA (σ 2) r p)  (by first | assumption | omega) (by first | assumption | omega) (by first | assumption | omega) (by exact fP_ok (by omega) (by omega))) ml_L_280 mf_L_length rfl ⟨(Nat.le_of_ble_eq_true rfl), (Nat.le_of_ble_eq_true rfl)⟩ rfl rfl rfl (Nat.le_of_ble_eq_true rfl) ⟨(Nat.le_of_ble_eq_true rfl), (Nat.le_of_ble_eq_true rfl)⟩ dL_isReel_162 (q := 165) rfl ?_
                refine g_icmp_ne C dL_isReel_165 (by omega) (q2 := 191) rfl (q := 168) rfl (fun hb65 => ?_) (fun hb65 => ?_)
                · skip
                  exfalso; omega
                · skip
                  refine g_iload C dL_isReel_168 0 rfl (q := 170) rfl ?_
                  refine g_iload C dL_isReel_170 1 rfl (q := 172) rfl ?_
                  refine g_icmp_gt C dL_isReel_172 (by omega) (q2 := 191) rfl (q := 175) rfl (fun hb66 => ?_) (fun hb66 => ?_)
                  · skip
                    exfalso; omega
                  · skip
                    refine g_iload C dL_isReel_175 14 rfl (q := 177) rfl ?_
                    refine g_if_eq C dL_isReel_177 (by omega) (q2 := 187) rfl (q := 180) rfl (fun hb67 => ?_) (fun hb67 => ?_)
                    · skip
                      refine g_iconst C dL_isReel_187 (q := 188) rfl ?_
                      refine g_goto C dL_isReel_188 (q := 192) rfl ?_
                      exact j134_14 
                    · skip
                      refine g_iload C dL_isReel_180 0 rfl (q := 182) rfl ?_
                      refine g_iload C dL_isReel_182 1 rfl (q := 184) rfl ?_
                      refine g_icmp_ge C dL_isReel_184 (by omega) (q2 := 191) rfl (q := 187) rfl (fun hb68 => ?_) (fun hb68 => ?_)
                      · skip
                        exfalso; omega
                      · skip
                        refine g_iconst C dL_isReel_187 (q := 188) rfl ?_
                        refine g_goto C dL_isReel_188 (q := 192) rfl ?_
                        exact j134_14 
            refine g_iload C dL_isReel_113 13 rfl (q := 115) rfl ?_
            refine g_if_ne C dL_isReel_115 (by omega) (q2 := 123) rfl (q := 118) rfl (fun hb69 => ?_) (fun hb69 => ?_)
            · skip
              refine g_aload_n C dL_isReel_123 4 rfl rfl (q := 124) rfl ?_
              refine g_iload_n C dL_isReel_124 5 rfl rfl (q := 125) rfl ?_
              refine g_iload C dL_isReel_125 13 rfl (q := 127) rfl ?_
              refine g_iconst C dL_isReel_127 (q := 128) rfl ?_
              refine g_isub C dL_isReel_128 (q := 129) rfl ?_
              refine g_cT_i C (hh := th_L_segmentAtRank) (As := [.ref (ea E 0), .int (iI r), .int (iI (p - 1))]) (c_L_segmentAtRank l hst E _ r (p - 1)  (by first | assumption | omega) (by first | assumption | omega) (by first | assumption | omega) (by exact fR_ok (by omega)) (by exact (sgA_ok (f := (σ 2)) (r := r) (k := p - 1) (by omega)).1)) ml_L_284 mf_L_segmentAtRank rfl ⟨(Nat.le_of_ble_eq_true rfl), (Nat.le_of_ble_eq_true rfl)⟩ rfl rfl rfl (Nat.le_of_ble_eq_true rfl) ⟨(Nat.le_of_ble_eq_true rfl), (Nat.le_of_ble_eq_true rfl)⟩ dL_isReel_129 (q := 132) rfl ?_
              refine g_top (b := sgA (σ 2) r (p - 1)) (by rfl) ?_
              exact j113_13 (sgA (σ 2) r (p - 1)) (by omega)
            · skip
              refine g_iload C dL_isReel_118 0 rfl (q := 120) rfl ?_
              refine g_goto C dL_isReel_120 (q := 132) rfl ?_
              exact j113_13 (sgA (σ 2) r p) (by omega)
          refine g_iload C dL_isReel_69 11 rfl (q := 71) rfl ?_
          refine g_iconst C dL_isReel_71 (q := 72) rfl ?_
          refine g_iadd C dL_isReel_72 (q := 73) rfl ?_
          refine g_iload C dL_isReel_73 6 rfl (q := 75) rfl ?_
          refine g_icmp_ge C dL_isReel_75 (by omega) (q2 := 101) rfl (q := 78) rfl (fun hb70 => ?_) (fun hb70 => ?_)
          · skip
            refine g_iconst C dL_isReel_101 (q := 102) rfl ?_
            exact j69_12 0 (by first | exact tg_z2 (by omega) | exact tg_y2 (by omega) (by omega) | exact tg_n2 (by omega))
          · skip
            refine g_aload_n C dL_isReel_78 2 rfl rfl (q := 79) rfl ?_
            refine g_iload_n C dL_isReel_79 3 rfl rfl (q := 80) rfl ?_
            refine g_iload C dL_isReel_80 11 rfl (q := 82) rfl ?_
            refine g_iconst C dL_isReel_82 (q := 83) rfl ?_
            refine g_iadd C dL_isReel_83 (q := 84) rfl ?_
            refine g_cT_i C (hh := th_L_colour) (As := [.ref (ea E 0), .int (iI r), .int (iI (p + 1))]) (c_L_colour l hst E _ r (p + 1)  (by first | assumption | omega) (by first | assumption | omega) (by first | assumption | omega) (by exact fP_ok (by omega) (by omega))) ml_L_282 mf_L_colour rfl ⟨(Nat.le_of_ble_eq_true rfl), (Nat.le_of_ble_eq_true rfl)⟩ rfl rfl rfl (Nat.le_of_ble_eq_true rfl) ⟨(Nat.le_of_ble_eq_true rfl), (Nat.le_of_ble_eq_true rfl)⟩ dL_isReel_84 (q := 87) rfl ?_
            refine g_aload_n C dL_isReel_87 2 rfl rfl (q := 88) rfl ?_
            refine g_iload_n C dL_isReel_88 3 rfl rfl (q := 89) rfl ?_
            refine g_iload C dL_isReel_89 11 rfl (q := 91) rfl ?_
            refine g_cT_i C (hh := th_L_colour) (As := [.ref (ea E 0), .int (iI r), .int (iI p)]) (c_L_colour l hst E _ r p  (by first | assumption | omega) (by first | assumption | omega) (by first | assumption | omega) (by exact fP_ok (by omega) (by omega))) ml_L_282 mf_L_colour rfl ⟨(Nat.le_of_ble_eq_true rfl), (Nat.le_of_ble_eq_true rfl)⟩ rfl rfl rfl (Nat.le_of_ble_eq_true rfl) ⟨(Nat.le_of_ble_eq_true rfl), (Nat.le_of_ble_eq_true rfl)⟩ dL_isReel_91 (q := 94) rfl ?_
            refine g_icmp_ne C dL_isReel_94 (by omega) (q2 := 101) rfl (q := 97) rfl (fun hb71 => ?_) (fun hb71 => ?_)
            · skip
              refine g_iconst C dL_isReel_101 (q := 102) rfl ?_
              exact j69_12 0 (by first | exact tg_z2 (by omega) | exact tg_y2 (by omega) (by omega) | exact tg_n2 (by omega))
            · skip
              refine g_iconst C dL_isReel_97 (q := 98) rfl ?_
              refine g_goto C dL_isReel_98 (q := 102) rfl ?_
              exact j69_12 1 (by first | exact tg_z2 (by omega) | exact tg_y2 (by omega) (by omega) | exact tg_n2 (by omega))
        refine g_iload C dL_isReel_38 10 rfl (q := 40) rfl ?_
        refine g_if_le C dL_isReel_40 (by omega) (q2 := 66) rfl (q := 43) rfl (fun hb72 => ?_) (fun hb72 => ?_)
        · skip
          refine g_iconst C dL_isReel_66 (q := 67) rfl ?_
          exact j38_11 0 (by first | exact tg_z (by omega) | exact tg_y (by omega) (by omega) | exact tg_n (by omega))
        · skip
          refine g_aload_n C dL_isReel_43 1 rfl rfl (q := 44) rfl ?_
          refine g_iload_n C dL_isReel_44 2 rfl rfl (q := 45) rfl ?_
          refine g_iload C dL_isReel_45 10 rfl (q := 47) rfl ?_
          refine g_iconst C dL_isReel_47 (q := 48) rfl ?_
          refine g_isub C dL_isReel_48 (q := 49) rfl ?_
          refine g_cT_i C (hh := th_L_colour) (As := [.ref (ea E 0), .int (iI r), .int (iI (p - 1))]) (c_L_colour l hst E _ r (p - 1)  (by first | assumption | omega) (by first | assumption | omega) (by first | assumption | omega) (by exact fP_ok (by omega) (by omega))) ml_L_282 mf_L_colour rfl ⟨(Nat.le_of_ble_eq_true rfl), (Nat.le_of_ble_eq_true rfl)⟩ rfl rfl rfl (Nat.le_of_ble_eq_true rfl) ⟨(Nat.le_of_ble_eq_true rfl), (Nat.le_of_ble_eq_true rfl)⟩ dL_isReel_49 (q := 52) rfl ?_
          refine g_aload_n C dL_isReel_52 1 rfl rfl (q := 53) rfl ?_
          refine g_iload_n C dL_isReel_53 2 rfl rfl (q := 54) rfl ?_
          refine g_iload C dL_isReel_54 10 rfl (q := 56) rfl ?_
          refine g_cT_i C (hh := th_L_colour) (As := [.ref (ea E 0), .int (iI r), .int (iI p)]) (c_L_colour l hst E _ r p  (by first | assumption | omega) (by first | assumption | omega) (by first | assumption | omega) (by exact fP_ok (by omega) (by omega))) ml_L_282 mf_L_colour rfl ⟨(Nat.le_of_ble_eq_true rfl), (Nat.le_of_ble_eq_true rfl)⟩ rfl rfl rfl (Nat.le_of_ble_eq_true rfl) ⟨(Nat.le_of_ble_eq_true rfl), (Nat.le_of_ble_eq_true rfl)⟩ dL_isReel_56 (q := 59) rfl ?_
          refine g_icmp_ne C dL_isReel_59 (by omega) (q2 := 66) rfl (q := 62) rfl (fun hb73 => ?_) (fun hb73 => ?_)
          · skip
            refine g_iconst C dL_isReel_66 (q := 67) rfl ?_
            exact j38_11 0 (by first | exact tg_z (by omega) | exact tg_y (by omega) (by omega) | exact tg_n (by omega))
          · skip
            refine g_iconst C dL_isReel_62 (q := 63) rfl ?_
            refine g_goto C dL_isReel_63 (q := 67) rfl ?_
            exact j38_11 1 (by first | exact tg_z (by omega) | exact tg_y (by omega) (by omega) | exact tg_n (by omega))
  exact lp22 _ 0 0 0 0 0 (Nat.lt_succ_self _) (by omega) (by exact (sI_nil (Int.le_refl 0)).symm) (by exact (sI_nil (by omega)).symm) (by rfl) (by omega)
