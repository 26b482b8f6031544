abbrev rm_L_isWhole_96_576 : Room := { frames := 10, cells := 96, slots := 576, locals := 220 }
set_option maxRecDepth 100000 in
set_option maxHeartbeats 8000000 in
theorem c_L_isWhole (l : Launch) (hst : l.stackTraces = false) (E : EV) (σ : SS) (k z : Int) (hW : CW (σ 2)) (hP : PW (σ 2)) (hk : 0 ≤ k ∧ k ≤ 800) (hN : (eN E : Int) ≤ 260) (hz : z = 0 ∨ z = 1) : NX9 l yL_isWhole (cw yL_isWhole cL_isWhole 12 (some .boolean)) rm_L_isWhole_96_576 E [.ref (ea E 0), .ref (eb E), .int (iI k), .int (iI z)] σ (fun v9 σ9 => v9 = 1 ∧ ∃ a9 b9, σ9 = st (st σ 11 a9) 12 b9) 96 576 := by
  refine NX9Z_of (rm := rm_L_isWhole_96_576) (mL := 12) (b := cL_isWhole) RL rfl (by decide +kernel) [(0, .ref (ea E 0)), (1, .ref (eb E)), (2, .int (iI k)), (3, .int (iI z))] rfl (Nat.le_of_ble_eq_true rfl) (fun p_ e_ s_ m_ a_ b_ h_ c_ Q A C hret => ?_)
  refine g_lconst C (y := 0) dL_isWhole_0 (by decide) (q := 1) rfl ?_
  refine g_lstore C (L' := [(4, .long (iL 0)), (0, .ref (ea E 0)), (1, .ref (eb E)), (2, .int (iI k)), (3, .int (iI z))]) dL_isWhole_1 (by decide) rfl (q := 3) rfl ?_
  refine g_iconst C dL_isWhole_3 (q := 4) rfl ?_
  refine g_istore C (L' := [(6, .int (iI 0)), (4, .long (iL 0)), (0, .ref (ea E 0)), (1, .ref (eb E)), (2, .int (iI k)), (3, .int (iI z))]) dL_isWhole_4 (by decide) rfl (q := 6) rfl ?_
  refine g_sub [2, 3, 4, 5, 1, 0] (L' := [(0, .ref (ea E 0)), (1, .ref (eb E)), (2, .int (iI k)), (3, .int (iI z)), (4, .long (iL 0)), (6, .int (iI 0))]) rfl ?_
  refine g_st (σ2 := (st (st σ 11 (σ 11)) 12 (σ 12))) (by rw [st_id, st_id]) ?_
  have lp6 : ∀ (k9 : Nat) (wh : Int) (r : Int) (la : Int → Int) (lb : Int → Int) (ka na : Nat), (4 - r).toNat < k9 → (0 ≤ r ∧ r ≤ 4) → (wh = sI (sgl (σ 2)) 0 r) → ((ka : Int) ≤ 24 * r) → ((na : Int) ≤ 144 * r) → GG p_ l e_ rm_L_isWhole_96_576 s_ m_ a_ b_ h_ c_ Q E A 12 (st (st σ 11 la) 12 lb) ka na 6 [(0, .ref (ea E 0)), (1, .ref (eb E)), (2, .int (iI k)), (3, .int (iI z)), (4, .long (iL wh)), (6, .int (iI r))] [] := by
    intro k9
    induction k9 with
    | zero => intro wh r la lb ka na hk9; omega
    | succ k9 ih6 =>
      intro wh r la lb ka na hk9 hr hwh hka hna
      refine g_iload C dL_isWhole_6 5 rfl (q := 8) rfl ?_
      refine g_iconst C dL_isWhole_8 (q := 9) rfl ?_
      refine g_icmp_ge C dL_isWhole_9 (by omega) (q2 := 391) rfl (q := 12) rfl (fun hb1 => ?_) (fun hb1 => ?_)
      · skip
        refine g_aload_n C dL_isWhole_391 0 rfl rfl (q := 392) rfl ?_
        refine g_cV_l C (As := []) (c_X4_totalLength l E _  (by show CW (σ 2); first | assumption | omega) (by show PW (σ 2); first | assumption | omega)) ml_L_190 mf_X4_totalLength (o := 0) (ci := 4) rfl rfl rfl rfl ⟨(Nat.le_of_ble_eq_true rfl), (Nat.le_of_ble_eq_true rfl)⟩ rfl rfl rfl (Nat.le_of_ble_eq_true rfl) ⟨by show ka + 0 ≤ 96; omega, by show na + 0 ≤ 576; omega⟩ dL_isWhole_392 (q := 395) rfl ?_
        refine g_toplc (b := 0 + sb (σ 2) 0 ((σ 2) (240 + 0)) + sb (σ 2) 1 ((σ 2) (240 + 1)) + sb (σ 2) 2 ((σ 2) (240 + 2)) + sb (σ 2) 3 ((σ 2) (240 + 3))) rfl ?_
        refine g_lload C dL_isWhole_395 4 rfl (q := 397) rfl ?_
        refine g_lcmpE C (by rw [tot_sb hW hP, hwh, show r = 4 by omega]; exact tot_sI _) dL_isWhole_397 (q := 398) rfl ?_
        refine g_if_ne C dL_isWhole_398 (by omega) (q2 := 416) rfl (q := 401) rfl (fun hb2 => ?_) (fun hb2 => ?_)
        · skip
          exfalso; omega
        · skip
          refine g_iload_n C dL_isWhole_401 3 rfl rfl (q := 402) rfl ?_
          refine g_if_eq C dL_isWhole_402 (by omega) (q2 := 412) rfl (q := 405) rfl (fun hb3 => ?_) (fun hb3 => ?_)
          · skip
            refine g_iconst C dL_isWhole_412 (q := 413) rfl ?_
            refine g_goto C dL_isWhole_413 (q := 417) rfl ?_
            exact hret _ _ _ _ _ _ (by omega) (by omega) dL_isWhole_417 (by omega) (by exact ⟨rfl, la, lb, rfl⟩)
          · skip
            refine g_aload_n C dL_isWhole_405 0 rfl rfl (q := 406) rfl ?_
            refine g_cV_i C (As := []) (c_X4_isConsistent l E _  (by show CW (σ 2); first | assumption | omega) (by show PW (σ 2); first | assumption | omega)) ml_L_328 mf_X4_isConsistent (o := 0) (ci := 4) rfl rfl rfl rfl ⟨(Nat.le_of_ble_eq_true rfl), (Nat.le_of_ble_eq_true rfl)⟩ rfl rfl rfl (Nat.le_of_ble_eq_true rfl) ⟨by show ka + 0 ≤ 96; omega, by show na + 0 ≤ 576; omega⟩ dL_isWhole_406 (q := 409) rfl ?_
            refine g_if_eq C dL_isWhole_409 (by omega) (q2 := 416) rfl (q := 412) rfl (fun hb4 => ?_) (fun hb4 => ?_)
            · skip
              exfalso; omega
            · skip
              refine g_iconst C dL_isWhole_412 (q := 413) rfl ?_
              refine g_goto C dL_isWhole_413 (q := 417) rfl ?_
              exact hret _ _ _ _ _ _ (by omega) (by omega) dL_isWhole_417 (by omega) (by exact ⟨rfl, la, lb, rfl⟩)
      · skip
        have hsg := sgl_rg hW (r := r) (by omega)
        have hn := (hW r (by omega)).1
        refine g_lload C dL_isWhole_12 4 rfl (q := 14) rfl ?_
        refine g_aload_n C dL_isWhole_14 0 rfl rfl (q := 15) rfl ?_
        refine g_iload C dL_isWhole_15 5 rfl (q := 17) rfl ?_
        refine g_cT_i C (hh := th_L_reelLength) (As := [.ref (ea E 0), .int (iI r)]) (c_L_reelLength l hst E _ r  (by first | assumption | omega) (by show CW (σ 2); first | assumption | omega) (by exact fR_ok (by omega))) ml_L_188 mf_L_reelLength rfl ⟨(Nat.le_of_ble_eq_true rfl), (Nat.le_of_ble_eq_true rfl)⟩ rfl rfl rfl (Nat.le_of_ble_eq_true rfl) ⟨by show ka + 0 ≤ 96; omega, by show na + 0 ≤ 576; omega⟩ dL_isWhole_17 (q := 20) rfl ?_
        refine g_k (k2 := ka) (n2 := na) (by omega) (by omega) ?_
        refine g_top (b := sb (σ 2) r ((σ 2) (240 + r))) rfl ?_
        refine g_top (b := sgl (σ 2) r) (by exact sgl_sb hW hP (by omega)) ?_
        refine g_i2l C dL_isWhole_20 (by omega) (q := 21) rfl ?_
        refine g_ladd C dL_isWhole_21 (q := 22) rfl ?_
        refine g_lstore C (L' := [(4, .long (iL (wh + (sgl (σ 2) r)))), (0, .ref (ea E 0)), (1, .ref (eb E)), (2, .int (iI k)), (3, .int (iI z)), (6, .int (iI r))]) dL_isWhole_22 (by decide) rfl (q := 24) rfl ?_
        have j24_1 : ∀ (lc ld : Int → Int), GG p_ l e_ rm_L_isWhole_96_576 s_ m_ a_ b_ h_ c_ Q E A 12 (st (st σ 11 lc) 12 ld) (ka + 24) (na + 144) 54 [(4, .long (iL (wh + (sgl (σ 2) r)))), (0, .ref (ea E 0)), (1, .ref (eb E)), (2, .int (iI k)), (3, .int (iI z)), (6, .int (iI r))] [] := by
          intro lc ld
          refine g_iconst C dL_isWhole_54 (q := 55) rfl ?_
          refine g_istore C (L' := [(7, .int (iI 0)), (4, .long (iL (wh + (sgl (σ 2) r)))), (0, .ref (ea E 0)), (1, .ref (eb E)), (2, .int (iI k)), (3, .int (iI z)), (6, .int (iI r))]) dL_isWhole_55 (by decide) rfl (q := 57) rfl ?_
          refine g_sub [2, 3, 4, 5, 1, 6, 0] (L' := [(0, .ref (ea E 0)), (1, .ref (eb E)), (2, .int (iI k)), (3, .int (iI z)), (4, .long (iL (wh + (sgl (σ 2) r)))), (6, .int (iI r)), (7, .int (iI 0))]) rfl ?_
          have lp57 : ∀ (k9 : Nat) (q : Int), (4 - q).toNat < k9 → (0 ≤ q ∧ q ≤ 4) → GG p_ l e_ rm_L_isWhole_96_576 s_ m_ a_ b_ h_ c_ Q E A 12 (st (st σ 11 lc) 12 ld) (ka + 24) (na + 144) 57 [(0, .ref (ea E 0)), (1, .ref (eb E)), (2, .int (iI k)), (3, .int (iI z)), (4, .long (iL (wh + (sgl (σ 2) r)))), (6, .int (iI r)), (7, .int (iI q))] [] := by
            intro k9
            induction k9 with
            | zero => intro q hk9; omega
            | succ k9 ih57 =>
              intro q hk9 hq
              refine g_iload C dL_isWhole_57 6 rfl (q := 59) rfl ?_
              refine g_iconst C dL_isWhole_59 (q := 60) rfl ?_
              refine g_icmp_ge C dL_isWhole_60 (by omega) (q2 := 279) rfl (q := 63) rfl (fun hb5 => ?_) (fun hb5 => ?_)
              · skip
                refine g_aload_n C dL_isWhole_279 0 rfl rfl (q := 280) rfl ?_
                refine g_iload C dL_isWhole_280 5 rfl (q := 282) rfl ?_
                refine g_cT_i C (hh := th_L_segmentCount) (As := [.ref (ea E 0), .int (iI r)]) (c_L_segmentCount l hst E _ r  (by first | assumption | omega) (by show CW (σ 2); first | assumption | omega) (by exact fR_ok (by omega))) ml_L_186 mf_L_segmentCount rfl ⟨(Nat.le_of_ble_eq_true rfl), (Nat.le_of_ble_eq_true rfl)⟩ rfl rfl rfl (Nat.le_of_ble_eq_true rfl) ⟨by show (ka + 24) + 0 ≤ 96; omega, by show (na + 144) + 0 ≤ 576; omega⟩ dL_isWhole_282 (q := 285) rfl ?_
                refine g_k (k2 := (ka + 24)) (n2 := (na + 144)) (by omega) (by omega) ?_
                refine g_top (b := (σ 2) (240 + r)) rfl ?_
                refine g_istore C (L' := [(7, .int (iI ((σ 2) (240 + r)))), (0, .ref (ea E 0)), (1, .ref (eb E)), (2, .int (iI k)), (3, .int (iI z)), (4, .long (iL (wh + (sgl (σ 2) r)))), (6, .int (iI r))]) dL_isWhole_285 (by decide) rfl (q := 287) rfl ?_
                refine g_iconst C dL_isWhole_287 (q := 288) rfl ?_
                refine g_istore C (L' := [(8, .int (iI 1)), (7, .int (iI ((σ 2) (240 + r)))), (0, .ref (ea E 0)), (1, .ref (eb E)), (2, .int (iI k)), (3, .int (iI z)), (4, .long (iL (wh + (sgl (σ 2) r)))), (6, .int (iI r))]) dL_isWhole_288 (by decide) rfl (q := 290) rfl ?_
                refine g_iconst C dL_isWhole_290 (q := 291) rfl ?_
                refine g_istore C (L' := [(9, .int (iI 0)), (8, .int (iI 1)), (7, .int (iI ((σ 2) (240 + r)))), (0, .ref (ea E 0)), (1, .ref (eb E)), (2, .int (iI k)), (3, .int (iI z)), (4, .long (iL (wh + (sgl (σ 2) r)))), (6, .int (iI r))]) dL_isWhole_291 (by decide) rfl (q := 293) rfl ?_
                refine g_sub [3, 4, 5, 6, 7, 8, 2, 1, 0] (L' := [(0, .ref (ea E 0)), (1, .ref (eb E)), (2, .int (iI k)), (3, .int (iI z)), (4, .long (iL (wh + (sgl (σ 2) r)))), (6, .int (iI r)), (7, .int (iI ((σ 2) (240 + r)))), (8, .int (iI 1)), (9, .int (iI 0))]) rfl ?_
                have lp293 : ∀ (k9 : Nat) (sm : Int) (p : Int), ((σ 2) (240 + r) - p).toNat < k9 → (0 ≤ p ∧ p ≤ (σ 2) (240 + r)) → ((sm = 1 ∧ fI (bkP (σ 2) r) 0 p = -1) ∨ (sm = 0 ∧ fI (bkP (σ 2) r) 0 p ≠ -1)) → GG p_ l e_ rm_L_isWhole_96_576 s_ m_ a_ b_ h_ c_ Q E A 12 (st (st σ 11 lc) 12 ld) (ka + 24) (na + 144) 293 [(0, .ref (ea E 0)), (1, .ref (eb E)), (2, .int (iI k)), (3, .int (iI z)), (4, .long (iL (wh + (sgl (σ 2) r)))), (6, .int (iI r)), (7, .int (iI ((σ 2) (240 + r)))), (8, .int (iI sm)), (9, .int (iI p))] [] := by
                  intro k9
                  induction k9 with
                  | zero => intro sm p hk9; omega
                  | succ k9 ih293 =>
                    intro sm p hk9 hp hsm
                    refine g_iload C dL_isWhole_293 8 rfl (q := 295) rfl ?_
                    refine g_iload C dL_isWhole_295 6 rfl (q := 297) rfl ?_
                    refine g_icmp_ge C dL_isWhole_297 (by omega) (q2 := 364) rfl (q := 300) rfl (fun hb6 => ?_) (fun hb6 => ?_)
                    · skip
                      have hpn : p = (σ 2) (240 + r) := by omega
                      rw [hpn] at hsm
                      have qB := bk_01 (σ 2) r
                      refine g_aload_n C dL_isWhole_364 0 rfl rfl (q := 365) rfl ?_
                      refine g_iload C dL_isWhole_365 5 rfl (q := 367) rfl ?_
                      refine g_cT_i C (hh := th_L_isSymmetric) (As := [.ref (ea E 0), .int (iI r)]) (c_L_isSymmetric l hst E _ r  (by first | assumption | omega) (by show CW (σ 2); first | assumption | omega) (by exact fR_ok (by omega))) ml_L_326 mf_L_isSymmetric rfl ⟨(Nat.le_of_ble_eq_true rfl), (Nat.le_of_ble_eq_true rfl)⟩ rfl rfl rfl (Nat.le_of_ble_eq_true rfl) ⟨by show (ka + 24) + 0 ≤ 96; omega, by show (na + 144) + 0 ≤ 576; omega⟩ dL_isWhole_367 (q := 370) rfl ?_
                      refine g_k (k2 := (ka + 24)) (n2 := (na + 144)) (by omega) (by omega) ?_
                      refine g_top (b := bk (σ 2) r) rfl ?_
                      have j370_2 : GG p_ l e_ rm_L_isWhole_96_576 s_ m_ a_ b_ h_ c_ Q E A 12 (st (st σ 11 lc) 12 ld) (ka + 24) (na + 144) 380 [(0, .ref (ea E 0)), (1, .ref (eb E)), (2, .int (iI k)), (3, .int (iI z)), (4, .long (iL (wh + (sgl (σ 2) r)))), (6, .int (iI r)), (7, .int (iI ((σ 2) (240 + r)))), (8, .int (iI sm)), (9, .int (iI p))] [.int (iI (bk (σ 2) r)), .int (iI (bk (σ 2) r))] := by
                        refine g_icmp_eq C dL_isWhole_380 (by omega) (q2 := 385) rfl (q := 383) rfl (fun hb7 => ?_) (fun hb7 => ?_)
                        · skip
                          refine g_iinc C (L' := [(6, .int (iI (r + 1))), (0, .ref (ea E 0)), (1, .ref (eb E)), (2, .int (iI k)), (3, .int (iI z)), (4, .long (iL (wh + (sgl (σ 2) r)))), (7, .int (iI ((σ 2) (240 + r)))), (8, .int (iI sm)), (9, .int (iI p))]) dL_isWhole_385 5 rfl (by decide) rfl (q := 388) rfl ?_
                          refine g_goto C dL_isWhole_388 (q := 6) rfl ?_
                          refine g_sub [1, 2, 3, 4, 5, 0] (L' := [(0, .ref (ea E 0)), (1, .ref (eb E)), (2, .int (iI k)), (3, .int (iI z)), (4, .long (iL (wh + (sgl (σ 2) r)))), (6, .int (iI (r + 1)))]) rfl ?_
                          exact ih6 (wh + (sgl (σ 2) r)) (r + 1) lc ld (ka + 24) (na + 144) (by omega) (by omega) (by rw [sI_snoc (by omega), ← hwh]) (by omega) (by omega)
                        · skip
                          exfalso; omega
                      refine g_iload C dL_isWhole_370 7 rfl (q := 372) rfl ?_
                      refine g_if_eq C dL_isWhole_372 (by omega) (q2 := 379) rfl (q := 375) rfl (fun hb8 => ?_) (fun hb8 => ?_)
                      · skip
                        refine g_iconst C dL_isWhole_379 (q := 380) rfl ?_
                        refine g_top (b := bk (σ 2) r) (by rw [bk_all (by omega)]; first | rw [if_pos (by omega)] | rw [if_neg (by omega)]) ?_
                        exact j370_2 
                      · skip
                        refine g_iconst C dL_isWhole_375 (q := 376) rfl ?_
                        refine g_goto C dL_isWhole_376 (q := 380) rfl ?_
                        refine g_top (b := bk (σ 2) r) (by rw [bk_all (by omega)]; first | rw [if_pos (by omega)] | rw [if_neg (by omega)]) ?_
                        exact j370_2 
                    · skip
                      have hs1 := (hW r (by omega)).2 p (by omega)
                      have hs2 := (hW r (by omega)).2 ((σ 2) (240 + r) - 1 - p) (by omega)
                      refine g_iload C dL_isWhole_300 7 rfl (q := 302) rfl ?_
                      have j302_3 : ∀ (w8 : Int), ((w8 = 1 ∧ (σ 2) (r * 60 + p) = (σ 2) (r * 60 + ((σ 2) (240 + r) - 1 - p))) ∨ (w8 = 0 ∧ (σ 2) (r * 60 + p) ≠ (σ 2) (r * 60 + ((σ 2) (240 + r) - 1 - p)))) → GG p_ l e_ rm_L_isWhole_96_576 s_ m_ a_ b_ h_ c_ Q E A 12 (st (st σ 11 lc) 12 ld) (ka + 24) (na + 144) 355 [(0, .ref (ea E 0)), (1, .ref (eb E)), (2, .int (iI k)), (3, .int (iI z)), (4, .long (iL (wh + (sgl (σ 2) r)))), (6, .int (iI r)), (7, .int (iI ((σ 2) (240 + r)))), (8, .int (iI sm)), (9, .int (iI p))] [.int (iI w8), .int (iI sm)] := by
                        intro w8 h8
                        refine g_iand01 C (by omega) (by omega) dL_isWhole_355 (q := 356) rfl ?_
                        refine g_top (b := min sm w8) (by rcases hsm with ⟨e1, _⟩ | ⟨e1, _⟩ <;> rcases h8 with ⟨e2, _⟩ | ⟨e2, _⟩ <;> rw [e1, e2] <;> decide) ?_
                        refine g_istore C (L' := [(8, .int (iI (min sm w8))), (0, .ref (ea E 0)), (1, .ref (eb E)), (2, .int (iI k)), (3, .int (iI z)), (4, .long (iL (wh + (sgl (σ 2) r)))), (6, .int (iI r)), (7, .int (iI ((σ 2) (240 + r)))), (9, .int (iI p))]) dL_isWhole_356 (by decide) rfl (q := 358) rfl ?_
                        refine g_iinc C (L' := [(9, .int (iI (p + 1))), (8, .int (iI (min sm w8))), (0, .ref (ea E 0)), (1, .ref (eb E)), (2, .int (iI k)), (3, .int (iI z)), (4, .long (iL (wh + (sgl (σ 2) r)))), (6, .int (iI r)), (7, .int (iI ((σ 2) (240 + r))))]) dL_isWhole_358 8 rfl (by decide) rfl (q := 361) rfl ?_
                        refine g_goto C dL_isWhole_361 (q := 293) rfl ?_
                        refine g_sub [2, 3, 4, 5, 6, 7, 8, 1, 0] (L' := [(0, .ref (ea E 0)), (1, .ref (eb E)), (2, .int (iI k)), (3, .int (iI z)), (4, .long (iL (wh + (sgl (σ 2) r)))), (6, .int (iI r)), (7, .int (iI ((σ 2) (240 + r)))), (8, .int (iI (min sm w8))), (9, .int (iI (p + 1)))]) rfl ?_
                        have q8 := fI_snoc (P := bkP (σ 2) r) (a := 0) (b := p) (by omega) (by omega)
                        have q9 : (bkP (σ 2) r p = true) ↔ (σ 2) (r * 60 + p) ≠ (σ 2) (r * 60 + ((σ 2) (240 + r) - 1 - p)) := decide_eq_true_iff
                        exact ih293 (min sm w8) (p + 1) (by omega) (by omega) (by rw [q9] at q8; omega)
                      refine g_aload_n C dL_isWhole_302 0 rfl rfl (q := 303) rfl ?_
                      refine g_iload C dL_isWhole_303 5 rfl (q := 305) rfl ?_
                      refine g_iload C dL_isWhole_305 8 rfl (q := 307) rfl ?_
                      refine g_cT_i C (hh := th_L_length) (As := [.ref (ea E 0), .int (iI r), .int (iI p)]) (c_L_length l hst E _ r p  (by first | assumption | omega) (by first | assumption | omega) (by show CW (σ 2); first | assumption | omega) (by show fP (σ 2) r p = 0; exact fP_ok (by omega) (by omega))) ml_L_280 mf_L_length rfl ⟨(Nat.le_of_ble_eq_true rfl), (Nat.le_of_ble_eq_true rfl)⟩ rfl rfl rfl (Nat.le_of_ble_eq_true rfl) ⟨by show (ka + 24) + 0 ≤ 96; omega, by show (na + 144) + 0 ≤ 576; omega⟩ dL_isWhole_307 (q := 310) rfl ?_
                      refine g_k (k2 := (ka + 24)) (n2 := (na + 144)) (by omega) (by omega) ?_
                      refine g_top (b := (σ 2) (r * 60 + p) / 8) rfl ?_
                      refine g_aload_n C dL_isWhole_310 0 rfl rfl (q := 311) rfl ?_
                      refine g_iload C dL_isWhole_311 5 rfl (q := 313) rfl ?_
                      refine g_iload C dL_isWhole_313 6 rfl (q := 315) rfl ?_
                      refine g_iconst C dL_isWhole_315 (q := 316) rfl ?_
                      refine g_isub C dL_isWhole_316 (q := 317) rfl ?_
                      refine g_iload C dL_isWhole_317 8 rfl (q := 319) rfl ?_
                      refine g_isub C dL_isWhole_319 (q := 320) rfl ?_
                      refine g_cT_i C (hh := th_L_length) (As := [.ref (ea E 0), .int (iI r), .int (iI ((σ 2) (240 + r) - 1 - p))]) (c_L_length l hst E _ r ((σ 2) (240 + r) - 1 - p)  (by first | assumption | omega) (by first | assumption | omega) (by show CW (σ 2); first | assumption | omega) (by show fP (σ 2) r ((σ 2) (240 + r) - 1 - p) = 0; exact fP_ok (by omega) (by omega))) ml_L_280 mf_L_length rfl ⟨(Nat.le_of_ble_eq_true rfl), (Nat.le_of_ble_eq_true rfl)⟩ rfl rfl rfl (Nat.le_of_ble_eq_true rfl) ⟨by show (ka + 24) + 0 ≤ 96; omega, by show (na + 144) + 0 ≤ 576; omega⟩ dL_isWhole_320 (q := 323) rfl ?_
                      refine g_k (k2 := (ka + 24)) (n2 := (na + 144)) (by omega) (by omega) ?_
                      refine g_top (b := (σ 2) (r * 60 + ((σ 2) (240 + r) - 1 - p)) / 8) rfl ?_
                      refine g_icmp_ne C dL_isWhole_323 (by omega) (q2 := 354) rfl (q := 326) rfl (fun hb9 => ?_) (fun hb9 => ?_)
                      · skip
                        refine g_iconst C dL_isWhole_354 (q := 355) rfl ?_
                        exact j302_3 0 (by omega)
                      · skip
                        refine g_aload_n C dL_isWhole_326 0 rfl rfl (q := 327) rfl ?_
                        refine g_iload C dL_isWhole_327 5 rfl (q := 329) rfl ?_
                        refine g_iload C dL_isWhole_329 8 rfl (q := 331) rfl ?_
                        refine g_cT_i C (hh := th_L_colour) (As := [.ref (ea E 0), .int (iI r), .int (iI p)]) (c_L_colour l hst E _ r p  (by first | assumption | omega) (by first | assumption | omega) (by show CW (σ 2); first | assumption | omega) (by show fP (σ 2) r p = 0; exact fP_ok (by omega) (by omega))) ml_L_282 mf_L_colour rfl ⟨(Nat.le_of_ble_eq_true rfl), (Nat.le_of_ble_eq_true rfl)⟩ rfl rfl rfl (Nat.le_of_ble_eq_true rfl) ⟨by show (ka + 24) + 0 ≤ 96; omega, by show (na + 144) + 0 ≤ 576; omega⟩ dL_isWhole_331 (q := 334) rfl ?_
                        refine g_k (k2 := (ka + 24)) (n2 := (na + 144)) (by omega) (by omega) ?_
                        refine g_top (b := (σ 2) (r * 60 + p) % 8) rfl ?_
                        refine g_aload_n C dL_isWhole_334 0 rfl rfl (q := 335) rfl ?_
                        refine g_iload C dL_isWhole_335 5 rfl (q := 337) rfl ?_
                        refine g_iload C dL_isWhole_337 6 rfl (q := 339) rfl ?_
                        refine g_iconst C dL_isWhole_339 (q := 340) rfl ?_
                        refine g_isub C dL_isWhole_340 (q := 341) rfl ?_
                        refine g_iload C dL_isWhole_341 8 rfl (q := 343) rfl ?_
                        refine g_isub C dL_isWhole_343 (q := 344) rfl ?_
                        refine g_cT_i C (hh := th_L_colour) (As := [.ref (ea E 0), .int (iI r), .int (iI ((σ 2) (240 + r) - 1 - p))]) (c_L_colour l hst E _ r ((σ 2) (240 + r) - 1 - p)  (by first | assumption | omega) (by first | assumption | omega) (by show CW (σ 2); first | assumption | omega) (by show fP (σ 2) r ((σ 2) (240 + r) - 1 - p) = 0; exact fP_ok (by omega) (by omega))) ml_L_282 mf_L_colour rfl ⟨(Nat.le_of_ble_eq_true rfl), (Nat.le_of_ble_eq_true rfl)⟩ rfl rfl rfl (Nat.le_of_ble_eq_true rfl) ⟨by show (ka + 24) + 0 ≤ 96; omega, by show (na + 144) + 0 ≤ 576; omega⟩ dL_isWhole_344 (q := 347) rfl ?_
                        refine g_k (k2 := (ka + 24)) (n2 := (na + 144)) (by omega) (by omega) ?_
                        refine g_top (b := (σ 2) (r * 60 + ((σ 2) (240 + r) - 1 - p)) % 8) rfl ?_
                        refine g_icmp_ne C dL_isWhole_347 (by omega) (q2 := 354) rfl (q := 350) rfl (fun hb10 => ?_) (fun hb10 => ?_)
                        · skip
                          refine g_iconst C dL_isWhole_354 (q := 355) rfl ?_
                          exact j302_3 0 (by omega)
                        · skip
                          refine g_iconst C dL_isWhole_350 (q := 351) rfl ?_
                          refine g_goto C dL_isWhole_351 (q := 355) rfl ?_
                          exact j302_3 1 (by omega)
                exact lp293 _ 1 0 (Nat.lt_succ_self _) (by omega) (by exact Or.inl ⟨rfl, fI_nil (Int.le_refl 0)⟩)
              · skip
                have qh := sh_sp hW (r := r) (o := q) (by omega) (by omega)
                have hnq := (hW q (by omega)).1
                have qE := eqR_01 (σ 2) r q
                refine g_aload_n C dL_isWhole_63 0 rfl rfl (q := 64) rfl ?_
                refine g_iload C dL_isWhole_64 5 rfl (q := 66) rfl ?_
                refine g_iload C dL_isWhole_66 6 rfl (q := 68) rfl ?_
                refine g_cT_i C (hh := th_L_commonBeginning) (As := [.ref (ea E 0), .int (iI r), .int (iI q)]) (c_L_commonBeginning l hst E _ r q  (by first | assumption | omega) (by first | assumption | omega) (by show CW (σ 2); first | assumption | omega) (by exact fRR_ok (by omega) (by omega))) ml_L_322 mf_L_commonBeginning rfl ⟨(Nat.le_of_ble_eq_true rfl), (Nat.le_of_ble_eq_true rfl)⟩ rfl rfl rfl (Nat.le_of_ble_eq_true rfl) ⟨by show (ka + 24) + 0 ≤ 96; omega, by show (na + 144) + 0 ≤ 576; omega⟩ dL_isWhole_68 (q := 71) rfl ?_
                refine g_k (k2 := (ka + 24)) (n2 := (na + 144)) (by omega) (by omega) ?_
                refine g_top (b := sh (σ 2) r q) rfl ?_
                refine g_istore C (L' := [(8, .int (iI (sh (σ 2) r q))), (0, .ref (ea E 0)), (1, .ref (eb E)), (2, .int (iI k)), (3, .int (iI z)), (4, .long (iL (wh + (sgl (σ 2) r)))), (6, .int (iI r)), (7, .int (iI q))]) dL_isWhole_71 (by decide) rfl (q := 73) rfl ?_
                have j73_4 : GG p_ l e_ rm_L_isWhole_96_576 s_ m_ a_ b_ h_ c_ Q E A 12 (st (st σ 11 lc) 12 ld) (ka + 24) (na + 144) 138 [(8, .int (iI (sh (σ 2) r q))), (0, .ref (ea E 0)), (1, .ref (eb E)), (2, .int (iI k)), (3, .int (iI z)), (4, .long (iL (wh + (sgl (σ 2) r)))), (6, .int (iI r)), (7, .int (iI q))] [.int (iI 1)] := by
                  refine g_istore C (L' := [(9, .int (iI 1)), (8, .int (iI (sh (σ 2) r q))), (0, .ref (ea E 0)), (1, .ref (eb E)), (2, .int (iI k)), (3, .int (iI z)), (4, .long (iL (wh + (sgl (σ 2) r)))), (6, .int (iI r)), (7, .int (iI q))]) dL_isWhole_138 (by decide) rfl (q := 140) rfl ?_
                  have j140_5 : ∀ (w10 : Int), ((w10 = 1 ∧ sh (σ 2) r q = (σ 2) (240 + r) ∧ sh (σ 2) r q = (σ 2) (240 + q)) ∨ (w10 = 0 ∧ ¬ (sh (σ 2) r q = (σ 2) (240 + r) ∧ sh (σ 2) r q = (σ 2) (240 + q)))) → GG p_ l e_ rm_L_isWhole_96_576 s_ m_ a_ b_ h_ c_ Q E A 12 (st (st σ 11 lc) 12 ld) (ka + 24) (na + 144) 167 [(9, .int (iI 1)), (8, .int (iI (sh (σ 2) r q))), (0, .ref (ea E 0)), (1, .ref (eb E)), (2, .int (iI k)), (3, .int (iI z)), (4, .long (iL (wh + (sgl (σ 2) r)))), (6, .int (iI r)), (7, .int (iI q))] [.int (iI w10)] := by
                    intro w10 h10
                    refine g_istore C (L' := [(10, .int (iI w10)), (9, .int (iI 1)), (8, .int (iI (sh (σ 2) r q))), (0, .ref (ea E 0)), (1, .ref (eb E)), (2, .int (iI k)), (3, .int (iI z)), (4, .long (iL (wh + (sgl (σ 2) r)))), (6, .int (iI r)), (7, .int (iI q))]) dL_isWhole_167 (by decide) rfl (q := 169) rfl ?_
                    have j169_6 : GG p_ l e_ rm_L_isWhole_96_576 s_ m_ a_ b_ h_ c_ Q E A 12 (st (st σ 11 lc) 12 ld) (ka + 24) (na + 144) 225 [(10, .int (iI w10)), (9, .int (iI 1)), (8, .int (iI (sh (σ 2) r q))), (0, .ref (ea E 0)), (1, .ref (eb E)), (2, .int (iI k)), (3, .int (iI z)), (4, .long (iL (wh + (sgl (σ 2) r)))), (6, .int (iI r)), (7, .int (iI q))] [.int (iI 1)] := by
                      refine g_istore C (L' := [(11, .int (iI 1)), (10, .int (iI w10)), (9, .int (iI 1)), (8, .int (iI (sh (σ 2) r q))), (0, .ref (ea E 0)), (1, .ref (eb E)), (2, .int (iI k)), (3, .int (iI z)), (4, .long (iL (wh + (sgl (σ 2) r)))), (6, .int (iI r)), (7, .int (iI q))]) dL_isWhole_225 (by decide) rfl (q := 227) rfl ?_
                      refine g_iload C dL_isWhole_227 2 rfl (q := 229) rfl ?_
                      refine g_if_eq C dL_isWhole_229 (by omega) (q2 := 271) rfl (q := 232) rfl (fun hb11 => ?_) (fun hb11 => ?_)
                      · skip
                        exfalso; omega
                      · skip
                        refine g_iload C dL_isWhole_232 0 rfl (q := 234) rfl ?_
                        refine g_if_eq C dL_isWhole_234 (by omega) (q2 := 271) rfl (q := 237) rfl (fun hb12 => ?_) (fun hb12 => ?_)
                        · skip
                          exfalso; omega
                        · skip
                          refine g_iload C dL_isWhole_237 3 rfl (q := 239) rfl ?_
                          refine g_aload_n C dL_isWhole_239 4 rfl rfl (q := 240) rfl ?_
                          refine g_iload C dL_isWhole_240 10 rfl (q := 242) rfl ?_
                          refine g_iload C dL_isWhole_242 9 rfl (q := 244) rfl ?_
                          refine g_cT_i C (hh := th_L_commonBeginning) (As := [.ref (ea E 0), .int (iI q), .int (iI r)]) (c_L_commonBeginning l hst E _ q r  (by first | assumption | omega) (by first | assumption | omega) (by show CW (σ 2); first | assumption | omega) (by exact fRR_ok (by omega) (by omega))) ml_L_322 mf_L_commonBeginning rfl ⟨(Nat.le_of_ble_eq_true rfl), (Nat.le_of_ble_eq_true rfl)⟩ rfl rfl rfl (Nat.le_of_ble_eq_true rfl) ⟨by show (ka + 24) + 0 ≤ 96; omega, by show (na + 144) + 0 ≤ 576; omega⟩ dL_isWhole_244 (q := 247) rfl ?_
                          refine g_k (k2 := (ka + 24)) (n2 := (na + 144)) (by omega) (by omega) ?_
                          refine g_top (b := sh (σ 2) q r) rfl ?_
                          refine g_top (b := sh (σ 2) r q) (by exact sh_sym _ _ _) ?_
                          refine g_icmp_ne C dL_isWhole_247 (by omega) (q2 := 271) rfl (q := 250) rfl (fun hb13 => ?_) (fun hb13 => ?_)
                          · skip
                            exfalso; omega
                          · skip
                            refine g_aload_n C dL_isWhole_250 4 rfl rfl (q := 251) rfl ?_
                            refine g_iload C dL_isWhole_251 9 rfl (q := 253) rfl ?_
                            refine g_iload C dL_isWhole_253 10 rfl (q := 255) rfl ?_
                            refine g_cT_i C (hh := th_L_areEqual) (As := [.ref (ea E 0), .int (iI r), .int (iI q)]) (c_L_areEqual l hst E _ r q  (by first | assumption | omega) (by first | assumption | omega) (by show CW (σ 2); first | assumption | omega) (by exact fRR_ok (by omega) (by omega))) ml_L_324 mf_L_areEqual rfl ⟨(Nat.le_of_ble_eq_true rfl), (Nat.le_of_ble_eq_true rfl)⟩ rfl rfl rfl (Nat.le_of_ble_eq_true rfl) ⟨by show (ka + 24) + 0 ≤ 96; omega, by show (na + 144) + 0 ≤ 576; omega⟩ dL_isWhole_255 (q := 258) rfl ?_
                            refine g_k (k2 := (ka + 24)) (n2 := (na + 144)) (by omega) (by omega) ?_
                            refine g_top (b := eqR (σ 2) r q) rfl ?_
                            have j258_7 : GG p_ l e_ rm_L_isWhole_96_576 s_ m_ a_ b_ h_ c_ Q E A 12 (st (st σ 11 lc) 12 ld) (ka + 24) (na + 144) 268 [(11, .int (iI 1)), (10, .int (iI w10)), (9, .int (iI 1)), (8, .int (iI (sh (σ 2) r q))), (0, .ref (ea E 0)), (1, .ref (eb E)), (2, .int (iI k)), (3, .int (iI z)), (4, .long (iL (wh + (sgl (σ 2) r)))), (6, .int (iI r)), (7, .int (iI q))] [.int (iI (eqR (σ 2) r q)), .int (iI (eqR (σ 2) r q))] := by
                              refine g_icmp_eq C dL_isWhole_268 (by omega) (q2 := 273) rfl (q := 271) rfl (fun hb14 => ?_) (fun hb14 => ?_)
                              · skip
                                refine g_iinc C (L' := [(7, .int (iI (q + 1))), (11, .int (iI 1)), (10, .int (iI w10)), (9, .int (iI 1)), (8, .int (iI (sh (σ 2) r q))), (0, .ref (ea E 0)), (1, .ref (eb E)), (2, .int (iI k)), (3, .int (iI z)), (4, .long (iL (wh + (sgl (σ 2) r)))), (6, .int (iI r))]) dL_isWhole_273 10 rfl (by decide) rfl (q := 276) rfl ?_
                                refine g_goto C dL_isWhole_276 (q := 57) rfl ?_
                                refine g_sub [5, 6, 7, 8, 9, 10, 0] (L' := [(0, .ref (ea E 0)), (1, .ref (eb E)), (2, .int (iI k)), (3, .int (iI z)), (4, .long (iL (wh + (sgl (σ 2) r)))), (6, .int (iI r)), (7, .int (iI (q + 1)))]) rfl ?_
                                exact ih57 (q + 1) (by omega) (by omega)
                              · skip
                                exfalso; omega
                            refine g_iload C dL_isWhole_258 1 rfl (q := 260) rfl ?_
                            refine g_if_eq C dL_isWhole_260 (by omega) (q2 := 267) rfl (q := 263) rfl (fun hb15 => ?_) (fun hb15 => ?_)
                            · skip
                              refine g_iconst C dL_isWhole_267 (q := 268) rfl ?_
                              refine g_top (b := eqR (σ 2) r q) (by unfold eqR; first | rw [if_pos (by omega)] | rw [if_neg (by omega)]) ?_
                              exact j258_7 
                            · skip
                              refine g_iconst C dL_isWhole_263 (q := 264) rfl ?_
                              refine g_goto C dL_isWhole_264 (q := 268) rfl ?_
                              refine g_top (b := eqR (σ 2) r q) (by unfold eqR; first | rw [if_pos (by omega)] | rw [if_neg (by omega)]) ?_
                              exact j258_7 
                    refine g_iload C dL_isWhole_169 2 rfl (q := 171) rfl ?_
                    refine g_if_eq C dL_isWhole_171 (by omega) (q2 := 220) rfl (q := 174) rfl (fun hb16 => ?_) (fun hb16 => ?_)
                    · skip
                      refine g_iconst C dL_isWhole_220 (q := 221) rfl ?_
                      refine g_goto C dL_isWhole_221 (q := 225) rfl ?_
                      exact j169_6 
                    · skip
                      have qe := qh.2.1 (sh (σ 2) r q - 1) (by omega) (by omega)
                      have hse := (hW r (by omega)).2 (sh (σ 2) r q - 1) (by omega)
                      refine g_aload_n C dL_isWhole_174 3 rfl rfl (q := 175) rfl ?_
                      refine g_iload C dL_isWhole_175 8 rfl (q := 177) rfl ?_
                      refine g_iload C dL_isWhole_177 2 rfl (q := 179) rfl ?_
                      refine g_iconst C dL_isWhole_179 (q := 180) rfl ?_
                      refine g_isub C dL_isWhole_180 (q := 181) rfl ?_
                      refine g_cT_i C (hh := th_L_length) (As := [.ref (ea E 0), .int (iI r), .int (iI (sh (σ 2) r q - 1))]) (c_L_length l hst E _ r (sh (σ 2) r q - 1)  (by first | assumption | omega) (by first | assumption | omega) (by show CW (σ 2); first | assumption | omega) (by show fP (σ 2) r (sh (σ 2) r q - 1) = 0; exact fP_ok (by omega) (by omega))) ml_L_280 mf_L_length rfl ⟨(Nat.le_of_ble_eq_true rfl), (Nat.le_of_ble_eq_true rfl)⟩ rfl rfl rfl (Nat.le_of_ble_eq_true rfl) ⟨by show (ka + 24) + 0 ≤ 96; omega, by show (na + 144) + 0 ≤ 576; omega⟩ dL_isWhole_181 (q := 184) rfl ?_
                      refine g_k (k2 := (ka + 24)) (n2 := (na + 144)) (by omega) (by omega) ?_
                      refine g_top (b := (σ 2) (r * 60 + (sh (σ 2) r q - 1)) / 8) rfl ?_
                      refine g_aload_n C dL_isWhole_184 3 rfl rfl (q := 185) rfl ?_
                      refine g_iload C dL_isWhole_185 9 rfl (q := 187) rfl ?_
                      refine g_iload C dL_isWhole_187 2 rfl (q := 189) rfl ?_
                      refine g_iconst C dL_isWhole_189 (q := 190) rfl ?_
                      refine g_isub C dL_isWhole_190 (q := 191) rfl ?_
                      refine g_cT_i C (hh := th_L_length) (As := [.ref (ea E 0), .int (iI q), .int (iI (sh (σ 2) r q - 1))]) (c_L_length l hst E _ q (sh (σ 2) r q - 1)  (by first | assumption | omega) (by first | assumption | omega) (by show CW (σ 2); first | assumption | omega) (by show fP (σ 2) q (sh (σ 2) r q - 1) = 0; exact fP_ok (by omega) (by omega))) ml_L_280 mf_L_length rfl ⟨(Nat.le_of_ble_eq_true rfl), (Nat.le_of_ble_eq_true rfl)⟩ rfl rfl rfl (Nat.le_of_ble_eq_true rfl) ⟨by show (ka + 24) + 0 ≤ 96; omega, by show (na + 144) + 0 ≤ 576; omega⟩ dL_isWhole_191 (q := 194) rfl ?_
                      refine g_k (k2 := (ka + 24)) (n2 := (na + 144)) (by omega) (by omega) ?_
                      refine g_top (b := (σ 2) (q * 60 + (sh (σ 2) r q - 1)) / 8) rfl ?_
                      refine g_icmp_ne C dL_isWhole_194 (by omega) (q2 := 224) rfl (q := 197) rfl (fun hb17 => ?_) (fun hb17 => ?_)
                      · skip
                        exfalso; omega
                      · skip
                        refine g_aload_n C dL_isWhole_197 3 rfl rfl (q := 198) rfl ?_
                        refine g_iload C dL_isWhole_198 8 rfl (q := 200) rfl ?_
                        refine g_iload C dL_isWhole_200 2 rfl (q := 202) rfl ?_
                        refine g_iconst C dL_isWhole_202 (q := 203) rfl ?_
                        refine g_isub C dL_isWhole_203 (q := 204) rfl ?_
                        refine g_cT_i C (hh := th_L_colour) (As := [.ref (ea E 0), .int (iI r), .int (iI (sh (σ 2) r q - 1))]) (c_L_colour l hst E _ r (sh (σ 2) r q - 1)  (by first | assumption | omega) (by first | assumption | omega) (by show CW (σ 2); first | assumption | omega) (by show fP (σ 2) r (sh (σ 2) r q - 1) = 0; exact fP_ok (by omega) (by omega))) ml_L_282 mf_L_colour rfl ⟨(Nat.le_of_ble_eq_true rfl), (Nat.le_of_ble_eq_true rfl)⟩ rfl rfl rfl (Nat.le_of_ble_eq_true rfl) ⟨by show (ka + 24) + 0 ≤ 96; omega, by show (na + 144) + 0 ≤ 576; omega⟩ dL_isWhole_204 (q := 207) rfl ?_
                        refine g_k (k2 := (ka + 24)) (n2 := (na + 144)) (by omega) (by omega) ?_
                        refine g_top (b := (σ 2) (r * 60 + (sh (σ 2) r q - 1)) % 8) rfl ?_
                        refine g_aload_n C dL_isWhole_207 3 rfl rfl (q := 208) rfl ?_
                        refine g_iload C dL_isWhole_208 9 rfl (q := 210) rfl ?_
                        refine g_iload C dL_isWhole_210 2 rfl (q := 212) rfl ?_
                        refine g_iconst C dL_isWhole_212 (q := 213) rfl ?_
                        refine g_isub C dL_isWhole_213 (q := 214) rfl ?_
                        refine g_cT_i C (hh := th_L_colour) (As := [.ref (ea E 0), .int (iI q), .int (iI (sh (σ 2) r q - 1))]) (c_L_colour l hst E _ q (sh (σ 2) r q - 1)  (by first | assumption | omega) (by first | assumption | omega) (by show CW (σ 2); first | assumption | omega) (by show fP (σ 2) q (sh (σ 2) r q - 1) = 0; exact fP_ok (by omega) (by omega))) ml_L_282 mf_L_colour rfl ⟨(Nat.le_of_ble_eq_true rfl), (Nat.le_of_ble_eq_true rfl)⟩ rfl rfl rfl (Nat.le_of_ble_eq_true rfl) ⟨by show (ka + 24) + 0 ≤ 96; omega, by show (na + 144) + 0 ≤ 576; omega⟩ dL_isWhole_214 (q := 217) rfl ?_
                        refine g_k (k2 := (ka + 24)) (n2 := (na + 144)) (by omega) (by omega) ?_
                        refine g_top (b := (σ 2) (q * 60 + (sh (σ 2) r q - 1)) % 8) rfl ?_
                        refine g_icmp_ne C dL_isWhole_217 (by omega) (q2 := 224) rfl (q := 220) rfl (fun hb18 => ?_) (fun hb18 => ?_)
                        · skip
                          exfalso; omega
                        · skip
                          refine g_iconst C dL_isWhole_220 (q := 221) rfl ?_
                          refine g_goto C dL_isWhole_221 (q := 225) rfl ?_
                          exact j169_6 
                  refine g_iload C dL_isWhole_140 1 rfl (q := 142) rfl ?_
                  refine g_aload_n C dL_isWhole_142 2 rfl rfl (q := 143) rfl ?_
                  refine g_iload C dL_isWhole_143 7 rfl (q := 145) rfl ?_
                  refine g_cT_i C (hh := th_L_segmentCount) (As := [.ref (ea E 0), .int (iI r)]) (c_L_segmentCount l hst E _ r  (by first | assumption | omega) (by show CW (σ 2); first | assumption | omega) (by exact fR_ok (by omega))) ml_L_186 mf_L_segmentCount rfl ⟨(Nat.le_of_ble_eq_true rfl), (Nat.le_of_ble_eq_true rfl)⟩ rfl rfl rfl (Nat.le_of_ble_eq_true rfl) ⟨by show (ka + 24) + 0 ≤ 96; omega, by show (na + 144) + 0 ≤ 576; omega⟩ dL_isWhole_145 (q := 148) rfl ?_
                  refine g_k (k2 := (ka + 24)) (n2 := (na + 144)) (by omega) (by omega) ?_
                  refine g_top (b := (σ 2) (240 + r)) rfl ?_
                  refine g_icmp_ne C dL_isWhole_148 (by omega) (q2 := 166) rfl (q := 151) rfl (fun hb19 => ?_) (fun hb19 => ?_)
                  · skip
                    refine g_iconst C dL_isWhole_166 (q := 167) rfl ?_
                    exact j140_5 0 (by omega)
                  · skip
                    refine g_iload C dL_isWhole_151 1 rfl (q := 153) rfl ?_
                    refine g_aload_n C dL_isWhole_153 2 rfl rfl (q := 154) rfl ?_
                    refine g_iload C dL_isWhole_154 8 rfl (q := 156) rfl ?_
                    refine g_cT_i C (hh := th_L_segmentCount) (As := [.ref (ea E 0), .int (iI q)]) (c_L_segmentCount l hst E _ q  (by first | assumption | omega) (by show CW (σ 2); first | assumption | omega) (by exact fR_ok (by omega))) ml_L_186 mf_L_segmentCount rfl ⟨(Nat.le_of_ble_eq_true rfl), (Nat.le_of_ble_eq_true rfl)⟩ rfl rfl rfl (Nat.le_of_ble_eq_true rfl) ⟨by show (ka + 24) + 0 ≤ 96; omega, by show (na + 144) + 0 ≤ 576; omega⟩ dL_isWhole_156 (q := 159) rfl ?_
                    refine g_k (k2 := (ka + 24)) (n2 := (na + 144)) (by omega) (by omega) ?_
                    refine g_top (b := (σ 2) (240 + q)) rfl ?_
                    refine g_icmp_ne C dL_isWhole_159 (by omega) (q2 := 166) rfl (q := 162) rfl (fun hb20 => ?_) (fun hb20 => ?_)
                    · skip
                      refine g_iconst C dL_isWhole_166 (q := 167) rfl ?_
                      exact j140_5 0 (by omega)
                    · skip
                      refine g_iconst C dL_isWhole_162 (q := 163) rfl ?_
                      refine g_goto C dL_isWhole_163 (q := 167) rfl ?_
                      exact j140_5 1 (by omega)
                refine g_iload C dL_isWhole_73 0 rfl (q := 75) rfl ?_
                refine g_aload_n C dL_isWhole_75 1 rfl rfl (q := 76) rfl ?_
                refine g_iload C dL_isWhole_76 6 rfl (q := 78) rfl ?_
                refine g_cT_i C (hh := th_L_segmentCount) (As := [.ref (ea E 0), .int (iI r)]) (c_L_segmentCount l hst E _ r  (by first | assumption | omega) (by show CW (σ 2); first | assumption | omega) (by exact fR_ok (by omega))) ml_L_186 mf_L_segmentCount rfl ⟨(Nat.le_of_ble_eq_true rfl), (Nat.le_of_ble_eq_true rfl)⟩ rfl rfl rfl (Nat.le_of_ble_eq_true rfl) ⟨by show (ka + 24) + 0 ≤ 96; omega, by show (na + 144) + 0 ≤ 576; omega⟩ dL_isWhole_78 (q := 81) rfl ?_
                refine g_k (k2 := (ka + 24)) (n2 := (na + 144)) (by omega) (by omega) ?_
                refine g_top (b := (σ 2) (240 + r)) rfl ?_
                refine g_icmp_eq C dL_isWhole_81 (by omega) (q2 := 133) rfl (q := 84) rfl (fun hb21 => ?_) (fun hb21 => ?_)
                · skip
                  refine g_iconst C dL_isWhole_133 (q := 134) rfl ?_
                  refine g_goto C dL_isWhole_134 (q := 138) rfl ?_
                  exact j73_4 
                · skip
                  refine g_iload C dL_isWhole_84 0 rfl (q := 86) rfl ?_
                  refine g_aload_n C dL_isWhole_86 1 rfl rfl (q := 87) rfl ?_
                  refine g_iload C dL_isWhole_87 7 rfl (q := 89) rfl ?_
                  refine g_cT_i C (hh := th_L_segmentCount) (As := [.ref (ea E 0), .int (iI q)]) (c_L_segmentCount l hst E _ q  (by first | assumption | omega) (by show CW (σ 2); first | assumption | omega) (by exact fR_ok (by omega))) ml_L_186 mf_L_segmentCount rfl ⟨(Nat.le_of_ble_eq_true rfl), (Nat.le_of_ble_eq_true rfl)⟩ rfl rfl rfl (Nat.le_of_ble_eq_true rfl) ⟨by show (ka + 24) + 0 ≤ 96; omega, by show (na + 144) + 0 ≤ 576; omega⟩ dL_isWhole_89 (q := 92) rfl ?_
                  refine g_k (k2 := (ka + 24)) (n2 := (na + 144)) (by omega) (by omega) ?_
                  refine g_top (b := (σ 2) (240 + q)) rfl ?_
                  refine g_icmp_eq C dL_isWhole_92 (by omega) (q2 := 133) rfl (q := 95) rfl (fun hb22 => ?_) (fun hb22 => ?_)
                  · skip
                    refine g_iconst C dL_isWhole_133 (q := 134) rfl ?_
                    refine g_goto C dL_isWhole_134 (q := 138) rfl ?_
                    exact j73_4 
                  · skip
                    have hsr := (hW r (by omega)).2 (sh (σ 2) r q) (by omega)
                    have hsq := (hW q (by omega)).2 (sh (σ 2) r q) (by omega)
                    refine g_aload_n C dL_isWhole_95 1 rfl rfl (q := 96) rfl ?_
                    refine g_iload C dL_isWhole_96 6 rfl (q := 98) rfl ?_
                    refine g_iload C dL_isWhole_98 0 rfl (q := 100) rfl ?_
                    refine g_cT_i C (hh := th_L_length) (As := [.ref (ea E 0), .int (iI r), .int (iI (sh (σ 2) r q))]) (c_L_length l hst E _ r (sh (σ 2) r q)  (by first | assumption | omega) (by first | assumption | omega) (by show CW (σ 2); first | assumption | omega) (by show fP (σ 2) r (sh (σ 2) r q) = 0; exact fP_ok (by omega) (by omega))) ml_L_280 mf_L_length rfl ⟨(Nat.le_of_ble_eq_true rfl), (Nat.le_of_ble_eq_true rfl)⟩ rfl rfl rfl (Nat.le_of_ble_eq_true rfl) ⟨by show (ka + 24) + 0 ≤ 96; omega, by show (na + 144) + 0 ≤ 576; omega⟩ dL_isWhole_100 (q := 103) rfl ?_
                    refine g_k (k2 := (ka + 24)) (n2 := (na + 144)) (by omega) (by omega) ?_
                    refine g_top (b := (σ 2) (r * 60 + (sh (σ 2) r q)) / 8) rfl ?_
                    refine g_aload_n C dL_isWhole_103 1 rfl rfl (q := 104) rfl ?_
                    refine g_iload C dL_isWhole_104 7 rfl (q := 106) rfl ?_
                    refine g_iload C dL_isWhole_106 0 rfl (q := 108) rfl ?_
                    refine g_cT_i C (hh := th_L_length) (As := [.ref (ea E 0), .int (iI q), .int (iI (sh (σ 2) r q))]) (c_L_length l hst E _ q (sh (σ 2) r q)  (by first | assumption | omega) (by first | assumption | omega) (by show CW (σ 2); first | assumption | omega) (by show fP (σ 2) q (sh (σ 2) r q) = 0; exact fP_ok (by omega) (by omega))) ml_L_280 mf_L_length rfl ⟨(Nat.le_of_ble_eq_true rfl), (Nat.le_of_ble_eq_true rfl)⟩ rfl rfl rfl (Nat.le_of_ble_eq_true rfl) ⟨by show (ka + 24) + 0 ≤ 96; omega, by show (na + 144) + 0 ≤ 576; omega⟩ dL_isWhole_108 (q := 111) rfl ?_
                    refine g_k (k2 := (ka + 24)) (n2 := (na + 144)) (by omega) (by omega) ?_
                    refine g_top (b := (σ 2) (q * 60 + (sh (σ 2) r q)) / 8) rfl ?_
                    refine g_icmp_ne C dL_isWhole_111 (by omega) (q2 := 133) rfl (q := 114) rfl (fun hb23 => ?_) (fun hb23 => ?_)
                    · skip
                      refine g_iconst C dL_isWhole_133 (q := 134) rfl ?_
                      refine g_goto C dL_isWhole_134 (q := 138) rfl ?_
                      exact j73_4 
                    · skip
                      refine g_aload_n C dL_isWhole_114 1 rfl rfl (q := 115) rfl ?_
                      refine g_iload C dL_isWhole_115 6 rfl (q := 117) rfl ?_
                      refine g_iload C dL_isWhole_117 0 rfl (q := 119) rfl ?_
                      refine g_cT_i C (hh := th_L_colour) (As := [.ref (ea E 0), .int (iI r), .int (iI (sh (σ 2) r q))]) (c_L_colour l hst E _ r (sh (σ 2) r q)  (by first | assumption | omega) (by first | assumption | omega) (by show CW (σ 2); first | assumption | omega) (by show fP (σ 2) r (sh (σ 2) r q) = 0; exact fP_ok (by omega) (by omega))) ml_L_282 mf_L_colour rfl ⟨(Nat.le_of_ble_eq_true rfl), (Nat.le_of_ble_eq_true rfl)⟩ rfl rfl rfl (Nat.le_of_ble_eq_true rfl) ⟨by show (ka + 24) + 0 ≤ 96; omega, by show (na + 144) + 0 ≤ 576; omega⟩ dL_isWhole_119 (q := 122) rfl ?_
                      refine g_k (k2 := (ka + 24)) (n2 := (na + 144)) (by omega) (by omega) ?_
                      refine g_top (b := (σ 2) (r * 60 + (sh (σ 2) r q)) % 8) rfl ?_
                      refine g_aload_n C dL_isWhole_122 1 rfl rfl (q := 123) rfl ?_
                      refine g_iload C dL_isWhole_123 7 rfl (q := 125) rfl ?_
                      refine g_iload C dL_isWhole_125 0 rfl (q := 127) rfl ?_
                      refine g_cT_i C (hh := th_L_colour) (As := [.ref (ea E 0), .int (iI q), .int (iI (sh (σ 2) r q))]) (c_L_colour l hst E _ q (sh (σ 2) r q)  (by first | assumption | omega) (by first | assumption | omega) (by show CW (σ 2); first | assumption | omega) (by show fP (σ 2) q (sh (σ 2) r q) = 0; exact fP_ok (by omega) (by omega))) ml_L_282 mf_L_colour rfl ⟨(Nat.le_of_ble_eq_true rfl), (Nat.le_of_ble_eq_true rfl)⟩ rfl rfl rfl (Nat.le_of_ble_eq_true rfl) ⟨by show (ka + 24) + 0 ≤ 96; omega, by show (na + 144) + 0 ≤ 576; omega⟩ dL_isWhole_127 (q := 130) rfl ?_
                      refine g_k (k2 := (ka + 24)) (n2 := (na + 144)) (by omega) (by omega) ?_
                      refine g_top (b := (σ 2) (q * 60 + (sh (σ 2) r q)) % 8) rfl ?_
                      refine g_icmp_eq C dL_isWhole_130 (by omega) (q2 := 137) rfl (q := 133) rfl (fun hb24 => ?_) (fun hb24 => ?_)
                      · skip
                        exfalso; omega
                      · skip
                        refine g_iconst C dL_isWhole_133 (q := 134) rfl ?_
                        refine g_goto C dL_isWhole_134 (q := 138) rfl ?_
                        exact j73_4 
          exact lp57 _ 0 (Nat.lt_succ_self _) (by omega)
        refine g_iload_n C dL_isWhole_24 4 rfl rfl (q := 25) rfl ?_
        refine g_if_ne C dL_isWhole_25 (by omega) (q2 := 41) rfl (q := 28) rfl (fun hb25 => ?_) (fun hb25 => ?_)
        · skip
          refine g_aload_n C dL_isWhole_41 1 rfl rfl (q := 42) rfl ?_
          refine g_iload C dL_isWhole_42 5 rfl (q := 44) rfl ?_
          refine g_aload_n C dL_isWhole_44 2 rfl rfl (q := 45) rfl ?_
          refine g_iload_n C dL_isWhole_45 3 rfl rfl (q := 46) rfl ?_
          refine g_cN_i C (As := [.ref (ea E 0), .int (iI r), .ref (eb E), .int (iI k)]) (c_L_isReel l hst E _ r k  (by show CW (σ 2); first | assumption | omega) (by show PW (σ 2); first | assumption | omega) (by omega) (by omega) (by first | assumption | omega)) ml_L_318 mf_L_isReel rfl rfl ⟨(Nat.le_of_ble_eq_true rfl), (Nat.le_of_ble_eq_true rfl)⟩ rfl rfl rfl (Nat.le_of_ble_eq_true rfl) ⟨by show ka + 24 ≤ 96; omega, by show na + 144 ≤ 576; omega⟩ dL_isWhole_46 (q := 49) rfl ?_
          refine g_k (k2 := (ka + 24)) (n2 := (na + 144)) (by omega) (by omega) ?_
          refine g_st (σ2 := (st (st σ 11 (pt la 1 ((dsI (σ 2) r 0 lb 0 ((σ 2) (240 + r))).2))) 12 ((dsI (σ 2) r 0 lb 0 ((σ 2) (240 + r))).1))) ((congrArg (fun g9 => st g9 12 ((dsI (σ 2) r 0 lb 0 ((σ 2) (240 + r))).1)) ((st_cm (st σ 11 la) (o := 12) (q := 11) lb (pt la 1 ((dsI (σ 2) r 0 lb 0 ((σ 2) (240 + r))).2)) (by decide)).trans (congrArg (fun g9 => st g9 12 lb) (st_st _ _ _ _)))).trans (st_st _ _ _ _)) ?_
          refine g_if_ne C dL_isWhole_49 (by omega) (q2 := 54) rfl (q := 52) rfl (fun hb26 => ?_) (fun hb26 => ?_)
          · skip
            exact j24_1 (pt la 1 ((dsI (σ 2) r 0 lb 0 ((σ 2) (240 + r))).2)) ((dsI (σ 2) r 0 lb 0 ((σ 2) (240 + r))).1) 
          · skip
            exfalso; omega
        · skip
          refine g_iload C dL_isWhole_28 5 rfl (q := 30) rfl ?_
          have qp := pkE_rg E (k + 3) (n := 4) (by omega)
          refine g_aload_n C dL_isWhole_30 2 rfl rfl (q := 31) rfl ?_
          refine g_iload_n C dL_isWhole_31 3 rfl rfl (q := 32) rfl ?_
          refine g_iconst C dL_isWhole_32 (q := 33) rfl ?_
          refine g_iadd C dL_isWhole_33 (q := 34) rfl ?_
          refine g_iconst C dL_isWhole_34 (q := 35) rfl ?_
          refine g_cN_i C (As := [.ref (eb E), .int (iI (k + 3)), .int (iI 4)]) (c_L_pick l hst E _ (k + 3) 4  (by omega) (by omega) (by first | assumption | omega)) ml_L_182 mf_L_pick rfl rfl ⟨(Nat.le_of_ble_eq_true rfl), (Nat.le_of_ble_eq_true rfl)⟩ rfl rfl rfl (Nat.le_of_ble_eq_true rfl) ⟨by show ka + 0 ≤ 96; omega, by show na + 0 ≤ 576; omega⟩ dL_isWhole_35 (q := 38) rfl ?_
          refine g_k (k2 := ka) (n2 := na) (by omega) (by omega) ?_
          refine g_icmp_ne C dL_isWhole_38 (by omega) (q2 := 54) rfl (q := 41) rfl (fun hb27 => ?_) (fun hb27 => ?_)
          · skip
            refine g_wide (k2 := (ka + 24)) (n2 := (na + 144)) (by omega) (by omega) ?_
            exact j24_1 la lb 
          · skip
            refine g_aload_n C dL_isWhole_41 1 rfl rfl (q := 42) rfl ?_
            refine g_iload C dL_isWhole_42 5 rfl (q := 44) rfl ?_
            refine g_aload_n C dL_isWhole_44 2 rfl rfl (q := 45) rfl ?_
            refine g_iload_n C dL_isWhole_45 3 rfl rfl (q := 46) rfl ?_
            refine g_cN_i C (As := [.ref (ea E 0), .int (iI r), .ref (eb E), .int (iI k)]) (c_L_isReel l hst E _ r k  (by show CW (σ 2); first | assumption | omega) (by show PW (σ 2); first | assumption | omega) (by omega) (by omega) (by first | assumption | omega)) ml_L_318 mf_L_isReel rfl rfl ⟨(Nat.le_of_ble_eq_true rfl), (Nat.le_of_ble_eq_true rfl)⟩ rfl rfl rfl (Nat.le_of_ble_eq_true rfl) ⟨by show ka + 24 ≤ 96; omega, by show na + 144 ≤ 576; omega⟩ dL_isWhole_46 (q := 49) rfl ?_
            refine g_k (k2 := (ka + 24)) (n2 := (na + 144)) (by omega) (by omega) ?_
            refine g_st (σ2 := (st (st σ 11 (pt la 1 ((dsI (σ 2) r 0 lb 0 ((σ 2) (240 + r))).2))) 12 ((dsI (σ 2) r 0 lb 0 ((σ 2) (240 + r))).1))) ((congrArg (fun g9 => st g9 12 ((dsI (σ 2) r 0 lb 0 ((σ 2) (240 + r))).1)) ((st_cm (st σ 11 la) (o := 12) (q := 11) lb (pt la 1 ((dsI (σ 2) r 0 lb 0 ((σ 2) (240 + r))).2)) (by decide)).trans (congrArg (fun g9 => st g9 12 lb) (st_st _ _ _ _)))).trans (st_st _ _ _ _)) ?_
            refine g_if_ne C dL_isWhole_49 (by omega) (q2 := 54) rfl (q := 52) rfl (fun hb28 => ?_) (fun hb28 => ?_)
            · skip
              exact j24_1 (pt la 1 ((dsI (σ 2) r 0 lb 0 ((σ 2) (240 + r))).2)) ((dsI (σ 2) r 0 lb 0 ((σ 2) (240 + r))).1) 
            · skip
              exfalso; omega
  exact lp6 _ 0 0 (σ 11) (σ 12) 0 0 (Nat.lt_succ_self _) (by omega) (by exact (sI_nil (Int.le_refl 0)).symm) (by omega) (by omega)
