abbrev rm_X5_append : Room := { frames := 4, cells := 0, slots := 0, locals := 90 }
set_option maxRecDepth 100000 in
set_option maxHeartbeats 4000000 in
theorem c_X5_append (l : Launch) (E : EV) (σ : SS) (r b c : Int) (f : Int → Int) (hM : MS f (σ 14)) (hr_r : -2147483648 ≤ r ∧ r ≤ 2147483647) (hr_b : -2147483648 ≤ b ∧ b ≤ 2147483647) (hr_c : -2147483648 ≤ c ∧ c ≤ 2147483647) (hk : 0 ≤ (σ 13 5) ∧ (σ 13 5) ≤ 8) (hF : FK f 0 r b c 0 = 0) : Ki l yX5_append (cw yX5_append cX5_append 4 (some .int)) rm_X5_append E [.ref (ea E 13), .int (iI r), .int (iI b), .int (iI c)] σ ((σ 14) (2 + 121 * r) + 1) (st (st (st (st σ 13 (pt (pt (pt (σ 13) 0 0) 5 (min ((σ 13 5) + 1) 8)) 14 ((σ 14) (2 + 121 * r) + 1))) 14 (mPut (σ 14) r ((σ 14) (2 + 121 * r)) b c)) 15 (cpf (σ 14) (σ 15) 0 0 486)) 17 (hiF (σ 17) (cpf (σ 14) (σ 15) 0 0 486) (σ 13 5))) := by
  refine Ki_of (rm := rm_X5_append) (mL := 4) (b := cX5_append) RX5 rfl (by decide +kernel) rfl rfl [(0, .ref (ea E 13)), (1, .int (iI r)), (2, .int (iI b)), (3, .int (iI c))] rfl (Nat.le_of_ble_eq_true rfl) (fun p_ e_ s_ m_ a_ b_ h_ c_ Q A C hret => ?_)
  have hB := bR_iff r
  have hB1 := bR_01 r
  have hG := fA_0 (show fA f r b c = 0 from hF)
  refine g_aload_n C dX5_append_0 0 rfl rfl (q := 1) rfl ?_
  refine g_cV_v C (As := []) (c_X5_remembers l E _) ml_X5_99 mf_X5_remembers (o := 13) (ci := 5) rfl rfl rfl rfl ⟨(Nat.le_of_ble_eq_true rfl), (Nat.le_of_ble_eq_true rfl)⟩ rfl rfl rfl (Nat.le_of_ble_eq_true rfl) ⟨(Nat.le_of_ble_eq_true rfl), (Nat.le_of_ble_eq_true rfl)⟩ dX5_append_1 (q := 4) rfl ?_
  refine g_aload_n C dX5_append_4 0 rfl rfl (q := 5) rfl ?_
  refine g_aload_n C dX5_append_5 0 rfl rfl (q := 6) rfl ?_
  refine g_iload_n C dX5_append_6 1 rfl rfl (q := 7) rfl ?_
  refine g_iload_n C dX5_append_7 1 rfl rfl (q := 8) rfl ?_
  refine g_cS_i C (As := [.int (iI r)]) (c_X5_isReel l E _ r  (by omega)) ml_X5_58 mf_X5_isReel rfl rfl ⟨(Nat.le_of_ble_eq_true rfl), (Nat.le_of_ble_eq_true rfl)⟩ rfl rfl rfl (Nat.le_of_ble_eq_true rfl) ⟨(Nat.le_of_ble_eq_true rfl), (Nat.le_of_ble_eq_true rfl)⟩ dX5_append_8 (q := 11) rfl ?_
  refine g_if_eq C dX5_append_11 (by omega) (q2 := 22) rfl (q := 14) rfl (fun hb1 => ?_) (fun hb1 => ?_)
  · skip
    exfalso; omega
  · skip
    have hm_r := (hM.2.1 r (by omega)).1
    have hn_r := (hM.1 r (by omega)).1
    refine g_aload_n C dX5_append_14 0 rfl rfl (q := 15) rfl ?_
    refine g_iload_n C dX5_append_15 1 rfl rfl (q := 16) rfl ?_
    refine g_cV_i C (As := [.int (iI r)]) (c_X5_many l E _ r  (by omega)) ml_X5_62 mf_X5_many (o := 13) (ci := 5) rfl rfl rfl rfl ⟨(Nat.le_of_ble_eq_true rfl), (Nat.le_of_ble_eq_true rfl)⟩ rfl rfl rfl (Nat.le_of_ble_eq_true rfl) ⟨(Nat.le_of_ble_eq_true rfl), (Nat.le_of_ble_eq_true rfl)⟩ dX5_append_16 (q := 19) rfl ?_
    refine g_top (b := (σ 14) (2 + 121 * r)) rfl ?_
    refine g_goto C dX5_append_19 (q := 23) rfl ?_
    refine g_iload_n C dX5_append_23 2 rfl rfl (q := 24) rfl ?_
    refine g_iload_n C dX5_append_24 3 rfl rfl (q := 25) rfl ?_
    refine g_cV_i C (As := [.int (iI r), .int (iI ((σ 14) (2 + 121 * r))), .int (iI b), .int (iI c)]) (c_X5_puts l E _ r ((σ 14) (2 + 121 * r)) b c f (by show MS f (σ 14); assumption) (by omega) (by omega) (by omega) (by omega) (by show fPu f r (σ 14 (2 + 121 * r)) b c = 0; rw [hm_r, fA_Pu f (by omega) hn_r.1]; exact hF)) ml_X5_102 mf_X5_puts (o := 13) (ci := 5) rfl rfl rfl rfl ⟨(Nat.le_of_ble_eq_true rfl), (Nat.le_of_ble_eq_true rfl)⟩ rfl rfl rfl (Nat.le_of_ble_eq_true rfl) ⟨(Nat.le_of_ble_eq_true rfl), (Nat.le_of_ble_eq_true rfl)⟩ dX5_append_25 (q := 28) rfl ?_
    refine g_st (σ2 := (st (st (st σ 13 (pt (pt (σ 13) 0 0) 14 ((σ 14) (2 + 121 * r) + 1))) 14 (mPut (σ 14) r ((σ 14) (2 + 121 * r)) b c)) 15 (cpf (σ 14) (σ 15) 0 0 486))) ((congrArg (fun g9 => st g9 14 (mPut (σ 14) r ((σ 14) (2 + 121 * r)) b c)) ((st_cm (st σ 13 (pt (σ 13) 0 0)) (o := 15) (q := 13) (cpf (σ 14) (σ 15) 0 0 486) (pt (pt (σ 13) 0 0) 14 ((σ 14) (2 + 121 * r) + 1)) (by decide)).trans (congrArg (fun g9 => st g9 15 (cpf (σ 14) (σ 15) 0 0 486)) (st_st _ _ _ _)))).trans (st_cm (st σ 13 (pt (pt (σ 13) 0 0) 14 ((σ 14) (2 + 121 * r) + 1))) (o := 15) (q := 14) (cpf (σ 14) (σ 15) 0 0 486) (mPut (σ 14) r ((σ 14) (2 + 121 * r)) b c) (by decide))) ?_
    refine g_cV_i C (As := [.int (iI 0)]) (c_X5_ends_0 l E _   (by show 0 ≤ (σ 13 5) ∧ (σ 13 5) ≤ 8; omega)) ml_X5_106 mf_X5_ends (o := 13) (ci := 5) rfl rfl rfl rfl ⟨(Nat.le_of_ble_eq_true rfl), (Nat.le_of_ble_eq_true rfl)⟩ rfl rfl rfl (Nat.le_of_ble_eq_true rfl) ⟨(Nat.le_of_ble_eq_true rfl), (Nat.le_of_ble_eq_true rfl)⟩ dX5_append_28 (q := 31) rfl ?_
    refine g_top (b := ((σ 14) (2 + 121 * r) + 1)) rfl ?_
    refine g_st (σ2 := (st (st (st (st σ 13 (pt (pt (pt (σ 13) 0 0) 5 (min ((σ 13 5) + 1) 8)) 14 ((σ 14) (2 + 121 * r) + 1))) 14 (mPut (σ 14) r ((σ 14) (2 + 121 * r)) b c)) 15 (cpf (σ 14) (σ 15) 0 0 486)) 17 (hiF (σ 17) (cpf (σ 14) (σ 15) 0 0 486) (σ 13 5)))) (congrArg (fun g9 => st g9 17 (hiF (σ 17) (cpf (σ 14) (σ 15) 0 0 486) (σ 13 5))) ((congrArg (st (st (st (st σ 13 (pt (pt (σ 13) 0 0) 14 ((σ 14) (2 + 121 * r) + 1))) 14 (mPut (σ 14) r ((σ 14) (2 + 121 * r)) b c)) 15 (cpf (σ 14) (σ 15) 0 0 486)) 13) (pt_cm (pt (σ 13) 0 0) (k := 14) (j := 5) ((σ 14) (2 + 121 * r) + 1) (min ((σ 13 5) + 1) 8) (by decide))).trans ((st_cm (st (st σ 13 (pt (pt (σ 13) 0 0) 14 ((σ 14) (2 + 121 * r) + 1))) 14 (mPut (σ 14) r ((σ 14) (2 + 121 * r)) b c)) (o := 15) (q := 13) (cpf (σ 14) (σ 15) 0 0 486) (pt (pt (pt (σ 13) 0 0) 5 (min ((σ 13 5) + 1) 8)) 14 ((σ 14) (2 + 121 * r) + 1)) (by decide)).trans (congrArg (fun g9 => st g9 15 (cpf (σ 14) (σ 15) 0 0 486)) ((st_cm (st σ 13 (pt (pt (σ 13) 0 0) 14 ((σ 14) (2 + 121 * r) + 1))) (o := 14) (q := 13) (mPut (σ 14) r ((σ 14) (2 + 121 * r)) b c) (pt (pt (pt (σ 13) 0 0) 5 (min ((σ 13 5) + 1) 8)) 14 ((σ 14) (2 + 121 * r) + 1)) (by decide)).trans (congrArg (fun g9 => st g9 14 (mPut (σ 14) r ((σ 14) (2 + 121 * r)) b c)) (st_st _ _ _ _))))))) ?_
    exact hret _ _ _ dX5_append_31 rfl
set_option maxRecDepth 100000 in
set_option maxHeartbeats 4000000 in
theorem c_X5_append_1 (l : Launch) (E : EV) (σ : SS) (r b c : Int) (f : Int → Int) (hM : MS f (σ 14)) (hr_r : -2147483648 ≤ r ∧ r ≤ 2147483647) (hr_b : -2147483648 ≤ b ∧ b ≤ 2147483647) (hr_c : -2147483648 ≤ c ∧ c ≤ 2147483647) (hF : FK f 0 r b c 0 = 1) : Ki l yX5_append (cw yX5_append cX5_append 4 (some .int)) rm_X5_append E [.ref (ea E 13), .int (iI r), .int (iI b), .int (iI c)] σ 0 (st (st σ 13 (pt (σ 13) 0 1)) 15 (cpf (σ 14) (σ 15) 0 0 486)) := by
  refine Ki_of (rm := rm_X5_append) (mL := 4) (b := cX5_append) RX5 rfl (by decide +kernel) rfl rfl [(0, .ref (ea E 13)), (1, .int (iI r)), (2, .int (iI b)), (3, .int (iI c))] rfl (Nat.le_of_ble_eq_true rfl) (fun p_ e_ s_ m_ a_ b_ h_ c_ Q A C hret => ?_)
  have hB := bR_iff r
  have hB1 := bR_01 r
  have hnr : ¬ (0 ≤ r ∧ r < 4) := by intro h9; have hq : fA f r b c = 1 := hF; unfold fA fN at hq; rw [if_neg (by omega)] at hq; (repeat' split at hq) <;> omega
  refine g_aload_n C dX5_append_0 0 rfl rfl (q := 1) rfl ?_
  refine g_cV_v C (As := []) (c_X5_remembers l E _) ml_X5_99 mf_X5_remembers (o := 13) (ci := 5) rfl rfl rfl rfl ⟨(Nat.le_of_ble_eq_true rfl), (Nat.le_of_ble_eq_true rfl)⟩ rfl rfl rfl (Nat.le_of_ble_eq_true rfl) ⟨(Nat.le_of_ble_eq_true rfl), (Nat.le_of_ble_eq_true rfl)⟩ dX5_append_1 (q := 4) rfl ?_
  refine g_aload_n C dX5_append_4 0 rfl rfl (q := 5) rfl ?_
  refine g_aload_n C dX5_append_5 0 rfl rfl (q := 6) rfl ?_
  refine g_iload_n C dX5_append_6 1 rfl rfl (q := 7) rfl ?_
  refine g_iload_n C dX5_append_7 1 rfl rfl (q := 8) rfl ?_
  refine g_cS_i C (As := [.int (iI r)]) (c_X5_isReel l E _ r  (by omega)) ml_X5_58 mf_X5_isReel rfl rfl ⟨(Nat.le_of_ble_eq_true rfl), (Nat.le_of_ble_eq_true rfl)⟩ rfl rfl rfl (Nat.le_of_ble_eq_true rfl) ⟨(Nat.le_of_ble_eq_true rfl), (Nat.le_of_ble_eq_true rfl)⟩ dX5_append_8 (q := 11) rfl ?_
  refine g_if_eq C dX5_append_11 (by omega) (q2 := 22) rfl (q := 14) rfl (fun hb1 => ?_) (fun hb1 => ?_)
  · skip
    refine g_iconst C dX5_append_22 (q := 23) rfl ?_
    refine g_iload_n C dX5_append_23 2 rfl rfl (q := 24) rfl ?_
    refine g_iload_n C dX5_append_24 3 rfl rfl (q := 25) rfl ?_
    refine g_cV_i C (As := [.int (iI r), .int (iI 0), .int (iI b), .int (iI c)]) (c_X5_puts_1 l E _ r 0 b c f (by show MS f (σ 14); assumption) (by omega) (by omega) (by omega) (by omega) (by show fPu f r 0 b c = 1; have h9 := fPu_cs f r 0 b c; omega)) ml_X5_102 mf_X5_puts (o := 13) (ci := 5) rfl rfl rfl rfl ⟨(Nat.le_of_ble_eq_true rfl), (Nat.le_of_ble_eq_true rfl)⟩ rfl rfl rfl (Nat.le_of_ble_eq_true rfl) ⟨(Nat.le_of_ble_eq_true rfl), (Nat.le_of_ble_eq_true rfl)⟩ dX5_append_25 (q := 28) rfl ?_
    refine g_cV_i C (As := [.int (iI 1)]) (c_X5_ends_x l E _ 1  (by omega)) ml_X5_106 mf_X5_ends (o := 13) (ci := 5) rfl rfl rfl rfl ⟨(Nat.le_of_ble_eq_true rfl), (Nat.le_of_ble_eq_true rfl)⟩ rfl rfl rfl (Nat.le_of_ble_eq_true rfl) ⟨(Nat.le_of_ble_eq_true rfl), (Nat.le_of_ble_eq_true rfl)⟩ dX5_append_28 (q := 31) rfl ?_
    refine g_st (σ2 := (st (st σ 13 (pt (σ 13) 0 1)) 15 (cpf (σ 14) (σ 15) 0 0 486))) ((congrArg (st (st (st σ 13 (pt (σ 13) 0 0)) 15 (cpf (σ 14) (σ 15) 0 0 486)) 13) (pt_pt _ _ _ _)).trans ((st_cm (st σ 13 (pt (σ 13) 0 0)) (o := 15) (q := 13) (cpf (σ 14) (σ 15) 0 0 486) (pt (σ 13) 0 1) (by decide)).trans (congrArg (fun g9 => st g9 15 (cpf (σ 14) (σ 15) 0 0 486)) (st_st _ _ _ _)))) ?_
    exact hret _ _ _ dX5_append_31 rfl
  · skip
    exfalso; omega
set_option maxRecDepth 100000 in
set_option maxHeartbeats 4000000 in
theorem c_X5_append_2 (l : Launch) (E : EV) (σ : SS) (r b c : Int) (f : Int → Int) (hM : MS f (σ 14)) (hr_r : -2147483648 ≤ r ∧ r ≤ 2147483647) (hr_b : -2147483648 ≤ b ∧ b ≤ 2147483647) (hr_c : -2147483648 ≤ c ∧ c ≤ 2147483647) (hF : FK f 0 r b c 0 = 2) : Ki l yX5_append (cw yX5_append cX5_append 4 (some .int)) rm_X5_append E [.ref (ea E 13), .int (iI r), .int (iI b), .int (iI c)] σ 0 (st (st σ 13 (pt (σ 13) 0 2)) 15 (cpf (σ 14) (σ 15) 0 0 486)) := by
  refine Ki_of (rm := rm_X5_append) (mL := 4) (b := cX5_append) RX5 rfl (by decide +kernel) rfl rfl [(0, .ref (ea E 13)), (1, .int (iI r)), (2, .int (iI b)), (3, .int (iI c))] rfl (Nat.le_of_ble_eq_true rfl) (fun p_ e_ s_ m_ a_ b_ h_ c_ Q A C hret => ?_)
  have hB := bR_iff r
  have hB1 := bR_01 r
  have hyr : 0 ≤ r ∧ r < 4 := by (by_cases h9 : 0 ≤ r ∧ r < 4; exact h9; exfalso; have hq : fA f r b c = 2 := hF; rw [fA_no f h9] at hq; omega)
  refine g_aload_n C dX5_append_0 0 rfl rfl (q := 1) rfl ?_
  refine g_cV_v C (As := []) (c_X5_remembers l E _) ml_X5_99 mf_X5_remembers (o := 13) (ci := 5) rfl rfl rfl rfl ⟨(Nat.le_of_ble_eq_true rfl), (Nat.le_of_ble_eq_true rfl)⟩ rfl rfl rfl (Nat.le_of_ble_eq_true rfl) ⟨(Nat.le_of_ble_eq_true rfl), (Nat.le_of_ble_eq_true rfl)⟩ dX5_append_1 (q := 4) rfl ?_
  refine g_aload_n C dX5_append_4 0 rfl rfl (q := 5) rfl ?_
  refine g_aload_n C dX5_append_5 0 rfl rfl (q := 6) rfl ?_
  refine g_iload_n C dX5_append_6 1 rfl rfl (q := 7) rfl ?_
  refine g_iload_n C dX5_append_7 1 rfl rfl (q := 8) rfl ?_
  refine g_cS_i C (As := [.int (iI r)]) (c_X5_isReel l E _ r  (by omega)) ml_X5_58 mf_X5_isReel rfl rfl ⟨(Nat.le_of_ble_eq_true rfl), (Nat.le_of_ble_eq_true rfl)⟩ rfl rfl rfl (Nat.le_of_ble_eq_true rfl) ⟨(Nat.le_of_ble_eq_true rfl), (Nat.le_of_ble_eq_true rfl)⟩ dX5_append_8 (q := 11) rfl ?_
  refine g_if_eq C dX5_append_11 (by omega) (q2 := 22) rfl (q := 14) rfl (fun hb1 => ?_) (fun hb1 => ?_)
  · skip
    exfalso; omega
  · skip
    have hm_r := (hM.2.1 r (by omega)).1
    have hn_r := (hM.1 r (by omega)).1
    refine g_aload_n C dX5_append_14 0 rfl rfl (q := 15) rfl ?_
    refine g_iload_n C dX5_append_15 1 rfl rfl (q := 16) rfl ?_
    refine g_cV_i C (As := [.int (iI r)]) (c_X5_many l E _ r  (by omega)) ml_X5_62 mf_X5_many (o := 13) (ci := 5) rfl rfl rfl rfl ⟨(Nat.le_of_ble_eq_true rfl), (Nat.le_of_ble_eq_true rfl)⟩ rfl rfl rfl (Nat.le_of_ble_eq_true rfl) ⟨(Nat.le_of_ble_eq_true rfl), (Nat.le_of_ble_eq_true rfl)⟩ dX5_append_16 (q := 19) rfl ?_
    refine g_top (b := (σ 14) (2 + 121 * r)) rfl ?_
    refine g_goto C dX5_append_19 (q := 23) rfl ?_
    refine g_iload_n C dX5_append_23 2 rfl rfl (q := 24) rfl ?_
    refine g_iload_n C dX5_append_24 3 rfl rfl (q := 25) rfl ?_
    refine g_cV_i C (As := [.int (iI r), .int (iI ((σ 14) (2 + 121 * r))), .int (iI b), .int (iI c)]) (c_X5_puts_2 l E _ r ((σ 14) (2 + 121 * r)) b c f (by show MS f (σ 14); assumption) (by omega) (by omega) (by omega) (by omega) (by show fPu f r (σ 14 (2 + 121 * r)) b c = 2; rw [hm_r, fA_Pu f hyr hn_r.1]; exact hF)) ml_X5_102 mf_X5_puts (o := 13) (ci := 5) rfl rfl rfl rfl ⟨(Nat.le_of_ble_eq_true rfl), (Nat.le_of_ble_eq_true rfl)⟩ rfl rfl rfl (Nat.le_of_ble_eq_true rfl) ⟨(Nat.le_of_ble_eq_true rfl), (Nat.le_of_ble_eq_true rfl)⟩ dX5_append_25 (q := 28) rfl ?_
    refine g_cV_i C (As := [.int (iI 2)]) (c_X5_ends_x l E _ 2  (by omega)) ml_X5_106 mf_X5_ends (o := 13) (ci := 5) rfl rfl rfl rfl ⟨(Nat.le_of_ble_eq_true rfl), (Nat.le_of_ble_eq_true rfl)⟩ rfl rfl rfl (Nat.le_of_ble_eq_true rfl) ⟨(Nat.le_of_ble_eq_true rfl), (Nat.le_of_ble_eq_true rfl)⟩ dX5_append_28 (q := 31) rfl ?_
    refine g_st (σ2 := (st (st σ 13 (pt (σ 13) 0 2)) 15 (cpf (σ 14) (σ 15) 0 0 486))) ((congrArg (st (st (st σ 13 (pt (σ 13) 0 0)) 15 (cpf (σ 14) (σ 15) 0 0 486)) 13) (pt_pt _ _ _ _)).trans ((st_cm (st σ 13 (pt (σ 13) 0 0)) (o := 15) (q := 13) (cpf (σ 14) (σ 15) 0 0 486) (pt (σ 13) 0 2) (by decide)).trans (congrArg (fun g9 => st g9 15 (cpf (σ 14) (σ 15) 0 0 486)) (st_st _ _ _ _)))) ?_
    exact hret _ _ _ dX5_append_31 rfl
set_option maxRecDepth 100000 in
set_option maxHeartbeats 4000000 in
theorem c_X5_append_3 (l : Launch) (E : EV) (σ : SS) (r b c : Int) (f : Int → Int) (hM : MS f (σ 14)) (hr_r : -2147483648 ≤ r ∧ r ≤ 2147483647) (hr_b : -2147483648 ≤ b ∧ b ≤ 2147483647) (hr_c : -2147483648 ≤ c ∧ c ≤ 2147483647) (hF : FK f 0 r b c 0 = 3) : Ki l yX5_append (cw yX5_append cX5_append 4 (some .int)) rm_X5_append E [.ref (ea E 13), .int (iI r), .int (iI b), .int (iI c)] σ 0 (st (st σ 13 (pt (σ 13) 0 3)) 15 (cpf (σ 14) (σ 15) 0 0 486)) := by
  refine Ki_of (rm := rm_X5_append) (mL := 4) (b := cX5_append) RX5 rfl (by decide +kernel) rfl rfl [(0, .ref (ea E 13)), (1, .int (iI r)), (2, .int (iI b)), (3, .int (iI c))] rfl (Nat.le_of_ble_eq_true rfl) (fun p_ e_ s_ m_ a_ b_ h_ c_ Q A C hret => ?_)
  have hB := bR_iff r
  have hB1 := bR_01 r
  have hyr : 0 ≤ r ∧ r < 4 := by (by_cases h9 : 0 ≤ r ∧ r < 4; exact h9; exfalso; have hq : fA f r b c = 3 := hF; rw [fA_no f h9] at hq; omega)
  refine g_aload_n C dX5_append_0 0 rfl rfl (q := 1) rfl ?_
  refine g_cV_v C (As := []) (c_X5_remembers l E _) ml_X5_99 mf_X5_remembers (o := 13) (ci := 5) rfl rfl rfl rfl ⟨(Nat.le_of_ble_eq_true rfl), (Nat.le_of_ble_eq_true rfl)⟩ rfl rfl rfl (Nat.le_of_ble_eq_true rfl) ⟨(Nat.le_of_ble_eq_true rfl), (Nat.le_of_ble_eq_true rfl)⟩ dX5_append_1 (q := 4) rfl ?_
  refine g_aload_n C dX5_append_4 0 rfl rfl (q := 5) rfl ?_
  refine g_aload_n C dX5_append_5 0 rfl rfl (q := 6) rfl ?_
  refine g_iload_n C dX5_append_6 1 rfl rfl (q := 7) rfl ?_
  refine g_iload_n C dX5_append_7 1 rfl rfl (q := 8) rfl ?_
  refine g_cS_i C (As := [.int (iI r)]) (c_X5_isReel l E _ r  (by omega)) ml_X5_58 mf_X5_isReel rfl rfl ⟨(Nat.le_of_ble_eq_true rfl), (Nat.le_of_ble_eq_true rfl)⟩ rfl rfl rfl (Nat.le_of_ble_eq_true rfl) ⟨(Nat.le_of_ble_eq_true rfl), (Nat.le_of_ble_eq_true rfl)⟩ dX5_append_8 (q := 11) rfl ?_
  refine g_if_eq C dX5_append_11 (by omega) (q2 := 22) rfl (q := 14) rfl (fun hb1 => ?_) (fun hb1 => ?_)
  · skip
    exfalso; omega
  · skip
    have hm_r := (hM.2.1 r (by omega)).1
    have hn_r := (hM.1 r (by omega)).1
    refine g_aload_n C dX5_append_14 0 rfl rfl (q := 15) rfl ?_
    refine g_iload_n C dX5_append_15 1 rfl rfl (q := 16) rfl ?_
    refine g_cV_i C (As := [.int (iI r)]) (c_X5_many l E _ r  (by omega)) ml_X5_62 mf_X5_many (o := 13) (ci := 5) rfl rfl rfl rfl ⟨(Nat.le_of_ble_eq_true rfl), (Nat.le_of_ble_eq_true rfl)⟩ rfl rfl rfl (Nat.le_of_ble_eq_true rfl) ⟨(Nat.le_of_ble_eq_true rfl), (Nat.le_of_ble_eq_true rfl)⟩ dX5_append_16 (q := 19) rfl ?_
    refine g_top (b := (σ 14) (2 + 121 * r)) rfl ?_
    refine g_goto C dX5_append_19 (q := 23) rfl ?_
    refine g_iload_n C dX5_append_23 2 rfl rfl (q := 24) rfl ?_
    refine g_iload_n C dX5_append_24 3 rfl rfl (q := 25) rfl ?_
    refine g_cV_i C (As := [.int (iI r), .int (iI ((σ 14) (2 + 121 * r))), .int (iI b), .int (iI c)]) (c_X5_puts_3 l E _ r ((σ 14) (2 + 121 * r)) b c f (by show MS f (σ 14); assumption) (by omega) (by omega) (by omega) (by omega) (by show fPu f r (σ 14 (2 + 121 * r)) b c = 3; rw [hm_r, fA_Pu f hyr hn_r.1]; exact hF)) ml_X5_102 mf_X5_puts (o := 13) (ci := 5) rfl rfl rfl rfl ⟨(Nat.le_of_ble_eq_true rfl), (Nat.le_of_ble_eq_true rfl)⟩ rfl rfl rfl (Nat.le_of_ble_eq_true rfl) ⟨(Nat.le_of_ble_eq_true rfl), (Nat.le_of_ble_eq_true rfl)⟩ dX5_append_25 (q := 28) rfl ?_
    refine g_cV_i C (As := [.int (iI 3)]) (c_X5_ends_x l E _ 3  (by omega)) ml_X5_106 mf_X5_ends (o := 13) (ci := 5) rfl rfl rfl rfl ⟨(Nat.le_of_ble_eq_true rfl), (Nat.le_of_ble_eq_true rfl)⟩ rfl rfl rfl (Nat.le_of_ble_eq_true rfl) ⟨(Nat.le_of_ble_eq_true rfl), (Nat.le_of_ble_eq_true rfl)⟩ dX5_append_28 (q := 31) rfl ?_
    refine g_st (σ2 := (st (st σ 13 (pt (σ 13) 0 3)) 15 (cpf (σ 14) (σ 15) 0 0 486))) ((congrArg (st (st (st σ 13 (pt (σ 13) 0 0)) 15 (cpf (σ 14) (σ 15) 0 0 486)) 13) (pt_pt _ _ _ _)).trans ((st_cm (st σ 13 (pt (σ 13) 0 0)) (o := 15) (q := 13) (cpf (σ 14) (σ 15) 0 0 486) (pt (σ 13) 0 3) (by decide)).trans (congrArg (fun g9 => st g9 15 (cpf (σ 14) (σ 15) 0 0 486)) (st_st _ _ _ _)))) ?_
    exact hret _ _ _ dX5_append_31 rfl
abbrev rm_X5_insert : Room := { frames := 4, cells := 0, slots := 0, locals := 90 }
set_option maxRecDepth 100000 in
set_option maxHeartbeats 4000000 in
theorem c_X5_insert (l : Launch) (E : EV) (σ : SS) (r b c d : Int) (f : Int → Int) (hM : MS f (σ 14)) (hr_r : -2147483648 ≤ r ∧ r ≤ 2147483647) (hr_b : -2147483648 ≤ b ∧ b ≤ 2147483647) (hr_c : -2147483648 ≤ c ∧ c ≤ 2147483647) (hr_d : -2147483648 ≤ d ∧ d ≤ 2147483647) (hk : 0 ≤ (σ 13 5) ∧ (σ 13 5) ≤ 8) (hF : FK f 1 r b c d = 0) : Ki l yX5_insert (cw yX5_insert cX5_insert 5 (some .int)) rm_X5_insert E [.ref (ea E 13), .int (iI r), .int (iI b), .int (iI c), .int (iI d)] σ ((σ 14) (2 + 121 * r) + 1) (st (st (st (st σ 13 (pt (pt (pt (σ 13) 0 0) 5 (min ((σ 13 5) + 1) 8)) 14 ((σ 14) (2 + 121 * r) + 1))) 14 (mPut (σ 14) r b c d)) 15 (cpf (σ 14) (σ 15) 0 0 486)) 17 (hiF (σ 17) (cpf (σ 14) (σ 15) 0 0 486) (σ 13 5))) := by
  refine Ki_of (rm := rm_X5_insert) (mL := 5) (b := cX5_insert) RX5 rfl (by decide +kernel) rfl rfl [(0, .ref (ea E 13)), (1, .int (iI r)), (2, .int (iI b)), (3, .int (iI c)), (4, .int (iI d))] rfl (Nat.le_of_ble_eq_true rfl) (fun p_ e_ s_ m_ a_ b_ h_ c_ Q A C hret => ?_)
  refine g_aload_n C dX5_insert_0 0 rfl rfl (q := 1) rfl ?_
  refine g_cV_v C (As := []) (c_X5_remembers l E _) ml_X5_99 mf_X5_remembers (o := 13) (ci := 5) rfl rfl rfl rfl ⟨(Nat.le_of_ble_eq_true rfl), (Nat.le_of_ble_eq_true rfl)⟩ rfl rfl rfl (Nat.le_of_ble_eq_true rfl) ⟨(Nat.le_of_ble_eq_true rfl), (Nat.le_of_ble_eq_true rfl)⟩ dX5_insert_1 (q := 4) rfl ?_
  refine g_aload_n C dX5_insert_4 0 rfl rfl (q := 5) rfl ?_
  refine g_aload_n C dX5_insert_5 0 rfl rfl (q := 6) rfl ?_
  refine g_iload_n C dX5_insert_6 1 rfl rfl (q := 7) rfl ?_
  refine g_iload_n C dX5_insert_7 2 rfl rfl (q := 8) rfl ?_
  refine g_iload_n C dX5_insert_8 3 rfl rfl (q := 9) rfl ?_
  refine g_iload C dX5_insert_9 4 rfl (q := 11) rfl ?_
  refine g_cV_i C (As := [.int (iI r), .int (iI b), .int (iI c), .int (iI d)]) (c_X5_puts l E _ r b c d f (by show MS f (σ 14); assumption) (by omega) (by omega) (by omega) (by omega) (by exact hF)) ml_X5_102 mf_X5_puts (o := 13) (ci := 5) rfl rfl rfl rfl ⟨(Nat.le_of_ble_eq_true rfl), (Nat.le_of_ble_eq_true rfl)⟩ rfl rfl rfl (Nat.le_of_ble_eq_true rfl) ⟨(Nat.le_of_ble_eq_true rfl), (Nat.le_of_ble_eq_true rfl)⟩ dX5_insert_11 (q := 14) rfl ?_
  refine g_st (σ2 := (st (st (st σ 13 (pt (pt (σ 13) 0 0) 14 ((σ 14) (2 + 121 * r) + 1))) 14 (mPut (σ 14) r b c d)) 15 (cpf (σ 14) (σ 15) 0 0 486))) ((congrArg (fun g9 => st g9 14 (mPut (σ 14) r b c d)) ((st_cm (st σ 13 (pt (σ 13) 0 0)) (o := 15) (q := 13) (cpf (σ 14) (σ 15) 0 0 486) (pt (pt (σ 13) 0 0) 14 ((σ 14) (2 + 121 * r) + 1)) (by decide)).trans (congrArg (fun g9 => st g9 15 (cpf (σ 14) (σ 15) 0 0 486)) (st_st _ _ _ _)))).trans (st_cm (st σ 13 (pt (pt (σ 13) 0 0) 14 ((σ 14) (2 + 121 * r) + 1))) (o := 15) (q := 14) (cpf (σ 14) (σ 15) 0 0 486) (mPut (σ 14) r b c d) (by decide))) ?_
  refine g_cV_i C (As := [.int (iI 0)]) (c_X5_ends_0 l E _   (by show 0 ≤ (σ 13 5) ∧ (σ 13 5) ≤ 8; omega)) ml_X5_106 mf_X5_ends (o := 13) (ci := 5) rfl rfl rfl rfl ⟨(Nat.le_of_ble_eq_true rfl), (Nat.le_of_ble_eq_true rfl)⟩ rfl rfl rfl (Nat.le_of_ble_eq_true rfl) ⟨(Nat.le_of_ble_eq_true rfl), (Nat.le_of_ble_eq_true rfl)⟩ dX5_insert_14 (q := 17) rfl ?_
  refine g_top (b := ((σ 14) (2 + 121 * r) + 1)) rfl ?_
  refine g_st (σ2 := (st (st (st (st σ 13 (pt (pt (pt (σ 13) 0 0) 5 (min ((σ 13 5) + 1) 8)) 14 ((σ 14) (2 + 121 * r) + 1))) 14 (mPut (σ 14) r b c d)) 15 (cpf (σ 14) (σ 15) 0 0 486)) 17 (hiF (σ 17) (cpf (σ 14) (σ 15) 0 0 486) (σ 13 5)))) (congrArg (fun g9 => st g9 17 (hiF (σ 17) (cpf (σ 14) (σ 15) 0 0 486) (σ 13 5))) ((congrArg (st (st (st (st σ 13 (pt (pt (σ 13) 0 0) 14 ((σ 14) (2 + 121 * r) + 1))) 14 (mPut (σ 14) r b c d)) 15 (cpf (σ 14) (σ 15) 0 0 486)) 13) (pt_cm (pt (σ 13) 0 0) (k := 14) (j := 5) ((σ 14) (2 + 121 * r) + 1) (min ((σ 13 5) + 1) 8) (by decide))).trans ((st_cm (st (st σ 13 (pt (pt (σ 13) 0 0) 14 ((σ 14) (2 + 121 * r) + 1))) 14 (mPut (σ 14) r b c d)) (o := 15) (q := 13) (cpf (σ 14) (σ 15) 0 0 486) (pt (pt (pt (σ 13) 0 0) 5 (min ((σ 13 5) + 1) 8)) 14 ((σ 14) (2 + 121 * r) + 1)) (by decide)).trans (congrArg (fun g9 => st g9 15 (cpf (σ 14) (σ 15) 0 0 486)) ((st_cm (st σ 13 (pt (pt (σ 13) 0 0) 14 ((σ 14) (2 + 121 * r) + 1))) (o := 14) (q := 13) (mPut (σ 14) r b c d) (pt (pt (pt (σ 13) 0 0) 5 (min ((σ 13 5) + 1) 8)) 14 ((σ 14) (2 + 121 * r) + 1)) (by decide)).trans (congrArg (fun g9 => st g9 14 (mPut (σ 14) r b c d)) (st_st _ _ _ _))))))) ?_
  exact hret _ _ _ dX5_insert_17 rfl
set_option maxRecDepth 100000 in
set_option maxHeartbeats 4000000 in
theorem c_X5_insert_1 (l : Launch) (E : EV) (σ : SS) (r b c d : Int) (f : Int → Int) (hM : MS f (σ 14)) (hr_r : -2147483648 ≤ r ∧ r ≤ 2147483647) (hr_b : -2147483648 ≤ b ∧ b ≤ 2147483647) (hr_c : -2147483648 ≤ c ∧ c ≤ 2147483647) (hr_d : -2147483648 ≤ d ∧ d ≤ 2147483647) (hF : FK f 1 r b c d = 1) : Ki l yX5_insert (cw yX5_insert cX5_insert 5 (some .int)) rm_X5_insert E [.ref (ea E 13), .int (iI r), .int (iI b), .int (iI c), .int (iI d)] σ 0 (st (st σ 13 (pt (σ 13) 0 1)) 15 (cpf (σ 14) (σ 15) 0 0 486)) := by
  refine Ki_of (rm := rm_X5_insert) (mL := 5) (b := cX5_insert) RX5 rfl (by decide +kernel) rfl rfl [(0, .ref (ea E 13)), (1, .int (iI r)), (2, .int (iI b)), (3, .int (iI c)), (4, .int (iI d))] rfl (Nat.le_of_ble_eq_true rfl) (fun p_ e_ s_ m_ a_ b_ h_ c_ Q A C hret => ?_)
  refine g_aload_n C dX5_insert_0 0 rfl rfl (q := 1) rfl ?_
  refine g_cV_v C (As := []) (c_X5_remembers l E _) ml_X5_99 mf_X5_remembers (o := 13) (ci := 5) rfl rfl rfl rfl ⟨(Nat.le_of_ble_eq_true rfl), (Nat.le_of_ble_eq_true rfl)⟩ rfl rfl rfl (Nat.le_of_ble_eq_true rfl) ⟨(Nat.le_of_ble_eq_true rfl), (Nat.le_of_ble_eq_true rfl)⟩ dX5_insert_1 (q := 4) rfl ?_
  refine g_aload_n C dX5_insert_4 0 rfl rfl (q := 5) rfl ?_
  refine g_aload_n C dX5_insert_5 0 rfl rfl (q := 6) rfl ?_
  refine g_iload_n C dX5_insert_6 1 rfl rfl (q := 7) rfl ?_
  refine g_iload_n C dX5_insert_7 2 rfl rfl (q := 8) rfl ?_
  refine g_iload_n C dX5_insert_8 3 rfl rfl (q := 9) rfl ?_
  refine g_iload C dX5_insert_9 4 rfl (q := 11) rfl ?_
  refine g_cV_i C (As := [.int (iI r), .int (iI b), .int (iI c), .int (iI d)]) (c_X5_puts_1 l E _ r b c d f (by show MS f (σ 14); assumption) (by omega) (by omega) (by omega) (by omega) (by exact hF)) ml_X5_102 mf_X5_puts (o := 13) (ci := 5) rfl rfl rfl rfl ⟨(Nat.le_of_ble_eq_true rfl), (Nat.le_of_ble_eq_true rfl)⟩ rfl rfl rfl (Nat.le_of_ble_eq_true rfl) ⟨(Nat.le_of_ble_eq_true rfl), (Nat.le_of_ble_eq_true rfl)⟩ dX5_insert_11 (q := 14) rfl ?_
  refine g_cV_i C (As := [.int (iI 1)]) (c_X5_ends_x l E _ 1  (by omega)) ml_X5_106 mf_X5_ends (o := 13) (ci := 5) rfl rfl rfl rfl ⟨(Nat.le_of_ble_eq_true rfl), (Nat.le_of_ble_eq_true rfl)⟩ rfl rfl rfl (Nat.le_of_ble_eq_true rfl) ⟨(Nat.le_of_ble_eq_true rfl), (Nat.le_of_ble_eq_true rfl)⟩ dX5_insert_14 (q := 17) rfl ?_
  refine g_st (σ2 := (st (st σ 13 (pt (σ 13) 0 1)) 15 (cpf (σ 14) (σ 15) 0 0 486))) ((congrArg (st (st (st σ 13 (pt (σ 13) 0 0)) 15 (cpf (σ 14) (σ 15) 0 0 486)) 13) (pt_pt _ _ _ _)).trans ((st_cm (st σ 13 (pt (σ 13) 0 0)) (o := 15) (q := 13) (cpf (σ 14) (σ 15) 0 0 486) (pt (σ 13) 0 1) (by decide)).trans (congrArg (fun g9 => st g9 15 (cpf (σ 14) (σ 15) 0 0 486)) (st_st _ _ _ _)))) ?_
  exact hret _ _ _ dX5_insert_17 rfl
set_option maxRecDepth 100000 in
set_option maxHeartbeats 4000000 in
theorem c_X5_insert_2 (l : Launch) (E : EV) (σ : SS) (r b c d : Int) (f : Int → Int) (hM : MS f (σ 14)) (hr_r : -2147483648 ≤ r ∧ r ≤ 2147483647) (hr_b : -2147483648 ≤ b ∧ b ≤ 2147483647) (hr_c : -2147483648 ≤ c ∧ c ≤ 2147483647) (hr_d : -2147483648 ≤ d ∧ d ≤ 2147483647) (hF : FK f 1 r b c d = 2) : Ki l yX5_insert (cw yX5_insert cX5_insert 5 (some .int)) rm_X5_insert E [.ref (ea E 13), .int (iI r), .int (iI b), .int (iI c), .int (iI d)] σ 0 (st (st σ 13 (pt (σ 13) 0 2)) 15 (cpf (σ 14) (σ 15) 0 0 486)) := by
  refine Ki_of (rm := rm_X5_insert) (mL := 5) (b := cX5_insert) RX5 rfl (by decide +kernel) rfl rfl [(0, .ref (ea E 13)), (1, .int (iI r)), (2, .int (iI b)), (3, .int (iI c)), (4, .int (iI d))] rfl (Nat.le_of_ble_eq_true rfl) (fun p_ e_ s_ m_ a_ b_ h_ c_ Q A C hret => ?_)
  refine g_aload_n C dX5_insert_0 0 rfl rfl (q := 1) rfl ?_
  refine g_cV_v C (As := []) (c_X5_remembers l E _) ml_X5_99 mf_X5_remembers (o := 13) (ci := 5) rfl rfl rfl rfl ⟨(Nat.le_of_ble_eq_true rfl), (Nat.le_of_ble_eq_true rfl)⟩ rfl rfl rfl (Nat.le_of_ble_eq_true rfl) ⟨(Nat.le_of_ble_eq_true rfl), (Nat.le_of_ble_eq_true rfl)⟩ dX5_insert_1 (q := 4) rfl ?_
  refine g_aload_n C dX5_insert_4 0 rfl rfl (q := 5) rfl ?_
  refine g_aload_n C dX5_insert_5 0 rfl rfl (q := 6) rfl ?_
  refine g_iload_n C dX5_insert_6 1 rfl rfl (q := 7) rfl ?_
  refine g_iload_n C dX5_insert_7 2 rfl rfl (q := 8) rfl ?_
  refine g_iload_n C dX5_insert_8 3 rfl rfl (q := 9) rfl ?_
  refine g_iload C dX5_insert_9 4 rfl (q := 11) rfl ?_
  refine g_cV_i C (As := [.int (iI r), .int (iI b), .int (iI c), .int (iI d)]) (c_X5_puts_2 l E _ r b c d f (by show MS f (σ 14); assumption) (by omega) (by omega) (by omega) (by omega) (by exact hF)) ml_X5_102 mf_X5_puts (o := 13) (ci := 5) rfl rfl rfl rfl ⟨(Nat.le_of_ble_eq_true rfl), (Nat.le_of_ble_eq_true rfl)⟩ rfl rfl rfl (Nat.le_of_ble_eq_true rfl) ⟨(Nat.le_of_ble_eq_true rfl), (Nat.le_of_ble_eq_true rfl)⟩ dX5_insert_11 (q := 14) rfl ?_
  refine g_cV_i C (As := [.int (iI 2)]) (c_X5_ends_x l E _ 2  (by omega)) ml_X5_106 mf_X5_ends (o := 13) (ci := 5) rfl rfl rfl rfl ⟨(Nat.le_of_ble_eq_true rfl), (Nat.le_of_ble_eq_true rfl)⟩ rfl rfl rfl (Nat.le_of_ble_eq_true rfl) ⟨(Nat.le_of_ble_eq_true rfl), (Nat.le_of_ble_eq_true rfl)⟩ dX5_insert_14 (q := 17) rfl ?_
  refine g_st (σ2 := (st (st σ 13 (pt (σ 13) 0 2)) 15 (cpf (σ 14) (σ 15) 0 0 486))) ((congrArg (st (st (st σ 13 (pt (σ 13) 0 0)) 15 (cpf (σ 14) (σ 15) 0 0 486)) 13) (pt_pt _ _ _ _)).trans ((st_cm (st σ 13 (pt (σ 13) 0 0)) (o := 15) (q := 13) (cpf (σ 14) (σ 15) 0 0 486) (pt (σ 13) 0 2) (by decide)).trans (congrArg (fun g9 => st g9 15 (cpf (σ 14) (σ 15) 0 0 486)) (st_st _ _ _ _)))) ?_
  exact hret _ _ _ dX5_insert_17 rfl
set_option maxRecDepth 100000 in
set_option maxHeartbeats 4000000 in
theorem c_X5_insert_3 (l : Launch) (E : EV) (σ : SS) (r b c d : Int) (f : Int → Int) (hM : MS f (σ 14)) (hr_r : -2147483648 ≤ r ∧ r ≤ 2147483647) (hr_b : -2147483648 ≤ b ∧ b ≤ 2147483647) (hr_c : -2147483648 ≤ c ∧ c ≤ 2147483647) (hr_d : -2147483648 ≤ d ∧ d ≤ 2147483647) (hF : FK f 1 r b c d = 3) : Ki l yX5_insert (cw yX5_insert cX5_insert 5 (some .int)) rm_X5_insert E [.ref (ea E 13), .int (iI r), .int (iI b), .int (iI c), .int (iI d)] σ 0 (st (st σ 13 (pt (σ 13) 0 3)) 15 (cpf (σ 14) (σ 15) 0 0 486)) := by
  refine Ki_of (rm := rm_X5_insert) (mL := 5) (b := cX5_insert) RX5 rfl (by decide +kernel) rfl rfl [(0, .ref (ea E 13)), (1, .int (iI r)), (2, .int (iI b)), (3, .int (iI c)), (4, .int (iI d))] rfl (Nat.le_of_ble_eq_true rfl) (fun p_ e_ s_ m_ a_ b_ h_ c_ Q A C hret => ?_)
  refine g_aload_n C dX5_insert_0 0 rfl rfl (q := 1) rfl ?_
  refine g_cV_v C (As := []) (c_X5_remembers l E _) ml_X5_99 mf_X5_remembers (o := 13) (ci := 5) rfl rfl rfl rfl ⟨(Nat.le_of_ble_eq_true rfl), (Nat.le_of_ble_eq_true rfl)⟩ rfl rfl rfl (Nat.le_of_ble_eq_true rfl) ⟨(Nat.le_of_ble_eq_true rfl), (Nat.le_of_ble_eq_true rfl)⟩ dX5_insert_1 (q := 4) rfl ?_
  refine g_aload_n C dX5_insert_4 0 rfl rfl (q := 5) rfl ?_
  refine g_aload_n C dX5_insert_5 0 rfl rfl (q := 6) rfl ?_
  refine g_iload_n C dX5_insert_6 1 rfl rfl (q := 7) rfl ?_
  refine g_iload_n C dX5_insert_7 2 rfl rfl (q := 8) rfl ?_
  refine g_iload_n C dX5_insert_8 3 rfl rfl (q := 9) rfl ?_
  refine g_iload C dX5_insert_9 4 rfl (q := 11) rfl ?_
  refine g_cV_i C (As := [.int (iI r), .int (iI b), .int (iI c), .int (iI d)]) (c_X5_puts_3 l E _ r b c d f (by show MS f (σ 14); assumption) (by omega) (by omega) (by omega) (by omega) (by exact hF)) ml_X5_102 mf_X5_puts (o := 13) (ci := 5) rfl rfl rfl rfl ⟨(Nat.le_of_ble_eq_true rfl), (Nat.le_of_ble_eq_true rfl)⟩ rfl rfl rfl (Nat.le_of_ble_eq_true rfl) ⟨(Nat.le_of_ble_eq_true rfl), (Nat.le_of_ble_eq_true rfl)⟩ dX5_insert_11 (q := 14) rfl ?_
  refine g_cV_i C (As := [.int (iI 3)]) (c_X5_ends_x l E _ 3  (by omega)) ml_X5_106 mf_X5_ends (o := 13) (ci := 5) rfl rfl rfl rfl ⟨(Nat.le_of_ble_eq_true rfl), (Nat.le_of_ble_eq_true rfl)⟩ rfl rfl rfl (Nat.le_of_ble_eq_true rfl) ⟨(Nat.le_of_ble_eq_true rfl), (Nat.le_of_ble_eq_true rfl)⟩ dX5_insert_14 (q := 17) rfl ?_
  refine g_st (σ2 := (st (st σ 13 (pt (σ 13) 0 3)) 15 (cpf (σ 14) (σ 15) 0 0 486))) ((congrArg (st (st (st σ 13 (pt (σ 13) 0 0)) 15 (cpf (σ 14) (σ 15) 0 0 486)) 13) (pt_pt _ _ _ _)).trans ((st_cm (st σ 13 (pt (σ 13) 0 0)) (o := 15) (q := 13) (cpf (σ 14) (σ 15) 0 0 486) (pt (σ 13) 0 3) (by decide)).trans (congrArg (fun g9 => st g9 15 (cpf (σ 14) (σ 15) 0 0 486)) (st_st _ _ _ _)))) ?_
  exact hret _ _ _ dX5_insert_17 rfl
abbrev rm_X5_remove : Room := { frames := 4, cells := 0, slots := 0, locals := 89 }
set_option maxRecDepth 100000 in
set_option maxHeartbeats 4000000 in
theorem c_X5_remove (l : Launch) (E : EV) (σ : SS) (r b : Int) (f : Int → Int) (hM : MS f (σ 14)) (hr_r : -2147483648 ≤ r ∧ r ≤ 2147483647) (hr_b : -2147483648 ≤ b ∧ b ≤ 2147483647) (hk : 0 ≤ (σ 13 5) ∧ (σ 13 5) ≤ 8) (hF : FK f 2 r b 0 0 = 0) : Ki l yX5_remove (cw yX5_remove cX5_remove 3 (some .int)) rm_X5_remove E [.ref (ea E 13), .int (iI r), .int (iI b)] σ ((σ 14) (3 + 121 * r + 2 * b)) (st (st (st (st σ 13 (pt (pt (pt (σ 13) 0 0) 5 (min ((σ 13 5) + 1) 8)) 14 ((σ 14) (3 + 121 * r + 2 * b)))) 14 (mTake (σ 14) r b)) 15 (cpf (σ 14) (σ 15) 0 0 486)) 17 (hiF (σ 17) (cpf (σ 14) (σ 15) 0 0 486) (σ 13 5))) := by
  refine Ki_of (rm := rm_X5_remove) (mL := 3) (b := cX5_remove) RX5 rfl (by decide +kernel) rfl rfl [(0, .ref (ea E 13)), (1, .int (iI r)), (2, .int (iI b))] rfl (Nat.le_of_ble_eq_true rfl) (fun p_ e_ s_ m_ a_ b_ h_ c_ Q A C hret => ?_)
  refine g_aload_n C dX5_remove_0 0 rfl rfl (q := 1) rfl ?_
  refine g_cV_v C (As := []) (c_X5_remembers l E _) ml_X5_99 mf_X5_remembers (o := 13) (ci := 5) rfl rfl rfl rfl ⟨(Nat.le_of_ble_eq_true rfl), (Nat.le_of_ble_eq_true rfl)⟩ rfl rfl rfl (Nat.le_of_ble_eq_true rfl) ⟨(Nat.le_of_ble_eq_true rfl), (Nat.le_of_ble_eq_true rfl)⟩ dX5_remove_1 (q := 4) rfl ?_
  refine g_aload_n C dX5_remove_4 0 rfl rfl (q := 5) rfl ?_
  refine g_aload_n C dX5_remove_5 0 rfl rfl (q := 6) rfl ?_
  refine g_iload_n C dX5_remove_6 1 rfl rfl (q := 7) rfl ?_
  refine g_iload_n C dX5_remove_7 2 rfl rfl (q := 8) rfl ?_
  refine g_cV_i C (As := [.int (iI r), .int (iI b)]) (c_X5_takes l E _ r b f (by show MS f (σ 14); assumption) (by omega) (by omega) (by exact hF)) ml_X5_109 mf_X5_takes (o := 13) (ci := 5) rfl rfl rfl rfl ⟨(Nat.le_of_ble_eq_true rfl), (Nat.le_of_ble_eq_true rfl)⟩ rfl rfl rfl (Nat.le_of_ble_eq_true rfl) ⟨(Nat.le_of_ble_eq_true rfl), (Nat.le_of_ble_eq_true rfl)⟩ dX5_remove_8 (q := 11) rfl ?_
  refine g_st (σ2 := (st (st (st σ 13 (pt (pt (σ 13) 0 0) 14 ((σ 14) (3 + 121 * r + 2 * b)))) 14 (mTake (σ 14) r b)) 15 (cpf (σ 14) (σ 15) 0 0 486))) ((congrArg (fun g9 => st g9 14 (mTake (σ 14) r b)) ((st_cm (st σ 13 (pt (σ 13) 0 0)) (o := 15) (q := 13) (cpf (σ 14) (σ 15) 0 0 486) (pt (pt (σ 13) 0 0) 14 ((σ 14) (3 + 121 * r + 2 * b))) (by decide)).trans (congrArg (fun g9 => st g9 15 (cpf (σ 14) (σ 15) 0 0 486)) (st_st _ _ _ _)))).trans (st_cm (st σ 13 (pt (pt (σ 13) 0 0) 14 ((σ 14) (3 + 121 * r + 2 * b)))) (o := 15) (q := 14) (cpf (σ 14) (σ 15) 0 0 486) (mTake (σ 14) r b) (by decide))) ?_
  refine g_cV_i C (As := [.int (iI 0)]) (c_X5_ends_0 l E _   (by show 0 ≤ (σ 13 5) ∧ (σ 13 5) ≤ 8; omega)) ml_X5_106 mf_X5_ends (o := 13) (ci := 5) rfl rfl rfl rfl ⟨(Nat.le_of_ble_eq_true rfl), (Nat.le_of_ble_eq_true rfl)⟩ rfl rfl rfl (Nat.le_of_ble_eq_true rfl) ⟨(Nat.le_of_ble_eq_true rfl), (Nat.le_of_ble_eq_true rfl)⟩ dX5_remove_11 (q := 14) rfl ?_
  refine g_top (b := ((σ 14) (3 + 121 * r + 2 * b))) rfl ?_
  refine g_st (σ2 := (st (st (st (st σ 13 (pt (pt (pt (σ 13) 0 0) 5 (min ((σ 13 5) + 1) 8)) 14 ((σ 14) (3 + 121 * r + 2 * b)))) 14 (mTake (σ 14) r b)) 15 (cpf (σ 14) (σ 15) 0 0 486)) 17 (hiF (σ 17) (cpf (σ 14) (σ 15) 0 0 486) (σ 13 5)))) (congrArg (fun g9 => st g9 17 (hiF (σ 17) (cpf (σ 14) (σ 15) 0 0 486) (σ 13 5))) ((congrArg (st (st (st (st σ 13 (pt (pt (σ 13) 0 0) 14 ((σ 14) (3 + 121 * r + 2 * b)))) 14 (mTake (σ 14) r b)) 15 (cpf (σ 14) (σ 15) 0 0 486)) 13) (pt_cm (pt (σ 13) 0 0) (k := 14) (j := 5) ((σ 14) (3 + 121 * r + 2 * b)) (min ((σ 13 5) + 1) 8) (by decide))).trans ((st_cm (st (st σ 13 (pt (pt (σ 13) 0 0) 14 ((σ 14) (3 + 121 * r + 2 * b)))) 14 (mTake (σ 14) r b)) (o := 15) (q := 13) (cpf (σ 14) (σ 15) 0 0 486) (pt (pt (pt (σ 13) 0 0) 5 (min ((σ 13 5) + 1) 8)) 14 ((σ 14) (3 + 121 * r + 2 * b))) (by decide)).trans (congrArg (fun g9 => st g9 15 (cpf (σ 14) (σ 15) 0 0 486)) ((st_cm (st σ 13 (pt (pt (σ 13) 0 0) 14 ((σ 14) (3 + 121 * r + 2 * b)))) (o := 14) (q := 13) (mTake (σ 14) r b) (pt (pt (pt (σ 13) 0 0) 5 (min ((σ 13 5) + 1) 8)) 14 ((σ 14) (3 + 121 * r + 2 * b))) (by decide)).trans (congrArg (fun g9 => st g9 14 (mTake (σ 14) r b)) (st_st _ _ _ _))))))) ?_
  exact hret _ _ _ dX5_remove_14 rfl
set_option maxRecDepth 100000 in
set_option maxHeartbeats 4000000 in
theorem c_X5_remove_1 (l : Launch) (E : EV) (σ : SS) (r b : Int) (f : Int → Int) (hM : MS f (σ 14)) (hr_r : -2147483648 ≤ r ∧ r ≤ 2147483647) (hr_b : -2147483648 ≤ b ∧ b ≤ 2147483647) (hF : FK f 2 r b 0 0 = 1) : Ki l yX5_remove (cw yX5_remove cX5_remove 3 (some .int)) rm_X5_remove E [.ref (ea E 13), .int (iI r), .int (iI b)] σ 0 (st (st σ 13 (pt (σ 13) 0 1)) 15 (cpf (σ 14) (σ 15) 0 0 486)) := by
  refine Ki_of (rm := rm_X5_remove) (mL := 3) (b := cX5_remove) RX5 rfl (by decide +kernel) rfl rfl [(0, .ref (ea E 13)), (1, .int (iI r)), (2, .int (iI b))] rfl (Nat.le_of_ble_eq_true rfl) (fun p_ e_ s_ m_ a_ b_ h_ c_ Q A C hret => ?_)
  refine g_aload_n C dX5_remove_0 0 rfl rfl (q := 1) rfl ?_
  refine g_cV_v C (As := []) (c_X5_remembers l E _) ml_X5_99 mf_X5_remembers (o := 13) (ci := 5) rfl rfl rfl rfl ⟨(Nat.le_of_ble_eq_true rfl), (Nat.le_of_ble_eq_true rfl)⟩ rfl rfl rfl (Nat.le_of_ble_eq_true rfl) ⟨(Nat.le_of_ble_eq_true rfl), (Nat.le_of_ble_eq_true rfl)⟩ dX5_remove_1 (q := 4) rfl ?_
  refine g_aload_n C dX5_remove_4 0 rfl rfl (q := 5) rfl ?_
  refine g_aload_n C dX5_remove_5 0 rfl rfl (q := 6) rfl ?_
  refine g_iload_n C dX5_remove_6 1 rfl rfl (q := 7) rfl ?_
  refine g_iload_n C dX5_remove_7 2 rfl rfl (q := 8) rfl ?_
  refine g_cV_i C (As := [.int (iI r), .int (iI b)]) (c_X5_takes_1 l E _ r b f (by show MS f (σ 14); assumption) (by omega) (by omega) (by exact hF)) ml_X5_109 mf_X5_takes (o := 13) (ci := 5) rfl rfl rfl rfl ⟨(Nat.le_of_ble_eq_true rfl), (Nat.le_of_ble_eq_true rfl)⟩ rfl rfl rfl (Nat.le_of_ble_eq_true rfl) ⟨(Nat.le_of_ble_eq_true rfl), (Nat.le_of_ble_eq_true rfl)⟩ dX5_remove_8 (q := 11) rfl ?_
  refine g_cV_i C (As := [.int (iI 1)]) (c_X5_ends_x l E _ 1  (by omega)) ml_X5_106 mf_X5_ends (o := 13) (ci := 5) rfl rfl rfl rfl ⟨(Nat.le_of_ble_eq_true rfl), (Nat.le_of_ble_eq_true rfl)⟩ rfl rfl rfl (Nat.le_of_ble_eq_true rfl) ⟨(Nat.le_of_ble_eq_true rfl), (Nat.le_of_ble_eq_true rfl)⟩ dX5_remove_11 (q := 14) rfl ?_
  refine g_st (σ2 := (st (st σ 13 (pt (σ 13) 0 1)) 15 (cpf (σ 14) (σ 15) 0 0 486))) ((congrArg (st (st (st σ 13 (pt (σ 13) 0 0)) 15 (cpf (σ 14) (σ 15) 0 0 486)) 13) (pt_pt _ _ _ _)).trans ((st_cm (st σ 13 (pt (σ 13) 0 0)) (o := 15) (q := 13) (cpf (σ 14) (σ 15) 0 0 486) (pt (σ 13) 0 1) (by decide)).trans (congrArg (fun g9 => st g9 15 (cpf (σ 14) (σ 15) 0 0 486)) (st_st _ _ _ _)))) ?_
  exact hret _ _ _ dX5_remove_14 rfl
abbrev rm_X5_retie : Room := { frames := 4, cells := 0, slots := 0, locals := 88 }
set_option maxRecDepth 100000 in
set_option maxHeartbeats 4000000 in
theorem c_X5_retie (l : Launch) (E : EV) (σ : SS) (r b c : Int) (f : Int → Int) (hM : MS f (σ 14)) (hr_r : -2147483648 ≤ r ∧ r ≤ 2147483647) (hr_b : -2147483648 ≤ b ∧ b ≤ 2147483647) (hr_c : -2147483648 ≤ c ∧ c ≤ 2147483647) (hk : 0 ≤ (σ 13 5) ∧ (σ 13 5) ≤ 8) (hF : FK f 3 r b c 0 = 0) : Ki l yX5_retie (cw yX5_retie cX5_retie 4 (some .int)) rm_X5_retie E [.ref (ea E 13), .int (iI r), .int (iI b), .int (iI c)] σ ((σ 14) (3 + 121 * r + 2 * b)) (st (st (st (st σ 13 (pt (pt (pt (σ 13) 0 0) 5 (min ((σ 13 5) + 1) 8)) 14 ((σ 14) (3 + 121 * r + 2 * b)))) 14 (mS (σ 14) r b c ((σ 14) (4 + 121 * r + 2 * b)))) 15 (cpf (σ 14) (σ 15) 0 0 486)) 17 (hiF (σ 17) (cpf (σ 14) (σ 15) 0 0 486) (σ 13 5))) := by
  refine Ki_of (rm := rm_X5_retie) (mL := 4) (b := cX5_retie) RX5 rfl (by decide +kernel) rfl rfl [(0, .ref (ea E 13)), (1, .int (iI r)), (2, .int (iI b)), (3, .int (iI c))] rfl (Nat.le_of_ble_eq_true rfl) (fun p_ e_ s_ m_ a_ b_ h_ c_ Q A C hret => ?_)
  refine g_aload_n C dX5_retie_0 0 rfl rfl (q := 1) rfl ?_
  refine g_cV_v C (As := []) (c_X5_remembers l E _) ml_X5_99 mf_X5_remembers (o := 13) (ci := 5) rfl rfl rfl rfl ⟨(Nat.le_of_ble_eq_true rfl), (Nat.le_of_ble_eq_true rfl)⟩ rfl rfl rfl (Nat.le_of_ble_eq_true rfl) ⟨(Nat.le_of_ble_eq_true rfl), (Nat.le_of_ble_eq_true rfl)⟩ dX5_retie_1 (q := 4) rfl ?_
  refine g_aload_n C dX5_retie_4 0 rfl rfl (q := 5) rfl ?_
  refine g_aload_n C dX5_retie_5 0 rfl rfl (q := 6) rfl ?_
  refine g_iload_n C dX5_retie_6 1 rfl rfl (q := 7) rfl ?_
  refine g_iload_n C dX5_retie_7 2 rfl rfl (q := 8) rfl ?_
  refine g_iload_n C dX5_retie_8 3 rfl rfl (q := 9) rfl ?_
  refine g_cV_i C (As := [.int (iI r), .int (iI b), .int (iI c)]) (c_X5_ties l E _ r b c f (by show MS f (σ 14); assumption) (by omega) (by omega) (by omega) (by exact hF)) ml_X5_113 mf_X5_ties (o := 13) (ci := 5) rfl rfl rfl rfl ⟨(Nat.le_of_ble_eq_true rfl), (Nat.le_of_ble_eq_true rfl)⟩ rfl rfl rfl (Nat.le_of_ble_eq_true rfl) ⟨(Nat.le_of_ble_eq_true rfl), (Nat.le_of_ble_eq_true rfl)⟩ dX5_retie_9 (q := 12) rfl ?_
  refine g_st (σ2 := (st (st (st σ 13 (pt (pt (σ 13) 0 0) 14 ((σ 14) (3 + 121 * r + 2 * b)))) 14 (mS (σ 14) r b c ((σ 14) (4 + 121 * r + 2 * b)))) 15 (cpf (σ 14) (σ 15) 0 0 486))) ((congrArg (fun g9 => st g9 14 (mS (σ 14) r b c ((σ 14) (4 + 121 * r + 2 * b)))) ((st_cm (st σ 13 (pt (σ 13) 0 0)) (o := 15) (q := 13) (cpf (σ 14) (σ 15) 0 0 486) (pt (pt (σ 13) 0 0) 14 ((σ 14) (3 + 121 * r + 2 * b))) (by decide)).trans (congrArg (fun g9 => st g9 15 (cpf (σ 14) (σ 15) 0 0 486)) (st_st _ _ _ _)))).trans (st_cm (st σ 13 (pt (pt (σ 13) 0 0) 14 ((σ 14) (3 + 121 * r + 2 * b)))) (o := 15) (q := 14) (cpf (σ 14) (σ 15) 0 0 486) (mS (σ 14) r b c ((σ 14) (4 + 121 * r + 2 * b))) (by decide))) ?_
  refine g_cV_i C (As := [.int (iI 0)]) (c_X5_ends_0 l E _   (by show 0 ≤ (σ 13 5) ∧ (σ 13 5) ≤ 8; omega)) ml_X5_106 mf_X5_ends (o := 13) (ci := 5) rfl rfl rfl rfl ⟨(Nat.le_of_ble_eq_true rfl), (Nat.le_of_ble_eq_true rfl)⟩ rfl rfl rfl (Nat.le_of_ble_eq_true rfl) ⟨(Nat.le_of_ble_eq_true rfl), (Nat.le_of_ble_eq_true rfl)⟩ dX5_retie_12 (q := 15) rfl ?_
  refine g_top (b := ((σ 14) (3 + 121 * r + 2 * b))) rfl ?_
  refine g_st (σ2 := (st (st (st (st σ 13 (pt (pt (pt (σ 13) 0 0) 5 (min ((σ 13 5) + 1) 8)) 14 ((σ 14) (3 + 121 * r + 2 * b)))) 14 (mS (σ 14) r b c ((σ 14) (4 + 121 * r + 2 * b)))) 15 (cpf (σ 14) (σ 15) 0 0 486)) 17 (hiF (σ 17) (cpf (σ 14) (σ 15) 0 0 486) (σ 13 5)))) (congrArg (fun g9 => st g9 17 (hiF (σ 17) (cpf (σ 14) (σ 15) 0 0 486) (σ 13 5))) ((congrArg (st (st (st (st σ 13 (pt (pt (σ 13) 0 0) 14 ((σ 14) (3 + 121 * r + 2 * b)))) 14 (mS (σ 14) r b c ((σ 14) (4 + 121 * r + 2 * b)))) 15 (cpf (σ 14) (σ 15) 0 0 486)) 13) (pt_cm (pt (σ 13) 0 0) (k := 14) (j := 5) ((σ 14) (3 + 121 * r + 2 * b)) (min ((σ 13 5) + 1) 8) (by decide))).trans ((st_cm (st (st σ 13 (pt (pt (σ 13) 0 0) 14 ((σ 14) (3 + 121 * r + 2 * b)))) 14 (mS (σ 14) r b c ((σ 14) (4 + 121 * r + 2 * b)))) (o := 15) (q := 13) (cpf (σ 14) (σ 15) 0 0 486) (pt (pt (pt (σ 13) 0 0) 5 (min ((σ 13 5) + 1) 8)) 14 ((σ 14) (3 + 121 * r + 2 * b))) (by decide)).trans (congrArg (fun g9 => st g9 15 (cpf (σ 14) (σ 15) 0 0 486)) ((st_cm (st σ 13 (pt (pt (σ 13) 0 0) 14 ((σ 14) (3 + 121 * r + 2 * b)))) (o := 14) (q := 13) (mS (σ 14) r b c ((σ 14) (4 + 121 * r + 2 * b))) (pt (pt (pt (σ 13) 0 0) 5 (min ((σ 13 5) + 1) 8)) 14 ((σ 14) (3 + 121 * r + 2 * b))) (by decide)).trans (congrArg (fun g9 => st g9 14 (mS (σ 14) r b c ((σ 14) (4 + 121 * r + 2 * b)))) (st_st _ _ _ _))))))) ?_
  exact hret _ _ _ dX5_retie_15 rfl
set_option maxRecDepth 100000 in
set_option maxHeartbeats 4000000 in
theorem c_X5_retie_1 (l : Launch) (E : EV) (σ : SS) (r b c : Int) (f : Int → Int) (hM : MS f (σ 14)) (hr_r : -2147483648 ≤ r ∧ r ≤ 2147483647) (hr_b : -2147483648 ≤ b ∧ b ≤ 2147483647) (hr_c : -2147483648 ≤ c ∧ c ≤ 2147483647) (hF : FK f 3 r b c 0 = 1) : Ki l yX5_retie (cw yX5_retie cX5_retie 4 (some .int)) rm_X5_retie E [.ref (ea E 13), .int (iI r), .int (iI b), .int (iI c)] σ 0 (st (st σ 13 (pt (σ 13) 0 1)) 15 (cpf (σ 14) (σ 15) 0 0 486)) := by
  refine Ki_of (rm := rm_X5_retie) (mL := 4) (b := cX5_retie) RX5 rfl (by decide +kernel) rfl rfl [(0, .ref (ea E 13)), (1, .int (iI r)), (2, .int (iI b)), (3, .int (iI c))] rfl (Nat.le_of_ble_eq_true rfl) (fun p_ e_ s_ m_ a_ b_ h_ c_ Q A C hret => ?_)
  refine g_aload_n C dX5_retie_0 0 rfl rfl (q := 1) rfl ?_
  refine g_cV_v C (As := []) (c_X5_remembers l E _) ml_X5_99 mf_X5_remembers (o := 13) (ci := 5) rfl rfl rfl rfl ⟨(Nat.le_of_ble_eq_true rfl), (Nat.le_of_ble_eq_true rfl)⟩ rfl rfl rfl (Nat.le_of_ble_eq_true rfl) ⟨(Nat.le_of_ble_eq_true rfl), (Nat.le_of_ble_eq_true rfl)⟩ dX5_retie_1 (q := 4) rfl ?_
  refine g_aload_n C dX5_retie_4 0 rfl rfl (q := 5) rfl ?_
  refine g_aload_n C dX5_retie_5 0 rfl rfl (q := 6) rfl ?_
  refine g_iload_n C dX5_retie_6 1 rfl rfl (q := 7) rfl ?_
  refine g_iload_n C dX5_retie_7 2 rfl rfl (q := 8) rfl ?_
  refine g_iload_n C dX5_retie_8 3 rfl rfl (q := 9) rfl ?_
  refine g_cV_i C (As := [.int (iI r), .int (iI b), .int (iI c)]) (c_X5_ties_1 l E _ r b c f (by show MS f (σ 14); assumption) (by omega) (by omega) (by omega) (by exact hF)) ml_X5_113 mf_X5_ties (o := 13) (ci := 5) rfl rfl rfl rfl ⟨(Nat.le_of_ble_eq_true rfl), (Nat.le_of_ble_eq_true rfl)⟩ rfl rfl rfl (Nat.le_of_ble_eq_true rfl) ⟨(Nat.le_of_ble_eq_true rfl), (Nat.le_of_ble_eq_true rfl)⟩ dX5_retie_9 (q := 12) rfl ?_
  refine g_cV_i C (As := [.int (iI 1)]) (c_X5_ends_x l E _ 1  (by omega)) ml_X5_106 mf_X5_ends (o := 13) (ci := 5) rfl rfl rfl rfl ⟨(Nat.le_of_ble_eq_true rfl), (Nat.le_of_ble_eq_true rfl)⟩ rfl rfl rfl (Nat.le_of_ble_eq_true rfl) ⟨(Nat.le_of_ble_eq_true rfl), (Nat.le_of_ble_eq_true rfl)⟩ dX5_retie_12 (q := 15) rfl ?_
  refine g_st (σ2 := (st (st σ 13 (pt (σ 13) 0 1)) 15 (cpf (σ 14) (σ 15) 0 0 486))) ((congrArg (st (st (st σ 13 (pt (σ 13) 0 0)) 15 (cpf (σ 14) (σ 15) 0 0 486)) 13) (pt_pt _ _ _ _)).trans ((st_cm (st σ 13 (pt (σ 13) 0 0)) (o := 15) (q := 13) (cpf (σ 14) (σ 15) 0 0 486) (pt (σ 13) 0 1) (by decide)).trans (congrArg (fun g9 => st g9 15 (cpf (σ 14) (σ 15) 0 0 486)) (st_st _ _ _ _)))) ?_
  exact hret _ _ _ dX5_retie_15 rfl
set_option maxRecDepth 100000 in
set_option maxHeartbeats 4000000 in
theorem c_X5_retie_2 (l : Launch) (E : EV) (σ : SS) (r b c : Int) (f : Int → Int) (hM : MS f (σ 14)) (hr_r : -2147483648 ≤ r ∧ r ≤ 2147483647) (hr_b : -2147483648 ≤ b ∧ b ≤ 2147483647) (hr_c : -2147483648 ≤ c ∧ c ≤ 2147483647) (hF : FK f 3 r b c 0 = 2) : Ki l yX5_retie (cw yX5_retie cX5_retie 4 (some .int)) rm_X5_retie E [.ref (ea E 13), .int (iI r), .int (iI b), .int (iI c)] σ 0 (st (st σ 13 (pt (σ 13) 0 2)) 15 (cpf (σ 14) (σ 15) 0 0 486)) := by
  refine Ki_of (rm := rm_X5_retie) (mL := 4) (b := cX5_retie) RX5 rfl (by decide +kernel) rfl rfl [(0, .ref (ea E 13)), (1, .int (iI r)), (2, .int (iI b)), (3, .int (iI c))] rfl (Nat.le_of_ble_eq_true rfl) (fun p_ e_ s_ m_ a_ b_ h_ c_ Q A C hret => ?_)
  refine g_aload_n C dX5_retie_0 0 rfl rfl (q := 1) rfl ?_
  refine g_cV_v C (As := []) (c_X5_remembers l E _) ml_X5_99 mf_X5_remembers (o := 13) (ci := 5) rfl rfl rfl rfl ⟨(Nat.le_of_ble_eq_true rfl), (Nat.le_of_ble_eq_true rfl)⟩ rfl rfl rfl (Nat.le_of_ble_eq_true rfl) ⟨(Nat.le_of_ble_eq_true rfl), (Nat.le_of_ble_eq_true rfl)⟩ dX5_retie_1 (q := 4) rfl ?_
  refine g_aload_n C dX5_retie_4 0 rfl rfl (q := 5) rfl ?_
  refine g_aload_n C dX5_retie_5 0 rfl rfl (q := 6) rfl ?_
  refine g_iload_n C dX5_retie_6 1 rfl rfl (q := 7) rfl ?_
  refine g_iload_n C dX5_retie_7 2 rfl rfl (q := 8) rfl ?_
  refine g_iload_n C dX5_retie_8 3 rfl rfl (q := 9) rfl ?_
  refine g_cV_i C (As := [.int (iI r), .int (iI b), .int (iI c)]) (c_X5_ties_2 l E _ r b c f (by show MS f (σ 14); assumption) (by omega) (by omega) (by omega) (by exact hF)) ml_X5_113 mf_X5_ties (o := 13) (ci := 5) rfl rfl rfl rfl ⟨(Nat.le_of_ble_eq_true rfl), (Nat.le_of_ble_eq_true rfl)⟩ rfl rfl rfl (Nat.le_of_ble_eq_true rfl) ⟨(Nat.le_of_ble_eq_true rfl), (Nat.le_of_ble_eq_true rfl)⟩ dX5_retie_9 (q := 12) rfl ?_
  refine g_cV_i C (As := [.int (iI 2)]) (c_X5_ends_x l E _ 2  (by omega)) ml_X5_106 mf_X5_ends (o := 13) (ci := 5) rfl rfl rfl rfl ⟨(Nat.le_of_ble_eq_true rfl), (Nat.le_of_ble_eq_true rfl)⟩ rfl rfl rfl (Nat.le_of_ble_eq_true rfl) ⟨(Nat.le_of_ble_eq_true rfl), (Nat.le_of_ble_eq_true rfl)⟩ dX5_retie_12 (q := 15) rfl ?_
  refine g_st (σ2 := (st (st σ 13 (pt (σ 13) 0 2)) 15 (cpf (σ 14) (σ 15) 0 0 486))) ((congrArg (st (st (st σ 13 (pt (σ 13) 0 0)) 15 (cpf (σ 14) (σ 15) 0 0 486)) 13) (pt_pt _ _ _ _)).trans ((st_cm (st σ 13 (pt (σ 13) 0 0)) (o := 15) (q := 13) (cpf (σ 14) (σ 15) 0 0 486) (pt (σ 13) 0 2) (by decide)).trans (congrArg (fun g9 => st g9 15 (cpf (σ 14) (σ 15) 0 0 486)) (st_st _ _ _ _)))) ?_
  exact hret _ _ _ dX5_retie_15 rfl
abbrev rm_X5_cut : Room := { frames := 4, cells := 0, slots := 0, locals := 87 }
set_option maxRecDepth 100000 in
set_option maxHeartbeats 4000000 in
theorem c_X5_cut (l : Launch) (E : EV) (σ : SS) (r b c : Int) (f : Int → Int) (hM : MS f (σ 14)) (hr_r : -2147483648 ≤ r ∧ r ≤ 2147483647) (hr_b : -2147483648 ≤ b ∧ b ≤ 2147483647) (hr_c : -2147483648 ≤ c ∧ c ≤ 2147483647) (hk : 0 ≤ (σ 13 5) ∧ (σ 13 5) ≤ 8) (hF : FK f 4 r b c 0 = 0) : Ki l yX5_cut (cw yX5_cut cX5_cut 4 (some .int)) rm_X5_cut E [.ref (ea E 13), .int (iI r), .int (iI b), .int (iI c)] σ ((σ 14) (2 + 121 * r) - b) (st (st (st (st σ 13 (pt (pt (pt (σ 13) 0 0) 5 (min ((σ 13 5) + 1) 8)) 14 ((σ 14) (2 + 121 * r) - b))) 14 (mMov (pt (σ 14) 0 ((σ 14) 0 + 1)) r b c)) 15 (cpf (σ 14) (σ 15) 0 0 486)) 17 (hiF (σ 17) (cpf (σ 14) (σ 15) 0 0 486) (σ 13 5))) := by
  refine Ki_of (rm := rm_X5_cut) (mL := 4) (b := cX5_cut) RX5 rfl (by decide +kernel) rfl rfl [(0, .ref (ea E 13)), (1, .int (iI r)), (2, .int (iI b)), (3, .int (iI c))] rfl (Nat.le_of_ble_eq_true rfl) (fun p_ e_ s_ m_ a_ b_ h_ c_ Q A C hret => ?_)
  refine g_aload_n C dX5_cut_0 0 rfl rfl (q := 1) rfl ?_
  refine g_cV_v C (As := []) (c_X5_remembers l E _) ml_X5_99 mf_X5_remembers (o := 13) (ci := 5) rfl rfl rfl rfl ⟨(Nat.le_of_ble_eq_true rfl), (Nat.le_of_ble_eq_true rfl)⟩ rfl rfl rfl (Nat.le_of_ble_eq_true rfl) ⟨(Nat.le_of_ble_eq_true rfl), (Nat.le_of_ble_eq_true rfl)⟩ dX5_cut_1 (q := 4) rfl ?_
  refine g_aload_n C dX5_cut_4 0 rfl rfl (q := 5) rfl ?_
  refine g_aload_n C dX5_cut_5 0 rfl rfl (q := 6) rfl ?_
  refine g_iload_n C dX5_cut_6 1 rfl rfl (q := 7) rfl ?_
  refine g_iload_n C dX5_cut_7 2 rfl rfl (q := 8) rfl ?_
  refine g_iload_n C dX5_cut_8 3 rfl rfl (q := 9) rfl ?_
  refine g_cV_i C (As := [.int (iI r), .int (iI b), .int (iI c)]) (c_X5_cuts l E _ r b c f (by show MS f (σ 14); assumption) (by omega) (by omega) (by omega) (by exact hF)) ml_X5_119 mf_X5_cuts (o := 13) (ci := 5) rfl rfl rfl rfl ⟨(Nat.le_of_ble_eq_true rfl), (Nat.le_of_ble_eq_true rfl)⟩ rfl rfl rfl (Nat.le_of_ble_eq_true rfl) ⟨(Nat.le_of_ble_eq_true rfl), (Nat.le_of_ble_eq_true rfl)⟩ dX5_cut_9 (q := 12) rfl ?_
  refine g_st (σ2 := (st (st (st σ 13 (pt (pt (σ 13) 0 0) 14 ((σ 14) (2 + 121 * r) - b))) 14 (mMov (pt (σ 14) 0 ((σ 14) 0 + 1)) r b c)) 15 (cpf (σ 14) (σ 15) 0 0 486))) ((congrArg (fun g9 => st g9 14 (mMov (pt (σ 14) 0 ((σ 14) 0 + 1)) r b c)) ((st_cm (st σ 13 (pt (σ 13) 0 0)) (o := 15) (q := 13) (cpf (σ 14) (σ 15) 0 0 486) (pt (pt (σ 13) 0 0) 14 ((σ 14) (2 + 121 * r) - b)) (by decide)).trans (congrArg (fun g9 => st g9 15 (cpf (σ 14) (σ 15) 0 0 486)) (st_st _ _ _ _)))).trans (st_cm (st σ 13 (pt (pt (σ 13) 0 0) 14 ((σ 14) (2 + 121 * r) - b))) (o := 15) (q := 14) (cpf (σ 14) (σ 15) 0 0 486) (mMov (pt (σ 14) 0 ((σ 14) 0 + 1)) r b c) (by decide))) ?_
  refine g_cV_i C (As := [.int (iI 0)]) (c_X5_ends_0 l E _   (by show 0 ≤ (σ 13 5) ∧ (σ 13 5) ≤ 8; omega)) ml_X5_106 mf_X5_ends (o := 13) (ci := 5) rfl rfl rfl rfl ⟨(Nat.le_of_ble_eq_true rfl), (Nat.le_of_ble_eq_true rfl)⟩ rfl rfl rfl (Nat.le_of_ble_eq_true rfl) ⟨(Nat.le_of_ble_eq_true rfl), (Nat.le_of_ble_eq_true rfl)⟩ dX5_cut_12 (q := 15) rfl ?_
  refine g_top (b := ((σ 14) (2 + 121 * r) - b)) rfl ?_
  refine g_st (σ2 := (st (st (st (st σ 13 (pt (pt (pt (σ 13) 0 0) 5 (min ((σ 13 5) + 1) 8)) 14 ((σ 14) (2 + 121 * r) - b))) 14 (mMov (pt (σ 14) 0 ((σ 14) 0 + 1)) r b c)) 15 (cpf (σ 14) (σ 15) 0 0 486)) 17 (hiF (σ 17) (cpf (σ 14) (σ 15) 0 0 486) (σ 13 5)))) (congrArg (fun g9 => st g9 17 (hiF (σ 17) (cpf (σ 14) (σ 15) 0 0 486) (σ 13 5))) ((congrArg (st (st (st (st σ 13 (pt (pt (σ 13) 0 0) 14 ((σ 14) (2 + 121 * r) - b))) 14 (mMov (pt (σ 14) 0 ((σ 14) 0 + 1)) r b c)) 15 (cpf (σ 14) (σ 15) 0 0 486)) 13) (pt_cm (pt (σ 13) 0 0) (k := 14) (j := 5) ((σ 14) (2 + 121 * r) - b) (min ((σ 13 5) + 1) 8) (by decide))).trans ((st_cm (st (st σ 13 (pt (pt (σ 13) 0 0) 14 ((σ 14) (2 + 121 * r) - b))) 14 (mMov (pt (σ 14) 0 ((σ 14) 0 + 1)) r b c)) (o := 15) (q := 13) (cpf (σ 14) (σ 15) 0 0 486) (pt (pt (pt (σ 13) 0 0) 5 (min ((σ 13 5) + 1) 8)) 14 ((σ 14) (2 + 121 * r) - b)) (by decide)).trans (congrArg (fun g9 => st g9 15 (cpf (σ 14) (σ 15) 0 0 486)) ((st_cm (st σ 13 (pt (pt (σ 13) 0 0) 14 ((σ 14) (2 + 121 * r) - b))) (o := 14) (q := 13) (mMov (pt (σ 14) 0 ((σ 14) 0 + 1)) r b c) (pt (pt (pt (σ 13) 0 0) 5 (min ((σ 13 5) + 1) 8)) 14 ((σ 14) (2 + 121 * r) - b)) (by decide)).trans (congrArg (fun g9 => st g9 14 (mMov (pt (σ 14) 0 ((σ 14) 0 + 1)) r b c)) (st_st _ _ _ _))))))) ?_
  exact hret _ _ _ dX5_cut_15 rfl
set_option maxRecDepth 100000 in
set_option maxHeartbeats 4000000 in
theorem c_X5_cut_1 (l : Launch) (E : EV) (σ : SS) (r b c : Int) (f : Int → Int) (hM : MS f (σ 14)) (hr_r : -2147483648 ≤ r ∧ r ≤ 2147483647) (hr_b : -2147483648 ≤ b ∧ b ≤ 2147483647) (hr_c : -2147483648 ≤ c ∧ c ≤ 2147483647) (hF : FK f 4 r b c 0 = 1) : Ki l yX5_cut (cw yX5_cut cX5_cut 4 (some .int)) rm_X5_cut E [.ref (ea E 13), .int (iI r), .int (iI b), .int (iI c)] σ 0 (st (st σ 13 (pt (σ 13) 0 1)) 15 (cpf (σ 14) (σ 15) 0 0 486)) := by
  refine Ki_of (rm := rm_X5_cut) (mL := 4) (b := cX5_cut) RX5 rfl (by decide +kernel) rfl rfl [(0, .ref (ea E 13)), (1, .int (iI r)), (2, .int (iI b)), (3, .int (iI c))] rfl (Nat.le_of_ble_eq_true rfl) (fun p_ e_ s_ m_ a_ b_ h_ c_ Q A C hret => ?_)
  refine g_aload_n C dX5_cut_0 0 rfl rfl (q := 1) rfl ?_
  refine g_cV_v C (As := []) (c_X5_remembers l E _) ml_X5_99 mf_X5_remembers (o := 13) (ci := 5) rfl rfl rfl rfl ⟨(Nat.le_of_ble_eq_true rfl), (Nat.le_of_ble_eq_true rfl)⟩ rfl rfl rfl (Nat.le_of_ble_eq_true rfl) ⟨(Nat.le_of_ble_eq_true rfl), (Nat.le_of_ble_eq_true rfl)⟩ dX5_cut_1 (q := 4) rfl ?_
  refine g_aload_n C dX5_cut_4 0 rfl rfl (q := 5) rfl ?_
  refine g_aload_n C dX5_cut_5 0 rfl rfl (q := 6) rfl ?_
  refine g_iload_n C dX5_cut_6 1 rfl rfl (q := 7) rfl ?_
  refine g_iload_n C dX5_cut_7 2 rfl rfl (q := 8) rfl ?_
  refine g_iload_n C dX5_cut_8 3 rfl rfl (q := 9) rfl ?_
  refine g_cV_i C (As := [.int (iI r), .int (iI b), .int (iI c)]) (c_X5_cuts_1 l E _ r b c f (by show MS f (σ 14); assumption) (by omega) (by omega) (by omega) (by exact hF)) ml_X5_119 mf_X5_cuts (o := 13) (ci := 5) rfl rfl rfl rfl ⟨(Nat.le_of_ble_eq_true rfl), (Nat.le_of_ble_eq_true rfl)⟩ rfl rfl rfl (Nat.le_of_ble_eq_true rfl) ⟨(Nat.le_of_ble_eq_true rfl), (Nat.le_of_ble_eq_true rfl)⟩ dX5_cut_9 (q := 12) rfl ?_
  refine g_cV_i C (As := [.int (iI 1)]) (c_X5_ends_x l E _ 1  (by omega)) ml_X5_106 mf_X5_ends (o := 13) (ci := 5) rfl rfl rfl rfl ⟨(Nat.le_of_ble_eq_true rfl), (Nat.le_of_ble_eq_true rfl)⟩ rfl rfl rfl (Nat.le_of_ble_eq_true rfl) ⟨(Nat.le_of_ble_eq_true rfl), (Nat.le_of_ble_eq_true rfl)⟩ dX5_cut_12 (q := 15) rfl ?_
  refine g_st (σ2 := (st (st σ 13 (pt (σ 13) 0 1)) 15 (cpf (σ 14) (σ 15) 0 0 486))) ((congrArg (st (st (st σ 13 (pt (σ 13) 0 0)) 15 (cpf (σ 14) (σ 15) 0 0 486)) 13) (pt_pt _ _ _ _)).trans ((st_cm (st σ 13 (pt (σ 13) 0 0)) (o := 15) (q := 13) (cpf (σ 14) (σ 15) 0 0 486) (pt (σ 13) 0 1) (by decide)).trans (congrArg (fun g9 => st g9 15 (cpf (σ 14) (σ 15) 0 0 486)) (st_st _ _ _ _)))) ?_
  exact hret _ _ _ dX5_cut_15 rfl
set_option maxRecDepth 100000 in
set_option maxHeartbeats 4000000 in
theorem c_X5_cut_2 (l : Launch) (E : EV) (σ : SS) (r b c : Int) (f : Int → Int) (hM : MS f (σ 14)) (hr_r : -2147483648 ≤ r ∧ r ≤ 2147483647) (hr_b : -2147483648 ≤ b ∧ b ≤ 2147483647) (hr_c : -2147483648 ≤ c ∧ c ≤ 2147483647) (hF : FK f 4 r b c 0 = 2) : Ki l yX5_cut (cw yX5_cut cX5_cut 4 (some .int)) rm_X5_cut E [.ref (ea E 13), .int (iI r), .int (iI b), .int (iI c)] σ 0 (st (st σ 13 (pt (σ 13) 0 2)) 15 (cpf (σ 14) (σ 15) 0 0 486)) := by
  refine Ki_of (rm := rm_X5_cut) (mL := 4) (b := cX5_cut) RX5 rfl (by decide +kernel) rfl rfl [(0, .ref (ea E 13)), (1, .int (iI r)), (2, .int (iI b)), (3, .int (iI c))] rfl (Nat.le_of_ble_eq_true rfl) (fun p_ e_ s_ m_ a_ b_ h_ c_ Q A C hret => ?_)
  refine g_aload_n C dX5_cut_0 0 rfl rfl (q := 1) rfl ?_
  refine g_cV_v C (As := []) (c_X5_remembers l E _) ml_X5_99 mf_X5_remembers (o := 13) (ci := 5) rfl rfl rfl rfl ⟨(Nat.le_of_ble_eq_true rfl), (Nat.le_of_ble_eq_true rfl)⟩ rfl rfl rfl (Nat.le_of_ble_eq_true rfl) ⟨(Nat.le_of_ble_eq_true rfl), (Nat.le_of_ble_eq_true rfl)⟩ dX5_cut_1 (q := 4) rfl ?_
  refine g_aload_n C dX5_cut_4 0 rfl rfl (q := 5) rfl ?_
  refine g_aload_n C dX5_cut_5 0 rfl rfl (q := 6) rfl ?_
  refine g_iload_n C dX5_cut_6 1 rfl rfl (q := 7) rfl ?_
  refine g_iload_n C dX5_cut_7 2 rfl rfl (q := 8) rfl ?_
  refine g_iload_n C dX5_cut_8 3 rfl rfl (q := 9) rfl ?_
  refine g_cV_i C (As := [.int (iI r), .int (iI b), .int (iI c)]) (c_X5_cuts_2 l E _ r b c f (by show MS f (σ 14); assumption) (by omega) (by omega) (by omega) (by exact hF)) ml_X5_119 mf_X5_cuts (o := 13) (ci := 5) rfl rfl rfl rfl ⟨(Nat.le_of_ble_eq_true rfl), (Nat.le_of_ble_eq_true rfl)⟩ rfl rfl rfl (Nat.le_of_ble_eq_true rfl) ⟨(Nat.le_of_ble_eq_true rfl), (Nat.le_of_ble_eq_true rfl)⟩ dX5_cut_9 (q := 12) rfl ?_
  refine g_cV_i C (As := [.int (iI 2)]) (c_X5_ends_x l E _ 2  (by omega)) ml_X5_106 mf_X5_ends (o := 13) (ci := 5) rfl rfl rfl rfl ⟨(Nat.le_of_ble_eq_true rfl), (Nat.le_of_ble_eq_true rfl)⟩ rfl rfl rfl (Nat.le_of_ble_eq_true rfl) ⟨(Nat.le_of_ble_eq_true rfl), (Nat.le_of_ble_eq_true rfl)⟩ dX5_cut_12 (q := 15) rfl ?_
  refine g_st (σ2 := (st (st σ 13 (pt (σ 13) 0 2)) 15 (cpf (σ 14) (σ 15) 0 0 486))) ((congrArg (st (st (st σ 13 (pt (σ 13) 0 0)) 15 (cpf (σ 14) (σ 15) 0 0 486)) 13) (pt_pt _ _ _ _)).trans ((st_cm (st σ 13 (pt (σ 13) 0 0)) (o := 15) (q := 13) (cpf (σ 14) (σ 15) 0 0 486) (pt (σ 13) 0 2) (by decide)).trans (congrArg (fun g9 => st g9 15 (cpf (σ 14) (σ 15) 0 0 486)) (st_st _ _ _ _)))) ?_
  exact hret _ _ _ dX5_cut_15 rfl
set_option maxRecDepth 100000 in
set_option maxHeartbeats 4000000 in
theorem c_X5_cut_3 (l : Launch) (E : EV) (σ : SS) (r b c : Int) (f : Int → Int) (hM : MS f (σ 14)) (hr_r : -2147483648 ≤ r ∧ r ≤ 2147483647) (hr_b : -2147483648 ≤ b ∧ b ≤ 2147483647) (hr_c : -2147483648 ≤ c ∧ c ≤ 2147483647) (hF : FK f 4 r b c 0 = 3) : Ki l yX5_cut (cw yX5_cut cX5_cut 4 (some .int)) rm_X5_cut E [.ref (ea E 13), .int (iI r), .int (iI b), .int (iI c)] σ 0 (st (st σ 13 (pt (σ 13) 0 3)) 15 (cpf (σ 14) (σ 15) 0 0 486)) := by
  refine Ki_of (rm := rm_X5_cut) (mL := 4) (b := cX5_cut) RX5 rfl (by decide +kernel) rfl rfl [(0, .ref (ea E 13)), (1, .int (iI r)), (2, .int (iI b)), (3, .int (iI c))] rfl (Nat.le_of_ble_eq_true rfl) (fun p_ e_ s_ m_ a_ b_ h_ c_ Q A C hret => ?_)
  refine g_aload_n C dX5_cut_0 0 rfl rfl (q := 1) rfl ?_
  refine g_cV_v C (As := []) (c_X5_remembers l E _) ml_X5_99 mf_X5_remembers (o := 13) (ci := 5) rfl rfl rfl rfl ⟨(Nat.le_of_ble_eq_true rfl), (Nat.le_of_ble_eq_true rfl)⟩ rfl rfl rfl (Nat.le_of_ble_eq_true rfl) ⟨(Nat.le_of_ble_eq_true rfl), (Nat.le_of_ble_eq_true rfl)⟩ dX5_cut_1 (q := 4) rfl ?_
  refine g_aload_n C dX5_cut_4 0 rfl rfl (q := 5) rfl ?_
  refine g_aload_n C dX5_cut_5 0 rfl rfl (q := 6) rfl ?_
  refine g_iload_n C dX5_cut_6 1 rfl rfl (q := 7) rfl ?_
  refine g_iload_n C dX5_cut_7 2 rfl rfl (q := 8) rfl ?_
  refine g_iload_n C dX5_cut_8 3 rfl rfl (q := 9) rfl ?_
  refine g_cV_i C (As := [.int (iI r), .int (iI b), .int (iI c)]) (c_X5_cuts_3 l E _ r b c f (by show MS f (σ 14); assumption) (by omega) (by omega) (by omega) (by exact hF)) ml_X5_119 mf_X5_cuts (o := 13) (ci := 5) rfl rfl rfl rfl ⟨(Nat.le_of_ble_eq_true rfl), (Nat.le_of_ble_eq_true rfl)⟩ rfl rfl rfl (Nat.le_of_ble_eq_true rfl) ⟨(Nat.le_of_ble_eq_true rfl), (Nat.le_of_ble_eq_true rfl)⟩ dX5_cut_9 (q := 12) rfl ?_
  refine g_cV_i C (As := [.int (iI 3)]) (c_X5_ends_x l E _ 3  (by omega)) ml_X5_106 mf_X5_ends (o := 13) (ci := 5) rfl rfl rfl rfl ⟨(Nat.le_of_ble_eq_true rfl), (Nat.le_of_ble_eq_true rfl)⟩ rfl rfl rfl (Nat.le_of_ble_eq_true rfl) ⟨(Nat.le_of_ble_eq_true rfl), (Nat.le_of_ble_eq_true rfl)⟩ dX5_cut_12 (q := 15) rfl ?_
  refine g_st (σ2 := (st (st σ 13 (pt (σ 13) 0 3)) 15 (cpf (σ 14) (σ 15) 0 0 486))) ((congrArg (st (st (st σ 13 (pt (σ 13) 0 0)) 15 (cpf (σ 14) (σ 15) 0 0 486)) 13) (pt_pt _ _ _ _)).trans ((st_cm (st σ 13 (pt (σ 13) 0 0)) (o := 15) (q := 13) (cpf (σ 14) (σ 15) 0 0 486) (pt (σ 13) 0 3) (by decide)).trans (congrArg (fun g9 => st g9 15 (cpf (σ 14) (σ 15) 0 0 486)) (st_st _ _ _ _)))) ?_
  exact hret _ _ _ dX5_cut_15 rfl
abbrev rm_X5_splice : Room := { frames := 3, cells := 0, slots := 0, locals := 72 }
set_option maxRecDepth 100000 in
set_option maxHeartbeats 4000000 in
theorem c_X5_splice (l : Launch) (E : EV) (σ : SS) (r b : Int) (f : Int → Int) (hM : MS f (σ 14)) (hr_r : -2147483648 ≤ r ∧ r ≤ 2147483647) (hr_b : -2147483648 ≤ b ∧ b ≤ 2147483647) (hk : 0 ≤ (σ 13 5) ∧ (σ 13 5) ≤ 8) (hF : FK f 5 r b 0 0 = 0) : Ki l yX5_splice (cw yX5_splice cX5_splice 3 (some .int)) rm_X5_splice E [.ref (ea E 13), .int (iI r), .int (iI b)] σ ((pt (mMov (σ 14) b 0 r) 1 ((mMov (σ 14) b 0 r) 1 + 1)) (2 + 121 * r)) (st (st (st (st σ 13 (pt (pt (pt (σ 13) 0 0) 5 (min ((σ 13 5) + 1) 8)) 14 ((pt (mMov (σ 14) b 0 r) 1 ((mMov (σ 14) b 0 r) 1 + 1)) (2 + 121 * r)))) 14 (pt (mMov (σ 14) b 0 r) 1 ((mMov (σ 14) b 0 r) 1 + 1))) 15 (cpf (σ 14) (σ 15) 0 0 486)) 17 (hiF (σ 17) (cpf (σ 14) (σ 15) 0 0 486) (σ 13 5))) := by
  refine Ki_of (rm := rm_X5_splice) (mL := 3) (b := cX5_splice) RX5 rfl (by decide +kernel) rfl rfl [(0, .ref (ea E 13)), (1, .int (iI r)), (2, .int (iI b))] rfl (Nat.le_of_ble_eq_true rfl) (fun p_ e_ s_ m_ a_ b_ h_ c_ Q A C hret => ?_)
  refine g_aload_n C dX5_splice_0 0 rfl rfl (q := 1) rfl ?_
  refine g_cV_v C (As := []) (c_X5_remembers l E _) ml_X5_99 mf_X5_remembers (o := 13) (ci := 5) rfl rfl rfl rfl ⟨(Nat.le_of_ble_eq_true rfl), (Nat.le_of_ble_eq_true rfl)⟩ rfl rfl rfl (Nat.le_of_ble_eq_true rfl) ⟨(Nat.le_of_ble_eq_true rfl), (Nat.le_of_ble_eq_true rfl)⟩ dX5_splice_1 (q := 4) rfl ?_
  refine g_aload_n C dX5_splice_4 0 rfl rfl (q := 5) rfl ?_
  refine g_aload_n C dX5_splice_5 0 rfl rfl (q := 6) rfl ?_
  refine g_iload_n C dX5_splice_6 1 rfl rfl (q := 7) rfl ?_
  refine g_iload_n C dX5_splice_7 2 rfl rfl (q := 8) rfl ?_
  refine g_cV_i C (As := [.int (iI r), .int (iI b)]) (c_X5_joins l E _ r b f (by show MS f (σ 14); assumption) (by omega) (by omega) (by exact hF)) ml_X5_122 mf_X5_joins (o := 13) (ci := 5) rfl rfl rfl rfl ⟨(Nat.le_of_ble_eq_true rfl), (Nat.le_of_ble_eq_true rfl)⟩ rfl rfl rfl (Nat.le_of_ble_eq_true rfl) ⟨(Nat.le_of_ble_eq_true rfl), (Nat.le_of_ble_eq_true rfl)⟩ dX5_splice_8 (q := 11) rfl ?_
  refine g_st (σ2 := (st (st (st σ 13 (pt (pt (σ 13) 0 0) 14 ((pt (mMov (σ 14) b 0 r) 1 ((mMov (σ 14) b 0 r) 1 + 1)) (2 + 121 * r)))) 14 (pt (mMov (σ 14) b 0 r) 1 ((mMov (σ 14) b 0 r) 1 + 1))) 15 (cpf (σ 14) (σ 15) 0 0 486))) ((congrArg (fun g9 => st g9 14 (pt (mMov (σ 14) b 0 r) 1 ((mMov (σ 14) b 0 r) 1 + 1))) ((st_cm (st σ 13 (pt (σ 13) 0 0)) (o := 15) (q := 13) (cpf (σ 14) (σ 15) 0 0 486) (pt (pt (σ 13) 0 0) 14 ((pt (mMov (σ 14) b 0 r) 1 ((mMov (σ 14) b 0 r) 1 + 1)) (2 + 121 * r))) (by decide)).trans (congrArg (fun g9 => st g9 15 (cpf (σ 14) (σ 15) 0 0 486)) (st_st _ _ _ _)))).trans (st_cm (st σ 13 (pt (pt (σ 13) 0 0) 14 ((pt (mMov (σ 14) b 0 r) 1 ((mMov (σ 14) b 0 r) 1 + 1)) (2 + 121 * r)))) (o := 15) (q := 14) (cpf (σ 14) (σ 15) 0 0 486) (pt (mMov (σ 14) b 0 r) 1 ((mMov (σ 14) b 0 r) 1 + 1)) (by decide))) ?_
  refine g_cV_i C (As := [.int (iI 0)]) (c_X5_ends_0 l E _   (by show 0 ≤ (σ 13 5) ∧ (σ 13 5) ≤ 8; omega)) ml_X5_106 mf_X5_ends (o := 13) (ci := 5) rfl rfl rfl rfl ⟨(Nat.le_of_ble_eq_true rfl), (Nat.le_of_ble_eq_true rfl)⟩ rfl rfl rfl (Nat.le_of_ble_eq_true rfl) ⟨(Nat.le_of_ble_eq_true rfl), (Nat.le_of_ble_eq_true rfl)⟩ dX5_splice_11 (q := 14) rfl ?_
  refine g_top (b := ((pt (mMov (σ 14) b 0 r) 1 ((mMov (σ 14) b 0 r) 1 + 1)) (2 + 121 * r))) rfl ?_
  refine g_st (σ2 := (st (st (st (st σ 13 (pt (pt (pt (σ 13) 0 0) 5 (min ((σ 13 5) + 1) 8)) 14 ((pt (mMov (σ 14) b 0 r) 1 ((mMov (σ 14) b 0 r) 1 + 1)) (2 + 121 * r)))) 14 (pt (mMov (σ 14) b 0 r) 1 ((mMov (σ 14) b 0 r) 1 + 1))) 15 (cpf (σ 14) (σ 15) 0 0 486)) 17 (hiF (σ 17) (cpf (σ 14) (σ 15) 0 0 486) (σ 13 5)))) (congrArg (fun g9 => st g9 17 (hiF (σ 17) (cpf (σ 14) (σ 15) 0 0 486) (σ 13 5))) ((congrArg (st (st (st (st σ 13 (pt (pt (σ 13) 0 0) 14 ((pt (mMov (σ 14) b 0 r) 1 ((mMov (σ 14) b 0 r) 1 + 1)) (2 + 121 * r)))) 14 (pt (mMov (σ 14) b 0 r) 1 ((mMov (σ 14) b 0 r) 1 + 1))) 15 (cpf (σ 14) (σ 15) 0 0 486)) 13) (pt_cm (pt (σ 13) 0 0) (k := 14) (j := 5) ((pt (mMov (σ 14) b 0 r) 1 ((mMov (σ 14) b 0 r) 1 + 1)) (2 + 121 * r)) (min ((σ 13 5) + 1) 8) (by decide))).trans ((st_cm (st (st σ 13 (pt (pt (σ 13) 0 0) 14 ((pt (mMov (σ 14) b 0 r) 1 ((mMov (σ 14) b 0 r) 1 + 1)) (2 + 121 * r)))) 14 (pt (mMov (σ 14) b 0 r) 1 ((mMov (σ 14) b 0 r) 1 + 1))) (o := 15) (q := 13) (cpf (σ 14) (σ 15) 0 0 486) (pt (pt (pt (σ 13) 0 0) 5 (min ((σ 13 5) + 1) 8)) 14 ((pt (mMov (σ 14) b 0 r) 1 ((mMov (σ 14) b 0 r) 1 + 1)) (2 + 121 * r))) (by decide)).trans (congrArg (fun g9 => st g9 15 (cpf (σ 14) (σ 15) 0 0 486)) ((st_cm (st σ 13 (pt (pt (σ 13) 0 0) 14 ((pt (mMov (σ 14) b 0 r) 1 ((mMov (σ 14) b 0 r) 1 + 1)) (2 + 121 * r)))) (o := 14) (q := 13) (pt (mMov (σ 14) b 0 r) 1 ((mMov (σ 14) b 0 r) 1 + 1)) (pt (pt (pt (σ 13) 0 0) 5 (min ((σ 13 5) + 1) 8)) 14 ((pt (mMov (σ 14) b 0 r) 1 ((mMov (σ 14) b 0 r) 1 + 1)) (2 + 121 * r))) (by decide)).trans (congrArg (fun g9 => st g9 14 (pt (mMov (σ 14) b 0 r) 1 ((mMov (σ 14) b 0 r) 1 + 1))) (st_st _ _ _ _))))))) ?_
  exact hret _ _ _ dX5_splice_14 rfl
set_option maxRecDepth 100000 in
set_option maxHeartbeats 4000000 in
theorem c_X5_splice_1 (l : Launch) (E : EV) (σ : SS) (r b : Int) (f : Int → Int) (hM : MS f (σ 14)) (hr_r : -2147483648 ≤ r ∧ r ≤ 2147483647) (hr_b : -2147483648 ≤ b ∧ b ≤ 2147483647) (hF : FK f 5 r b 0 0 = 1) : Ki l yX5_splice (cw yX5_splice cX5_splice 3 (some .int)) rm_X5_splice E [.ref (ea E 13), .int (iI r), .int (iI b)] σ 0 (st (st σ 13 (pt (σ 13) 0 1)) 15 (cpf (σ 14) (σ 15) 0 0 486)) := by
  refine Ki_of (rm := rm_X5_splice) (mL := 3) (b := cX5_splice) RX5 rfl (by decide +kernel) rfl rfl [(0, .ref (ea E 13)), (1, .int (iI r)), (2, .int (iI b))] rfl (Nat.le_of_ble_eq_true rfl) (fun p_ e_ s_ m_ a_ b_ h_ c_ Q A C hret => ?_)
  refine g_aload_n C dX5_splice_0 0 rfl rfl (q := 1) rfl ?_
  refine g_cV_v C (As := []) (c_X5_remembers l E _) ml_X5_99 mf_X5_remembers (o := 13) (ci := 5) rfl rfl rfl rfl ⟨(Nat.le_of_ble_eq_true rfl), (Nat.le_of_ble_eq_true rfl)⟩ rfl rfl rfl (Nat.le_of_ble_eq_true rfl) ⟨(Nat.le_of_ble_eq_true rfl), (Nat.le_of_ble_eq_true rfl)⟩ dX5_splice_1 (q := 4) rfl ?_
  refine g_aload_n C dX5_splice_4 0 rfl rfl (q := 5) rfl ?_
  refine g_aload_n C dX5_splice_5 0 rfl rfl (q := 6) rfl ?_
  refine g_iload_n C dX5_splice_6 1 rfl rfl (q := 7) rfl ?_
  refine g_iload_n C dX5_splice_7 2 rfl rfl (q := 8) rfl ?_
  refine g_cV_i C (As := [.int (iI r), .int (iI b)]) (c_X5_joins_1 l E _ r b f (by show MS f (σ 14); assumption) (by omega) (by omega) (by exact hF)) ml_X5_122 mf_X5_joins (o := 13) (ci := 5) rfl rfl rfl rfl ⟨(Nat.le_of_ble_eq_true rfl), (Nat.le_of_ble_eq_true rfl)⟩ rfl rfl rfl (Nat.le_of_ble_eq_true rfl) ⟨(Nat.le_of_ble_eq_true rfl), (Nat.le_of_ble_eq_true rfl)⟩ dX5_splice_8 (q := 11) rfl ?_
  refine g_cV_i C (As := [.int (iI 1)]) (c_X5_ends_x l E _ 1  (by omega)) ml_X5_106 mf_X5_ends (o := 13) (ci := 5) rfl rfl rfl rfl ⟨(Nat.le_of_ble_eq_true rfl), (Nat.le_of_ble_eq_true rfl)⟩ rfl rfl rfl (Nat.le_of_ble_eq_true rfl) ⟨(Nat.le_of_ble_eq_true rfl), (Nat.le_of_ble_eq_true rfl)⟩ dX5_splice_11 (q := 14) rfl ?_
  refine g_st (σ2 := (st (st σ 13 (pt (σ 13) 0 1)) 15 (cpf (σ 14) (σ 15) 0 0 486))) ((congrArg (st (st (st σ 13 (pt (σ 13) 0 0)) 15 (cpf (σ 14) (σ 15) 0 0 486)) 13) (pt_pt _ _ _ _)).trans ((st_cm (st σ 13 (pt (σ 13) 0 0)) (o := 15) (q := 13) (cpf (σ 14) (σ 15) 0 0 486) (pt (σ 13) 0 1) (by decide)).trans (congrArg (fun g9 => st g9 15 (cpf (σ 14) (σ 15) 0 0 486)) (st_st _ _ _ _)))) ?_
  exact hret _ _ _ dX5_splice_14 rfl
set_option maxRecDepth 100000 in
set_option maxHeartbeats 4000000 in
theorem c_X5_splice_2 (l : Launch) (E : EV) (σ : SS) (r b : Int) (f : Int → Int) (hM : MS f (σ 14)) (hr_r : -2147483648 ≤ r ∧ r ≤ 2147483647) (hr_b : -2147483648 ≤ b ∧ b ≤ 2147483647) (hF : FK f 5 r b 0 0 = 2) : Ki l yX5_splice (cw yX5_splice cX5_splice 3 (some .int)) rm_X5_splice E [.ref (ea E 13), .int (iI r), .int (iI b)] σ 0 (st (st σ 13 (pt (σ 13) 0 2)) 15 (cpf (σ 14) (σ 15) 0 0 486)) := by
  refine Ki_of (rm := rm_X5_splice) (mL := 3) (b := cX5_splice) RX5 rfl (by decide +kernel) rfl rfl [(0, .ref (ea E 13)), (1, .int (iI r)), (2, .int (iI b))] rfl (Nat.le_of_ble_eq_true rfl) (fun p_ e_ s_ m_ a_ b_ h_ c_ Q A C hret => ?_)
  refine g_aload_n C dX5_splice_0 0 rfl rfl (q := 1) rfl ?_
  refine g_cV_v C (As := []) (c_X5_remembers l E _) ml_X5_99 mf_X5_remembers (o := 13) (ci := 5) rfl rfl rfl rfl ⟨(Nat.le_of_ble_eq_true rfl), (Nat.le_of_ble_eq_true rfl)⟩ rfl rfl rfl (Nat.le_of_ble_eq_true rfl) ⟨(Nat.le_of_ble_eq_true rfl), (Nat.le_of_ble_eq_true rfl)⟩ dX5_splice_1 (q := 4) rfl ?_
  refine g_aload_n C dX5_splice_4 0 rfl rfl (q := 5) rfl ?_
  refine g_aload_n C dX5_splice_5 0 rfl rfl (q := 6) rfl ?_
  refine g_iload_n C dX5_splice_6 1 rfl rfl (q := 7) rfl ?_
  refine g_iload_n C dX5_splice_7 2 rfl rfl (q := 8) rfl ?_
  refine g_cV_i C (As := [.int (iI r), .int (iI b)]) (c_X5_joins_2 l E _ r b f (by show MS f (σ 14); assumption) (by omega) (by omega) (by exact hF)) ml_X5_122 mf_X5_joins (o := 13) (ci := 5) rfl rfl rfl rfl ⟨(Nat.le_of_ble_eq_true rfl), (Nat.le_of_ble_eq_true rfl)⟩ rfl rfl rfl (Nat.le_of_ble_eq_true rfl) ⟨(Nat.le_of_ble_eq_true rfl), (Nat.le_of_ble_eq_true rfl)⟩ dX5_splice_8 (q := 11) rfl ?_
  refine g_cV_i C (As := [.int (iI 2)]) (c_X5_ends_x l E _ 2  (by omega)) ml_X5_106 mf_X5_ends (o := 13) (ci := 5) rfl rfl rfl rfl ⟨(Nat.le_of_ble_eq_true rfl), (Nat.le_of_ble_eq_true rfl)⟩ rfl rfl rfl (Nat.le_of_ble_eq_true rfl) ⟨(Nat.le_of_ble_eq_true rfl), (Nat.le_of_ble_eq_true rfl)⟩ dX5_splice_11 (q := 14) rfl ?_
  refine g_st (σ2 := (st (st σ 13 (pt (σ 13) 0 2)) 15 (cpf (σ 14) (σ 15) 0 0 486))) ((congrArg (st (st (st σ 13 (pt (σ 13) 0 0)) 15 (cpf (σ 14) (σ 15) 0 0 486)) 13) (pt_pt _ _ _ _)).trans ((st_cm (st σ 13 (pt (σ 13) 0 0)) (o := 15) (q := 13) (cpf (σ 14) (σ 15) 0 0 486) (pt (σ 13) 0 2) (by decide)).trans (congrArg (fun g9 => st g9 15 (cpf (σ 14) (σ 15) 0 0 486)) (st_st _ _ _ _)))) ?_
  exact hret _ _ _ dX5_splice_14 rfl
set_option maxRecDepth 100000 in
set_option maxHeartbeats 4000000 in
theorem c_X5_splice_3 (l : Launch) (E : EV) (σ : SS) (r b : Int) (f : Int → Int) (hM : MS f (σ 14)) (hr_r : -2147483648 ≤ r ∧ r ≤ 2147483647) (hr_b : -2147483648 ≤ b ∧ b ≤ 2147483647) (hF : FK f 5 r b 0 0 = 3) : Ki l yX5_splice (cw yX5_splice cX5_splice 3 (some .int)) rm_X5_splice E [.ref (ea E 13), .int (iI r), .int (iI b)] σ 0 (st (st σ 13 (pt (σ 13) 0 3)) 15 (cpf (σ 14) (σ 15) 0 0 486)) := by
  refine Ki_of (rm := rm_X5_splice) (mL := 3) (b := cX5_splice) RX5 rfl (by decide +kernel) rfl rfl [(0, .ref (ea E 13)), (1, .int (iI r)), (2, .int (iI b))] rfl (Nat.le_of_ble_eq_true rfl) (fun p_ e_ s_ m_ a_ b_ h_ c_ Q A C hret => ?_)
  refine g_aload_n C dX5_splice_0 0 rfl rfl (q := 1) rfl ?_
  refine g_cV_v C (As := []) (c_X5_remembers l E _) ml_X5_99 mf_X5_remembers (o := 13) (ci := 5) rfl rfl rfl rfl ⟨(Nat.le_of_ble_eq_true rfl), (Nat.le_of_ble_eq_true rfl)⟩ rfl rfl rfl (Nat.le_of_ble_eq_true rfl) ⟨(Nat.le_of_ble_eq_true rfl), (Nat.le_of_ble_eq_true rfl)⟩ dX5_splice_1 (q := 4) rfl ?_
  refine g_aload_n C dX5_splice_4 0 rfl rfl (q := 5) rfl ?_
  refine g_aload_n C dX5_splice_5 0 rfl rfl (q := 6) rfl ?_
  refine g_iload_n C dX5_splice_6 1 rfl rfl (q := 7) rfl ?_
  refine g_iload_n C dX5_splice_7 2 rfl rfl (q := 8) rfl ?_
  refine g_cV_i C (As := [.int (iI r), .int (iI b)]) (c_X5_joins_3 l E _ r b f (by show MS f (σ 14); assumption) (by omega) (by omega) (by exact hF)) ml_X5_122 mf_X5_joins (o := 13) (ci := 5) rfl rfl rfl rfl ⟨(Nat.le_of_ble_eq_true rfl), (Nat.le_of_ble_eq_true rfl)⟩ rfl rfl rfl (Nat.le_of_ble_eq_true rfl) ⟨(Nat.le_of_ble_eq_true rfl), (Nat.le_of_ble_eq_true rfl)⟩ dX5_splice_8 (q := 11) rfl ?_
  refine g_cV_i C (As := [.int (iI 3)]) (c_X5_ends_x l E _ 3  (by omega)) ml_X5_106 mf_X5_ends (o := 13) (ci := 5) rfl rfl rfl rfl ⟨(Nat.le_of_ble_eq_true rfl), (Nat.le_of_ble_eq_true rfl)⟩ rfl rfl rfl (Nat.le_of_ble_eq_true rfl) ⟨(Nat.le_of_ble_eq_true rfl), (Nat.le_of_ble_eq_true rfl)⟩ dX5_splice_11 (q := 14) rfl ?_
  refine g_st (σ2 := (st (st σ 13 (pt (σ 13) 0 3)) 15 (cpf (σ 14) (σ 15) 0 0 486))) ((congrArg (st (st (st σ 13 (pt (σ 13) 0 0)) 15 (cpf (σ 14) (σ 15) 0 0 486)) 13) (pt_pt _ _ _ _)).trans ((st_cm (st σ 13 (pt (σ 13) 0 0)) (o := 15) (q := 13) (cpf (σ 14) (σ 15) 0 0 486) (pt (σ 13) 0 3) (by decide)).trans (congrArg (fun g9 => st g9 15 (cpf (σ 14) (σ 15) 0 0 486)) (st_st _ _ _ _)))) ?_
  exact hret _ _ _ dX5_splice_14 rfl
abbrev rm_X5_exchange : Room := { frames := 3, cells := 0, slots := 0, locals := 66 }
set_option maxRecDepth 100000 in
set_option maxHeartbeats 4000000 in
theorem c_X5_exchange (l : Launch) (E : EV) (σ : SS) (r b : Int) (f : Int → Int) (hM : MS f (σ 14)) (hr_r : -2147483648 ≤ r ∧ r ≤ 2147483647) (hr_b : -2147483648 ≤ b ∧ b ≤ 2147483647) (hk : 0 ≤ (σ 13 5) ∧ (σ 13 5) ≤ 8) (hF : FK f 6 r b 0 0 = 0) : Ki l yX5_exchange (cw yX5_exchange cX5_exchange 3 (some .int)) rm_X5_exchange E [.ref (ea E 13), .int (iI r), .int (iI b)] σ ((mSwL (σ 14) r b 121) (2 + 121 * r)) (st (st (st (st σ 13 (pt (pt (pt (σ 13) 0 0) 5 (min ((σ 13 5) + 1) 8)) 14 ((mSwL (σ 14) r b 121) (2 + 121 * r)))) 14 (mSwL (σ 14) r b 121)) 15 (cpf (σ 14) (σ 15) 0 0 486)) 17 (hiF (σ 17) (cpf (σ 14) (σ 15) 0 0 486) (σ 13 5))) := by
  refine Ki_of (rm := rm_X5_exchange) (mL := 3) (b := cX5_exchange) RX5 rfl (by decide +kernel) rfl rfl [(0, .ref (ea E 13)), (1, .int (iI r)), (2, .int (iI b))] rfl (Nat.le_of_ble_eq_true rfl) (fun p_ e_ s_ m_ a_ b_ h_ c_ Q A C hret => ?_)
  refine g_aload_n C dX5_exchange_0 0 rfl rfl (q := 1) rfl ?_
  refine g_cV_v C (As := []) (c_X5_remembers l E _) ml_X5_99 mf_X5_remembers (o := 13) (ci := 5) rfl rfl rfl rfl ⟨(Nat.le_of_ble_eq_true rfl), (Nat.le_of_ble_eq_true rfl)⟩ rfl rfl rfl (Nat.le_of_ble_eq_true rfl) ⟨(Nat.le_of_ble_eq_true rfl), (Nat.le_of_ble_eq_true rfl)⟩ dX5_exchange_1 (q := 4) rfl ?_
  refine g_aload_n C dX5_exchange_4 0 rfl rfl (q := 5) rfl ?_
  refine g_aload_n C dX5_exchange_5 0 rfl rfl (q := 6) rfl ?_
  refine g_iload_n C dX5_exchange_6 1 rfl rfl (q := 7) rfl ?_
  refine g_iload_n C dX5_exchange_7 2 rfl rfl (q := 8) rfl ?_
  refine g_cV_i C (As := [.int (iI r), .int (iI b)]) (c_X5_swaps l E _ r b f (by show MS f (σ 14); assumption) (by omega) (by omega) (by exact hF)) ml_X5_125 mf_X5_swaps (o := 13) (ci := 5) rfl rfl rfl rfl ⟨(Nat.le_of_ble_eq_true rfl), (Nat.le_of_ble_eq_true rfl)⟩ rfl rfl rfl (Nat.le_of_ble_eq_true rfl) ⟨(Nat.le_of_ble_eq_true rfl), (Nat.le_of_ble_eq_true rfl)⟩ dX5_exchange_8 (q := 11) rfl ?_
  refine g_st (σ2 := (st (st (st σ 13 (pt (pt (σ 13) 0 0) 14 ((mSwL (σ 14) r b 121) (2 + 121 * r)))) 14 (mSwL (σ 14) r b 121)) 15 (cpf (σ 14) (σ 15) 0 0 486))) ((congrArg (fun g9 => st g9 14 (mSwL (σ 14) r b 121)) ((st_cm (st σ 13 (pt (σ 13) 0 0)) (o := 15) (q := 13) (cpf (σ 14) (σ 15) 0 0 486) (pt (pt (σ 13) 0 0) 14 ((mSwL (σ 14) r b 121) (2 + 121 * r))) (by decide)).trans (congrArg (fun g9 => st g9 15 (cpf (σ 14) (σ 15) 0 0 486)) (st_st _ _ _ _)))).trans (st_cm (st σ 13 (pt (pt (σ 13) 0 0) 14 ((mSwL (σ 14) r b 121) (2 + 121 * r)))) (o := 15) (q := 14) (cpf (σ 14) (σ 15) 0 0 486) (mSwL (σ 14) r b 121) (by decide))) ?_
  refine g_cV_i C (As := [.int (iI 0)]) (c_X5_ends_0 l E _   (by show 0 ≤ (σ 13 5) ∧ (σ 13 5) ≤ 8; omega)) ml_X5_106 mf_X5_ends (o := 13) (ci := 5) rfl rfl rfl rfl ⟨(Nat.le_of_ble_eq_true rfl), (Nat.le_of_ble_eq_true rfl)⟩ rfl rfl rfl (Nat.le_of_ble_eq_true rfl) ⟨(Nat.le_of_ble_eq_true rfl), (Nat.le_of_ble_eq_true rfl)⟩ dX5_exchange_11 (q := 14) rfl ?_
  refine g_top (b := ((mSwL (σ 14) r b 121) (2 + 121 * r))) rfl ?_
  refine g_st (σ2 := (st (st (st (st σ 13 (pt (pt (pt (σ 13) 0 0) 5 (min ((σ 13 5) + 1) 8)) 14 ((mSwL (σ 14) r b 121) (2 + 121 * r)))) 14 (mSwL (σ 14) r b 121)) 15 (cpf (σ 14) (σ 15) 0 0 486)) 17 (hiF (σ 17) (cpf (σ 14) (σ 15) 0 0 486) (σ 13 5)))) (congrArg (fun g9 => st g9 17 (hiF (σ 17) (cpf (σ 14) (σ 15) 0 0 486) (σ 13 5))) ((congrArg (st (st (st (st σ 13 (pt (pt (σ 13) 0 0) 14 ((mSwL (σ 14) r b 121) (2 + 121 * r)))) 14 (mSwL (σ 14) r b 121)) 15 (cpf (σ 14) (σ 15) 0 0 486)) 13) (pt_cm (pt (σ 13) 0 0) (k := 14) (j := 5) ((mSwL (σ 14) r b 121) (2 + 121 * r)) (min ((σ 13 5) + 1) 8) (by decide))).trans ((st_cm (st (st σ 13 (pt (pt (σ 13) 0 0) 14 ((mSwL (σ 14) r b 121) (2 + 121 * r)))) 14 (mSwL (σ 14) r b 121)) (o := 15) (q := 13) (cpf (σ 14) (σ 15) 0 0 486) (pt (pt (pt (σ 13) 0 0) 5 (min ((σ 13 5) + 1) 8)) 14 ((mSwL (σ 14) r b 121) (2 + 121 * r))) (by decide)).trans (congrArg (fun g9 => st g9 15 (cpf (σ 14) (σ 15) 0 0 486)) ((st_cm (st σ 13 (pt (pt (σ 13) 0 0) 14 ((mSwL (σ 14) r b 121) (2 + 121 * r)))) (o := 14) (q := 13) (mSwL (σ 14) r b 121) (pt (pt (pt (σ 13) 0 0) 5 (min ((σ 13 5) + 1) 8)) 14 ((mSwL (σ 14) r b 121) (2 + 121 * r))) (by decide)).trans (congrArg (fun g9 => st g9 14 (mSwL (σ 14) r b 121)) (st_st _ _ _ _))))))) ?_
  exact hret _ _ _ dX5_exchange_14 rfl
set_option maxRecDepth 100000 in
set_option maxHeartbeats 4000000 in
theorem c_X5_exchange_1 (l : Launch) (E : EV) (σ : SS) (r b : Int) (f : Int → Int) (hM : MS f (σ 14)) (hr_r : -2147483648 ≤ r ∧ r ≤ 2147483647) (hr_b : -2147483648 ≤ b ∧ b ≤ 2147483647) (hF : FK f 6 r b 0 0 = 1) : Ki l yX5_exchange (cw yX5_exchange cX5_exchange 3 (some .int)) rm_X5_exchange E [.ref (ea E 13), .int (iI r), .int (iI b)] σ 0 (st (st σ 13 (pt (σ 13) 0 1)) 15 (cpf (σ 14) (σ 15) 0 0 486)) := by
  refine Ki_of (rm := rm_X5_exchange) (mL := 3) (b := cX5_exchange) RX5 rfl (by decide +kernel) rfl rfl [(0, .ref (ea E 13)), (1, .int (iI r)), (2, .int (iI b))] rfl (Nat.le_of_ble_eq_true rfl) (fun p_ e_ s_ m_ a_ b_ h_ c_ Q A C hret => ?_)
  refine g_aload_n C dX5_exchange_0 0 rfl rfl (q := 1) rfl ?_
  refine g_cV_v C (As := []) (c_X5_remembers l E _) ml_X5_99 mf_X5_remembers (o := 13) (ci := 5) rfl rfl rfl rfl ⟨(Nat.le_of_ble_eq_true rfl), (Nat.le_of_ble_eq_true rfl)⟩ rfl rfl rfl (Nat.le_of_ble_eq_true rfl) ⟨(Nat.le_of_ble_eq_true rfl), (Nat.le_of_ble_eq_true rfl)⟩ dX5_exchange_1 (q := 4) rfl ?_
  refine g_aload_n C dX5_exchange_4 0 rfl rfl (q := 5) rfl ?_
  refine g_aload_n C dX5_exchange_5 0 rfl rfl (q := 6) rfl ?_
  refine g_iload_n C dX5_exchange_6 1 rfl rfl (q := 7) rfl ?_
  refine g_iload_n C dX5_exchange_7 2 rfl rfl (q := 8) rfl ?_
  refine g_cV_i C (As := [.int (iI r), .int (iI b)]) (c_X5_swaps_1 l E _ r b f (by show MS f (σ 14); assumption) (by omega) (by omega) (by exact hF)) ml_X5_125 mf_X5_swaps (o := 13) (ci := 5) rfl rfl rfl rfl ⟨(Nat.le_of_ble_eq_true rfl), (Nat.le_of_ble_eq_true rfl)⟩ rfl rfl rfl (Nat.le_of_ble_eq_true rfl) ⟨(Nat.le_of_ble_eq_true rfl), (Nat.le_of_ble_eq_true rfl)⟩ dX5_exchange_8 (q := 11) rfl ?_
  refine g_cV_i C (As := [.int (iI 1)]) (c_X5_ends_x l E _ 1  (by omega)) ml_X5_106 mf_X5_ends (o := 13) (ci := 5) rfl rfl rfl rfl ⟨(Nat.le_of_ble_eq_true rfl), (Nat.le_of_ble_eq_true rfl)⟩ rfl rfl rfl (Nat.le_of_ble_eq_true rfl) ⟨(Nat.le_of_ble_eq_true rfl), (Nat.le_of_ble_eq_true rfl)⟩ dX5_exchange_11 (q := 14) rfl ?_
  refine g_st (σ2 := (st (st σ 13 (pt (σ 13) 0 1)) 15 (cpf (σ 14) (σ 15) 0 0 486))) ((congrArg (st (st (st σ 13 (pt (σ 13) 0 0)) 15 (cpf (σ 14) (σ 15) 0 0 486)) 13) (pt_pt _ _ _ _)).trans ((st_cm (st σ 13 (pt (σ 13) 0 0)) (o := 15) (q := 13) (cpf (σ 14) (σ 15) 0 0 486) (pt (σ 13) 0 1) (by decide)).trans (congrArg (fun g9 => st g9 15 (cpf (σ 14) (σ 15) 0 0 486)) (st_st _ _ _ _)))) ?_
  exact hret _ _ _ dX5_exchange_14 rfl
abbrev rm_X5_flip : Room := { frames := 4, cells := 0, slots := 0, locals := 91 }
set_option maxRecDepth 100000 in
set_option maxHeartbeats 4000000 in
theorem c_X5_flip (l : Launch) (E : EV) (σ : SS) (r b c : Int) (f : Int → Int) (hM : MS f (σ 14)) (hr_r : -2147483648 ≤ r ∧ r ≤ 2147483647) (hr_b : -2147483648 ≤ b ∧ b ≤ 2147483647) (hr_c : -2147483648 ≤ c ∧ c ≤ 2147483647) (hk : 0 ≤ (σ 13 5) ∧ (σ 13 5) ≤ 8) (hF : FK f 7 r b c 0 = 0) : Ki l yX5_flip (cw yX5_flip cX5_flip 4 (some .int)) rm_X5_flip E [.ref (ea E 13), .int (iI r), .int (iI b), .int (iI c)] σ (sI (lgs (rvF f r b c) r) b (c + 1)) (st (st (st (st σ 13 (pt (pt (pt (σ 13) 0 0) 5 (min ((σ 13 5) + 1) 8)) 14 (sI (lgs (rvF f r b c) r) b (c + 1)))) 14 (mRv (σ 14) r b c)) 15 (cpf (σ 14) (σ 15) 0 0 486)) 17 (hiF (σ 17) (cpf (σ 14) (σ 15) 0 0 486) (σ 13 5))) := by
  refine Ki_of (rm := rm_X5_flip) (mL := 4) (b := cX5_flip) RX5 rfl (by decide +kernel) rfl rfl [(0, .ref (ea E 13)), (1, .int (iI r)), (2, .int (iI b)), (3, .int (iI c))] rfl (Nat.le_of_ble_eq_true rfl) (fun p_ e_ s_ m_ a_ b_ h_ c_ Q A C hret => ?_)
  refine g_aload_n C dX5_flip_0 0 rfl rfl (q := 1) rfl ?_
  refine g_cV_v C (As := []) (c_X5_remembers l E _) ml_X5_99 mf_X5_remembers (o := 13) (ci := 5) rfl rfl rfl rfl ⟨(Nat.le_of_ble_eq_true rfl), (Nat.le_of_ble_eq_true rfl)⟩ rfl rfl rfl (Nat.le_of_ble_eq_true rfl) ⟨(Nat.le_of_ble_eq_true rfl), (Nat.le_of_ble_eq_true rfl)⟩ dX5_flip_1 (q := 4) rfl ?_
  refine g_aload_n C dX5_flip_4 0 rfl rfl (q := 5) rfl ?_
  refine g_aload_n C dX5_flip_5 0 rfl rfl (q := 6) rfl ?_
  refine g_iload_n C dX5_flip_6 1 rfl rfl (q := 7) rfl ?_
  refine g_iload_n C dX5_flip_7 2 rfl rfl (q := 8) rfl ?_
  refine g_iload_n C dX5_flip_8 3 rfl rfl (q := 9) rfl ?_
  refine g_cV_i C (As := [.int (iI r), .int (iI b), .int (iI c)]) (c_X5_flips l E _ r b c f (by show MS f (σ 14); assumption) (by omega) (by omega) (by omega) (by exact hF)) ml_X5_128 mf_X5_flips (o := 13) (ci := 5) rfl rfl rfl rfl ⟨(Nat.le_of_ble_eq_true rfl), (Nat.le_of_ble_eq_true rfl)⟩ rfl rfl rfl (Nat.le_of_ble_eq_true rfl) ⟨(Nat.le_of_ble_eq_true rfl), (Nat.le_of_ble_eq_true rfl)⟩ dX5_flip_9 (q := 12) rfl ?_
  refine g_st (σ2 := (st (st (st σ 13 (pt (pt (σ 13) 0 0) 14 (sI (lgs (rvF f r b c) r) b (c + 1)))) 14 (mRv (σ 14) r b c)) 15 (cpf (σ 14) (σ 15) 0 0 486))) ((congrArg (fun g9 => st g9 14 (mRv (σ 14) r b c)) ((st_cm (st σ 13 (pt (σ 13) 0 0)) (o := 15) (q := 13) (cpf (σ 14) (σ 15) 0 0 486) (pt (pt (σ 13) 0 0) 14 (sI (lgs (rvF f r b c) r) b (c + 1))) (by decide)).trans (congrArg (fun g9 => st g9 15 (cpf (σ 14) (σ 15) 0 0 486)) (st_st _ _ _ _)))).trans (st_cm (st σ 13 (pt (pt (σ 13) 0 0) 14 (sI (lgs (rvF f r b c) r) b (c + 1)))) (o := 15) (q := 14) (cpf (σ 14) (σ 15) 0 0 486) (mRv (σ 14) r b c) (by decide))) ?_
  refine g_cV_i C (As := [.int (iI 0)]) (c_X5_ends_0 l E _   (by show 0 ≤ (σ 13 5) ∧ (σ 13 5) ≤ 8; omega)) ml_X5_106 mf_X5_ends (o := 13) (ci := 5) rfl rfl rfl rfl ⟨(Nat.le_of_ble_eq_true rfl), (Nat.le_of_ble_eq_true rfl)⟩ rfl rfl rfl (Nat.le_of_ble_eq_true rfl) ⟨(Nat.le_of_ble_eq_true rfl), (Nat.le_of_ble_eq_true rfl)⟩ dX5_flip_12 (q := 15) rfl ?_
  refine g_top (b := (sI (lgs (rvF f r b c) r) b (c + 1))) rfl ?_
  refine g_st (σ2 := (st (st (st (st σ 13 (pt (pt (pt (σ 13) 0 0) 5 (min ((σ 13 5) + 1) 8)) 14 (sI (lgs (rvF f r b c) r) b (c + 1)))) 14 (mRv (σ 14) r b c)) 15 (cpf (σ 14) (σ 15) 0 0 486)) 17 (hiF (σ 17) (cpf (σ 14) (σ 15) 0 0 486) (σ 13 5)))) (congrArg (fun g9 => st g9 17 (hiF (σ 17) (cpf (σ 14) (σ 15) 0 0 486) (σ 13 5))) ((congrArg (st (st (st (st σ 13 (pt (pt (σ 13) 0 0) 14 (sI (lgs (rvF f r b c) r) b (c + 1)))) 14 (mRv (σ 14) r b c)) 15 (cpf (σ 14) (σ 15) 0 0 486)) 13) (pt_cm (pt (σ 13) 0 0) (k := 14) (j := 5) (sI (lgs (rvF f r b c) r) b (c + 1)) (min ((σ 13 5) + 1) 8) (by decide))).trans ((st_cm (st (st σ 13 (pt (pt (σ 13) 0 0) 14 (sI (lgs (rvF f r b c) r) b (c + 1)))) 14 (mRv (σ 14) r b c)) (o := 15) (q := 13) (cpf (σ 14) (σ 15) 0 0 486) (pt (pt (pt (σ 13) 0 0) 5 (min ((σ 13 5) + 1) 8)) 14 (sI (lgs (rvF f r b c) r) b (c + 1))) (by decide)).trans (congrArg (fun g9 => st g9 15 (cpf (σ 14) (σ 15) 0 0 486)) ((st_cm (st σ 13 (pt (pt (σ 13) 0 0) 14 (sI (lgs (rvF f r b c) r) b (c + 1)))) (o := 14) (q := 13) (mRv (σ 14) r b c) (pt (pt (pt (σ 13) 0 0) 5 (min ((σ 13 5) + 1) 8)) 14 (sI (lgs (rvF f r b c) r) b (c + 1))) (by decide)).trans (congrArg (fun g9 => st g9 14 (mRv (σ 14) r b c)) (st_st _ _ _ _))))))) ?_
  exact hret _ _ _ dX5_flip_15 rfl
set_option maxRecDepth 100000 in
set_option maxHeartbeats 4000000 in
theorem c_X5_flip_1 (l : Launch) (E : EV) (σ : SS) (r b c : Int) (f : Int → Int) (hM : MS f (σ 14)) (hr_r : -2147483648 ≤ r ∧ r ≤ 2147483647) (hr_b : -2147483648 ≤ b ∧ b ≤ 2147483647) (hr_c : -2147483648 ≤ c ∧ c ≤ 2147483647) (hF : FK f 7 r b c 0 = 1) : Ki l yX5_flip (cw yX5_flip cX5_flip 4 (some .int)) rm_X5_flip E [.ref (ea E 13), .int (iI r), .int (iI b), .int (iI c)] σ 0 (st (st σ 13 (pt (σ 13) 0 1)) 15 (cpf (σ 14) (σ 15) 0 0 486)) := by
  refine Ki_of (rm := rm_X5_flip) (mL := 4) (b := cX5_flip) RX5 rfl (by decide +kernel) rfl rfl [(0, .ref (ea E 13)), (1, .int (iI r)), (2, .int (iI b)), (3, .int (iI c))] rfl (Nat.le_of_ble_eq_true rfl) (fun p_ e_ s_ m_ a_ b_ h_ c_ Q A C hret => ?_)
  refine g_aload_n C dX5_flip_0 0 rfl rfl (q := 1) rfl ?_
  refine g_cV_v C (As := []) (c_X5_remembers l E _) ml_X5_99 mf_X5_remembers (o := 13) (ci := 5) rfl rfl rfl rfl ⟨(Nat.le_of_ble_eq_true rfl), (Nat.le_of_ble_eq_true rfl)⟩ rfl rfl rfl (Nat.le_of_ble_eq_true rfl) ⟨(Nat.le_of_ble_eq_true rfl), (Nat.le_of_ble_eq_true rfl)⟩ dX5_flip_1 (q := 4) rfl ?_
  refine g_aload_n C dX5_flip_4 0 rfl rfl (q := 5) rfl ?_
  refine g_aload_n C dX5_flip_5 0 rfl rfl (q := 6) rfl ?_
  refine g_iload_n C dX5_flip_6 1 rfl rfl (q := 7) rfl ?_
  refine g_iload_n C dX5_flip_7 2 rfl rfl (q := 8) rfl ?_
  refine g_iload_n C dX5_flip_8 3 rfl rfl (q := 9) rfl ?_
  refine g_cV_i C (As := [.int (iI r), .int (iI b), .int (iI c)]) (c_X5_flips_1 l E _ r b c f (by show MS f (σ 14); assumption) (by omega) (by omega) (by omega) (by exact hF)) ml_X5_128 mf_X5_flips (o := 13) (ci := 5) rfl rfl rfl rfl ⟨(Nat.le_of_ble_eq_true rfl), (Nat.le_of_ble_eq_true rfl)⟩ rfl rfl rfl (Nat.le_of_ble_eq_true rfl) ⟨(Nat.le_of_ble_eq_true rfl), (Nat.le_of_ble_eq_true rfl)⟩ dX5_flip_9 (q := 12) rfl ?_
  refine g_cV_i C (As := [.int (iI 1)]) (c_X5_ends_x l E _ 1  (by omega)) ml_X5_106 mf_X5_ends (o := 13) (ci := 5) rfl rfl rfl rfl ⟨(Nat.le_of_ble_eq_true rfl), (Nat.le_of_ble_eq_true rfl)⟩ rfl rfl rfl (Nat.le_of_ble_eq_true rfl) ⟨(Nat.le_of_ble_eq_true rfl), (Nat.le_of_ble_eq_true rfl)⟩ dX5_flip_12 (q := 15) rfl ?_
  refine g_st (σ2 := (st (st σ 13 (pt (σ 13) 0 1)) 15 (cpf (σ 14) (σ 15) 0 0 486))) ((congrArg (st (st (st σ 13 (pt (σ 13) 0 0)) 15 (cpf (σ 14) (σ 15) 0 0 486)) 13) (pt_pt _ _ _ _)).trans ((st_cm (st σ 13 (pt (σ 13) 0 0)) (o := 15) (q := 13) (cpf (σ 14) (σ 15) 0 0 486) (pt (σ 13) 0 1) (by decide)).trans (congrArg (fun g9 => st g9 15 (cpf (σ 14) (σ 15) 0 0 486)) (st_st _ _ _ _)))) ?_
  exact hret _ _ _ dX5_flip_15 rfl
set_option maxRecDepth 100000 in
set_option maxHeartbeats 4000000 in
theorem c_X5_flip_2 (l : Launch) (E : EV) (σ : SS) (r b c : Int) (f : Int → Int) (hM : MS f (σ 14)) (hr_r : -2147483648 ≤ r ∧ r ≤ 2147483647) (hr_b : -2147483648 ≤ b ∧ b ≤ 2147483647) (hr_c : -2147483648 ≤ c ∧ c ≤ 2147483647) (hF : FK f 7 r b c 0 = 2) : Ki l yX5_flip (cw yX5_flip cX5_flip 4 (some .int)) rm_X5_flip E [.ref (ea E 13), .int (iI r), .int (iI b), .int (iI c)] σ 0 (st (st σ 13 (pt (σ 13) 0 2)) 15 (cpf (σ 14) (σ 15) 0 0 486)) := by
  refine Ki_of (rm := rm_X5_flip) (mL := 4) (b := cX5_flip) RX5 rfl (by decide +kernel) rfl rfl [(0, .ref (ea E 13)), (1, .int (iI r)), (2, .int (iI b)), (3, .int (iI c))] rfl (Nat.le_of_ble_eq_true rfl) (fun p_ e_ s_ m_ a_ b_ h_ c_ Q A C hret => ?_)
  refine g_aload_n C dX5_flip_0 0 rfl rfl (q := 1) rfl ?_
  refine g_cV_v C (As := []) (c_X5_remembers l E _) ml_X5_99 mf_X5_remembers (o := 13) (ci := 5) rfl rfl rfl rfl ⟨(Nat.le_of_ble_eq_true rfl), (Nat.le_of_ble_eq_true rfl)⟩ rfl rfl rfl (Nat.le_of_ble_eq_true rfl) ⟨(Nat.le_of_ble_eq_true rfl), (Nat.le_of_ble_eq_true rfl)⟩ dX5_flip_1 (q := 4) rfl ?_
  refine g_aload_n C dX5_flip_4 0 rfl rfl (q := 5) rfl ?_
  refine g_aload_n C dX5_flip_5 0 rfl rfl (q := 6) rfl ?_
  refine g_iload_n C dX5_flip_6 1 rfl rfl (q := 7) rfl ?_
  refine g_iload_n C dX5_flip_7 2 rfl rfl (q := 8) rfl ?_
  refine g_iload_n C dX5_flip_8 3 rfl rfl (q := 9) rfl ?_
  refine g_cV_i C (As := [.int (iI r), .int (iI b), .int (iI c)]) (c_X5_flips_2 l E _ r b c f (by show MS f (σ 14); assumption) (by omega) (by omega) (by omega) (by exact hF)) ml_X5_128 mf_X5_flips (o := 13) (ci := 5) rfl rfl rfl rfl ⟨(Nat.le_of_ble_eq_true rfl), (Nat.le_of_ble_eq_true rfl)⟩ rfl rfl rfl (Nat.le_of_ble_eq_true rfl) ⟨(Nat.le_of_ble_eq_true rfl), (Nat.le_of_ble_eq_true rfl)⟩ dX5_flip_9 (q := 12) rfl ?_
  refine g_cV_i C (As := [.int (iI 2)]) (c_X5_ends_x l E _ 2  (by omega)) ml_X5_106 mf_X5_ends (o := 13) (ci := 5) rfl rfl rfl rfl ⟨(Nat.le_of_ble_eq_true rfl), (Nat.le_of_ble_eq_true rfl)⟩ rfl rfl rfl (Nat.le_of_ble_eq_true rfl) ⟨(Nat.le_of_ble_eq_true rfl), (Nat.le_of_ble_eq_true rfl)⟩ dX5_flip_12 (q := 15) rfl ?_
  refine g_st (σ2 := (st (st σ 13 (pt (σ 13) 0 2)) 15 (cpf (σ 14) (σ 15) 0 0 486))) ((congrArg (st (st (st σ 13 (pt (σ 13) 0 0)) 15 (cpf (σ 14) (σ 15) 0 0 486)) 13) (pt_pt _ _ _ _)).trans ((st_cm (st σ 13 (pt (σ 13) 0 0)) (o := 15) (q := 13) (cpf (σ 14) (σ 15) 0 0 486) (pt (σ 13) 0 2) (by decide)).trans (congrArg (fun g9 => st g9 15 (cpf (σ 14) (σ 15) 0 0 486)) (st_st _ _ _ _)))) ?_
  exact hret _ _ _ dX5_flip_15 rfl
abbrev rm_X5_dye : Room := { frames := 4, cells := 0, slots := 0, locals := 90 }
set_option maxRecDepth 100000 in
set_option maxHeartbeats 4000000 in
theorem c_X5_dye (l : Launch) (E : EV) (σ : SS) (r b c d : Int) (f : Int → Int) (hM : MS f (σ 14)) (hr_r : -2147483648 ≤ r ∧ r ≤ 2147483647) (hr_b : -2147483648 ≤ b ∧ b ≤ 2147483647) (hr_c : -2147483648 ≤ c ∧ c ≤ 2147483647) (hr_d : -2147483648 ≤ d ∧ d ≤ 2147483647) (hk : 0 ≤ (σ 13 5) ∧ (σ 13 5) ≤ 8) (hF : FK f 8 r b c d = 0) : Ki l yX5_dye (cw yX5_dye cX5_dye 5 (some .int)) rm_X5_dye E [.ref (ea E 13), .int (iI r), .int (iI b), .int (iI c), .int (iI d)] σ (sI (dyI f r d) b (c + 1)) (st (st (st (st σ 13 (pt (pt (pt (σ 13) 0 0) 5 (min ((σ 13 5) + 1) 8)) 14 (sI (dyI f r d) b (c + 1)))) 14 (mDyL (σ 14) r b d (c + 1))) 15 (cpf (σ 14) (σ 15) 0 0 486)) 17 (hiF (σ 17) (cpf (σ 14) (σ 15) 0 0 486) (σ 13 5))) := by
  refine Ki_of (rm := rm_X5_dye) (mL := 5) (b := cX5_dye) RX5 rfl (by decide +kernel) rfl rfl [(0, .ref (ea E 13)), (1, .int (iI r)), (2, .int (iI b)), (3, .int (iI c)), (4, .int (iI d))] rfl (Nat.le_of_ble_eq_true rfl) (fun p_ e_ s_ m_ a_ b_ h_ c_ Q A C hret => ?_)
  refine g_aload_n C dX5_dye_0 0 rfl rfl (q := 1) rfl ?_
  refine g_cV_v C (As := []) (c_X5_remembers l E _) ml_X5_99 mf_X5_remembers (o := 13) (ci := 5) rfl rfl rfl rfl ⟨(Nat.le_of_ble_eq_true rfl), (Nat.le_of_ble_eq_true rfl)⟩ rfl rfl rfl (Nat.le_of_ble_eq_true rfl) ⟨(Nat.le_of_ble_eq_true rfl), (Nat.le_of_ble_eq_true rfl)⟩ dX5_dye_1 (q := 4) rfl ?_
  refine g_aload_n C dX5_dye_4 0 rfl rfl (q := 5) rfl ?_
  refine g_aload_n C dX5_dye_5 0 rfl rfl (q := 6) rfl ?_
  refine g_iload_n C dX5_dye_6 1 rfl rfl (q := 7) rfl ?_
  refine g_iload_n C dX5_dye_7 2 rfl rfl (q := 8) rfl ?_
  refine g_iload_n C dX5_dye_8 3 rfl rfl (q := 9) rfl ?_
  refine g_iload C dX5_dye_9 4 rfl (q := 11) rfl ?_
  refine g_cV_i C (As := [.int (iI r), .int (iI b), .int (iI c), .int (iI d)]) (c_X5_dyes l E _ r b c d f (by show MS f (σ 14); assumption) (by omega) (by omega) (by omega) (by omega) (by exact hF)) ml_X5_131 mf_X5_dyes (o := 13) (ci := 5) rfl rfl rfl rfl ⟨(Nat.le_of_ble_eq_true rfl), (Nat.le_of_ble_eq_true rfl)⟩ rfl rfl rfl (Nat.le_of_ble_eq_true rfl) ⟨(Nat.le_of_ble_eq_true rfl), (Nat.le_of_ble_eq_true rfl)⟩ dX5_dye_11 (q := 14) rfl ?_
  refine g_st (σ2 := (st (st (st σ 13 (pt (pt (σ 13) 0 0) 14 (sI (dyI f r d) b (c + 1)))) 14 (mDyL (σ 14) r b d (c + 1))) 15 (cpf (σ 14) (σ 15) 0 0 486))) ((congrArg (fun g9 => st g9 14 (mDyL (σ 14) r b d (c + 1))) ((st_cm (st σ 13 (pt (σ 13) 0 0)) (o := 15) (q := 13) (cpf (σ 14) (σ 15) 0 0 486) (pt (pt (σ 13) 0 0) 14 (sI (dyI f r d) b (c + 1))) (by decide)).trans (congrArg (fun g9 => st g9 15 (cpf (σ 14) (σ 15) 0 0 486)) (st_st _ _ _ _)))).trans (st_cm (st σ 13 (pt (pt (σ 13) 0 0) 14 (sI (dyI f r d) b (c + 1)))) (o := 15) (q := 14) (cpf (σ 14) (σ 15) 0 0 486) (mDyL (σ 14) r b d (c + 1)) (by decide))) ?_
  refine g_cV_i C (As := [.int (iI 0)]) (c_X5_ends_0 l E _   (by show 0 ≤ (σ 13 5) ∧ (σ 13 5) ≤ 8; omega)) ml_X5_106 mf_X5_ends (o := 13) (ci := 5) rfl rfl rfl rfl ⟨(Nat.le_of_ble_eq_true rfl), (Nat.le_of_ble_eq_true rfl)⟩ rfl rfl rfl (Nat.le_of_ble_eq_true rfl) ⟨(Nat.le_of_ble_eq_true rfl), (Nat.le_of_ble_eq_true rfl)⟩ dX5_dye_14 (q := 17) rfl ?_
  refine g_top (b := (sI (dyI f r d) b (c + 1))) rfl ?_
  refine g_st (σ2 := (st (st (st (st σ 13 (pt (pt (pt (σ 13) 0 0) 5 (min ((σ 13 5) + 1) 8)) 14 (sI (dyI f r d) b (c + 1)))) 14 (mDyL (σ 14) r b d (c + 1))) 15 (cpf (σ 14) (σ 15) 0 0 486)) 17 (hiF (σ 17) (cpf (σ 14) (σ 15) 0 0 486) (σ 13 5)))) (congrArg (fun g9 => st g9 17 (hiF (σ 17) (cpf (σ 14) (σ 15) 0 0 486) (σ 13 5))) ((congrArg (st (st (st (st σ 13 (pt (pt (σ 13) 0 0) 14 (sI (dyI f r d) b (c + 1)))) 14 (mDyL (σ 14) r b d (c + 1))) 15 (cpf (σ 14) (σ 15) 0 0 486)) 13) (pt_cm (pt (σ 13) 0 0) (k := 14) (j := 5) (sI (dyI f r d) b (c + 1)) (min ((σ 13 5) + 1) 8) (by decide))).trans ((st_cm (st (st σ 13 (pt (pt (σ 13) 0 0) 14 (sI (dyI f r d) b (c + 1)))) 14 (mDyL (σ 14) r b d (c + 1))) (o := 15) (q := 13) (cpf (σ 14) (σ 15) 0 0 486) (pt (pt (pt (σ 13) 0 0) 5 (min ((σ 13 5) + 1) 8)) 14 (sI (dyI f r d) b (c + 1))) (by decide)).trans (congrArg (fun g9 => st g9 15 (cpf (σ 14) (σ 15) 0 0 486)) ((st_cm (st σ 13 (pt (pt (σ 13) 0 0) 14 (sI (dyI f r d) b (c + 1)))) (o := 14) (q := 13) (mDyL (σ 14) r b d (c + 1)) (pt (pt (pt (σ 13) 0 0) 5 (min ((σ 13 5) + 1) 8)) 14 (sI (dyI f r d) b (c + 1))) (by decide)).trans (congrArg (fun g9 => st g9 14 (mDyL (σ 14) r b d (c + 1))) (st_st _ _ _ _))))))) ?_
  exact hret _ _ _ dX5_dye_17 rfl
set_option maxRecDepth 100000 in
set_option maxHeartbeats 4000000 in
theorem c_X5_dye_1 (l : Launch) (E : EV) (σ : SS) (r b c d : Int) (f : Int → Int) (hM : MS f (σ 14)) (hr_r : -2147483648 ≤ r ∧ r ≤ 2147483647) (hr_b : -2147483648 ≤ b ∧ b ≤ 2147483647) (hr_c : -2147483648 ≤ c ∧ c ≤ 2147483647) (hr_d : -2147483648 ≤ d ∧ d ≤ 2147483647) (hF : FK f 8 r b c d = 1) : Ki l yX5_dye (cw yX5_dye cX5_dye 5 (some .int)) rm_X5_dye E [.ref (ea E 13), .int (iI r), .int (iI b), .int (iI c), .int (iI d)] σ 0 (st (st σ 13 (pt (σ 13) 0 1)) 15 (cpf (σ 14) (σ 15) 0 0 486)) := by
  refine Ki_of (rm := rm_X5_dye) (mL := 5) (b := cX5_dye) RX5 rfl (by decide +kernel) rfl rfl [(0, .ref (ea E 13)), (1, .int (iI r)), (2, .int (iI b)), (3, .int (iI c)), (4, .int (iI d))] rfl (Nat.le_of_ble_eq_true rfl) (fun p_ e_ s_ m_ a_ b_ h_ c_ Q A C hret => ?_)
  refine g_aload_n C dX5_dye_0 0 rfl rfl (q := 1) rfl ?_
  refine g_cV_v C (As := []) (c_X5_remembers l E _) ml_X5_99 mf_X5_remembers (o := 13) (ci := 5) rfl rfl rfl rfl ⟨(Nat.le_of_ble_eq_true rfl), (Nat.le_of_ble_eq_true rfl)⟩ rfl rfl rfl (Nat.le_of_ble_eq_true rfl) ⟨(Nat.le_of_ble_eq_true rfl), (Nat.le_of_ble_eq_true rfl)⟩ dX5_dye_1 (q := 4) rfl ?_
  refine g_aload_n C dX5_dye_4 0 rfl rfl (q := 5) rfl ?_
  refine g_aload_n C dX5_dye_5 0 rfl rfl (q := 6) rfl ?_
  refine g_iload_n C dX5_dye_6 1 rfl rfl (q := 7) rfl ?_
  refine g_iload_n C dX5_dye_7 2 rfl rfl (q := 8) rfl ?_
  refine g_iload_n C dX5_dye_8 3 rfl rfl (q := 9) rfl ?_
  refine g_iload C dX5_dye_9 4 rfl (q := 11) rfl ?_
  refine g_cV_i C (As := [.int (iI r), .int (iI b), .int (iI c), .int (iI d)]) (c_X5_dyes_1 l E _ r b c d f (by show MS f (σ 14); assumption) (by omega) (by omega) (by omega) (by omega) (by exact hF)) ml_X5_131 mf_X5_dyes (o := 13) (ci := 5) rfl rfl rfl rfl ⟨(Nat.le_of_ble_eq_true rfl), (Nat.le_of_ble_eq_true rfl)⟩ rfl rfl rfl (Nat.le_of_ble_eq_true rfl) ⟨(Nat.le_of_ble_eq_true rfl), (Nat.le_of_ble_eq_true rfl)⟩ dX5_dye_11 (q := 14) rfl ?_
  refine g_cV_i C (As := [.int (iI 1)]) (c_X5_ends_x l E _ 1  (by omega)) ml_X5_106 mf_X5_ends (o := 13) (ci := 5) rfl rfl rfl rfl ⟨(Nat.le_of_ble_eq_true rfl), (Nat.le_of_ble_eq_true rfl)⟩ rfl rfl rfl (Nat.le_of_ble_eq_true rfl) ⟨(Nat.le_of_ble_eq_true rfl), (Nat.le_of_ble_eq_true rfl)⟩ dX5_dye_14 (q := 17) rfl ?_
  refine g_st (σ2 := (st (st σ 13 (pt (σ 13) 0 1)) 15 (cpf (σ 14) (σ 15) 0 0 486))) ((congrArg (st (st (st σ 13 (pt (σ 13) 0 0)) 15 (cpf (σ 14) (σ 15) 0 0 486)) 13) (pt_pt _ _ _ _)).trans ((st_cm (st σ 13 (pt (σ 13) 0 0)) (o := 15) (q := 13) (cpf (σ 14) (σ 15) 0 0 486) (pt (σ 13) 0 1) (by decide)).trans (congrArg (fun g9 => st g9 15 (cpf (σ 14) (σ 15) 0 0 486)) (st_st _ _ _ _)))) ?_
  exact hret _ _ _ dX5_dye_17 rfl
set_option maxRecDepth 100000 in
set_option maxHeartbeats 4000000 in
theorem c_X5_dye_2 (l : Launch) (E : EV) (σ : SS) (r b c d : Int) (f : Int → Int) (hM : MS f (σ 14)) (hr_r : -2147483648 ≤ r ∧ r ≤ 2147483647) (hr_b : -2147483648 ≤ b ∧ b ≤ 2147483647) (hr_c : -2147483648 ≤ c ∧ c ≤ 2147483647) (hr_d : -2147483648 ≤ d ∧ d ≤ 2147483647) (hF : FK f 8 r b c d = 2) : Ki l yX5_dye (cw yX5_dye cX5_dye 5 (some .int)) rm_X5_dye E [.ref (ea E 13), .int (iI r), .int (iI b), .int (iI c), .int (iI d)] σ 0 (st (st σ 13 (pt (σ 13) 0 2)) 15 (cpf (σ 14) (σ 15) 0 0 486)) := by
  refine Ki_of (rm := rm_X5_dye) (mL := 5) (b := cX5_dye) RX5 rfl (by decide +kernel) rfl rfl [(0, .ref (ea E 13)), (1, .int (iI r)), (2, .int (iI b)), (3, .int (iI c)), (4, .int (iI d))] rfl (Nat.le_of_ble_eq_true rfl) (fun p_ e_ s_ m_ a_ b_ h_ c_ Q A C hret => ?_)
  refine g_aload_n C dX5_dye_0 0 rfl rfl (q := 1) rfl ?_
  refine g_cV_v C (As := []) (c_X5_remembers l E _) ml_X5_99 mf_X5_remembers (o := 13) (ci := 5) rfl rfl rfl rfl ⟨(Nat.le_of_ble_eq_true rfl), (Nat.le_of_ble_eq_true rfl)⟩ rfl rfl rfl (Nat.le_of_ble_eq_true rfl) ⟨(Nat.le_of_ble_eq_true rfl), (Nat.le_of_ble_eq_true rfl)⟩ dX5_dye_1 (q := 4) rfl ?_
  refine g_aload_n C dX5_dye_4 0 rfl rfl (q := 5) rfl ?_
  refine g_aload_n C dX5_dye_5 0 rfl rfl (q := 6) rfl ?_
  refine g_iload_n C dX5_dye_6 1 rfl rfl (q := 7) rfl ?_
  refine g_iload_n C dX5_dye_7 2 rfl rfl (q := 8) rfl ?_
  refine g_iload_n C dX5_dye_8 3 rfl rfl (q := 9) rfl ?_
  refine g_iload C dX5_dye_9 4 rfl (q := 11) rfl ?_
  refine g_cV_i C (As := [.int (iI r), .int (iI b), .int (iI c), .int (iI d)]) (c_X5_dyes_2 l E _ r b c d f (by show MS f (σ 14); assumption) (by omega) (by omega) (by omega) (by omega) (by exact hF)) ml_X5_131 mf_X5_dyes (o := 13) (ci := 5) rfl rfl rfl rfl ⟨(Nat.le_of_ble_eq_true rfl), (Nat.le_of_ble_eq_true rfl)⟩ rfl rfl rfl (Nat.le_of_ble_eq_true rfl) ⟨(Nat.le_of_ble_eq_true rfl), (Nat.le_of_ble_eq_true rfl)⟩ dX5_dye_11 (q := 14) rfl ?_
  refine g_cV_i C (As := [.int (iI 2)]) (c_X5_ends_x l E _ 2  (by omega)) ml_X5_106 mf_X5_ends (o := 13) (ci := 5) rfl rfl rfl rfl ⟨(Nat.le_of_ble_eq_true rfl), (Nat.le_of_ble_eq_true rfl)⟩ rfl rfl rfl (Nat.le_of_ble_eq_true rfl) ⟨(Nat.le_of_ble_eq_true rfl), (Nat.le_of_ble_eq_true rfl)⟩ dX5_dye_14 (q := 17) rfl ?_
  refine g_st (σ2 := (st (st σ 13 (pt (σ 13) 0 2)) 15 (cpf (σ 14) (σ 15) 0 0 486))) ((congrArg (st (st (st σ 13 (pt (σ 13) 0 0)) 15 (cpf (σ 14) (σ 15) 0 0 486)) 13) (pt_pt _ _ _ _)).trans ((st_cm (st σ 13 (pt (σ 13) 0 0)) (o := 15) (q := 13) (cpf (σ 14) (σ 15) 0 0 486) (pt (σ 13) 0 2) (by decide)).trans (congrArg (fun g9 => st g9 15 (cpf (σ 14) (σ 15) 0 0 486)) (st_st _ _ _ _)))) ?_
  exact hret _ _ _ dX5_dye_17 rfl
