set_option maxRecDepth 100000 in
set_option maxHeartbeats 4000000 in
/-- the law's loop, from its head, with i ints behind it -/
theorem law_loop {p : Program} {l : Launch} {e : Env} {s : State} {m : MethodId} {args : Array Value} {below : List Frame} {meth : Method} {c : Code} {E : EV} {A : Nat → Prop} {Q : State → Prop} {bS N : Nat} {xs : Nat → Int32} (hst : l.stackTraces = false) (C : CX p l e room_1 s m args below meth c RL cL_law 9 E A (some .boolean)) (hX : SX bS N xs s A)
    (hend : ∀ (σ : SS) (k n : Nat) (L : List (Nat × Value)), k ≤ 3108 → n ≤ 128601 → GG p l e room_1 s m args below meth c Q E A 9 σ k n 2919 L [.int (iI 1)]) : ∀ (z : Nat) (i : Int) (σ : SS) (k n : Nat), ((N : Int) - i).toNat < z → 0 ≤ i → i ≤ N → 5 * (k : Int) ≤ 500 + i → 5 * (n : Int) ≤ 500000 + 6 * i → INV σ → GG p l e room_1 s m args below meth c Q E A 9 σ k n 28 [(0, .ref bS), (1, .ref (ea E 0)), (2, .ref (ea E 13)), (3, .ref (ea E 21)), (4, .ref (ea E 22)), (5, .int (iI i))] [] := by
  intro z
  induction z with
  | zero => intro i σ k n hz; omega
  | succ z ih =>
    intro i σ k n hz hi0 hiN hk hn hI
    have hN9 := hX.2.2.2
    refine g_iload C dL_law_28 5 rfl (q := 30) rfl ?_
    refine g_aload_n C dL_law_30 0 rfl rfl (q := 31) rfl ?_
    refine g_scrN C hX dL_law_31 (q := 32) rfl ?_
    refine g_iconst C dL_law_32 (q := 33) rfl ?_
    refine g_isub C dL_law_33 (q := 34) rfl ?_
    refine g_icmp_gt C dL_law_34 (by omega) (q2 := 2918) rfl (q := 37) rfl (fun hb => ?_) (fun hb => ?_)
    · refine g_iconst C dL_law_2918 (q := 2919) rfl ?_
      exact hend σ k n _ (by omega) (by omega)
    refine g_aload_n C dL_law_37 0 rfl rfl (q := 38) rfl ?_
    refine g_iload C dL_law_38 5 rfl (q := 40) rfl ?_
    refine g_scr C hX (j := i) (by omega) dL_law_40 (q := 41) rfl ?_
    refine g_bipush C dL_law_41 (by decide) (q := 43) rfl ?_
    refine g_iand63 C dL_law_43 (q := 44) rfl ?_
    have hkn : k + 1 ≤ room_1.cells ∧ n + 6 ≤ room_1.slots := ⟨by show k + 1 ≤ 3108; omega, by show n + 6 ≤ 128601; omega⟩
    have K : ∀ σ2 : SS, INV σ2 → GG p l e room_1 s m args below meth c Q E A 9 σ2 (k + 1) (n + 6) 2912 [(0, .ref bS), (1, .ref (ea E 0)), (2, .ref (ea E 13)), (3, .ref (ea E 21)), (4, .ref (ea E 22)), (5, .int (iI i))] [] := by
      intro σ2 hI2
      refine g_iinc C (L' := [(5, .int (iI (i + 5))), (0, .ref bS), (1, .ref (ea E 0)), (2, .ref (ea E 13)), (3, .ref (ea E 21)), (4, .ref (ea E 22))]) dL_law_2912 5 rfl (by decide) rfl (q := 2915) rfl ?_
      refine g_goto C dL_law_2915 (q := 28) rfl ?_
      refine g_sub [1, 2, 3, 4, 5, 0] (L' := [(0, .ref bS), (1, .ref (ea E 0)), (2, .ref (ea E 13)), (3, .ref (ea E 21)), (4, .ref (ea E 22)), (5, .int (iI (i + 5)))]) rfl ?_
      exact ih (i + 5) σ2 (k + 1) (n + 6) (by omega) (by omega) (by omega) (by omega) (by omega) hI2
    have hi : 0 ≤ i ∧ i + 5 ≤ N := by omega
    have hv : 0 ≤ scr xs i % 64 ∧ scr xs i % 64 < 64 := by omega
    generalize scr xs i % 64 = v at hv ⊢
    rcases (show v = 0 ∨ v = 1 ∨ v = 2 ∨ v = 3 ∨ v = 4 ∨ v = 5 ∨ v = 6 ∨ v = 7 ∨ v = 8 ∨ v = 9 ∨ v = 10 ∨ v = 11 ∨ v = 12 ∨ v = 13 ∨ v = 14 ∨ v = 15 ∨ v = 16 ∨ v = 17 ∨ v = 18 ∨ v = 19 ∨ v = 20 ∨ v = 21 ∨ v = 22 ∨ v = 23 ∨ v = 24 ∨ v = 25 ∨ v = 26 ∨ v = 27 ∨ v = 28 ∨ v = 29 ∨ v = 30 ∨ v = 31 ∨ v = 32 ∨ v = 33 ∨ v = 34 ∨ v = 35 ∨ v = 36 ∨ v = 37 ∨ v = 38 ∨ v = 39 ∨ v = 40 ∨ v = 41 ∨ v = 42 ∨ v = 43 ∨ (v < 0 ∨ 43 < v) by omega) with rfl | rfl | rfl | rfl | rfl | rfl | rfl | rfl | rfl | rfl | rfl | rfl | rfl | rfl | rfl | rfl | rfl | rfl | rfl | rfl | rfl | rfl | rfl | rfl | rfl | rfl | rfl | rfl | rfl | rfl | rfl | rfl | rfl | rfl | rfl | rfl | rfl | rfl | rfl | rfl | rfl | rfl | rfl | rfl | hv2
    · refine g_tabI C dL_law_44 (by omega) (by decide) (by decide) (off := 192) rfl (q := 236) rfl ?_
      exact lc_0 hst C hX hkn i hi hI K
    · refine g_tabI C dL_law_44 (by omega) (by decide) (by decide) (off := 272) rfl (q := 316) rfl ?_
      exact lc_1 hst C hX hkn i hi hI K
    · refine g_tabI C dL_law_44 (by omega) (by decide) (by decide) (off := 364) rfl (q := 408) rfl ?_
      exact lc_2 hst C hX hkn i hi hI K
    · refine g_tabI C dL_law_44 (by omega) (by decide) (by decide) (off := 432) rfl (q := 476) rfl ?_
      exact lc_3 hst C hX hkn i hi hI K
    · refine g_tabI C dL_law_44 (by omega) (by decide) (by decide) (off := 512) rfl (q := 556) rfl ?_
      exact lc_4 hst C hX hkn i hi hI K
    · refine g_tabI C dL_law_44 (by omega) (by decide) (by decide) (off := 568) rfl (q := 612) rfl ?_
      exact lc_5 hst C hX hkn i hi hI K
    · refine g_tabI C dL_law_44 (by omega) (by decide) (by decide) (off := 636) rfl (q := 680) rfl ?_
      exact lc_6 hst C hX hkn i hi hI K
    · refine g_tabI C dL_law_44 (by omega) (by decide) (by decide) (off := 704) rfl (q := 748) rfl ?_
      exact lc_7 hst C hX hkn i hi hI K
    · refine g_tabI C dL_law_44 (by omega) (by decide) (by decide) (off := 784) rfl (q := 828) rfl ?_
      exact lc_8 hst C hX hkn i hi hI K
    · refine g_tabI C dL_law_44 (by omega) (by decide) (by decide) (off := 852) rfl (q := 896) rfl ?_
      exact lc_9 hst C hX hkn i hi hI K
    · refine g_tabI C dL_law_44 (by omega) (by decide) (by decide) (off := 920) rfl (q := 964) rfl ?_
      exact lc_10 hst C hX hkn i hi hI K
    · refine g_tabI C dL_law_44 (by omega) (by decide) (by decide) (off := 1000) rfl (q := 1044) rfl ?_
      exact lc_11 hst C hX hkn i hi hI K
    · refine g_tabI C dL_law_44 (by omega) (by decide) (by decide) (off := 1092) rfl (q := 1136) rfl ?_
      exact lc_12 hst C hX hkn i hi hI K
    · refine g_tabI C dL_law_44 (by omega) (by decide) (by decide) (off := 1148) rfl (q := 1192) rfl ?_
      exact lc_13 hst C hX hkn i hi hI K
    · refine g_tabI C dL_law_44 (by omega) (by decide) (by decide) (off := 1216) rfl (q := 1260) rfl ?_
      exact lc_14 hst C hX hkn i hi hI K
    · refine g_tabI C dL_law_44 (by omega) (by decide) (by decide) (off := 1284) rfl (q := 1328) rfl ?_
      exact lc_15 hst C hX hkn i hi hI K
    · refine g_tabI C dL_law_44 (by omega) (by decide) (by decide) (off := 1352) rfl (q := 1396) rfl ?_
      exact lc_16 hst C hX hkn i hi hI K
    · refine g_tabI C dL_law_44 (by omega) (by decide) (by decide) (off := 1432) rfl (q := 1476) rfl ?_
      exact lc_17 hst C hX hkn i hi hI K
    · refine g_tabI C dL_law_44 (by omega) (by decide) (by decide) (off := 1512) rfl (q := 1556) rfl ?_
      exact lc_18 hst C hX hkn i hi hI K
    · refine g_tabI C dL_law_44 (by omega) (by decide) (by decide) (off := 1580) rfl (q := 1624) rfl ?_
      exact lc_19 hst C hX hkn i hi hI K
    · refine g_tabI C dL_law_44 (by omega) (by decide) (by decide) (off := 1594) rfl (q := 1638) rfl ?_
      exact lc_20 hst C hX hkn i hi hI K
    · refine g_tabI C dL_law_44 (by omega) (by decide) (by decide) (off := 1650) rfl (q := 1694) rfl ?_
      exact lc_21 hst C hX hkn i hi hI K
    · refine g_tabI C dL_law_44 (by omega) (by decide) (by decide) (off := 1706) rfl (q := 1750) rfl ?_
      exact lc_22 hst C hX hkn i hi hI K
    · refine g_tabI C dL_law_44 (by omega) (by decide) (by decide) (off := 1781) rfl (q := 1825) rfl ?_
      exact lc_23 hst C hX hkn i hi hI K
    · refine g_tabI C dL_law_44 (by omega) (by decide) (by decide) (off := 1837) rfl (q := 1881) rfl ?_
      exact lc_24 hst C hX hkn i hi hI K
    · refine g_tabI C dL_law_44 (by omega) (by decide) (by decide) (off := 1917) rfl (q := 1961) rfl ?_
      exact lc_25 hst C hX hkn i hi hI K
    · refine g_tabI C dL_law_44 (by omega) (by decide) (by decide) (off := 1985) rfl (q := 2029) rfl ?_
      exact lc_26 hst C hX hkn i hi hI K
    · refine g_tabI C dL_law_44 (by omega) (by decide) (by decide) (off := 2053) rfl (q := 2097) rfl ?_
      exact lc_27 hst C hX hkn i hi hI K
    · refine g_tabI C dL_law_44 (by omega) (by decide) (by decide) (off := 2116) rfl (q := 2160) rfl ?_
      exact lc_28 hst C hX hkn i hi hI K
    · refine g_tabI C dL_law_44 (by omega) (by decide) (by decide) (off := 2184) rfl (q := 2228) rfl ?_
      exact lc_29 hst C hX hkn i hi hI K
    · refine g_tabI C dL_law_44 (by omega) (by decide) (by decide) (off := 2259) rfl (q := 2303) rfl ?_
      exact lc_30 hst C hX hkn i hi hI K
    · refine g_tabI C dL_law_44 (by omega) (by decide) (by decide) (off := 2272) rfl (q := 2316) rfl ?_
      exact lc_31 hst C hX hkn i hi hI K
    · refine g_tabI C dL_law_44 (by omega) (by decide) (by decide) (off := 2285) rfl (q := 2329) rfl ?_
      exact lc_32 hst C hX hkn i hi hI K
    · refine g_tabI C dL_law_44 (by omega) (by decide) (by decide) (off := 2343) rfl (q := 2387) rfl ?_
      exact lc_33 hst C hX hkn i hi hI K
    · refine g_tabI C dL_law_44 (by omega) (by decide) (by decide) (off := 2387) rfl (q := 2431) rfl ?_
      exact lc_34 hst C hX hkn i hi hI K
    · refine g_tabI C dL_law_44 (by omega) (by decide) (by decide) (off := 2431) rfl (q := 2475) rfl ?_
      exact lc_35 hst C hX hkn i hi hI K
    · refine g_tabI C dL_law_44 (by omega) (by decide) (by decide) (off := 2475) rfl (q := 2519) rfl ?_
      exact lc_36 hst C hX hkn i hi hI K
    · refine g_tabI C dL_law_44 (by omega) (by decide) (by decide) (off := 2531) rfl (q := 2575) rfl ?_
      exact lc_37 hst C hX hkn i hi hI K
    · refine g_tabI C dL_law_44 (by omega) (by decide) (by decide) (off := 2587) rfl (q := 2631) rfl ?_
      exact lc_38 hst C hX hkn i hi hI K
    · refine g_tabI C dL_law_44 (by omega) (by decide) (by decide) (off := 2664) rfl (q := 2708) rfl ?_
      exact lc_39 hst C hX hkn i hi hI K
    · refine g_tabI C dL_law_44 (by omega) (by decide) (by decide) (off := 2754) rfl (q := 2798) rfl ?_
      exact lc_40 hst C hX hkn i hi hI K
    · refine g_tabI C dL_law_44 (by omega) (by decide) (by decide) (off := 2767) rfl (q := 2811) rfl ?_
      exact lc_41 hst C hX hkn i hi hI K
    · refine g_tabI C dL_law_44 (by omega) (by decide) (by decide) (off := 2811) rfl (q := 2855) rfl ?_
      exact lc_42 hst C hX hkn i hi hI K
    · refine g_tabI C dL_law_44 (by omega) (by decide) (by decide) (off := 2824) rfl (q := 2868) rfl ?_
      exact lc_43 hst C hX hkn i hi hI K
    · refine g_tabO C dL_law_44 (by omega) hv2 (q := 2912) rfl ?_
      exact g_wide (Nat.le_succ k) (Nat.le_add_right n 6) (K σ hI)
