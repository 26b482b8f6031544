/-! what stands at the law's entry: the strings, the tables' words, the classes -/
abbrev gv : Cond := Jvm.Cond.and given_1 narrow_1
abbrev fl9 : List Cond := flatC gv
abbrev sO (i : Nat) : String := (sT.getD i ("", 0, "", 0)).1
abbrev sK9 (i : Nat) : Nat := (sT.getD i ("", 0, "", 0)).2.1
abbrev tm9 (i : Nat) : Term := .string (sO i) (sK9 i)
def W9 (i : Nat) : List Cond := [.exactly (tm9 i) "java/lang/String", .eq (.field (tm9 i) "java/lang/String" "coder" "B") (.int 0), .arrayOf (.field (tm9 i) "java/lang/String" "value" "[B") .byte, .eq (.length (.field (tm9 i) "java/lang/String" "value" "[B")) (.int (Int32.ofNat (sL.getD i 0)))] ++ (List.range (sL.getD i 0)).map (fun j => .eq (.elem (.field (tm9 i) "java/lang/String" "value" "[B") (.int (Int32.ofNat j))) (.int ((sB.getD i []).getD j 0)))
set_option maxRecDepth 100000 in
theorem fl_all : (fl9.drop 276).take 579 = (List.range 32).flatMap W9 := by decide +kernel
theorem W9_in {i : Nat} (hi : i < sN) {w : Cond} (hw : w ∈ W9 i) : w ∈ fl9 := List.mem_of_mem_drop (i := 276) (List.mem_of_mem_take (i := 579) (by rw [fl_all]; exact List.mem_flatMap.mpr ⟨i, List.mem_range.mpr hi, hw⟩))
theorem sL_31 : ∀ i, i < sN → sL.getD i 0 < 2 ^ 31 := by decide +kernel
theorem str_one {args : Array Value} {s : State} {A : Nat → Prop} (hs : ∀ w ∈ fl9, w.before args s = true) (hA : ∀ a : Nat, a < s.heap.size → ¬ A a) {i : Nat} (hi : i < sN) : ∃ q : Nat × Nat, (va_O "java/lang/String" q.1 A s s.heap ∧ va_OF "java/lang/String" "coder" "B" (.int 0) q.1 A s s.heap ∧ va_OF "java/lang/String" "value" "[B" (.ref q.2) q.1 A s s.heap ∧ va_T .byte q.2 (sL.getD i 0) (fun j => .int ((sB.getD i []).getD j 0)) A s s.heap) ∧ (tm9 i).eval args s none [] s = some (.ref q.1) := by
  have hw : ∀ w ∈ W9 i, w.before args s = true := fun w h => hs w (W9_in hi h)
  obtain ⟨adK, adV, h1, h2⟩ := vk_Sof (args := args) (s := s) (N := 1) (tm := fun _ => tm9 i) (len := [sL.getD i 0]) (byt := [sB.getD i []]) (A := A)
    (fun j hj => by obtain rfl : j = 0 := by omega
                    exact sL_31 i hi)
    (fun j _ => hw _ (List.mem_append_left _ (List.mem_of_getElem? (i := 0) rfl)))
    (fun j _ => hw _ (List.mem_append_left _ (List.mem_of_getElem? (i := 1) rfl)))
    (fun j _ => hw _ (List.mem_append_left _ (List.mem_of_getElem? (i := 2) rfl)))
    (fun j hj => by obtain rfl : j = 0 := by omega
                    exact hw _ (List.mem_append_left _ (List.mem_of_getElem? (i := 3) rfl)))
    (fun j hj z hz => by obtain rfl : j = 0 := by omega
                         exact hw _ (List.mem_append_right _ (List.mem_map.mpr ⟨z, List.mem_range.mpr hz, rfl⟩)))
    (fun a b ha hb hab => absurd hab (by omega)) hA
  exact ⟨(adK 0, adV 0), h1.1 0 (by omega), h2 0 (by omega)⟩
theorem sT_ok : ∀ q ∈ sT, q.2.2.2 < sN ∧ sO q.2.2.2 = q.1 ∧ sK9 q.2.2.2 = q.2.1 := by decide +kernel
set_option maxRecDepth 100000 in
theorem sT_tab : ∀ q ∈ sT, Cond.stringRef q.1 q.2.1 q.2.2.1 ∈ tables_1 := by decide +kernel
set_option maxRecDepth 100000 in
theorem vxw_tab : ∀ w ∈ vxw, w ∈ tables_1 := by decide +kernel
set_option maxRecDepth 100000 in
theorem ncs_fl : ∀ q ∈ ncs, Cond.not (.castable q.1 q.2) ∈ fl9 := by decide +kernel
theorem tab_lw {w : Cond} (h : w ∈ tables_1) : w ∈ lw_tbl := List.mem_append_right _ h
theorem WA_hts {args : Array Value} {s : State} (hts : ∀ w ∈ lw_tbl, w.before args s = true) : ∀ w ∈ WA, w.before args s = true := fun w h => by
  rcases List.mem_append.mp (List.mem_filter.mp h).1 with h1 | h1
  · exact hts w (List.mem_append_left _ h1)
  · rcases List.mem_append.mp h1 with h2 | h2
    · exact hts w (tab_lw h2)
    · exact sb_hts (fun w h => hts w (tab_lw h)) w h2
theorem tm_eqi {args : Array Value} {s : State} {tm : Term} {z : Int32} (h : (Cond.eq tm (.int z)).before args s = true) : tm.eval args s none [] s = some (.int z) := by
  cases hv : tm.eval args s none [] s with
  | none => simp [Cond.before, Cond.holds, Cond.value, hv] at h
  | some w =>
    have hz : (Term.int z).eval args s none [] s = some (.int z) := rfl
    simp only [Cond.before, Cond.holds, Cond.value, hv, hz] at h
    cases w <;> simp_all
abbrev tmd (n : String) : Term := .static "java/lang/Integer" n "[B"
set_option maxRecDepth 100000 in
theorem dg1 : ∀ j, j < 100 → fl9[14 + j]? = some (.eq (.elem (tmd "DigitOnes") (.int (Int32.ofNat j))) (.int (iI (48 + dOne j : Nat)))) := by decide +kernel
set_option maxRecDepth 100000 in
theorem dg2 : ∀ j, j < 100 → fl9[117 + j]? = some (.eq (.elem (tmd "DigitTens") (.int (Int32.ofNat j))) (.int (iI (48 + dTen j : Nat)))) := by decide +kernel
set_option maxRecDepth 100000 in
theorem dg1a : fl9[12]? = some (.arrayOf (tmd "DigitOnes") .byte) ∧ fl9[13]? = some (.eq (.length (tmd "DigitOnes")) (.int (Int32.ofNat 100))) := by decide +kernel
set_option maxRecDepth 100000 in
theorem dg2a : fl9[115]? = some (.arrayOf (tmd "DigitTens") .byte) ∧ fl9[116]? = some (.eq (.length (tmd "DigitTens")) (.int (Int32.ofNat 100))) := by decide +kernel
theorem DT_of {args : Array Value} {s : State} {A : Nat → Prop} {n : String} {g : Nat → Nat} {b0 : Nat} (hs : ∀ w ∈ fl9, w.before args s = true) (hl : (Cond.laysStatic "java/lang/Integer" n "[B").before args s = true) (hini : (Cond.initialized "java/lang/Integer").before args s = true) (h1 : ∀ j, j < 100 → fl9[b0 + j]? = some (.eq (.elem (tmd n) (.int (Int32.ofNat j))) (.int (iI (48 + g j : Nat))))) (h2 : (.arrayOf (tmd n) .byte) ∈ fl9) (h3 : (.eq (.length (tmd n)) (.int (Int32.ofNat 100))) ∈ fl9) (hA : ∀ a : Nat, a < s.heap.size → ¬ A a) : DT n g A s s.heap := by
  obtain ⟨t, e1, e2⟩ := va_Tof (tm := tmd n) (ty := .byte) (N := 100) (f := fun j => .int (iI (48 + g j : Nat))) (by decide) (hs _ h2) (tm_eqi (hs _ h3)) (fun j hj => tm_eqi (hs _ (List.mem_of_getElem? (h1 j hj)))) hA
  exact ⟨t, va_Zof hl hini e1 hA, e2⟩
theorem ls_us : Cond.laysStatic "java/lang/Throwable" "UNASSIGNED_STACK" "[Ljava/lang/StackTraceElement;" ∈ tables_1 := (List.mem_append_left _ (List.mem_of_getElem? (l := tables_1_1) (i := 204) (by decide +kernel)))
theorem li_us : Cond.initialized "java/lang/Throwable" ∈ tables_1 := (List.mem_append_left _ (List.mem_of_getElem? (l := tables_1_1) (i := 6) (by decide +kernel)))
set_option maxRecDepth 100000 in
theorem lf_us : Cond.isRef (.static "java/lang/Throwable" "UNASSIGNED_STACK" "[Ljava/lang/StackTraceElement;") ∈ fl9 := by decide +kernel
theorem ls_ss : Cond.laysStatic "java/lang/Throwable" "SUPPRESSED_SENTINEL" "Ljava/util/List;" ∈ tables_1 := (List.mem_append_left _ (List.mem_of_getElem? (l := tables_1_1) (i := 206) (by decide +kernel)))
theorem li_ss : Cond.initialized "java/lang/Throwable" ∈ tables_1 := (List.mem_append_left _ (List.mem_of_getElem? (l := tables_1_1) (i := 6) (by decide +kernel)))
set_option maxRecDepth 100000 in
theorem lf_ss : Cond.isRef (.static "java/lang/Throwable" "SUPPRESSED_SENTINEL" "Ljava/util/List;") ∈ fl9 := by decide +kernel
theorem ls_cs : Cond.laysStatic "java/lang/String" "COMPACT_STRINGS" "Z" ∈ tables_1 := (List.mem_append_right _ (List.mem_append_right _ (List.mem_append_left _ (List.mem_of_getElem? (l := tables_1_3) (i := 88) (by decide +kernel)))))
theorem li_cs : Cond.initialized "java/lang/String" ∈ tables_1 := (List.mem_append_left _ (List.mem_of_getElem? (l := tables_1_1) (i := 11) (by decide +kernel)))
set_option maxRecDepth 100000 in
theorem lf_cs : Cond.eq (.static "java/lang/String" "COMPACT_STRINGS" "Z") (.int 1) ∈ fl9 := by decide +kernel
theorem ls_sf : Cond.laysStatic "jdk/internal/util/Preconditions" "SIOOBE_FORMATTER" "Ljava/util/function/BiFunction;" ∈ tables_1 := (List.mem_append_right _ (List.mem_append_right _ (List.mem_append_left _ (List.mem_of_getElem? (l := tables_1_3) (i := 170) (by decide +kernel)))))
theorem li_sf : Cond.initialized "jdk/internal/util/Preconditions" ∈ tables_1 := (List.mem_append_left _ (List.mem_of_getElem? (l := tables_1_1) (i := 21) (by decide +kernel)))
set_option maxRecDepth 100000 in
theorem lf_sf : Cond.isRef (.static "jdk/internal/util/Preconditions" "SIOOBE_FORMATTER" "Ljava/util/function/BiFunction;") ∈ fl9 := by decide +kernel
theorem ls_d1 : Cond.laysStatic "java/lang/Integer" "DigitOnes" "[B" ∈ tables_1 := (List.mem_append_right _ (List.mem_append_right _ (List.mem_append_right _ (List.mem_append_left _ (List.mem_of_getElem? (l := tables_1_4) (i := 0) (by decide +kernel))))))
theorem li_d1 : Cond.initialized "java/lang/Integer" ∈ tables_1 := (List.mem_append_left _ (List.mem_of_getElem? (l := tables_1_1) (i := 24) (by decide +kernel)))
theorem ls_d2 : Cond.laysStatic "java/lang/Integer" "DigitTens" "[B" ∈ tables_1 := (List.mem_append_right _ (List.mem_append_right _ (List.mem_append_right _ (List.mem_append_left _ (List.mem_of_getElem? (l := tables_1_4) (i := 2) (by decide +kernel))))))
theorem li_d2 : Cond.initialized "java/lang/Integer" ∈ tables_1 := (List.mem_append_left _ (List.mem_of_getElem? (l := tables_1_1) (i := 24) (by decide +kernel)))
/-- the world's numbers, chosen; the cells of strings, chosen -/
theorem start_env {args : Array Value} {s : State} {A : Nat → Prop} {b L : Nat} {xs : Nat → Int32} (hX : va_X b L xs s s.heap) (hbl : b < s.heap.size) (hts : ∀ w ∈ lw_tbl, w.before args s = true) (hgv : gv.before args s = true) (hA : ∀ a : Nat, a < s.heap.size → ¬ A a) :
    ∃ (ekf evf : Nat → Nat), ∀ (D : va_G) (ad : Nat → Nat) (cd : Nat → ClassId), va_K D gcl (tys (D, ad, cd, ekf, evf, (b, L, xs), none)) s → EK (D, ad, cd, ekf, evf, (b, L, xs), none) s ∧ EH (D, ad, cd, ekf, evf, (b, L, xs), none) A s s.heap := by
  have hs := flat_of_before gv hgv
  have h0 : ∀ i : Nat, ∃ q : Nat × Nat, i < sN → (va_O "java/lang/String" q.1 A s s.heap ∧ va_OF "java/lang/String" "coder" "B" (.int 0) q.1 A s s.heap ∧ va_OF "java/lang/String" "value" "[B" (.ref q.2) q.1 A s s.heap ∧ va_T .byte q.2 (sL.getD i 0) (fun j => .int ((sB.getD i []).getD j 0)) A s s.heap) ∧ (tm9 i).eval args s none [] s = some (.ref q.1) := by
    intro i
    by_cases hi : i < sN
    · obtain ⟨q, hq⟩ := str_one hs hA hi
      exact ⟨q, fun _ => hq⟩
    · exact ⟨(0, 0), fun h => absurd h hi⟩
  obtain ⟨ad9, had⟩ := Classical.axiomOfChoice h0
  refine ⟨fun i => (ad9 i).1, fun i => (ad9 i).2, fun D ad cd hK => ⟨⟨hK, fun w hw hn => va_Nw.of (isNest_tab hn) (hts w (tab_lw hw)), fun q hq => ?_, fun w hw => va_Nw.of (isDC_tab (vxw_DC w hw)) (hts w (tab_lw (vxw_tab w hw))), fun q hq => va_Nc.of (hs _ (ncs_fl q hq))⟩, ?_⟩⟩
  · obtain ⟨h1, h2, h3⟩ := sT_ok q hq
    refine vk_R.of (hts _ (tab_lw (sT_tab q hq))) ?_
    rw [← h2, ← h3]
    exact (had q.2.2.2 h1).2
  · exact ⟨vx_Zqof (hts _ (tab_lw ls_us)) (hts _ (tab_lw li_us)) (hs _ lf_us) hA, vx_Zqof (hts _ (tab_lw ls_ss)) (hts _ (tab_lw li_ss)) (hs _ lf_ss) hA, fun i hi => (had i hi).1, va_Zof (hts _ (tab_lw ls_cs)) (hts _ (tab_lw li_cs)) (va_eqi (hs _ lf_cs)) hA, va_Zqof (hts _ (tab_lw ls_sf)) (hts _ (tab_lw li_sf)) (hs _ lf_sf) hA, DT_of hs (hts _ (tab_lw ls_d1)) (hts _ (tab_lw li_d1)) dg1 (List.mem_of_getElem? dg1a.1) (List.mem_of_getElem? dg1a.2) hA, DT_of hs (hts _ (tab_lw ls_d2)) (hts _ (tab_lw li_d2)) dg2 (List.mem_of_getElem? dg2a.1) (List.mem_of_getElem? dg2a.2) hA, ⟨hX, hbl, hA b hbl⟩, fun _ _ _ _ h => by cases h⟩
theorem in_J4 : Cond.instantiable RJ4 4 ∈ WA := WA_in (List.mem_append_right _ (List.mem_append_right _ (List.mem_append_left _ (List.mem_of_getElem? (l := tables_1_3) (i := 79) (by decide +kernel))))) rfl
theorem in_J0 : Cond.instantiable RJ0 4 ∈ WA := WA_in (List.mem_append_right _ (List.mem_append_left _ (List.mem_of_getElem? (l := tables_1_2) (i := 19) (by decide +kernel)))) rfl
theorem start_D {args : Array Value} {s : State} (hts : ∀ w ∈ WA, w.before args s = true) : ∃ D : va_G, va_K D gcl [] s := by
  obtain ⟨dX0, iX0, hX0⟩ := u_known hts uw_X0 (hts _ in_X0)
  obtain ⟨dX1, iX1, hX1⟩ := u_known hts uw_X1 (hts _ in_X1)
  obtain ⟨dX2, iX2, hX2⟩ := u_known hts uw_X2 (hts _ in_X2)
  obtain ⟨dX3, iX3, hX3⟩ := u_known hts uw_X3 (hts _ in_X3)
  obtain ⟨dX4, iX4, hX4⟩ := u_known hts uw_X4 (hts _ in_X4)
  obtain ⟨dJ4, iJ4, hJ4⟩ := u_known hts uw_J4 (hts _ in_J4)
  obtain ⟨dJ0, iJ0, hJ0⟩ := u_known hts uw_J0 (hts _ in_J0)
  refine ⟨(fun c => match c with | 0 => dX0 | 1 => dX1 | 2 => dX2 | 3 => dX3 | 4 => dX4 | 5 => dJ4 | _ => dJ0, fun c => match c with | 0 => iX0 | 1 => iX1 | 2 => iX2 | 3 => iX3 | 4 => iX4 | 5 => iJ4 | _ => iJ0), fun c q hq => ?_, fun k q hk => by cases hk⟩
  rcases (show c = 0 ∨ c = 1 ∨ c = 2 ∨ c = 3 ∨ c = 4 ∨ c = 5 ∨ c = 6 ∨ 7 ≤ c by omega) with rfl | rfl | rfl | rfl | rfl | rfl | rfl | h9
  · cases hq; exact hX0
  · cases hq; exact hX1
  · cases hq; exact hX2
  · cases hq; exact hX3
  · cases hq; exact hX4
  · cases hq; exact hJ4
  · cases hq; exact hJ0
  · rw [List.getElem?_eq_none (by show 7 ≤ c; exact h9)] at hq; cases hq
