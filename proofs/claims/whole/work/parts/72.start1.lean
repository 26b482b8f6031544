/-! what stands at the law's entry: the strings, the tables' words, the classes -/
abbrev gv : Cond := Jvm.Cond.and given_1 narrow_1
abbrev fl9 : List Cond := flatC gv
abbrev sO (i : Nat) : String := (sT.getD i ("", 0, "", 0)).1
abbrev sK9 (i : Nat) : Nat := (sT.getD i ("", 0, "", 0)).2.1
abbrev tm9 (i : Nat) : Term := .string (sO i) (sK9 i)
def W9 (i : Nat) : List Cond := [.exactly (tm9 i) "java/lang/String", .eq (.field (tm9 i) "java/lang/String" "coder" "B") (.int 0), .arrayOf (.field (tm9 i) "java/lang/String" "value" "[B") .byte, .eq (.length (.field (tm9 i) "java/lang/String" "value" "[B")) (.int (Int32.ofNat (sL.getD i 0)))] ++ (List.range (sL.getD i 0)).map (fun j => .eq (.elem (.field (tm9 i) "java/lang/String" "value" "[B") (.int (Int32.ofNat j))) (.int ((sB.getD i []).getD j 0)))
set_option maxRecDepth 100000 in
theorem fl_all : fl9.drop 65 = (List.range 38).flatMap (fun i => W9 i ++ (if i = 36 then [Cond.eq (tm9 15) (tm9 36)] else [])) := by decide +kernel
theorem W9_in {i : Nat} (hi : i < sN) {w : Cond} (hw : w ∈ W9 i) : w ∈ fl9 := List.mem_of_mem_drop (i := 65) (by rw [fl_all]; exact List.mem_flatMap.mpr ⟨i, List.mem_range.mpr hi, List.mem_append_left _ hw⟩)
theorem sL_31 : ∀ i, i < sN → sL.getD i 0 < 2 ^ 31 := by decide +kernel
theorem str_one {args : Array Value} {s : State} {A : Nat → Prop} (hs : ∀ w ∈ fl9, w.before args s = true) (hA : ∀ a : Nat, a < s.heap.size → ¬ A a) {i : Nat} (hi : i < sN) : ∃ q : Nat × Nat, (va_O "java/lang/String" q.1 A s s.heap ∧ va_OF "java/lang/String" "coder" "B" (.int 0) q.1 A s s.heap ∧ va_OF "java/lang/String" "value" "[B" (.ref q.2) q.1 A s s.heap ∧ va_T .byte q.2 (sL.getD i 0) (fun j => .int ((sB.getD i []).getD j 0)) A s s.heap) ∧ (tm9 i).eval args s none [] s = some (.ref q.1) := by
  have hw : ∀ w ∈ W9 i, w.before args s = true := fun w h => hs w (W9_in hi h)
  obtain ⟨adK, adV, h1, h2⟩ := vk_Sof (args := args) (s := s) (N := 1) (tm := fun _ => tm9 i) (len := [sL.getD i 0]) (byt := [sB.getD i []]) (A := A)
    (fun j hj => by obtain rfl : j = 0 := by omega
                    exact sL_31 i hi)
    (fun j _ => hw _ (List.mem_append_left _ (List.mem_of_getElem? (i := 0) rfl)))
    (fun j _ => hw _ (List.mem_append_left _ (List.mem_of_getElem? (i := 1) rfl)))
    (fun j _ => hw _ (List.mem_append_left _ (List.mem_of_getElem? (i := 2) rfl)))
    (fun j hj => by obtain rfl : j = 0 := by omega
                    exact hw _ (List.mem_append_left _ (List.mem_of_getElem? (i := 3) rfl)))
    (fun j hj z hz => by obtain rfl : j = 0 := by omega
                         exact hw _ (List.mem_append_right _ (List.mem_map.mpr ⟨z, List.mem_range.mpr hz, rfl⟩)))
    (fun a b ha hb hab => absurd hab (by omega)) hA
  exact ⟨(adK 0, adV 0), h1.1 0 (by omega), h2 0 (by omega)⟩
theorem sT_ok : ∀ q ∈ sT, q.2.2.2 < sN ∧ sO q.2.2.2 = q.1 ∧ sK9 q.2.2.2 = q.2.1 := by decide +kernel
set_option maxRecDepth 100000 in
theorem sT_tab : ∀ q ∈ sT, Cond.stringRef q.1 q.2.1 q.2.2.1 ∈ tables_1 := by decide +kernel
set_option maxRecDepth 100000 in
theorem vxw_tab : ∀ w ∈ vxw, w ∈ tables_1 := by decide +kernel
set_option maxRecDepth 100000 in
theorem ncs_fl : ∀ q ∈ ncs, Cond.not (.castable q.1 q.2) ∈ fl9 := by decide +kernel
theorem tab_lw {w : Cond} (h : w ∈ tables_1) : w ∈ lw_tbl := List.mem_append_right _ h
theorem WA_lw {w : Cond} (h : w ∈ WA) : w ∈ lw_tbl := (List.mem_filter.mp h).1
theorem ls_us : Cond.laysStatic "java/lang/Throwable" "UNASSIGNED_STACK" "[Ljava/lang/StackTraceElement;" ∈ tables_1 := (List.mem_append_left _ (List.mem_of_getElem? (l := tables_1_1) (i := 237) (by decide +kernel)))
theorem li_us : Cond.initialized "java/lang/Throwable" ∈ tables_1 := (List.mem_append_left _ (List.mem_of_getElem? (l := tables_1_1) (i := 7) (by decide +kernel)))
set_option maxRecDepth 100000 in
theorem lf_us : Cond.isRef (.static "java/lang/Throwable" "UNASSIGNED_STACK" "[Ljava/lang/StackTraceElement;") ∈ fl9 := by decide +kernel
theorem ls_ss : Cond.laysStatic "java/lang/Throwable" "SUPPRESSED_SENTINEL" "Ljava/util/List;" ∈ tables_1 := (List.mem_append_left _ (List.mem_of_getElem? (l := tables_1_1) (i := 239) (by decide +kernel)))
theorem li_ss : Cond.initialized "java/lang/Throwable" ∈ tables_1 := (List.mem_append_left _ (List.mem_of_getElem? (l := tables_1_1) (i := 7) (by decide +kernel)))
set_option maxRecDepth 100000 in
theorem lf_ss : Cond.isRef (.static "java/lang/Throwable" "SUPPRESSED_SENTINEL" "Ljava/util/List;") ∈ fl9 := by decide +kernel
theorem ls_cs : Cond.laysStatic "java/lang/String" "COMPACT_STRINGS" "Z" ∈ tables_1 := (List.mem_append_right _ (List.mem_append_right _ (List.mem_append_right _ (List.mem_append_left _ (List.mem_of_getElem? (l := tables_1_4) (i := 113) (by decide +kernel))))))
theorem li_cs : Cond.initialized "java/lang/String" ∈ tables_1 := (List.mem_append_left _ (List.mem_of_getElem? (l := tables_1_1) (i := 12) (by decide +kernel)))
set_option maxRecDepth 100000 in
theorem lf_cs : Cond.eq (.static "java/lang/String" "COMPACT_STRINGS" "Z") (.int 1) ∈ fl9 := by decide +kernel
theorem ls_sf : Cond.laysStatic "jdk/internal/util/Preconditions" "SIOOBE_FORMATTER" "Ljava/util/function/BiFunction;" ∈ tables_1 := (List.mem_append_right _ (List.mem_append_right _ (List.mem_append_right _ (List.mem_append_left _ (List.mem_of_getElem? (l := tables_1_4) (i := 129) (by decide +kernel))))))
theorem li_sf : Cond.initialized "jdk/internal/util/Preconditions" ∈ tables_1 := (List.mem_append_left _ (List.mem_of_getElem? (l := tables_1_1) (i := 19) (by decide +kernel)))
set_option maxRecDepth 100000 in
theorem lf_sf : Cond.isRef (.static "jdk/internal/util/Preconditions" "SIOOBE_FORMATTER" "Ljava/util/function/BiFunction;") ∈ fl9 := by decide +kernel
/-- the world's numbers, chosen; the cells of strings, chosen -/
theorem start_env {args : Array Value} {s : State} {A : Nat → Prop} (hts : ∀ w ∈ lw_tbl, w.before args s = true) (hgv : gv.before args s = true) (hA : ∀ a : Nat, a < s.heap.size → ¬ A a) :
    ∃ (ekf evf : Nat → Nat), ∀ (D : va_G) (ad : Nat → Nat) (cd : Nat → ClassId), va_K D gcl (tys (D, ad, cd, ekf, evf)) s → EK (D, ad, cd, ekf, evf) s ∧ EH (D, ad, cd, ekf, evf) A s s.heap := by
  have hs := flat_of_before gv hgv
  have h0 : ∀ i : Nat, ∃ q : Nat × Nat, i < sN → (va_O "java/lang/String" q.1 A s s.heap ∧ va_OF "java/lang/String" "coder" "B" (.int 0) q.1 A s s.heap ∧ va_OF "java/lang/String" "value" "[B" (.ref q.2) q.1 A s s.heap ∧ va_T .byte q.2 (sL.getD i 0) (fun j => .int ((sB.getD i []).getD j 0)) A s s.heap) ∧ (tm9 i).eval args s none [] s = some (.ref q.1) := by
    intro i
    by_cases hi : i < sN
    · obtain ⟨q, hq⟩ := str_one hs hA hi
      exact ⟨q, fun _ => hq⟩
    · exact ⟨(0, 0), fun h => absurd h hi⟩
  obtain ⟨ad9, had⟩ := Classical.axiomOfChoice h0
  refine ⟨fun i => (ad9 i).1, fun i => (ad9 i).2, fun D ad cd hK => ⟨⟨hK, fun w hw hn => va_Nw.of (isNest_tab hn) (hts w (tab_lw hw)), fun q hq => ?_, fun w hw => va_Nw.of (isDC_tab (vxw_DC w hw)) (hts w (tab_lw (vxw_tab w hw))), fun q hq => va_Nc.of (hs _ (ncs_fl q hq))⟩, ?_⟩⟩
  · obtain ⟨h1, h2, h3⟩ := sT_ok q hq
    refine vk_R.of (hts _ (tab_lw (sT_tab q hq))) ?_
    rw [← h2, ← h3]
    exact (had q.2.2.2 h1).2
  · exact ⟨vx_Zqof (hts _ (tab_lw ls_us)) (hts _ (tab_lw li_us)) (hs _ lf_us) hA, vx_Zqof (hts _ (tab_lw ls_ss)) (hts _ (tab_lw li_ss)) (hs _ lf_ss) hA, fun i hi => (had i hi).1, va_Zof (hts _ (tab_lw ls_cs)) (hts _ (tab_lw li_cs)) (va_eqi (hs _ lf_cs)) hA, va_Zqof (hts _ (tab_lw ls_sf)) (hts _ (tab_lw li_sf)) (hs _ lf_sf) hA⟩
theorem start_D {args : Array Value} {s : State} (hts : ∀ w ∈ WA, w.before args s = true) : ∃ D : va_G, va_K D gcl [] s := by
  obtain ⟨dX0, iX0, hX0⟩ := u_known hts uw_X0 (hts _ in_X0)
  obtain ⟨dX1, iX1, hX1⟩ := u_known hts uw_X1 (hts _ in_X1)
  obtain ⟨dX2, iX2, hX2⟩ := u_known hts uw_X2 (hts _ in_X2)
  obtain ⟨dX3, iX3, hX3⟩ := u_known hts uw_X3 (hts _ in_X3)
  obtain ⟨dX4, iX4, hX4⟩ := u_known hts uw_X4 (hts _ in_X4)
  obtain ⟨dX5, iX5, hX5⟩ := u_known hts uw_X5 (hts _ in_X5)
  refine ⟨(fun c => match c with | 0 => dX0 | 1 => dX1 | 2 => dX2 | 3 => dX3 | 4 => dX4 | _ => dX5, fun c => match c with | 0 => iX0 | 1 => iX1 | 2 => iX2 | 3 => iX3 | 4 => iX4 | _ => iX5), fun c q hq => ?_, fun k q hk => by cases hk⟩
  rcases (show c = 0 ∨ c = 1 ∨ c = 2 ∨ c = 3 ∨ c = 4 ∨ c = 5 ∨ 6 ≤ c by omega) with rfl | rfl | rfl | rfl | rfl | rfl | h9
  · cases hq; exact hX0
  · cases hq; exact hX1
  · cases hq; exact hX2
  · cases hq; exact hX3
  · cases hq; exact hX4
  · cases hq; exact hX5
  · rw [List.getElem?_eq_none (by show 6 ≤ c; exact h9)] at hq; cases hq
