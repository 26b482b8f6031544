theorem dJ7_checkLength_df160_0 : decode cJ7_checkLength_df160 0 = .ok (.iload_n 1, 1) := by decide +kernel
theorem dJ7_checkLength_df160_1 : decode cJ7_checkLength_df160 1 = .ok (.iload_n 0, 1) := by decide +kernel
theorem dJ7_checkLength_df160_2 : decode cJ7_checkLength_df160 2 = .ok (.if_icmp .ge 35, 3) := by decide +kernel
theorem dJ7_checkLength_df160_37 : decode cJ7_checkLength_df160 37 = .ok (.return_, 1) := by decide +kernel
theorem b_min {p : Program} {l : Launch} {e : Env} {R : Room} {s : State} {m : MethodId} {args : Array Value} {below : List Frame} {meth : Method} {c : Code} {own : String} {cc : ByteArray} {nL : Nat} {E : EV} {A : Nat → Prop} {Q : State → Prop} {rt : Option FieldType} {tb : List (ClassId × FieldType)} {ws : va_W} {k n pc q idx : Nat} {L : List (Nat × Value)} {sk : List Value} (C : CB p l e R s m args below meth c own cc nL E A rt) {a b : Int} (hl : Cond.methodLink own idx yJ9_min_7cf53 ∈ WA) (h : -2147483648 ≤ a ∧ a ≤ 2147483647 ∧ -2147483648 ≤ b ∧ b ≤ 2147483647) (d : decode cc pc = .ok (.invokestatic idx, 3)) (hf : 1 ≤ R.frames) (hlo : (sk.map fun v => v.category).sum + 13 ≤ R.locals) (hc : k ≤ R.cells ∧ n ≤ R.slots) (hq : pc + 3 = q) (K : GB p l e R s m args below meth c Q E A nL tb ws k n q L (.int (iI (min a b)) :: sk)) : GB p l e R s m args below meth c Q E A nL tb ws k n pc L (.int (iI b) :: .int (iI a) :: sk) := by
  subst hq; intro H locs ls hl2 hK hP hD hS
  refine va_mmin C.exec C.code (C.ml.trans hl2.1.symm) C.hown (C.hts _ hl) (C.hts _ wm_min_s) (C.hts _ wm_math) (C.hts _ wm_min_c) hf hlo hc.1 hc.2 d ?_
  rw [iI_min h]
  exact K H locs ls hl2 hK hP hD hS
theorem b_max {p : Program} {l : Launch} {e : Env} {R : Room} {s : State} {m : MethodId} {args : Array Value} {below : List Frame} {meth : Method} {c : Code} {own : String} {cc : ByteArray} {nL : Nat} {E : EV} {A : Nat → Prop} {Q : State → Prop} {rt : Option FieldType} {tb : List (ClassId × FieldType)} {ws : va_W} {k n pc q idx : Nat} {L : List (Nat × Value)} {sk : List Value} (C : CB p l e R s m args below meth c own cc nL E A rt) {a b : Int} (hl : Cond.methodLink own idx yJ9_max_7cf53 ∈ WA) (h : -2147483648 ≤ a ∧ a ≤ 2147483647 ∧ -2147483648 ≤ b ∧ b ≤ 2147483647) (d : decode cc pc = .ok (.invokestatic idx, 3)) (hf : 1 ≤ R.frames) (hlo : (sk.map fun v => v.category).sum + 13 ≤ R.locals) (hc : k ≤ R.cells ∧ n ≤ R.slots) (hq : pc + 3 = q) (K : GB p l e R s m args below meth c Q E A nL tb ws k n q L (.int (iI (max a b)) :: sk)) : GB p l e R s m args below meth c Q E A nL tb ws k n pc L (.int (iI b) :: .int (iI a) :: sk) := by
  subst hq; intro H locs ls hl2 hK hP hD hS
  refine va_mmax C.exec C.code (C.ml.trans hl2.1.symm) C.hown (C.hts _ hl) (C.hts _ wm_max_s) (C.hts _ wm_math) (C.hts _ wm_max_c) hf hlo hc.1 hc.2 d ?_
  rw [iI_max h]
  exact K H locs ls hl2 hK hP hD hS
abbrev TB : Type := List (ClassId × FieldType)
/-- bytes, and below n characters that the script may hold -/
def BG (g : Int → Int) (n : Int) : Prop := (∀ j, 0 ≤ g j ∧ g j < 128) ∧ ∀ j, 0 ≤ j → j < n → 32 ≤ g j ∧ g j ≤ 126 ∧ g j ≠ 117
theorem BG_cp {g : Int → Int} {n m : Int} (h : n ≤ m) (hb : BG g n) : BG (cpf g (fun _ => 0) 0 0 m) n := by
  refine ⟨fun j => ?_, fun j h0 h1 => ?_⟩
  · show 0 ≤ (if 0 ≤ j ∧ j < 0 + m then g (0 + (j - 0)) else 0) ∧ (if 0 ≤ j ∧ j < 0 + m then g (0 + (j - 0)) else 0) < 128
    split
    · exact hb.1 _
    · omega
  · show 32 ≤ (if 0 ≤ j ∧ j < 0 + m then g (0 + (j - 0)) else 0) ∧ (if 0 ≤ j ∧ j < 0 + m then g (0 + (j - 0)) else 0) ≤ 126 ∧ (if 0 ≤ j ∧ j < 0 + m then g (0 + (j - 0)) else 0) ≠ 117
    rw [if_pos (by omega), show 0 + (j - 0) = j by omega]
    exact hb.2 j h0 h1
theorem BG_st {g fy : Int → Int} {n ny : Int} (hb : BG g n) (hf : ∀ i, 0 ≤ i → i < ny → 0 ≤ fy i ∧ fy i < 128) (hc : ∀ i, 0 ≤ i → i < ny → 32 ≤ fy i ∧ fy i ≤ 126 ∧ fy i ≠ 117) : BG (cpf fy g 0 n ny) (n + ny) := by
  refine ⟨fun j => ?_, fun j h0 h1 => ?_⟩
  · show 0 ≤ (if n ≤ j ∧ j < n + ny then fy (0 + (j - n)) else g j) ∧ (if n ≤ j ∧ j < n + ny then fy (0 + (j - n)) else g j) < 128
    split
    · exact hf _ (by omega) (by omega)
    · exact hb.1 j
  · show 32 ≤ (if n ≤ j ∧ j < n + ny then fy (0 + (j - n)) else g j) ∧ (if n ≤ j ∧ j < n + ny then fy (0 + (j - n)) else g j) ≤ 126 ∧ (if n ≤ j ∧ j < n + ny then fy (0 + (j - n)) else g j) ≠ 117
    split
    · exact hc _ (by omega) (by omega)
    · exact hb.2 j h0 (by omega)
theorem BG_pt {g : Int → Int} {n i z : Int} (hb : ∀ j, 0 ≤ g j ∧ g j < 128) (hz : 48 ≤ z ∧ z ≤ 57) : ∀ j, 0 ≤ pt g i z j ∧ pt g i z j < 128 := by
  intro j
  show 0 ≤ (if j = i then z else g j) ∧ (if j = i then z else g j) < 128
  split
  · omega
  · exact hb j
theorem BG_d1 {g : Int → Int} {n ix z : Int} (hb : BG g n) (hx : ix = n + 1) (hz : 48 ≤ z ∧ z ≤ 57) : BG (pt g (ix + (-1)) z) ix := by
  refine ⟨BG_pt (n := 0) hb.1 hz, fun j h0 h1 => ?_⟩
  by_cases h : j = ix + (-1)
  · rw [h, pt_s]; omega
  · rw [pt_n _ _ h]; exact hb.2 j h0 (by omega)
theorem BG_d2 {g : Int → Int} {n ix y z : Int} (hb : BG g n) (hx : ix = n + 2) (hy : 48 ≤ y ∧ y ≤ 57) (hz : 48 ≤ z ∧ z ≤ 57) : BG (pt (pt g (ix + (-1)) y) (ix + (-1) + (-1)) z) ix := by
  refine ⟨BG_pt (n := 0) (BG_pt (n := 0) hb.1 hy) hz, fun j h0 h1 => ?_⟩
  by_cases h : j = ix + (-1) + (-1)
  · rw [h, pt_s]; omega
  · rw [pt_n _ _ h]
    by_cases h2 : j = ix + (-1)
    · rw [h2, pt_s]; omega
    · rw [pt_n _ _ h2]; exact hb.2 j h0 (by omega)
/-- a builder that holds nn characters -/
abbrev SBR (x : Nat) (nn : Int) (w : va_W) (t : TB) : Prop := ∃ (v : Nat) (cA : ClassId) (m : Nat) (g : Int → Int), w = [(x, .inr (5, [.ref v, .int (iI 0), .int (iI 0), .int (iI nn)])), (v, .inl (cA, m, .inl (af g)))] ∧ t = [(cA, .byte)] ∧ BG g nn ∧ nn ≤ m ∧ m ≤ 130
/-- a string of nn characters, fresh -/
abbrev STR9 (r : Nat) (nn : Int) (w : va_W) (t : TB) : Prop := ∃ (y : Nat) (cB : ClassId) (N : Nat) (h : Int → Int), w = [(r, .inr (6, [.ref y, .int (iI 0), .int (iI 0), .int (iI 0)])), (y, .inl (cB, N, .inl (af h)))] ∧ t = [(cB, .byte)] ∧ (N : Int) = nn ∧ BG h nn
theorem gwU {own : String} {idx : Nat} {z y : MethodName} {b : ByteArray} {mL : Nat} {ret : Option FieldType} (h1 : Cond.methodLink own idx z ∈ WA) (h2 : Cond.sameMethod z.cls RJ5 z.name z.desc ∈ WA) (h3 : Cond.selects RJ4 z y ∈ WA) (h4 : Cond.instanceMethod y ∈ WA) (h5 : Cond.initialized y.cls ∈ WA) (h6 : Cond.code y b mL ret ∈ WA) : GoodIn WB (va_wsU own idx RJ4 RJ5 z y (cw y b mL ret)) := by
  refine WB_ok _ fun w hw => ?_
  rcases List.mem_append.mp hw with h | h
  · simp only [List.mem_cons, List.not_mem_nil, or_false] at h
    rcases h with rfl | rfl | rfl | rfl | rfl
    · exact h1
    · exact h2
    · exact h3
    · exact h4
    · exact h5
  · rcases List.mem_cons.mp h with rfl | h
    · exact h6
    · exact h
theorem gwO {own : String} {idx : Nat} {z y : MethodName} {b : ByteArray} {mL : Nat} {ret : Option FieldType} (h1 : Cond.methodLink own idx z ∈ WA) (h2 : Cond.sameMethod z.cls RJ5 z.name z.desc ∈ WA) (h7 : Cond.instanceMethod ⟨RJ5, z.name, z.desc⟩ ∈ WA) (h3 : Cond.selects RJ4 z y ∈ WA) (h4 : Cond.instanceMethod y ∈ WA) (h5 : Cond.initialized y.cls ∈ WA) (h6 : Cond.code y b mL ret ∈ WA) : GoodIn WB (va_wsO own idx RJ4 RJ5 z y (cw y b mL ret)) := by
  refine WB_ok _ fun w hw => ?_
  rcases List.mem_append.mp hw with h | h
  · simp only [List.mem_cons, List.not_mem_nil, or_false] at h
    rcases h with rfl | rfl | rfl | rfl | rfl | rfl
    · exact h1
    · exact h2
    · exact h7
    · exact h3
    · exact h4
    · exact h5
  · rcases List.mem_cons.mp h with rfl | h
    · exact h6
    · exact h
theorem gwP {own : String} {idx : Nat} {y : MethodName} {b : ByteArray} {mL : Nat} {ret : Option FieldType} (h1 : Cond.methodLink own idx y ∈ WA) (h2 : Cond.sameMethod y.cls y.cls y.name y.desc ∈ WA) (h3 : Cond.superclass own y.cls ∈ WA) (h4 : Cond.instanceMethod y ∈ WA) (h5 : Cond.initialized y.cls ∈ WA) (h6 : Cond.code y b mL ret ∈ WA) : GoodIn WB (va_wsSU own idx y (cw y b mL ret)) := by
  refine WB_ok _ fun w hw => ?_
  rcases List.mem_append.mp hw with h | h
  · simp only [List.mem_cons, List.not_mem_nil, or_false] at h
    rcases h with rfl | rfl | rfl | rfl | rfl
    · exact h1
    · exact h2
    · exact h3
    · exact h4
    · exact h5
  · rcases List.mem_cons.mp h with rfl | h
    · exact h6
    · exact h
theorem mlj_J8_194 : Cond.methodLink RJ8 194 yJ9_max_7cf53 ∈ WA := (WA_in (List.mem_append_right _ (List.mem_append_right _ (List.mem_append_left _ (List.mem_of_getElem? (l := tables_1_3) (i := 132) (by decide +kernel))))) rfl)
theorem lcj_J8_200 : Cond.constant RJ8 200 (iI 2147483639) ∈ WA := (WA_in (List.mem_append_right _ (List.mem_append_right _ (List.mem_append_left _ (List.mem_of_getElem? (l := tables_1_3) (i := 135) (by decide +kernel))))) rfl)
theorem mlj_J5_114 : Cond.methodLink RJ5 114 yJ8_newLength_cabcc ∈ WA := (WA_in (List.mem_append_right _ (List.mem_append_right _ (List.mem_append_left _ (List.mem_of_getElem? (l := tables_1_3) (i := 129) (by decide +kernel))))) rfl)
theorem mfj_J8_newLength_cabcc : mfS yJ8_newLength_cabcc cJ8_newLength_cabcc 4 (some .int) 3 := ⟨(WA_in (List.mem_append_right _ (List.mem_append_right _ (List.mem_append_left _ (List.mem_of_getElem? (l := tables_1_3) (i := 131) (by decide +kernel))))) rfl), WA_in (List.mem_append_right _ (List.mem_append_right _ (List.mem_append_left _ (List.mem_of_getElem? (l := tables_1_3) (i := 130) (by decide +kernel))))) rfl, (WA_in (List.mem_append_left _ (List.mem_of_getElem? (l := tables_1_1) (i := 19) (by decide +kernel))) rfl), by decide +kernel, by decide +kernel, by decide +kernel⟩
theorem lcj_J5_39 : Cond.constant RJ5 39 (iI 2147483647) ∈ WA := (WA_in (List.mem_append_right _ (List.mem_append_right _ (List.mem_append_left _ (List.mem_of_getElem? (l := tables_1_3) (i := 139) (by decide +kernel))))) rfl)
theorem mlj_J7_304 : Cond.methodLink RJ7 304 yJ9_min_7cf53 ∈ WA := (WA_in (List.mem_append_right _ (List.mem_append_right _ (List.mem_append_left _ (List.mem_of_getElem? (l := tables_1_3) (i := 150) (by decide +kernel))))) rfl)
theorem mlj_J7_150 : Cond.methodLink RJ7 150 arraycopyName ∈ WA := (WA_in (List.mem_append_right _ (List.mem_append_right _ (List.mem_append_left _ (List.mem_of_getElem? (l := tables_1_3) (i := 151) (by decide +kernel))))) rfl)
theorem mlj_J5_104 : Cond.methodLink RJ5 104 yJ5_newCapacity_0f7a4 ∈ WA := (WA_in (List.mem_append_right _ (List.mem_append_right _ (List.mem_append_left _ (List.mem_of_getElem? (l := tables_1_3) (i := 125) (by decide +kernel))))) rfl)
theorem gU_J5_104 : GoodIn WB (va_wsU RJ5 104 RJ4 RJ5 yJ5_newCapacity_0f7a4 yJ5_newCapacity_0f7a4 (cw yJ5_newCapacity_0f7a4 cJ5_newCapacity_0f7a4 6 (some .int))) := (gwU mlj_J5_104 (WA_in (List.mem_append_right _ (List.mem_append_right _ (List.mem_append_right _ (List.mem_append_right _ (List.mem_append_right _ (List.mem_of_getElem? (l := tables_1_6) (i := 87) (by decide +kernel))))))) rfl) (sb_in (by unfold sbS; simp)) (WA_in (List.mem_append_right _ (List.mem_append_right _ (List.mem_append_left _ (List.mem_of_getElem? (l := tables_1_3) (i := 127) (by decide +kernel))))) rfl) (WA_in (List.mem_append_left _ (List.mem_of_getElem? (l := tables_1_1) (i := 16) (by decide +kernel))) rfl) (WA_in (List.mem_append_right _ (List.mem_append_right _ (List.mem_append_left _ (List.mem_of_getElem? (l := tables_1_3) (i := 128) (by decide +kernel))))) rfl))
theorem mlj_J5_108 : Cond.methodLink RJ5 108 yJ7_copyOf_9075b ∈ WA := (WA_in (List.mem_append_right _ (List.mem_append_right _ (List.mem_append_left _ (List.mem_of_getElem? (l := tables_1_3) (i := 140) (by decide +kernel))))) rfl)
theorem mfj_J7_copyOf_9075b : mfS yJ7_copyOf_9075b cJ7_copyOf_9075b 3 (some (.array .byte)) 2 := ⟨(WA_in (List.mem_append_right _ (List.mem_append_right _ (List.mem_append_left _ (List.mem_of_getElem? (l := tables_1_3) (i := 142) (by decide +kernel))))) rfl), WA_in (List.mem_append_right _ (List.mem_append_right _ (List.mem_append_left _ (List.mem_of_getElem? (l := tables_1_3) (i := 141) (by decide +kernel))))) rfl, (WA_in (List.mem_append_left _ (List.mem_of_getElem? (l := tables_1_1) (i := 20) (by decide +kernel))) rfl), by decide +kernel, by decide +kernel, by decide +kernel⟩
theorem mlj_J0_335 : Cond.methodLink RJ0 335 yJ0_coder_7d493 ∈ WA := (WA_in (List.mem_append_right _ (List.mem_append_right _ (List.mem_append_left _ (List.mem_of_getElem? (l := tables_1_3) (i := 187) (by decide +kernel))))) rfl)
theorem mfj_J0_coder_7d493 : mfV yJ0_coder_7d493 cJ0_coder_7d493 1 (some .byte) 0 := ⟨(WA_in (List.mem_append_right _ (List.mem_append_right _ (List.mem_append_left _ (List.mem_of_getElem? (l := tables_1_3) (i := 190) (by decide +kernel))))) rfl), WA_in (List.mem_append_right _ (List.mem_append_right _ (List.mem_append_left _ (List.mem_of_getElem? (l := tables_1_3) (i := 188) (by decide +kernel))))) rfl, WA_in (List.mem_append_right _ (List.mem_append_right _ (List.mem_append_left _ (List.mem_of_getElem? (l := tables_1_3) (i := 189) (by decide +kernel))))) rfl, (WA_in (List.mem_append_left _ (List.mem_of_getElem? (l := tables_1_1) (i := 11) (by decide +kernel))) rfl), by decide +kernel, by decide +kernel, by decide +kernel⟩
theorem mlj_J5_40 : Cond.methodLink RJ5 40 yJ0_coder_7d493 ∈ WA := (WA_in (List.mem_append_right _ (List.mem_append_right _ (List.mem_append_left _ (List.mem_of_getElem? (l := tables_1_3) (i := 200) (by decide +kernel))))) rfl)
theorem mlj_J0_212 : Cond.methodLink RJ0 212 arraycopyName ∈ WA := (WA_in (List.mem_append_right _ (List.mem_append_right _ (List.mem_append_left _ (List.mem_of_getElem? (l := tables_1_3) (i := 224) (by decide +kernel))))) rfl)
theorem mlj_J5_397 : Cond.methodLink RJ5 397 yJ5_inflateIfNeededFor_a7421 ∈ WA := (WA_in (List.mem_append_right _ (List.mem_append_right _ (List.mem_append_left _ (List.mem_of_getElem? (l := tables_1_3) (i := 196) (by decide +kernel))))) rfl)
theorem gU_J5_397 : GoodIn WB (va_wsU RJ5 397 RJ4 RJ5 yJ5_inflateIfNeededFor_a7421 yJ5_inflateIfNeededFor_a7421 (cw yJ5_inflateIfNeededFor_a7421 cJ5_inflateIfNeededFor_a7421 2 none)) := (gwU mlj_J5_397 (WA_in (List.mem_append_right _ (List.mem_append_right _ (List.mem_append_right _ (List.mem_append_right _ (List.mem_append_right _ (List.mem_of_getElem? (l := tables_1_6) (i := 89) (by decide +kernel))))))) rfl) (sb_in (by unfold sbS; simp)) (WA_in (List.mem_append_right _ (List.mem_append_right _ (List.mem_append_left _ (List.mem_of_getElem? (l := tables_1_3) (i := 198) (by decide +kernel))))) rfl) (WA_in (List.mem_append_left _ (List.mem_of_getElem? (l := tables_1_1) (i := 16) (by decide +kernel))) rfl) (WA_in (List.mem_append_right _ (List.mem_append_right _ (List.mem_append_left _ (List.mem_of_getElem? (l := tables_1_3) (i := 199) (by decide +kernel))))) rfl))
theorem mlj_J5_399 : Cond.methodLink RJ5 399 yJ0_getBytes_840e7 ∈ WA := (WA_in (List.mem_append_right _ (List.mem_append_right _ (List.mem_append_left _ (List.mem_of_getElem? (l := tables_1_3) (i := 220) (by decide +kernel))))) rfl)
theorem mfj_J0_getBytes_840e7 : mfV yJ0_getBytes_840e7 cJ0_getBytes_840e7 4 none 3 := ⟨(WA_in (List.mem_append_right _ (List.mem_append_right _ (List.mem_append_left _ (List.mem_of_getElem? (l := tables_1_3) (i := 223) (by decide +kernel))))) rfl), WA_in (List.mem_append_right _ (List.mem_append_right _ (List.mem_append_left _ (List.mem_of_getElem? (l := tables_1_3) (i := 221) (by decide +kernel))))) rfl, WA_in (List.mem_append_right _ (List.mem_append_right _ (List.mem_append_left _ (List.mem_of_getElem? (l := tables_1_3) (i := 222) (by decide +kernel))))) rfl, (WA_in (List.mem_append_left _ (List.mem_of_getElem? (l := tables_1_1) (i := 11) (by decide +kernel))) rfl), by decide +kernel, by decide +kernel, by decide +kernel⟩
theorem mlj_J5_32 : Cond.methodLink RJ5 32 yJ0_length_8abf5 ∈ WA := (WA_in (List.mem_append_right _ (List.mem_append_right _ (List.mem_append_left _ (List.mem_of_getElem? (l := tables_1_3) (i := 183) (by decide +kernel))))) rfl)
theorem mfj_J0_length_8abf5 : mfV yJ0_length_8abf5 cJ0_length_8abf5 1 (some .int) 0 := ⟨(WA_in (List.mem_append_right _ (List.mem_append_right _ (List.mem_append_left _ (List.mem_of_getElem? (l := tables_1_3) (i := 186) (by decide +kernel))))) rfl), WA_in (List.mem_append_right _ (List.mem_append_right _ (List.mem_append_left _ (List.mem_of_getElem? (l := tables_1_3) (i := 184) (by decide +kernel))))) rfl, WA_in (List.mem_append_right _ (List.mem_append_right _ (List.mem_append_left _ (List.mem_of_getElem? (l := tables_1_3) (i := 185) (by decide +kernel))))) rfl, (WA_in (List.mem_append_left _ (List.mem_of_getElem? (l := tables_1_1) (i := 11) (by decide +kernel))) rfl), by decide +kernel, by decide +kernel, by decide +kernel⟩
theorem mlj_J5_100 : Cond.methodLink RJ5 100 yJ5_ensureCapacityInternal_d00df ∈ WA := (WA_in (List.mem_append_right _ (List.mem_append_right _ (List.mem_append_left _ (List.mem_of_getElem? (l := tables_1_3) (i := 121) (by decide +kernel))))) rfl)
theorem gU_J5_100 : GoodIn WB (va_wsU RJ5 100 RJ4 RJ5 yJ5_ensureCapacityInternal_d00df yJ5_ensureCapacityInternal_d00df (cw yJ5_ensureCapacityInternal_d00df cJ5_ensureCapacityInternal_d00df 3 none)) := (gwU mlj_J5_100 (WA_in (List.mem_append_right _ (List.mem_append_right _ (List.mem_append_right _ (List.mem_append_right _ (List.mem_append_right _ (List.mem_of_getElem? (l := tables_1_6) (i := 86) (by decide +kernel))))))) rfl) (sb_in (by unfold sbS; simp)) (WA_in (List.mem_append_right _ (List.mem_append_right _ (List.mem_append_left _ (List.mem_of_getElem? (l := tables_1_3) (i := 123) (by decide +kernel))))) rfl) (WA_in (List.mem_append_left _ (List.mem_of_getElem? (l := tables_1_1) (i := 16) (by decide +kernel))) rfl) (WA_in (List.mem_append_right _ (List.mem_append_right _ (List.mem_append_left _ (List.mem_of_getElem? (l := tables_1_3) (i := 124) (by decide +kernel))))) rfl))
theorem mlj_J5_208 : Cond.methodLink RJ5 208 yJ5_putStringAt_47b60 ∈ WA := (WA_in (List.mem_append_right _ (List.mem_append_right _ (List.mem_append_left _ (List.mem_of_getElem? (l := tables_1_3) (i := 192) (by decide +kernel))))) rfl)
theorem gU_J5_208 : GoodIn WB (va_wsU RJ5 208 RJ4 RJ5 yJ5_putStringAt_47b60 yJ5_putStringAt_47b60 (cw yJ5_putStringAt_47b60 cJ5_putStringAt_47b60 3 none)) := (gwU mlj_J5_208 (WA_in (List.mem_append_right _ (List.mem_append_right _ (List.mem_append_right _ (List.mem_append_right _ (List.mem_append_right _ (List.mem_of_getElem? (l := tables_1_6) (i := 88) (by decide +kernel))))))) rfl) (sb_in (by unfold sbS; simp)) (WA_in (List.mem_append_right _ (List.mem_append_right _ (List.mem_append_left _ (List.mem_of_getElem? (l := tables_1_3) (i := 194) (by decide +kernel))))) rfl) (WA_in (List.mem_append_left _ (List.mem_of_getElem? (l := tables_1_1) (i := 16) (by decide +kernel))) rfl) (WA_in (List.mem_append_right _ (List.mem_append_right _ (List.mem_append_left _ (List.mem_of_getElem? (l := tables_1_3) (i := 195) (by decide +kernel))))) rfl))
theorem mlj_J4_29 : Cond.methodLink RJ4 29 yJ5_append_cf1ce ∈ WA := (WA_in (List.mem_append_right _ (List.mem_append_right _ (List.mem_append_left _ (List.mem_of_getElem? (l := tables_1_3) (i := 114) (by decide +kernel))))) rfl)
theorem gP_J4_29 : GoodIn WB (va_wsSU RJ4 29 yJ5_append_cf1ce (cw yJ5_append_cf1ce cJ5_append_cf1ce 3 (some (.object "java/lang/AbstractStringBuilder")))) := (gwP mlj_J4_29 (WA_in (List.mem_append_right _ (List.mem_append_right _ (List.mem_append_right _ (List.mem_append_right _ (List.mem_append_right _ (List.mem_of_getElem? (l := tables_1_6) (i := 84) (by decide +kernel))))))) rfl) (WA_in (List.mem_append_right _ (List.mem_append_right _ (List.mem_append_left _ (List.mem_of_getElem? (l := tables_1_3) (i := 108) (by decide +kernel))))) rfl) (WA_in (List.mem_append_right _ (List.mem_append_right _ (List.mem_append_left _ (List.mem_of_getElem? (l := tables_1_3) (i := 115) (by decide +kernel))))) rfl) (WA_in (List.mem_append_left _ (List.mem_of_getElem? (l := tables_1_1) (i := 16) (by decide +kernel))) rfl) (WA_in (List.mem_append_right _ (List.mem_append_right _ (List.mem_append_left _ (List.mem_of_getElem? (l := tables_1_3) (i := 116) (by decide +kernel))))) rfl))
theorem mlj_J5_245 : Cond.methodLink RJ5 245 yJ6_stringSize_0f7a4 ∈ WA := (WA_in (List.mem_append_right _ (List.mem_append_right _ (List.mem_append_left _ (List.mem_of_getElem? (l := tables_1_3) (i := 233) (by decide +kernel))))) rfl)
theorem mfj_J6_stringSize_0f7a4 : mfS yJ6_stringSize_0f7a4 cJ6_stringSize_0f7a4 4 (some .int) 1 := ⟨(WA_in (List.mem_append_right _ (List.mem_append_right _ (List.mem_append_left _ (List.mem_of_getElem? (l := tables_1_3) (i := 235) (by decide +kernel))))) rfl), WA_in (List.mem_append_right _ (List.mem_append_right _ (List.mem_append_left _ (List.mem_of_getElem? (l := tables_1_3) (i := 234) (by decide +kernel))))) rfl, (WA_in (List.mem_append_left _ (List.mem_of_getElem? (l := tables_1_1) (i := 24) (by decide +kernel))) rfl), by decide +kernel, by decide +kernel, by decide +kernel⟩
theorem mlj_J5_83 : Cond.methodLink RJ5 83 yJ5_isLatin1_aae02 ∈ WA := (WA_in (List.mem_append_right _ (List.mem_append_right _ (List.mem_append_left _ (List.mem_of_getElem? (l := tables_1_3) (i := 152) (by decide +kernel))))) rfl)
theorem gU_J5_83 : GoodIn WB (va_wsU RJ5 83 RJ4 RJ5 yJ5_isLatin1_aae02 yJ5_isLatin1_aae02 (cw yJ5_isLatin1_aae02 cJ5_isLatin1_aae02 1 (some .boolean))) := (gwU mlj_J5_83 (WA_in (List.mem_append_right _ (List.mem_append_right _ (List.mem_append_left _ (List.mem_of_getElem? (l := tables_1_3) (i := 154) (by decide +kernel))))) rfl) (WA_in (List.mem_append_right _ (List.mem_append_right _ (List.mem_append_left _ (List.mem_of_getElem? (l := tables_1_3) (i := 155) (by decide +kernel))))) rfl) (WA_in (List.mem_append_right _ (List.mem_append_right _ (List.mem_append_left _ (List.mem_of_getElem? (l := tables_1_3) (i := 153) (by decide +kernel))))) rfl) (WA_in (List.mem_append_left _ (List.mem_of_getElem? (l := tables_1_1) (i := 16) (by decide +kernel))) rfl) (WA_in (List.mem_append_right _ (List.mem_append_right _ (List.mem_append_left _ (List.mem_of_getElem? (l := tables_1_3) (i := 156) (by decide +kernel))))) rfl))
theorem mlj_J5_248 : Cond.methodLink RJ5 248 yJ6_getChars_ba4f3 ∈ WA := (WA_in (List.mem_append_right _ (List.mem_append_right _ (List.mem_append_left _ (List.mem_of_getElem? (l := tables_1_3) (i := 236) (by decide +kernel))))) rfl)
theorem mfj_J6_getChars_ba4f3 : mfS yJ6_getChars_ba4f3 cJ6_getChars_ba4f3 7 (some .int) 3 := ⟨(WA_in (List.mem_append_right _ (List.mem_append_right _ (List.mem_append_left _ (List.mem_of_getElem? (l := tables_1_3) (i := 238) (by decide +kernel))))) rfl), WA_in (List.mem_append_right _ (List.mem_append_right _ (List.mem_append_left _ (List.mem_of_getElem? (l := tables_1_3) (i := 237) (by decide +kernel))))) rfl, (WA_in (List.mem_append_left _ (List.mem_of_getElem? (l := tables_1_1) (i := 24) (by decide +kernel))) rfl), by decide +kernel, by decide +kernel, by decide +kernel⟩
theorem mlj_J4_53 : Cond.methodLink RJ4 53 yJ5_append_c97b9 ∈ WA := (WA_in (List.mem_append_right _ (List.mem_append_right _ (List.mem_append_left _ (List.mem_of_getElem? (l := tables_1_3) (i := 230) (by decide +kernel))))) rfl)
theorem gP_J4_53 : GoodIn WB (va_wsSU RJ4 53 yJ5_append_c97b9 (cw yJ5_append_c97b9 cJ5_append_c97b9 4 (some (.object "java/lang/AbstractStringBuilder")))) := (gwP mlj_J4_53 (WA_in (List.mem_append_right _ (List.mem_append_right _ (List.mem_append_right _ (List.mem_append_right _ (List.mem_append_right _ (List.mem_of_getElem? (l := tables_1_6) (i := 91) (by decide +kernel))))))) rfl) (WA_in (List.mem_append_right _ (List.mem_append_right _ (List.mem_append_left _ (List.mem_of_getElem? (l := tables_1_3) (i := 108) (by decide +kernel))))) rfl) (WA_in (List.mem_append_right _ (List.mem_append_right _ (List.mem_append_left _ (List.mem_of_getElem? (l := tables_1_3) (i := 231) (by decide +kernel))))) rfl) (WA_in (List.mem_append_left _ (List.mem_of_getElem? (l := tables_1_1) (i := 16) (by decide +kernel))) rfl) (WA_in (List.mem_append_right _ (List.mem_append_right _ (List.mem_append_left _ (List.mem_of_getElem? (l := tables_1_3) (i := 232) (by decide +kernel))))) rfl))
theorem mlj_J4_343 : Cond.methodLink RJ4 343 yJ5_length_8abf5 ∈ WA := (WA_in (List.mem_append_right _ (List.mem_append_right _ (List.mem_append_right _ (List.mem_append_left _ (List.mem_of_getElem? (l := tables_1_4) (i := 38) (by decide +kernel)))))) rfl)
theorem gP_J4_343 : GoodIn WB (va_wsSU RJ4 343 yJ5_length_8abf5 (cw yJ5_length_8abf5 cJ5_length_8abf5 1 (some .int))) := (gwP mlj_J4_343 (WA_in (List.mem_append_right _ (List.mem_append_right _ (List.mem_append_right _ (List.mem_append_left _ (List.mem_of_getElem? (l := tables_1_4) (i := 34) (by decide +kernel)))))) rfl) (WA_in (List.mem_append_right _ (List.mem_append_right _ (List.mem_append_left _ (List.mem_of_getElem? (l := tables_1_3) (i := 108) (by decide +kernel))))) rfl) (WA_in (List.mem_append_right _ (List.mem_append_right _ (List.mem_append_right _ (List.mem_append_left _ (List.mem_of_getElem? (l := tables_1_4) (i := 33) (by decide +kernel)))))) rfl) (WA_in (List.mem_append_left _ (List.mem_of_getElem? (l := tables_1_1) (i := 16) (by decide +kernel))) rfl) (WA_in (List.mem_append_right _ (List.mem_append_right _ (List.mem_append_right _ (List.mem_append_left _ (List.mem_of_getElem? (l := tables_1_4) (i := 39) (by decide +kernel)))))) rfl))
theorem mlj_J7_343 : Cond.methodLink RJ7 343 yJ7_checkLength_df160 ∈ WA := (WA_in (List.mem_append_right _ (List.mem_append_right _ (List.mem_append_right _ (List.mem_append_left _ (List.mem_of_getElem? (l := tables_1_4) (i := 47) (by decide +kernel)))))) rfl)
theorem mfj_J7_checkLength_df160 : mfS yJ7_checkLength_df160 cJ7_checkLength_df160 2 none 2 := ⟨(WA_in (List.mem_append_right _ (List.mem_append_right _ (List.mem_append_right _ (List.mem_append_left _ (List.mem_of_getElem? (l := tables_1_4) (i := 49) (by decide +kernel)))))) rfl), WA_in (List.mem_append_right _ (List.mem_append_right _ (List.mem_append_right _ (List.mem_append_left _ (List.mem_of_getElem? (l := tables_1_4) (i := 48) (by decide +kernel)))))) rfl, (WA_in (List.mem_append_left _ (List.mem_of_getElem? (l := tables_1_1) (i := 20) (by decide +kernel))) rfl), by decide +kernel, by decide +kernel, by decide +kernel⟩
theorem mlj_J7_339 : Cond.methodLink RJ7 339 yJ7_copyOfRangeByte_39247 ∈ WA := (WA_in (List.mem_append_right _ (List.mem_append_right _ (List.mem_append_right _ (List.mem_append_left _ (List.mem_of_getElem? (l := tables_1_4) (i := 44) (by decide +kernel)))))) rfl)
theorem mfj_J7_copyOfRangeByte_39247 : mfS yJ7_copyOfRangeByte_39247 cJ7_copyOfRangeByte_39247 5 (some (.array .byte)) 3 := ⟨(WA_in (List.mem_append_right _ (List.mem_append_right _ (List.mem_append_right _ (List.mem_append_left _ (List.mem_of_getElem? (l := tables_1_4) (i := 46) (by decide +kernel)))))) rfl), WA_in (List.mem_append_right _ (List.mem_append_right _ (List.mem_append_right _ (List.mem_append_left _ (List.mem_of_getElem? (l := tables_1_4) (i := 45) (by decide +kernel)))))) rfl, (WA_in (List.mem_append_left _ (List.mem_of_getElem? (l := tables_1_1) (i := 20) (by decide +kernel))) rfl), by decide +kernel, by decide +kernel, by decide +kernel⟩
theorem mlj_J0_552 : Cond.methodLink RJ0 552 yJ5_getValue_6d5f1 ∈ WA := (WA_in (List.mem_append_right _ (List.mem_append_right _ (List.mem_append_right _ (List.mem_append_left _ (List.mem_of_getElem? (l := tables_1_4) (i := 27) (by decide +kernel)))))) rfl)
theorem gU_J0_552 : GoodIn WB (va_wsU RJ0 552 RJ4 RJ5 yJ5_getValue_6d5f1 yJ5_getValue_6d5f1 (cw yJ5_getValue_6d5f1 cJ5_getValue_6d5f1 1 (some (.array .byte)))) := (gwU mlj_J0_552 (WA_in (List.mem_append_right _ (List.mem_append_right _ (List.mem_append_right _ (List.mem_append_left _ (List.mem_of_getElem? (l := tables_1_4) (i := 29) (by decide +kernel)))))) rfl) (WA_in (List.mem_append_right _ (List.mem_append_right _ (List.mem_append_right _ (List.mem_append_left _ (List.mem_of_getElem? (l := tables_1_4) (i := 30) (by decide +kernel)))))) rfl) (WA_in (List.mem_append_right _ (List.mem_append_right _ (List.mem_append_right _ (List.mem_append_left _ (List.mem_of_getElem? (l := tables_1_4) (i := 28) (by decide +kernel)))))) rfl) (WA_in (List.mem_append_left _ (List.mem_of_getElem? (l := tables_1_1) (i := 16) (by decide +kernel))) rfl) (WA_in (List.mem_append_right _ (List.mem_append_right _ (List.mem_append_right _ (List.mem_append_left _ (List.mem_of_getElem? (l := tables_1_4) (i := 31) (by decide +kernel)))))) rfl))
theorem mlj_J0_549 : Cond.methodLink RJ0 549 yJ5_length_8abf5 ∈ WA := (WA_in (List.mem_append_right _ (List.mem_append_right _ (List.mem_append_right _ (List.mem_append_left _ (List.mem_of_getElem? (l := tables_1_4) (i := 32) (by decide +kernel)))))) rfl)
theorem gO_J0_549 : GoodIn WB (va_wsO RJ0 549 RJ4 RJ5 yJ5_length_8abf5 yJ4_length_8abf5 (cw yJ4_length_8abf5 cJ4_length_8abf5 1 (some .int))) := (gwO mlj_J0_549 (WA_in (List.mem_append_right _ (List.mem_append_right _ (List.mem_append_right _ (List.mem_append_left _ (List.mem_of_getElem? (l := tables_1_4) (i := 34) (by decide +kernel)))))) rfl) (WA_in (List.mem_append_right _ (List.mem_append_right _ (List.mem_append_right _ (List.mem_append_left _ (List.mem_of_getElem? (l := tables_1_4) (i := 33) (by decide +kernel)))))) rfl) (WA_in (List.mem_append_right _ (List.mem_append_right _ (List.mem_append_right _ (List.mem_append_left _ (List.mem_of_getElem? (l := tables_1_4) (i := 35) (by decide +kernel)))))) rfl) (WA_in (List.mem_append_right _ (List.mem_append_right _ (List.mem_append_right _ (List.mem_append_left _ (List.mem_of_getElem? (l := tables_1_4) (i := 36) (by decide +kernel)))))) rfl) (WA_in (List.mem_append_left _ (List.mem_of_getElem? (l := tables_1_1) (i := 17) (by decide +kernel))) rfl) (WA_in (List.mem_append_right _ (List.mem_append_right _ (List.mem_append_right _ (List.mem_append_left _ (List.mem_of_getElem? (l := tables_1_4) (i := 37) (by decide +kernel)))))) rfl))
theorem mlj_J0_1047 : Cond.methodLink RJ0 1047 yJ5_isLatin1_aae02 ∈ WA := (WA_in (List.mem_append_right _ (List.mem_append_right _ (List.mem_append_right _ (List.mem_append_left _ (List.mem_of_getElem? (l := tables_1_4) (i := 40) (by decide +kernel)))))) rfl)
theorem gU_J0_1047 : GoodIn WB (va_wsU RJ0 1047 RJ4 RJ5 yJ5_isLatin1_aae02 yJ5_isLatin1_aae02 (cw yJ5_isLatin1_aae02 cJ5_isLatin1_aae02 1 (some .boolean))) := (gwU mlj_J0_1047 (WA_in (List.mem_append_right _ (List.mem_append_right _ (List.mem_append_left _ (List.mem_of_getElem? (l := tables_1_3) (i := 154) (by decide +kernel))))) rfl) (WA_in (List.mem_append_right _ (List.mem_append_right _ (List.mem_append_left _ (List.mem_of_getElem? (l := tables_1_3) (i := 155) (by decide +kernel))))) rfl) (WA_in (List.mem_append_right _ (List.mem_append_right _ (List.mem_append_left _ (List.mem_of_getElem? (l := tables_1_3) (i := 153) (by decide +kernel))))) rfl) (WA_in (List.mem_append_left _ (List.mem_of_getElem? (l := tables_1_1) (i := 16) (by decide +kernel))) rfl) (WA_in (List.mem_append_right _ (List.mem_append_right _ (List.mem_append_left _ (List.mem_of_getElem? (l := tables_1_3) (i := 156) (by decide +kernel))))) rfl))
theorem mlj_J0_54 : Cond.methodLink RJ0 54 yJ7_copyOfRange_39247 ∈ WA := (WA_in (List.mem_append_right _ (List.mem_append_right _ (List.mem_append_right _ (List.mem_append_left _ (List.mem_of_getElem? (l := tables_1_4) (i := 41) (by decide +kernel)))))) rfl)
theorem mfj_J7_copyOfRange_39247 : mfS yJ7_copyOfRange_39247 cJ7_copyOfRange_39247 3 (some (.array .byte)) 3 := ⟨(WA_in (List.mem_append_right _ (List.mem_append_right _ (List.mem_append_right _ (List.mem_append_left _ (List.mem_of_getElem? (l := tables_1_4) (i := 43) (by decide +kernel)))))) rfl), WA_in (List.mem_append_right _ (List.mem_append_right _ (List.mem_append_right _ (List.mem_append_left _ (List.mem_of_getElem? (l := tables_1_4) (i := 42) (by decide +kernel)))))) rfl, (WA_in (List.mem_append_left _ (List.mem_of_getElem? (l := tables_1_1) (i := 20) (by decide +kernel))) rfl), by decide +kernel, by decide +kernel, by decide +kernel⟩
theorem mlj_J0_489 : Cond.methodLink RJ0 489 yJ0_init_db425 ∈ WA := (WA_in (List.mem_append_right _ (List.mem_append_right _ (List.mem_append_right _ (List.mem_append_left _ (List.mem_of_getElem? (l := tables_1_4) (i := 23) (by decide +kernel)))))) rfl)
theorem mij_J0_init_db425 : Cond.code yJ0_init_db425 cJ0_init_db425 5 none ∈ WA ∧ Cond.instanceMethod yJ0_init_db425 ∈ WA ∧ Cond.initialized yJ0_init_db425.cls ∈ WA ∧ (yJ0_init_db425.cls ≠ "java/lang/invoke/MethodHandle" ∧ yJ0_init_db425.cls ≠ "java/lang/invoke/VarHandle" ∧ (parseMethodDescriptor yJ0_init_db425.desc).map (fun d => d.parameters.length) = some 2) := ⟨(WA_in (List.mem_append_right _ (List.mem_append_right _ (List.mem_append_right _ (List.mem_append_left _ (List.mem_of_getElem? (l := tables_1_4) (i := 25) (by decide +kernel)))))) rfl), WA_in (List.mem_append_right _ (List.mem_append_right _ (List.mem_append_right _ (List.mem_append_left _ (List.mem_of_getElem? (l := tables_1_4) (i := 24) (by decide +kernel)))))) rfl, (WA_in (List.mem_append_left _ (List.mem_of_getElem? (l := tables_1_1) (i := 11) (by decide +kernel))) rfl), by decide +kernel, by decide +kernel, by decide +kernel⟩
theorem mlj_J4_137 : Cond.methodLink RJ4 137 yJ0_init_81219 ∈ WA := (WA_in (List.mem_append_right _ (List.mem_append_right _ (List.mem_append_right _ (List.mem_append_left _ (List.mem_of_getElem? (l := tables_1_4) (i := 20) (by decide +kernel)))))) rfl)
theorem mij_J0_init_81219 : Cond.code yJ0_init_81219 cJ0_init_81219 2 none ∈ WA ∧ Cond.instanceMethod yJ0_init_81219 ∈ WA ∧ Cond.initialized yJ0_init_81219.cls ∈ WA ∧ (yJ0_init_81219.cls ≠ "java/lang/invoke/MethodHandle" ∧ yJ0_init_81219.cls ≠ "java/lang/invoke/VarHandle" ∧ (parseMethodDescriptor yJ0_init_81219.desc).map (fun d => d.parameters.length) = some 1) := ⟨(WA_in (List.mem_append_right _ (List.mem_append_right _ (List.mem_append_right _ (List.mem_append_left _ (List.mem_of_getElem? (l := tables_1_4) (i := 22) (by decide +kernel)))))) rfl), WA_in (List.mem_append_right _ (List.mem_append_right _ (List.mem_append_right _ (List.mem_append_left _ (List.mem_of_getElem? (l := tables_1_4) (i := 21) (by decide +kernel)))))) rfl, (WA_in (List.mem_append_left _ (List.mem_of_getElem? (l := tables_1_1) (i := 11) (by decide +kernel))) rfl), by decide +kernel, by decide +kernel, by decide +kernel⟩
theorem mlj_J4_1 : Cond.methodLink RJ4 1 yJ5_init_d00df ∈ WA := (WA_in (List.mem_append_right _ (List.mem_append_right _ (List.mem_append_left _ (List.mem_of_getElem? (l := tables_1_3) (i := 83) (by decide +kernel))))) rfl)
theorem mij_J5_init_d00df : Cond.code yJ5_init_d00df cJ5_init_d00df 2 none ∈ WA ∧ Cond.instanceMethod yJ5_init_d00df ∈ WA ∧ Cond.initialized yJ5_init_d00df.cls ∈ WA ∧ (yJ5_init_d00df.cls ≠ "java/lang/invoke/MethodHandle" ∧ yJ5_init_d00df.cls ≠ "java/lang/invoke/VarHandle" ∧ (parseMethodDescriptor yJ5_init_d00df.desc).map (fun d => d.parameters.length) = some 1) := ⟨(WA_in (List.mem_append_right _ (List.mem_append_right _ (List.mem_append_left _ (List.mem_of_getElem? (l := tables_1_3) (i := 85) (by decide +kernel))))) rfl), WA_in (List.mem_append_right _ (List.mem_append_right _ (List.mem_append_left _ (List.mem_of_getElem? (l := tables_1_3) (i := 84) (by decide +kernel))))) rfl, (WA_in (List.mem_append_left _ (List.mem_of_getElem? (l := tables_1_1) (i := 16) (by decide +kernel))) rfl), by decide +kernel, by decide +kernel, by decide +kernel⟩
abbrev rm_jb_J8_newLength_cabcc : Room := { frames := 1, cells := 0, slots := 0, locals := 40 }
set_option maxRecDepth 100000 in
set_option maxHeartbeats 2000000 in
theorem jb_J8_newLength_cabcc (l : Launch) (E : EV) (o mn pf : Int) (h9 : 0 ≤ o ∧ o ≤ 200 ∧ 1 ≤ mn ∧ mn ≤ 200 ∧ 0 ≤ pf ∧ pf ≤ 300) : Bi l yJ8_newLength_cabcc (cw yJ8_newLength_cabcc cJ8_newLength_cabcc 4 (some .int)) rm_jb_J8_newLength_cabcc E [.int (iI o), .int (iI mn), .int (iI pf)] [] [] (fun r w t => r = iI (o + max mn pf) ∧ w = [] ∧ t = []) 0 0 := by
  refine Bi_of (rm := rm_jb_J8_newLength_cabcc) (mL := 4) (b := cJ8_newLength_cabcc) RJ8 rfl (by decide +kernel) [(0, .int (iI o)), (1, .int (iI mn)), (2, .int (iI pf))] rfl (Nat.le_of_ble_eq_true rfl) (fun p_ e_ s_ m_ a_ b_ h_ c_ Q A C hnm hret => ?_)
  refine b_iload_n C dJ8_newLength_cabcc_0 0 rfl rfl (q := 1) rfl ?_
  refine b_iload_n C dJ8_newLength_cabcc_1 1 rfl rfl (q := 2) rfl ?_
  refine b_iload_n C dJ8_newLength_cabcc_2 2 rfl rfl (q := 3) rfl ?_
  refine b_max C mlj_J8_194 (by omega) dJ8_newLength_cabcc_3 (Nat.le_of_ble_eq_true rfl) (Nat.le_of_ble_eq_true rfl) (by show 0 ≤ 0 ∧ 0 ≤ 0; omega) (q := 6) rfl ?_
  refine b_iadd C dJ8_newLength_cabcc_6 (q := 7) rfl ?_
  refine b_istore_n C (L' := [(3, .int (iI (o + (max mn pf)))), (0, .int (iI o)), (1, .int (iI mn)), (2, .int (iI pf))]) dJ8_newLength_cabcc_7 rfl (by decide) rfl (q := 8) rfl ?_
  refine b_iconst C (z := 0) dJ8_newLength_cabcc_8 (q := 9) rfl ?_
  refine b_iload_n C dJ8_newLength_cabcc_9 0 rfl rfl (q := 10) rfl ?_
  refine b_icmp_ge C dJ8_newLength_cabcc_10 (by omega) (q2 := 21) rfl (q := 13) rfl (fun hb1 => ?_) (fun hb1 => ?_)
  · skip
    exfalso; omega
  · skip
    refine b_iload_n C dJ8_newLength_cabcc_13 0 rfl rfl (q := 14) rfl ?_
    refine b_ldci C lcj_J8_200 dJ8_newLength_cabcc_14 (q := 16) rfl ?_
    refine b_icmp_gt C dJ8_newLength_cabcc_16 (by omega) (q2 := 21) rfl (q := 19) rfl (fun hb2 => ?_) (fun hb2 => ?_)
    · skip
      exfalso; omega
    · skip
      refine b_iload_n C dJ8_newLength_cabcc_19 0 rfl rfl (q := 20) rfl ?_
      exact hret _ _ _ _ _ _ _ (by omega) (by omega) dJ8_newLength_cabcc_20 ⟨rfl, rfl, rfl⟩
abbrev rm_jb_J5_newCapacity_0f7a4 : Room := { frames := 2, cells := 0, slots := 0, locals := 63 }
set_option maxRecDepth 100000 in
set_option maxHeartbeats 2000000 in
theorem jb_J5_newCapacity_0f7a4 (l : Launch) (E : EV) (x v : Nat) (cA : ClassId) (m : Nat) (g : Int → Int) (n : Int) (hb : BG g n) (hn : 0 ≤ n ∧ n ≤ m ∧ m ≤ 130) (mi : Int) (hmi : m < mi ∧ mi ≤ 60) : Bi l yJ5_newCapacity_0f7a4 (cw yJ5_newCapacity_0f7a4 cJ5_newCapacity_0f7a4 6 (some .int)) rm_jb_J5_newCapacity_0f7a4 E [.ref x, .int (iI mi)] [(x, .inr (5, [.ref v, .int (iI 0), .int (iI 0), .int (iI n)])), (v, .inl (cA, m, .inl (af g)))] [(cA, .byte)] (fun r w t => ∃ z : Int, r = iI z ∧ mi ≤ z ∧ z ≤ 130 ∧ w = [(x, .inr (5, [.ref v, .int (iI 0), .int (iI 0), .int (iI n)])), (v, .inl (cA, m, .inl (af g)))] ∧ t = []) 0 0 := by
  refine Bi_of (rm := rm_jb_J5_newCapacity_0f7a4) (mL := 6) (b := cJ5_newCapacity_0f7a4) RJ5 rfl (by decide +kernel) [(0, .ref x), (1, .int (iI mi))] rfl (Nat.le_of_ble_eq_true rfl) (fun p_ e_ s_ m_ a_ b_ h_ c_ Q A C hnm hret => ?_)
  refine b_aload_n C dJ5_newCapacity_0f7a4_0 0 rfl rfl (q := 1) rfl ?_
  refine b_get_value C rfl 0 rfl dJ5_newCapacity_0f7a4_1 (q := 4) rfl ?_
  refine b_alen C 1 0 rfl rfl dJ5_newCapacity_0f7a4_4 (q := 5) rfl ?_
  refine b_istore_n C (L' := [(2, .int (iI m)), (0, .ref x), (1, .int (iI mi))]) dJ5_newCapacity_0f7a4_5 rfl (by decide) rfl (q := 6) rfl ?_
  refine b_iload_n C dJ5_newCapacity_0f7a4_6 2 rfl rfl (q := 7) rfl ?_
  refine b_aload_n C dJ5_newCapacity_0f7a4_7 1 rfl rfl (q := 8) rfl ?_
  refine b_get_coder C rfl 0 rfl dJ5_newCapacity_0f7a4_8 (q := 11) rfl ?_
  refine b_ishl0 C dJ5_newCapacity_0f7a4_11 (q := 12) rfl ?_
  refine b_istore_n C (L' := [(3, .int (iI mi)), (2, .int (iI m)), (0, .ref x), (1, .int (iI mi))]) dJ5_newCapacity_0f7a4_12 rfl (by decide) rfl (q := 13) rfl ?_
  refine b_iload_n C dJ5_newCapacity_0f7a4_13 0 rfl rfl (q := 14) rfl ?_
  refine b_iload_n C dJ5_newCapacity_0f7a4_14 1 rfl rfl (q := 15) rfl ?_
  refine b_isub C dJ5_newCapacity_0f7a4_15 (q := 16) rfl ?_
  refine b_istore C (L' := [(4, .int (iI (mi - m))), (3, .int (iI mi)), (2, .int (iI m)), (0, .ref x), (1, .int (iI mi))]) dJ5_newCapacity_0f7a4_16 (by decide) rfl (q := 18) rfl ?_
  refine b_iload_n C dJ5_newCapacity_0f7a4_18 2 rfl rfl (q := 19) rfl ?_
  refine b_iload C dJ5_newCapacity_0f7a4_19 0 rfl (q := 21) rfl ?_
  refine b_iload_n C dJ5_newCapacity_0f7a4_21 2 rfl rfl (q := 22) rfl ?_
  refine b_iconst C (z := 2) dJ5_newCapacity_0f7a4_22 (q := 23) rfl ?_
  refine b_aload_n C dJ5_newCapacity_0f7a4_23 3 rfl rfl (q := 24) rfl ?_
  refine b_get_coder C rfl 0 rfl dJ5_newCapacity_0f7a4_24 (q := 27) rfl ?_
  refine b_ishl0 C dJ5_newCapacity_0f7a4_27 (q := 28) rfl ?_
  refine b_iadd C dJ5_newCapacity_0f7a4_28 (q := 29) rfl ?_
  refine b_cS_i C (nA := 3) (As := [.int (iI m), .int (iI (mi - m)), .int (iI (m + 2))]) (jb_J8_newLength_cabcc l E m (mi - m) (m + 2) (by omega)) mlj_J5_114 mfj_J8_newLength_cabcc rfl ⟨(Nat.le_of_ble_eq_true rfl), (Nat.le_of_ble_eq_true rfl)⟩ rfl rfl rfl (Nat.le_of_ble_eq_true rfl) (by show 0 + 0 ≤ 0 ∧ 0 + 0 ≤ 0; omega) dJ5_newCapacity_0f7a4_29 (q := 32) rfl [] [0, 1] [] (wr := [(x, .inr (5, [.ref v, .int (iI 0), .int (iI 0), .int (iI n)])), (v, .inl (cA, m, .inl (af g)))]) rfl rfl rfl rfl (by decide) rfl (fun r1 w1 tb1 hr1 => ?_)
  obtain ⟨rfl, rfl, rfl⟩ := hr1
  refine b_world (tb2 := [(cA, .byte)]) (ws2 := [(x, .inr (5, [.ref v, .int (iI 0), .int (iI 0), .int (iI n)])), (v, .inl (cA, m, .inl (af g)))]) rfl rfl ?_
  refine b_istore C (L' := [(5, .int (iI (m + max (mi - m) (m + 2)))), (4, .int (iI (mi - m))), (3, .int (iI mi)), (2, .int (iI m)), (0, .ref x), (1, .int (iI mi))]) dJ5_newCapacity_0f7a4_32 (by decide) rfl (q := 34) rfl ?_
  refine b_iload C dJ5_newCapacity_0f7a4_34 0 rfl (q := 36) rfl ?_
  refine b_ldci C lcj_J5_39 dJ5_newCapacity_0f7a4_36 (q := 38) rfl ?_
  refine b_icmp_ne C dJ5_newCapacity_0f7a4_38 (by omega) (q2 := 51) rfl (q := 41) rfl (fun hb1 => ?_) (fun hb1 => ?_)
  · skip
    refine b_iload C dJ5_newCapacity_0f7a4_51 0 rfl (q := 53) rfl ?_
    refine b_aload_n C dJ5_newCapacity_0f7a4_53 4 rfl rfl (q := 54) rfl ?_
    refine b_get_coder C rfl 0 rfl dJ5_newCapacity_0f7a4_54 (q := 57) rfl ?_
    refine b_ishr0 C dJ5_newCapacity_0f7a4_57 (q := 58) rfl ?_
    refine b_drop (ws2 := [(x, .inr (5, [.ref v, .int (iI 0), .int (iI 0), .int (iI n)])), (v, .inl (cA, m, .inl (af g)))]) (tb2 := []) [0, 1] [] rfl rfl rfl ?_
    exact hret _ _ _ _ _ _ _ (by omega) (by omega) dJ5_newCapacity_0f7a4_58 ⟨_, rfl, by omega, by omega, rfl, rfl⟩
  · skip
    exfalso; omega
abbrev rm_jb_J7_copyOf_9075b : Room := { frames := 1, cells := 1, slots := 130, locals := 60 }
set_option maxRecDepth 100000 in
set_option maxHeartbeats 2000000 in
theorem jb_J7_copyOf_9075b (l : Launch) (E : EV) (v : Nat) (cA : ClassId) (m : Nat) (g : Int → Int) (z : Int) (hf : ∀ j, 0 ≤ g j ∧ g j < 128) (hz : m < z ∧ z ≤ 130) : Br l yJ7_copyOf_9075b (cw yJ7_copyOf_9075b cJ7_copyOf_9075b 3 (some (.array .byte))) rm_jb_J7_copyOf_9075b E [.ref v, .int (iI z)] [(v, .inl (cA, m, .inl (af g)))] [(cA, .byte)] (fun r w t => ∃ (cB : ClassId) (N : Nat) (h : Int → Int), w = [(v, .inl (cA, m, .inl (af g))), (r, .inl (cB, N, .inl (af h)))] ∧ t = [(cB, .byte)] ∧ (N : Int) = z ∧ ∀ n : Int, n ≤ m → BG g n → BG h n) 1 130 := by
  refine Br_of (rm := rm_jb_J7_copyOf_9075b) (mL := 3) (b := cJ7_copyOf_9075b) (Or.inr ⟨_, rfl⟩) RJ7 rfl (by decide +kernel) [(0, .ref v), (1, .int (iI z))] rfl (Nat.le_of_ble_eq_true rfl) (fun p_ e_ s_ m_ a_ b_ h_ c_ Q A C hnm hret => ?_)
  refine b_iload_n C dJ7_copyOf_9075b_0 1 rfl rfl (q := 1) rfl ?_
  refine b_aload_n C dJ7_copyOf_9075b_1 0 rfl rfl (q := 2) rfl ?_
  refine b_alen C 0 0 rfl rfl dJ7_copyOf_9075b_2 (q := 3) rfl ?_
  refine b_icmp_ne C dJ7_copyOf_9075b_3 (by omega) (q2 := 14) rfl (q := 6) rfl (fun hb1 => ?_) (fun hb1 => ?_)
  · skip
    refine b_iload_n C dJ7_copyOf_9075b_14 1 rfl rfl (q := 15) rfl ?_
    refine b_newa C (N := z) (by omega) (by show 0 + 1 ≤ 1 ∧ 0 + (z : Int).toNat ≤ 130; omega) dJ7_copyOf_9075b_15 (q := 17) rfl (fun y cB => ?_)
    refine b_world (tb2 := [(cA, .byte), (cB, .byte)]) (ws2 := [(v, .inl (cA, m, .inl (af g))), (y, .inl (cB, ((z : Int).toNat), .inl (af (fun _ => 0))))]) rfl rfl ?_
    refine b_astore_n C (L' := [(2, .ref y), (0, .ref v), (1, .int (iI z))]) dJ7_copyOf_9075b_17 rfl (by decide) rfl (q := 18) rfl ?_
    refine b_aload_n C dJ7_copyOf_9075b_18 1 rfl rfl (q := 19) rfl ?_
    refine b_iconst C (z := 0) dJ7_copyOf_9075b_19 (q := 20) rfl ?_
    refine b_aload_n C dJ7_copyOf_9075b_20 0 rfl rfl (q := 21) rfl ?_
    refine b_iconst C (z := 0) dJ7_copyOf_9075b_21 (q := 22) rfl ?_
    refine b_aload_n C dJ7_copyOf_9075b_22 1 rfl rfl (q := 23) rfl ?_
    refine b_alen C 0 0 rfl rfl dJ7_copyOf_9075b_23 (q := 24) rfl ?_
    refine b_iload_n C dJ7_copyOf_9075b_24 2 rfl rfl (q := 25) rfl ?_
    refine b_min C mlj_J7_304 (by omega) dJ7_copyOf_9075b_25 (Nat.le_of_ble_eq_true rfl) (Nat.le_of_ble_eq_true rfl) (by show 1 ≤ 1 ∧ 0 + (z : Int).toNat ≤ 130; omega) (q := 28) rfl ?_
    refine b_top (b := m) (by omega) ?_
    refine b_copy C mlj_J7_150 0 1 0 1 rfl rfl rfl rfl (by omega) hf (Nat.le_of_ble_eq_true rfl) (Nat.le_of_ble_eq_true rfl) dJ7_copyOf_9075b_28 (q := 31) rfl (ws2 := [(v, .inl (cA, m, .inl (af g))), (y, .inl (cB, ((z : Int).toNat), .inl (af (cpf g (fun _ => 0) 0 0 m))))]) rfl ?_
    refine b_aload_n C dJ7_copyOf_9075b_31 0 rfl rfl (q := 32) rfl ?_
    refine b_drop (ws2 := [(v, .inl (cA, m, .inl (af g))), (y, .inl (cB, ((z : Int).toNat), .inl (af (cpf g (fun _ => 0) 0 0 m))))]) (tb2 := [(cB, .byte)]) [0, 1] [1] rfl rfl rfl ?_
    exact hret _ _ _ _ _ _ _ (by omega) (by omega) dJ7_copyOf_9075b_32 ⟨cB, _, _, rfl, rfl, by omega, fun n h1 h2 => BG_cp h1 h2⟩
  · skip
    exfalso; omega
abbrev rm_jb_J5_ensureCapacityInternal_d00df : Room := { frames := 3, cells := 1, slots := 130, locals := 88 }
set_option maxRecDepth 100000 in
set_option maxHeartbeats 2000000 in
theorem jb_J5_ensureCapacityInternal_d00df (l : Launch) (E : EV) (x v : Nat) (cA : ClassId) (m : Nat) (g : Int → Int) (n : Int) (hb : BG g n) (hn : 0 ≤ n ∧ n ≤ m ∧ m ≤ 130) (mi : Int) (hmi : 0 ≤ mi ∧ mi ≤ 60) : Bv l yJ5_ensureCapacityInternal_d00df (cw yJ5_ensureCapacityInternal_d00df cJ5_ensureCapacityInternal_d00df 3 none) rm_jb_J5_ensureCapacityInternal_d00df E [.ref x, .int (iI mi)] [(x, .inr (5, [.ref v, .int (iI 0), .int (iI 0), .int (iI n)])), (v, .inl (cA, m, .inl (af g)))] [(cA, .byte)] (fun w t => ∃ (v : Nat) (cA : ClassId) (m : Nat) (g : Int → Int), w = [(x, .inr (5, [.ref v, .int (iI 0), .int (iI 0), .int (iI n)])), (v, .inl (cA, m, .inl (af g)))] ∧ t = [(cA, .byte)] ∧ BG g n ∧ n ≤ m ∧ m ≤ 130 ∧ mi ≤ m) 1 130 := by
  refine Bv_of (rm := rm_jb_J5_ensureCapacityInternal_d00df) (mL := 3) (b := cJ5_ensureCapacityInternal_d00df) RJ5 rfl (by decide +kernel) [(0, .ref x), (1, .int (iI mi))] rfl (Nat.le_of_ble_eq_true rfl) (fun p_ e_ s_ m_ a_ b_ h_ c_ Q A C hnm hret => ?_)
  refine b_aload_n C dJ5_ensureCapacityInternal_d00df_0 0 rfl rfl (q := 1) rfl ?_
  refine b_get_value C rfl 0 rfl dJ5_ensureCapacityInternal_d00df_1 (q := 4) rfl ?_
  refine b_alen C 1 0 rfl rfl dJ5_ensureCapacityInternal_d00df_4 (q := 5) rfl ?_
  refine b_aload_n C dJ5_ensureCapacityInternal_d00df_5 0 rfl rfl (q := 6) rfl ?_
  refine b_get_coder C rfl 0 rfl dJ5_ensureCapacityInternal_d00df_6 (q := 9) rfl ?_
  refine b_ishr0 C dJ5_ensureCapacityInternal_d00df_9 (q := 10) rfl ?_
  refine b_istore_n C (L' := [(2, .int (iI m)), (0, .ref x), (1, .int (iI mi))]) dJ5_ensureCapacityInternal_d00df_10 rfl (by decide) rfl (q := 11) rfl ?_
  refine b_iload_n C dJ5_ensureCapacityInternal_d00df_11 2 rfl rfl (q := 12) rfl ?_
  refine b_iload_n C dJ5_ensureCapacityInternal_d00df_12 0 rfl rfl (q := 13) rfl ?_
  refine b_isub C dJ5_ensureCapacityInternal_d00df_13 (q := 14) rfl ?_
  refine b_if_le C dJ5_ensureCapacityInternal_d00df_14 (by omega) (q2 := 38) rfl (q := 17) rfl (fun hb1 => ?_) (fun hb1 => ?_)
  · skip
    exact hret _ _ _ _ _ _ (by omega) (by omega) dJ5_ensureCapacityInternal_d00df_38 ⟨_, _, _, _, rfl, rfl, by first | exact hb | exact hb6 _ (by omega) hb, by omega, by omega, by omega⟩
  · skip
    refine b_aload_n C dJ5_ensureCapacityInternal_d00df_17 1 rfl rfl (q := 18) rfl ?_
    refine b_aload_n C dJ5_ensureCapacityInternal_d00df_18 1 rfl rfl (q := 19) rfl ?_
    refine b_get_value C rfl 0 rfl dJ5_ensureCapacityInternal_d00df_19 (q := 22) rfl ?_
    refine b_aload_n C dJ5_ensureCapacityInternal_d00df_22 1 rfl rfl (q := 23) rfl ?_
    refine b_iload_n C dJ5_ensureCapacityInternal_d00df_23 2 rfl rfl (q := 24) rfl ?_
    refine b_cU_i C (nA := 1) (As := [.int (iI mi)]) (jb_J5_newCapacity_0f7a4 l E x v cA m g n hb (by omega) mi (by omega)) 0 gU_J5_104 rfl (by decide +kernel) rfl rfl ⟨(Nat.le_of_ble_eq_true rfl), (Nat.le_of_ble_eq_true rfl)⟩ rfl rfl rfl (Nat.le_of_ble_eq_true rfl) (by show 0 + 0 ≤ 1 ∧ 0 + 0 ≤ 130; omega) dJ5_ensureCapacityInternal_d00df_24 (q := 27) rfl [0, 1] [] [0] (wr := []) rfl rfl rfl rfl (by decide) rfl (fun r1 w1 tb1 hr1 => ?_)
    obtain ⟨z5, rfl, h5a, h5b, rfl, rfl⟩ := hr1
    refine b_world (tb2 := [(cA, .byte)]) (ws2 := [(x, .inr (5, [.ref v, .int (iI 0), .int (iI 0), .int (iI n)])), (v, .inl (cA, m, .inl (af g)))]) rfl rfl ?_
    refine b_aload_n C dJ5_ensureCapacityInternal_d00df_27 1 rfl rfl (q := 28) rfl ?_
    refine b_get_coder C rfl 0 rfl dJ5_ensureCapacityInternal_d00df_28 (q := 31) rfl ?_
    refine b_ishl0 C dJ5_ensureCapacityInternal_d00df_31 (q := 32) rfl ?_
    refine b_cS_r C (nA := 2) (As := [.ref v, .int (iI z5)]) (jb_J7_copyOf_9075b l E v cA m g z5 hb.1 (by omega)) mlj_J5_108 mfj_J7_copyOf_9075b rfl ⟨(Nat.le_of_ble_eq_true rfl), (Nat.le_of_ble_eq_true rfl)⟩ rfl rfl rfl (Nat.le_of_ble_eq_true rfl) (by show 0 + 1 ≤ 1 ∧ 0 + 130 ≤ 130; omega) dJ5_ensureCapacityInternal_d00df_32 (q := 35) rfl [1] [0] [0] (wr := [(x, .inr (5, [.ref v, .int (iI 0), .int (iI 0), .int (iI n)]))]) rfl rfl rfl rfl (by decide) rfl (fun y6 w1 tb1 hr1 => ?_)
    obtain ⟨cB6, N6, g6, rfl, rfl, hN6, hb6⟩ := hr1
    refine b_world (tb2 := [(cA, .byte), (cB6, .byte)]) (ws2 := [(x, .inr (5, [.ref v, .int (iI 0), .int (iI 0), .int (iI n)])), (v, .inl (cA, m, .inl (af g))), (y6, .inl (cB6, N6, .inl (af g6)))]) rfl rfl ?_
    refine b_wide (k2 := 1) (n2 := 130) (by omega) (by omega) ?_
    refine b_put_value C rfl 0 rfl dJ5_ensureCapacityInternal_d00df_35 (q := 38) rfl (ws2 := [(x, .inr (5, [.ref y6, .int (iI 0), .int (iI 0), .int (iI n)])), (v, .inl (cA, m, .inl (af g))), (y6, .inl (cB6, N6, .inl (af g6)))]) rfl ?_
    refine b_drop (ws2 := [(x, .inr (5, [.ref y6, .int (iI 0), .int (iI 0), .int (iI n)])), (y6, .inl (cB6, N6, .inl (af g6)))]) (tb2 := [(cB6, .byte)]) [0, 2] [1] rfl rfl rfl ?_
    exact hret _ _ _ _ _ _ (by omega) (by omega) dJ5_ensureCapacityInternal_d00df_38 ⟨_, _, _, _, rfl, rfl, by first | exact hb | exact hb6 _ (by omega) hb, by omega, by omega, by omega⟩
abbrev rm_jb_J0_coder_7d493 : Room := { frames := 0, cells := 0, slots := 0, locals := 0 }
set_option maxRecDepth 100000 in
set_option maxHeartbeats 2000000 in
theorem jb_J0_coder_7d493 (l : Launch) (E : EV) (qy vy ny : Nat) (f9 : Nat → Int32) (fy : Int → Int) (hy9 : ey E = some (qy, vy, ny, f9)) (hf9 : ∀ i : Int, 0 ≤ i → i < ny → f9 i.toNat = iI (fy i) ∧ 0 ≤ fy i ∧ fy i < 128) (hny : ny ≤ 60) : Bi l yJ0_coder_7d493 (cw yJ0_coder_7d493 cJ0_coder_7d493 1 (some .byte)) rm_jb_J0_coder_7d493 E [.ref qy] [] [] (fun r w t => r = iI 0 ∧ w = [] ∧ t = []) 0 0 := by
  refine Bb_of (rm := rm_jb_J0_coder_7d493) (mL := 1) (b := cJ0_coder_7d493) RJ0 rfl (by decide +kernel) [(0, .ref qy)] rfl (Nat.le_of_ble_eq_true rfl) (fun p_ e_ s_ m_ a_ b_ h_ c_ Q A C hnm hret => ?_)
  refine b_comp0 C rfl dJ0_coder_7d493_0 (q := 3) rfl ?_
  refine b_if_eq C dJ0_coder_7d493_3 (by omega) (q2 := 13) rfl (q := 6) rfl (fun hb1 => ?_) (fun hb1 => ?_)
  · skip
    exfalso; omega
  · skip
    refine b_aload_n C dJ0_coder_7d493_6 0 rfl rfl (q := 7) rfl ?_
    refine b_dcod C rfl hy9 dJ0_coder_7d493_7 (q := 10) rfl ?_
    refine b_goto C dJ0_coder_7d493_10 (q := 14) rfl ?_
    exact hret _ _ _ _ _ _ _ (by omega) (by omega) dJ0_coder_7d493_14 (by omega) ⟨rfl, rfl, rfl⟩
abbrev rm_jb_J0_length_8abf5 : Room := { frames := 1, cells := 0, slots := 0, locals := 20 }
set_option maxRecDepth 100000 in
set_option maxHeartbeats 2000000 in
theorem jb_J0_length_8abf5 (l : Launch) (E : EV) (qy vy ny : Nat) (f9 : Nat → Int32) (fy : Int → Int) (hy9 : ey E = some (qy, vy, ny, f9)) (hf9 : ∀ i : Int, 0 ≤ i → i < ny → f9 i.toNat = iI (fy i) ∧ 0 ≤ fy i ∧ fy i < 128) (hny : ny ≤ 60) : Bi l yJ0_length_8abf5 (cw yJ0_length_8abf5 cJ0_length_8abf5 1 (some .int)) rm_jb_J0_length_8abf5 E [.ref qy] [] [] (fun r w t => r = iI ny ∧ w = [] ∧ t = []) 0 0 := by
  refine Bi_of (rm := rm_jb_J0_length_8abf5) (mL := 1) (b := cJ0_length_8abf5) RJ0 rfl (by decide +kernel) [(0, .ref qy)] rfl (Nat.le_of_ble_eq_true rfl) (fun p_ e_ s_ m_ a_ b_ h_ c_ Q A C hnm hret => ?_)
  refine b_aload_n C dJ0_length_8abf5_0 0 rfl rfl (q := 1) rfl ?_
  refine b_dval C rfl hy9 dJ0_length_8abf5_1 (q := 4) rfl ?_
  refine b_dlen C hy9 dJ0_length_8abf5_4 (q := 5) rfl ?_
  refine b_aload_n C dJ0_length_8abf5_5 0 rfl rfl (q := 6) rfl ?_
  refine b_cD_i C (nA := 0) (As := []) (jb_J0_coder_7d493 l E qy vy ny f9 fy hy9 hf9 hny) hy9 mlj_J0_335 mfj_J0_coder_7d493 rfl rfl ⟨(Nat.le_of_ble_eq_true rfl), (Nat.le_of_ble_eq_true rfl)⟩ rfl rfl rfl (Nat.le_of_ble_eq_true rfl) (by show 0 + 0 ≤ 0 ∧ 0 + 0 ≤ 0; omega) dJ0_length_8abf5_6 (q := 9) rfl [] [] [] (wr := []) rfl rfl rfl rfl (by decide) rfl (fun r1 w1 tb1 hr1 => ?_)
  obtain ⟨rfl, rfl, rfl⟩ := hr1
  refine b_world (tb2 := []) (ws2 := []) rfl rfl ?_
  refine b_ishr0 C dJ0_length_8abf5_9 (q := 10) rfl ?_
  exact hret _ _ _ _ _ _ _ (by omega) (by omega) dJ0_length_8abf5_10 ⟨rfl, rfl, rfl⟩
abbrev rm_jb_J5_inflateIfNeededFor_a7421 : Room := { frames := 1, cells := 0, slots := 0, locals := 20 }
set_option maxRecDepth 100000 in
set_option maxHeartbeats 2000000 in
theorem jb_J5_inflateIfNeededFor_a7421 (l : Launch) (E : EV) (x v : Nat) (n : Int) (qy vy ny : Nat) (f9 : Nat → Int32) (fy : Int → Int) (hy9 : ey E = some (qy, vy, ny, f9)) (hf9 : ∀ i : Int, 0 ≤ i → i < ny → f9 i.toNat = iI (fy i) ∧ 0 ≤ fy i ∧ fy i < 128) (hny : ny ≤ 60) : Bv l yJ5_inflateIfNeededFor_a7421 (cw yJ5_inflateIfNeededFor_a7421 cJ5_inflateIfNeededFor_a7421 2 none) rm_jb_J5_inflateIfNeededFor_a7421 E [.ref x, .ref qy] [(x, .inr (5, [.ref v, .int (iI 0), .int (iI 0), .int (iI n)]))] [] (fun w t => w = [(x, .inr (5, [.ref v, .int (iI 0), .int (iI 0), .int (iI n)]))] ∧ t = []) 0 0 := by
  refine Bv_of (rm := rm_jb_J5_inflateIfNeededFor_a7421) (mL := 2) (b := cJ5_inflateIfNeededFor_a7421) RJ5 rfl (by decide +kernel) [(0, .ref x), (1, .ref qy)] rfl (Nat.le_of_ble_eq_true rfl) (fun p_ e_ s_ m_ a_ b_ h_ c_ Q A C hnm hret => ?_)
  refine b_comp5 C rfl dJ5_inflateIfNeededFor_a7421_0 (q := 3) rfl ?_
  refine b_if_eq C dJ5_inflateIfNeededFor_a7421_3 (by omega) (q2 := 21) rfl (q := 6) rfl (fun hb1 => ?_) (fun hb1 => ?_)
  · skip
    exfalso; omega
  · skip
    refine b_aload_n C dJ5_inflateIfNeededFor_a7421_6 0 rfl rfl (q := 7) rfl ?_
    refine b_get_coder C rfl 0 rfl dJ5_inflateIfNeededFor_a7421_7 (q := 10) rfl ?_
    refine b_aload_n C dJ5_inflateIfNeededFor_a7421_10 1 rfl rfl (q := 11) rfl ?_
    refine b_cD_i C (nA := 0) (As := []) (jb_J0_coder_7d493 l E qy vy ny f9 fy hy9 hf9 hny) hy9 mlj_J5_40 mfj_J0_coder_7d493 rfl rfl ⟨(Nat.le_of_ble_eq_true rfl), (Nat.le_of_ble_eq_true rfl)⟩ rfl rfl rfl (Nat.le_of_ble_eq_true rfl) (by show 0 + 0 ≤ 0 ∧ 0 + 0 ≤ 0; omega) dJ5_inflateIfNeededFor_a7421_11 (q := 14) rfl [] [0] [] (wr := [(x, .inr (5, [.ref v, .int (iI 0), .int (iI 0), .int (iI n)]))]) rfl rfl rfl rfl (by decide) rfl (fun r1 w1 tb1 hr1 => ?_)
    obtain ⟨rfl, rfl, rfl⟩ := hr1
    refine b_world (tb2 := []) (ws2 := [(x, .inr (5, [.ref v, .int (iI 0), .int (iI 0), .int (iI n)]))]) rfl rfl ?_
    refine b_icmp_eq C dJ5_inflateIfNeededFor_a7421_14 (by omega) (q2 := 21) rfl (q := 17) rfl (fun hb2 => ?_) (fun hb2 => ?_)
    · skip
      exact hret _ _ _ _ _ _ (by omega) (by omega) dJ5_inflateIfNeededFor_a7421_21 ⟨rfl, rfl⟩
    · skip
      exfalso; omega
abbrev rm_jb_J0_getBytes_840e7 : Room := { frames := 1, cells := 0, slots := 0, locals := 60 }
set_option maxRecDepth 100000 in
set_option maxHeartbeats 2000000 in
theorem jb_J0_getBytes_840e7 (l : Launch) (E : EV) (qy vy ny : Nat) (f9 : Nat → Int32) (fy : Int → Int) (hy9 : ey E = some (qy, vy, ny, f9)) (hf9 : ∀ i : Int, 0 ≤ i → i < ny → f9 i.toNat = iI (fy i) ∧ 0 ≤ fy i ∧ fy i < 128) (hny : ny ≤ 60) (v : Nat) (cA : ClassId) (m : Nat) (g : Int → Int) (dp : Int) (hd : 0 ≤ dp ∧ dp + ny ≤ m ∧ m ≤ 130) : Bv l yJ0_getBytes_840e7 (cw yJ0_getBytes_840e7 cJ0_getBytes_840e7 4 none) rm_jb_J0_getBytes_840e7 E [.ref qy, .ref v, .int (iI dp), .int (iI 0)] [(v, .inl (cA, m, .inl (af g)))] [(cA, .byte)] (fun w t => w = [(v, .inl (cA, m, .inl (af (cpf fy g 0 dp ny))))] ∧ t = []) 0 0 := by
  refine Bv_of (rm := rm_jb_J0_getBytes_840e7) (mL := 4) (b := cJ0_getBytes_840e7) RJ0 rfl (by decide +kernel) [(0, .ref qy), (1, .ref v), (2, .int (iI dp)), (3, .int (iI 0))] rfl (Nat.le_of_ble_eq_true rfl) (fun p_ e_ s_ m_ a_ b_ h_ c_ Q A C hnm hret => ?_)
  refine b_aload_n C dJ0_getBytes_840e7_0 0 rfl rfl (q := 1) rfl ?_
  refine b_cD_i C (nA := 0) (As := []) (jb_J0_coder_7d493 l E qy vy ny f9 fy hy9 hf9 hny) hy9 mlj_J0_335 mfj_J0_coder_7d493 rfl rfl ⟨(Nat.le_of_ble_eq_true rfl), (Nat.le_of_ble_eq_true rfl)⟩ rfl rfl rfl (Nat.le_of_ble_eq_true rfl) (by show 0 + 0 ≤ 0 ∧ 0 + 0 ≤ 0; omega) dJ0_getBytes_840e7_1 (q := 4) rfl [] [0] [] (wr := [(v, .inl (cA, m, .inl (af g)))]) rfl rfl rfl rfl (by decide) rfl (fun r1 w1 tb1 hr1 => ?_)
  obtain ⟨rfl, rfl, rfl⟩ := hr1
  refine b_world (tb2 := [(cA, .byte)]) (ws2 := [(v, .inl (cA, m, .inl (af g)))]) rfl rfl ?_
  refine b_iload_n C dJ0_getBytes_840e7_4 3 rfl rfl (q := 5) rfl ?_
  refine b_icmp_ne C dJ0_getBytes_840e7_5 (by omega) (q2 := 28) rfl (q := 8) rfl (fun hb1 => ?_) (fun hb1 => ?_)
  · skip
    exfalso; omega
  · skip
    refine b_aload_n C dJ0_getBytes_840e7_8 0 rfl rfl (q := 9) rfl ?_
    refine b_dval C rfl hy9 dJ0_getBytes_840e7_9 (q := 12) rfl ?_
    refine b_iconst C (z := 0) dJ0_getBytes_840e7_12 (q := 13) rfl ?_
    refine b_aload_n C dJ0_getBytes_840e7_13 1 rfl rfl (q := 14) rfl ?_
    refine b_iload_n C dJ0_getBytes_840e7_14 2 rfl rfl (q := 15) rfl ?_
    refine b_iload_n C dJ0_getBytes_840e7_15 3 rfl rfl (q := 16) rfl ?_
    refine b_ishl0 C dJ0_getBytes_840e7_16 (q := 17) rfl ?_
    refine b_aload_n C dJ0_getBytes_840e7_17 0 rfl rfl (q := 18) rfl ?_
    refine b_dval C rfl hy9 dJ0_getBytes_840e7_18 (q := 21) rfl ?_
    refine b_dlen C hy9 dJ0_getBytes_840e7_21 (q := 22) rfl ?_
    refine b_copyt C mlj_J0_212 hy9 0 0 hf9 rfl rfl (by omega) (Nat.le_of_ble_eq_true rfl) (Nat.le_of_ble_eq_true rfl) dJ0_getBytes_840e7_22 (q := 25) rfl (ws2 := [(v, .inl (cA, m, .inl (af (cpf fy g 0 dp ny))))]) rfl ?_
    refine b_goto C dJ0_getBytes_840e7_25 (q := 43) rfl ?_
    refine b_drop (ws2 := [(v, .inl (cA, m, .inl (af (cpf fy g 0 dp ny))))]) (tb2 := []) [0] [] rfl rfl rfl ?_
    exact hret _ _ _ _ _ _ (by omega) (by omega) dJ0_getBytes_840e7_43 ⟨rfl, rfl⟩
abbrev rm_jb_J5_putStringAt_47b60 : Room := { frames := 2, cells := 0, slots := 0, locals := 83 }
set_option maxRecDepth 100000 in
set_option maxHeartbeats 2000000 in
theorem jb_J5_putStringAt_47b60 (l : Launch) (E : EV) (x v : Nat) (cA : ClassId) (m : Nat) (g : Int → Int) (n : Int) (hb : BG g n) (hn : 0 ≤ n ∧ n ≤ m ∧ m ≤ 130) (qy vy ny : Nat) (f9 : Nat → Int32) (fy : Int → Int) (hy9 : ey E = some (qy, vy, ny, f9)) (hf9 : ∀ i : Int, 0 ≤ i → i < ny → f9 i.toNat = iI (fy i) ∧ 0 ≤ fy i ∧ fy i < 128) (hny : ny ≤ 60) (ix : Int) (hix : 0 ≤ ix ∧ ix + ny ≤ m) : Bv l yJ5_putStringAt_47b60 (cw yJ5_putStringAt_47b60 cJ5_putStringAt_47b60 3 none) rm_jb_J5_putStringAt_47b60 E [.ref x, .int (iI ix), .ref qy] [(x, .inr (5, [.ref v, .int (iI 0), .int (iI 0), .int (iI n)])), (v, .inl (cA, m, .inl (af g)))] [(cA, .byte)] (fun w t => w = [(x, .inr (5, [.ref v, .int (iI 0), .int (iI 0), .int (iI n)])), (v, .inl (cA, m, .inl (af (cpf fy g 0 ix ny))))] ∧ t = []) 0 0 := by
  refine Bv_of (rm := rm_jb_J5_putStringAt_47b60) (mL := 3) (b := cJ5_putStringAt_47b60) RJ5 rfl (by decide +kernel) [(0, .ref x), (1, .int (iI ix)), (2, .ref qy)] rfl (Nat.le_of_ble_eq_true rfl) (fun p_ e_ s_ m_ a_ b_ h_ c_ Q A C hnm hret => ?_)
  refine b_aload_n C dJ5_putStringAt_47b60_0 0 rfl rfl (q := 1) rfl ?_
  refine b_aload_n C dJ5_putStringAt_47b60_1 2 rfl rfl (q := 2) rfl ?_
  refine b_cU_v C (nA := 1) (As := [.ref qy]) (jb_J5_inflateIfNeededFor_a7421 l E x v n qy vy ny f9 fy hy9 hf9 hny) 0 gU_J5_397 rfl (by decide +kernel) rfl rfl ⟨(Nat.le_of_ble_eq_true rfl), (Nat.le_of_ble_eq_true rfl)⟩ rfl rfl rfl (Nat.le_of_ble_eq_true rfl) (by show 0 + 0 ≤ 0 ∧ 0 + 0 ≤ 0; omega) dJ5_putStringAt_47b60_2 (q := 5) rfl [0] [1] [] (wr := [(v, .inl (cA, m, .inl (af g)))]) rfl rfl rfl rfl (by decide) rfl (fun w1 tb1 hr1 => ?_)
  obtain ⟨rfl, rfl⟩ := hr1
  refine b_world (tb2 := [(cA, .byte)]) (ws2 := [(v, .inl (cA, m, .inl (af g))), (x, .inr (5, [.ref v, .int (iI 0), .int (iI 0), .int (iI n)]))]) rfl rfl ?_
  refine b_aload_n C dJ5_putStringAt_47b60_5 2 rfl rfl (q := 6) rfl ?_
  refine b_aload_n C dJ5_putStringAt_47b60_6 0 rfl rfl (q := 7) rfl ?_
  refine b_get_value C rfl 1 rfl dJ5_putStringAt_47b60_7 (q := 10) rfl ?_
  refine b_iload_n C dJ5_putStringAt_47b60_10 1 rfl rfl (q := 11) rfl ?_
  refine b_aload_n C dJ5_putStringAt_47b60_11 0 rfl rfl (q := 12) rfl ?_
  refine b_get_coder C rfl 1 rfl dJ5_putStringAt_47b60_12 (q := 15) rfl ?_
  refine b_cD_v C (nA := 3) (As := [.ref v, .int (iI ix), .int (iI 0)]) (jb_J0_getBytes_840e7 l E qy vy ny f9 fy hy9 hf9 hny v cA m g ix (by omega)) hy9 mlj_J5_399 mfj_J0_getBytes_840e7 rfl rfl ⟨(Nat.le_of_ble_eq_true rfl), (Nat.le_of_ble_eq_true rfl)⟩ rfl rfl rfl (Nat.le_of_ble_eq_true rfl) (by show 0 + 0 ≤ 0 ∧ 0 + 0 ≤ 0; omega) dJ5_putStringAt_47b60_15 (q := 18) rfl [0] [1] [0] (wr := [(x, .inr (5, [.ref v, .int (iI 0), .int (iI 0), .int (iI n)]))]) rfl rfl rfl rfl (by decide) rfl (fun w1 tb1 hr1 => ?_)
  obtain ⟨rfl, rfl⟩ := hr1
  refine b_world (tb2 := [(cA, .byte)]) (ws2 := [(x, .inr (5, [.ref v, .int (iI 0), .int (iI 0), .int (iI n)])), (v, .inl (cA, m, .inl (af (cpf fy g 0 ix ny))))]) rfl rfl ?_
  refine b_drop (ws2 := [(x, .inr (5, [.ref v, .int (iI 0), .int (iI 0), .int (iI n)])), (v, .inl (cA, m, .inl (af (cpf fy g 0 ix ny))))]) (tb2 := []) [0, 1] [] rfl rfl rfl ?_
  exact hret _ _ _ _ _ _ (by omega) (by omega) dJ5_putStringAt_47b60_18 ⟨rfl, rfl⟩
abbrev rm_jb_J5_append_cf1ce : Room := { frames := 4, cells := 1, slots := 130, locals := 110 }
set_option maxRecDepth 100000 in
set_option maxHeartbeats 2000000 in
theorem jb_J5_append_cf1ce (l : Launch) (E : EV) (x v : Nat) (cA : ClassId) (m : Nat) (g : Int → Int) (n : Int) (hb : BG g n) (hn : 0 ≤ n ∧ n ≤ m ∧ m ≤ 130) (qy vy ny : Nat) (f9 : Nat → Int32) (fy : Int → Int) (hy9 : ey E = some (qy, vy, ny, f9)) (hf9 : ∀ i : Int, 0 ≤ i → i < ny → f9 i.toNat = iI (fy i) ∧ 0 ≤ fy i ∧ fy i < 128) (hny : ny ≤ 60) (hc9 : ∀ i : Int, 0 ≤ i → i < ny → 32 ≤ fy i ∧ fy i ≤ 126 ∧ fy i ≠ 117) (hs : n + ny ≤ 60) : Br l yJ5_append_cf1ce (cw yJ5_append_cf1ce cJ5_append_cf1ce 3 (some (.object "java/lang/AbstractStringBuilder"))) rm_jb_J5_append_cf1ce E [.ref x, .ref qy] [(x, .inr (5, [.ref v, .int (iI 0), .int (iI 0), .int (iI n)])), (v, .inl (cA, m, .inl (af g)))] [(cA, .byte)] (fun r w t => x = r ∧ SBR x (n + ny) w t) 1 130 := by
  refine Br_of (rm := rm_jb_J5_append_cf1ce) (mL := 3) (b := cJ5_append_cf1ce) (Or.inl ⟨_, rfl⟩) RJ5 rfl (by decide +kernel) [(0, .ref x), (1, .ref qy)] rfl (Nat.le_of_ble_eq_true rfl) (fun p_ e_ s_ m_ a_ b_ h_ c_ Q A C hnm hret => ?_)
  refine b_aload_n C dJ5_append_cf1ce_0 1 rfl rfl (q := 1) rfl ?_
  refine b_ifnn C dJ5_append_cf1ce_1 (q := 9) rfl ?_
  refine b_aload_n C dJ5_append_cf1ce_9 1 rfl rfl (q := 10) rfl ?_
  refine b_cD_i C (nA := 0) (As := []) (jb_J0_length_8abf5 l E qy vy ny f9 fy hy9 hf9 hny) hy9 mlj_J5_32 mfj_J0_length_8abf5 rfl rfl ⟨(Nat.le_of_ble_eq_true rfl), (Nat.le_of_ble_eq_true rfl)⟩ rfl rfl rfl (Nat.le_of_ble_eq_true rfl) (by show 0 + 0 ≤ 1 ∧ 0 + 0 ≤ 130; omega) dJ5_append_cf1ce_10 (q := 13) rfl [] [0, 1] [] (wr := [(x, .inr (5, [.ref v, .int (iI 0), .int (iI 0), .int (iI n)])), (v, .inl (cA, m, .inl (af g)))]) rfl rfl rfl rfl (by decide) rfl (fun r1 w1 tb1 hr1 => ?_)
  obtain ⟨rfl, rfl, rfl⟩ := hr1
  refine b_world (tb2 := [(cA, .byte)]) (ws2 := [(x, .inr (5, [.ref v, .int (iI 0), .int (iI 0), .int (iI n)])), (v, .inl (cA, m, .inl (af g)))]) rfl rfl ?_
  refine b_istore_n C (L' := [(2, .int (iI ny)), (0, .ref x), (1, .ref qy)]) dJ5_append_cf1ce_13 rfl (by decide) rfl (q := 14) rfl ?_
  refine b_aload_n C dJ5_append_cf1ce_14 1 rfl rfl (q := 15) rfl ?_
  refine b_aload_n C dJ5_append_cf1ce_15 1 rfl rfl (q := 16) rfl ?_
  refine b_get_count C rfl 0 rfl dJ5_append_cf1ce_16 (q := 19) rfl ?_
  refine b_iload_n C dJ5_append_cf1ce_19 0 rfl rfl (q := 20) rfl ?_
  refine b_iadd C dJ5_append_cf1ce_20 (q := 21) rfl ?_
  refine b_cU_v C (nA := 1) (As := [.int (iI (n + ny))]) (jb_J5_ensureCapacityInternal_d00df l E x v cA m g n hb (by omega) (n + ny) (by omega)) 0 gU_J5_100 rfl (by decide +kernel) rfl rfl ⟨(Nat.le_of_ble_eq_true rfl), (Nat.le_of_ble_eq_true rfl)⟩ rfl rfl rfl (Nat.le_of_ble_eq_true rfl) (by show 0 + 1 ≤ 1 ∧ 0 + 130 ≤ 130; omega) dJ5_append_cf1ce_21 (q := 24) rfl [0, 1] [] [0] (wr := []) rfl rfl rfl rfl (by decide) rfl (fun w1 tb1 hr1 => ?_)
  obtain ⟨v5, cA5, m5, g5, rfl, rfl, hb5, hn5, hm5, hi5⟩ := hr1
  refine b_world (tb2 := [(cA, .byte), (cA5, .byte)]) (ws2 := [(x, .inr (5, [.ref v5, .int (iI 0), .int (iI 0), .int (iI n)])), (v5, .inl (cA5, m5, .inl (af g5)))]) rfl rfl ?_
  refine b_wide (k2 := 1) (n2 := 130) (by omega) (by omega) ?_
  refine b_aload_n C dJ5_append_cf1ce_24 1 rfl rfl (q := 25) rfl ?_
  refine b_aload_n C dJ5_append_cf1ce_25 1 rfl rfl (q := 26) rfl ?_
  refine b_get_count C rfl 0 rfl dJ5_append_cf1ce_26 (q := 29) rfl ?_
  refine b_aload_n C dJ5_append_cf1ce_29 2 rfl rfl (q := 30) rfl ?_
  refine b_cU_v C (nA := 2) (As := [.int (iI n), .ref qy]) (jb_J5_putStringAt_47b60 l E x v5 cA5 m5 g5 n hb5 (by omega) qy vy ny f9 fy hy9 hf9 hny n (by omega)) 0 gU_J5_208 rfl (by decide +kernel) rfl rfl ⟨(Nat.le_of_ble_eq_true rfl), (Nat.le_of_ble_eq_true rfl)⟩ rfl rfl rfl (Nat.le_of_ble_eq_true rfl) (by show 1 + 0 ≤ 1 ∧ 130 + 0 ≤ 130; omega) dJ5_append_cf1ce_30 (q := 33) rfl [0, 1] [] [1] (wr := []) rfl rfl rfl rfl (by decide) rfl (fun w1 tb1 hr1 => ?_)
  obtain ⟨rfl, rfl⟩ := hr1
  refine b_world (tb2 := [(cA, .byte), (cA5, .byte)]) (ws2 := [(x, .inr (5, [.ref v5, .int (iI 0), .int (iI 0), .int (iI n)])), (v5, .inl (cA5, m5, .inl (af (cpf fy g5 0 n ny))))]) rfl rfl ?_
  refine b_wide (k2 := 1) (n2 := 130) (by omega) (by omega) ?_
  refine b_aload_n C dJ5_append_cf1ce_33 1 rfl rfl (q := 34) rfl ?_
  refine b_dup C dJ5_append_cf1ce_34 rfl (q := 35) rfl ?_
  refine b_get_count C rfl 0 rfl dJ5_append_cf1ce_35 (q := 38) rfl ?_
  refine b_iload_n C dJ5_append_cf1ce_38 0 rfl rfl (q := 39) rfl ?_
  refine b_iadd C dJ5_append_cf1ce_39 (q := 40) rfl ?_
  refine b_put_count C rfl 0 rfl dJ5_append_cf1ce_40 (q := 43) rfl (ws2 := [(x, .inr (5, [.ref v5, .int (iI 0), .int (iI 0), .int (iI (n + ny))])), (v5, .inl (cA5, m5, .inl (af (cpf fy g5 0 n ny))))]) rfl ?_
  refine b_aload_n C dJ5_append_cf1ce_43 1 rfl rfl (q := 44) rfl ?_
  refine b_drop (ws2 := [(x, .inr (5, [.ref v5, .int (iI 0), .int (iI 0), .int (iI (n + ny))])), (v5, .inl (cA5, m5, .inl (af (cpf fy g5 0 n ny))))]) (tb2 := [(cA5, .byte)]) [0, 1] [1] rfl rfl rfl ?_
  exact hret _ _ _ _ _ _ _ (by omega) (by omega) dJ5_append_cf1ce_44 ⟨rfl, _, _, _, _, rfl, rfl, BG_st hb5 (fun i h1 h2 => (hf9 i h1 h2).2) hc9, by omega, by omega⟩
abbrev rm_jb_J4_append_15ec4 : Room := { frames := 5, cells := 1, slots := 130, locals := 132 }
set_option maxRecDepth 100000 in
set_option maxHeartbeats 2000000 in
theorem jb_J4_append_15ec4 (l : Launch) (E : EV) (x v : Nat) (cA : ClassId) (m : Nat) (g : Int → Int) (n : Int) (hb : BG g n) (hn : 0 ≤ n ∧ n ≤ m ∧ m ≤ 130) (qy vy ny : Nat) (f9 : Nat → Int32) (fy : Int → Int) (hy9 : ey E = some (qy, vy, ny, f9)) (hf9 : ∀ i : Int, 0 ≤ i → i < ny → f9 i.toNat = iI (fy i) ∧ 0 ≤ fy i ∧ fy i < 128) (hny : ny ≤ 60) (hc9 : ∀ i : Int, 0 ≤ i → i < ny → 32 ≤ fy i ∧ fy i ≤ 126 ∧ fy i ≠ 117) (hs : n + ny ≤ 60) : Br l yJ4_append_15ec4 (cw yJ4_append_15ec4 cJ4_append_15ec4 2 (some (.object "java/lang/StringBuilder"))) rm_jb_J4_append_15ec4 E [.ref x, .ref qy] [(x, .inr (5, [.ref v, .int (iI 0), .int (iI 0), .int (iI n)])), (v, .inl (cA, m, .inl (af g)))] [(cA, .byte)] (fun r w t => x = r ∧ SBR x (n + ny) w t) 1 130 := by
  refine Br_of (rm := rm_jb_J4_append_15ec4) (mL := 2) (b := cJ4_append_15ec4) (Or.inl ⟨_, rfl⟩) RJ4 rfl (by decide +kernel) [(0, .ref x), (1, .ref qy)] rfl (Nat.le_of_ble_eq_true rfl) (fun p_ e_ s_ m_ a_ b_ h_ c_ Q A C hnm hret => ?_)
  refine b_aload_n C dJ4_append_15ec4_0 0 rfl rfl (q := 1) rfl ?_
  refine b_aload_n C dJ4_append_15ec4_1 1 rfl rfl (q := 2) rfl ?_
  refine b_cP_r C (nA := 1) (As := [.ref qy]) (jb_J5_append_cf1ce l E x v cA m g n hb (by omega) qy vy ny f9 fy hy9 hf9 hny hc9 hs) 0 gP_J4_29 ⟨⟨by decide +kernel, by decide +kernel⟩, by decide +kernel⟩ (by decide +kernel) rfl rfl ⟨(Nat.le_of_ble_eq_true rfl), (Nat.le_of_ble_eq_true rfl)⟩ rfl rfl rfl (Nat.le_of_ble_eq_true rfl) (by show 0 + 1 ≤ 1 ∧ 0 + 130 ≤ 130; omega) dJ4_append_15ec4_2 (q := 5) rfl [0, 1] [] [0] (wr := []) rfl rfl rfl rfl (by decide) rfl (fun x5 w1 tb1 hr1 => ?_)
  obtain ⟨rfl, v5, cA5, m5, g5, rfl, rfl, hb5, hn5, hm5⟩ := hr1
  refine b_world (tb2 := [(cA, .byte), (cA5, .byte)]) (ws2 := [(x, .inr (5, [.ref v5, .int (iI 0), .int (iI 0), .int (iI (n + ny))])), (v5, .inl (cA5, m5, .inl (af g5)))]) rfl rfl ?_
  refine b_wide (k2 := 1) (n2 := 130) (by omega) (by omega) ?_
  refine b_pop C dJ4_append_15ec4_5 rfl (q := 6) rfl ?_
  refine b_aload_n C dJ4_append_15ec4_6 0 rfl rfl (q := 7) rfl ?_
  refine b_drop (ws2 := [(x, .inr (5, [.ref v5, .int (iI 0), .int (iI 0), .int (iI (n + ny))])), (v5, .inl (cA5, m5, .inl (af g5)))]) (tb2 := [(cA5, .byte)]) [0, 1] [1] rfl rfl rfl ?_
  exact hret _ _ _ _ _ _ _ (by omega) (by omega) dJ4_append_15ec4_7 ⟨rfl, v5, cA5, m5, g5, rfl, rfl, hb5, hn5, hm5⟩
abbrev rm_jb_J6_stringSize_0f7a4 : Room := { frames := 0, cells := 0, slots := 0, locals := 0 }
set_option maxRecDepth 100000 in
set_option maxHeartbeats 2000000 in
theorem jb_J6_stringSize_0f7a4 (l : Launch) (E : EV) (a : Int) (ha : 0 ≤ a ∧ a < 100) : Bi l yJ6_stringSize_0f7a4 (cw yJ6_stringSize_0f7a4 cJ6_stringSize_0f7a4 4 (some .int)) rm_jb_J6_stringSize_0f7a4 E [.int (iI a)] [] [] (fun r w t => ∃ z : Int, r = iI z ∧ ((a < 10 ∧ z = 1) ∨ (10 ≤ a ∧ z = 2)) ∧ w = [] ∧ t = []) 0 0 := by
  refine Bi_of (rm := rm_jb_J6_stringSize_0f7a4) (mL := 4) (b := cJ6_stringSize_0f7a4) RJ6 rfl (by decide +kernel) [(0, .int (iI a))] rfl (Nat.le_of_ble_eq_true rfl) (fun p_ e_ s_ m_ a_ b_ h_ c_ Q A C hnm hret => ?_)
  refine b_iconst C (z := 1) dJ6_stringSize_0f7a4_0 (q := 1) rfl ?_
  refine b_istore_n C (L' := [(1, .int (iI 1)), (0, .int (iI a))]) dJ6_stringSize_0f7a4_1 rfl (by decide) rfl (q := 2) rfl ?_
  refine b_iload_n C dJ6_stringSize_0f7a4_2 1 rfl rfl (q := 3) rfl ?_
  refine b_if_lt C dJ6_stringSize_0f7a4_3 (by omega) (q2 := 11) rfl (q := 6) rfl (fun hb1 => ?_) (fun hb1 => ?_)
  · skip
    exfalso; omega
  · skip
    refine b_iconst C (z := 0) dJ6_stringSize_0f7a4_6 (q := 7) rfl ?_
    refine b_istore_n C (L' := [(1, .int (iI 0)), (0, .int (iI a))]) dJ6_stringSize_0f7a4_7 rfl (by decide) rfl (q := 8) rfl ?_
    refine b_iload_n C dJ6_stringSize_0f7a4_8 1 rfl rfl (q := 9) rfl ?_
    refine b_ineg C dJ6_stringSize_0f7a4_9 (q := 10) rfl ?_
    refine b_istore_n C (L' := [(0, .int (iI (-a))), (1, .int (iI 0))]) dJ6_stringSize_0f7a4_10 rfl (by decide) rfl (q := 11) rfl ?_
    refine b_bipush C (z := (-10)) dJ6_stringSize_0f7a4_11 (by decide) (q := 13) rfl ?_
    refine b_istore_n C (L' := [(2, .int (iI (-10))), (0, .int (iI (-a))), (1, .int (iI 0))]) dJ6_stringSize_0f7a4_13 rfl (by decide) rfl (q := 14) rfl ?_
    refine b_iconst C (z := 1) dJ6_stringSize_0f7a4_14 (q := 15) rfl ?_
    refine b_istore_n C (L' := [(3, .int (iI 1)), (2, .int (iI (-10))), (0, .int (iI (-a))), (1, .int (iI 0))]) dJ6_stringSize_0f7a4_15 rfl (by decide) rfl (q := 16) rfl ?_
    refine b_iload_n C dJ6_stringSize_0f7a4_16 0 rfl rfl (q := 17) rfl ?_
    refine b_bipush C (z := 10) dJ6_stringSize_0f7a4_17 (by decide) (q := 19) rfl ?_
    refine b_icmp_ge C dJ6_stringSize_0f7a4_19 (by omega) (q2 := 42) rfl (q := 22) rfl (fun hb2 => ?_) (fun hb2 => ?_)
    · skip
      exfalso; omega
    · skip
      refine b_iload_n C dJ6_stringSize_0f7a4_22 2 rfl rfl (q := 23) rfl ?_
      refine b_iload_n C dJ6_stringSize_0f7a4_23 1 rfl rfl (q := 24) rfl ?_
      refine b_icmp_le C dJ6_stringSize_0f7a4_24 (by omega) (q2 := 31) rfl (q := 27) rfl (fun hb3 => ?_) (fun hb3 => ?_)
      · skip
        refine b_bipush C (z := 10) dJ6_stringSize_0f7a4_31 (by decide) (q := 33) rfl ?_
        refine b_iload_n C dJ6_stringSize_0f7a4_33 1 rfl rfl (q := 34) rfl ?_
        refine b_imul C dJ6_stringSize_0f7a4_34 (q := 35) rfl ?_
        refine b_top (b := (-100)) (by decide) ?_
        refine b_istore_n C (L' := [(2, .int (iI (-100))), (3, .int (iI 1)), (0, .int (iI (-a))), (1, .int (iI 0))]) dJ6_stringSize_0f7a4_35 rfl (by decide) rfl (q := 36) rfl ?_
        refine b_iinc C (L' := [(3, .int (iI (1 + 1))), (2, .int (iI (-100))), (0, .int (iI (-a))), (1, .int (iI 0))]) dJ6_stringSize_0f7a4_36 1 rfl (by decide) rfl (q := 39) rfl ?_
        refine b_loc (L' := [(3, .int (iI 2)), (2, .int (iI (-100))), (0, .int (iI (-a))), (1, .int (iI 0))]) rfl ?_
        refine b_goto C dJ6_stringSize_0f7a4_39 (q := 16) rfl ?_
        refine b_iload_n C dJ6_stringSize_0f7a4_16 0 rfl rfl (q := 17) rfl ?_
        refine b_bipush C (z := 10) dJ6_stringSize_0f7a4_17 (by decide) (q := 19) rfl ?_
        refine b_icmp_ge C dJ6_stringSize_0f7a4_19 (by omega) (q2 := 42) rfl (q := 22) rfl (fun hb4 => ?_) (fun hb4 => ?_)
        · skip
          exfalso; omega
        · skip
          refine b_iload_n C dJ6_stringSize_0f7a4_22 2 rfl rfl (q := 23) rfl ?_
          refine b_iload_n C dJ6_stringSize_0f7a4_23 1 rfl rfl (q := 24) rfl ?_
          refine b_icmp_le C dJ6_stringSize_0f7a4_24 (by omega) (q2 := 31) rfl (q := 27) rfl (fun hb5 => ?_) (fun hb5 => ?_)
          · skip
            exfalso; omega
          · skip
            refine b_iload_n C dJ6_stringSize_0f7a4_27 0 rfl rfl (q := 28) rfl ?_
            refine b_iload_n C dJ6_stringSize_0f7a4_28 3 rfl rfl (q := 29) rfl ?_
            refine b_iadd C dJ6_stringSize_0f7a4_29 (q := 30) rfl ?_
            refine b_top (b := 2) (by decide) ?_
            exact hret _ _ _ _ _ _ _ (by omega) (by omega) dJ6_stringSize_0f7a4_30 ⟨_, rfl, by omega, rfl, rfl⟩
      · skip
        refine b_iload_n C dJ6_stringSize_0f7a4_27 0 rfl rfl (q := 28) rfl ?_
        refine b_iload_n C dJ6_stringSize_0f7a4_28 3 rfl rfl (q := 29) rfl ?_
        refine b_iadd C dJ6_stringSize_0f7a4_29 (q := 30) rfl ?_
        refine b_top (b := 1) (by decide) ?_
        exact hret _ _ _ _ _ _ _ (by omega) (by omega) dJ6_stringSize_0f7a4_30 ⟨_, rfl, by omega, rfl, rfl⟩
abbrev rm_jb_J6_getChars_ba4f3 : Room := { frames := 0, cells := 0, slots := 0, locals := 0 }
set_option maxRecDepth 100000 in
set_option maxHeartbeats 2000000 in
theorem jb_J6_getChars_ba4f3 (l : Launch) (E : EV) (v : Nat) (cA : ClassId) (m : Nat) (g : Int → Int) (n a ix : Int) (hb : BG g n) (hn : 0 ≤ n ∧ ix ≤ m ∧ m ≤ 130) (ha : 0 ≤ a ∧ a < 100) (hs : (a < 10 ∧ ix = n + 1) ∨ (10 ≤ a ∧ ix = n + 2)) : Bi l yJ6_getChars_ba4f3 (cw yJ6_getChars_ba4f3 cJ6_getChars_ba4f3 7 (some .int)) rm_jb_J6_getChars_ba4f3 E [.int (iI a), .int (iI ix), .ref v] [(v, .inl (cA, m, .inl (af g)))] [(cA, .byte)] (fun r w t => ∃ (z : Int) (g' : Int → Int), r = iI z ∧ w = [(v, .inl (cA, m, .inl (af g')))] ∧ t = [] ∧ BG g' ix) 0 0 := by
  refine Bi_of (rm := rm_jb_J6_getChars_ba4f3) (mL := 7) (b := cJ6_getChars_ba4f3) RJ6 rfl (by decide +kernel) [(0, .int (iI a)), (1, .int (iI ix)), (2, .ref v)] rfl (Nat.le_of_ble_eq_true rfl) (fun p_ e_ s_ m_ a_ b_ h_ c_ Q A C hnm hret => ?_)
  refine b_iload_n C dJ6_getChars_ba4f3_0 1 rfl rfl (q := 1) rfl ?_
  refine b_istore C (L' := [(5, .int (iI ix)), (0, .int (iI a)), (1, .int (iI ix)), (2, .ref v)]) dJ6_getChars_ba4f3_1 (by decide) rfl (q := 3) rfl ?_
  refine b_iload_n C dJ6_getChars_ba4f3_3 1 rfl rfl (q := 4) rfl ?_
  refine b_if_ge C dJ6_getChars_ba4f3_4 (by omega) (q2 := 11) rfl (q := 7) rfl (fun hb1 => ?_) (fun hb1 => ?_)
  · skip
    refine b_iconst C (z := 0) dJ6_getChars_ba4f3_11 (q := 12) rfl ?_
    refine b_istore C (L' := [(6, .int (iI 0)), (5, .int (iI ix)), (0, .int (iI a)), (1, .int (iI ix)), (2, .ref v)]) dJ6_getChars_ba4f3_12 (by decide) rfl (q := 14) rfl ?_
    refine b_iload C dJ6_getChars_ba4f3_14 0 rfl (q := 16) rfl ?_
    refine b_if_ne C dJ6_getChars_ba4f3_16 (by omega) (q2 := 22) rfl (q := 19) rfl (fun hb2 => ?_) (fun hb2 => ?_)
    · skip
      exfalso; omega
    · skip
      refine b_iload_n C dJ6_getChars_ba4f3_19 2 rfl rfl (q := 20) rfl ?_
      refine b_ineg C dJ6_getChars_ba4f3_20 (q := 21) rfl ?_
      refine b_istore_n C (L' := [(0, .int (iI (-a))), (6, .int (iI 0)), (5, .int (iI ix)), (1, .int (iI ix)), (2, .ref v)]) dJ6_getChars_ba4f3_21 rfl (by decide) rfl (q := 22) rfl ?_
      refine b_iload_n C dJ6_getChars_ba4f3_22 0 rfl rfl (q := 23) rfl ?_
      refine b_bipush C (z := (-100)) dJ6_getChars_ba4f3_23 (by decide) (q := 25) rfl ?_
      refine b_icmp_gt C dJ6_getChars_ba4f3_25 (by omega) (q2 := 72) rfl (q := 28) rfl (fun hb3 => ?_) (fun hb3 => ?_)
      · skip
        refine b_aload_n C dJ6_getChars_ba4f3_72 4 rfl rfl (q := 73) rfl ?_
        refine b_iinc C (L' := [(5, .int (iI (ix + (-1)))), (0, .int (iI (-a))), (6, .int (iI 0)), (1, .int (iI ix)), (2, .ref v)]) dJ6_getChars_ba4f3_73 2 rfl (by decide) rfl (q := 76) rfl ?_
        refine b_iload C dJ6_getChars_ba4f3_76 0 rfl (q := 78) rfl ?_
        refine b_done C rfl (i := a) (by omega) dJ6_getChars_ba4f3_78 (fun t8 hba8 => ?_)
        refine b_iload_n C dJ6_getChars_ba4f3_81 1 rfl rfl (q := 82) rfl ?_
        refine b_ineg C dJ6_getChars_ba4f3_82 (q := 83) rfl ?_
        refine b_top (b := a) (by omega) ?_
        refine hba8 dJ6_getChars_ba4f3_83 rfl ?_
        refine b_bast C 0 0 rfl rfl (by omega) (by omega) dJ6_getChars_ba4f3_84 (q := 85) rfl (ws2 := [(v, .inl (cA, m, .inl (af (pt g (ix + (-1)) (48 + a % 10)))))]) rfl ?_
        refine b_iload_n C dJ6_getChars_ba4f3_85 1 rfl rfl (q := 86) rfl ?_
        refine b_bipush C (z := (-9)) dJ6_getChars_ba4f3_86 (by decide) (q := 88) rfl ?_
        refine b_icmp_ge C dJ6_getChars_ba4f3_88 (by omega) (q2 := 104) rfl (q := 91) rfl (fun hb4 => ?_) (fun hb4 => ?_)
        · skip
          refine b_iload C dJ6_getChars_ba4f3_104 2 rfl (q := 106) rfl ?_
          refine b_if_eq C dJ6_getChars_ba4f3_106 (by omega) (q2 := 118) rfl (q := 109) rfl (fun hb5 => ?_) (fun hb5 => ?_)
          · skip
            refine b_iload C dJ6_getChars_ba4f3_118 0 rfl (q := 120) rfl ?_
            refine b_drop (ws2 := [(v, .inl (cA, m, .inl (af (pt g (ix + (-1)) (48 + a % 10)))))]) (tb2 := []) [0] [] rfl rfl rfl ?_
            exact hret _ _ _ _ _ _ _ (by omega) (by omega) dJ6_getChars_ba4f3_120 ⟨_, _, rfl, rfl, rfl, by first | exact BG_d1 hb (by omega) (by omega) | exact BG_d2 hb (by omega) (by omega) (by omega)⟩
          · skip
            exfalso; omega
        · skip
          refine b_aload_n C dJ6_getChars_ba4f3_91 4 rfl rfl (q := 92) rfl ?_
          refine b_iinc C (L' := [(5, .int (iI (ix + (-1) + (-1)))), (0, .int (iI (-a))), (6, .int (iI 0)), (1, .int (iI ix)), (2, .ref v)]) dJ6_getChars_ba4f3_92 0 rfl (by decide) rfl (q := 95) rfl ?_
          refine b_iload C dJ6_getChars_ba4f3_95 0 rfl (q := 97) rfl ?_
          refine b_dten C rfl (i := a) (by omega) dJ6_getChars_ba4f3_97 (fun t8 hba8 => ?_)
          refine b_iload_n C dJ6_getChars_ba4f3_100 1 rfl rfl (q := 101) rfl ?_
          refine b_ineg C dJ6_getChars_ba4f3_101 (q := 102) rfl ?_
          refine b_top (b := a) (by omega) ?_
          refine hba8 dJ6_getChars_ba4f3_102 rfl ?_
          refine b_bast C 0 0 rfl rfl (by omega) (by omega) dJ6_getChars_ba4f3_103 (q := 104) rfl (ws2 := [(v, .inl (cA, m, .inl (af (pt (pt g (ix + (-1)) (48 + a % 10)) (ix + (-1) + (-1)) (48 + a / 10)))))]) rfl ?_
          refine b_iload C dJ6_getChars_ba4f3_104 2 rfl (q := 106) rfl ?_
          refine b_if_eq C dJ6_getChars_ba4f3_106 (by omega) (q2 := 118) rfl (q := 109) rfl (fun hb6 => ?_) (fun hb6 => ?_)
          · skip
            refine b_iload C dJ6_getChars_ba4f3_118 0 rfl (q := 120) rfl ?_
            refine b_drop (ws2 := [(v, .inl (cA, m, .inl (af (pt (pt g (ix + (-1)) (48 + a % 10)) (ix + (-1) + (-1)) (48 + a / 10)))))]) (tb2 := []) [0] [] rfl rfl rfl ?_
            exact hret _ _ _ _ _ _ _ (by omega) (by omega) dJ6_getChars_ba4f3_120 ⟨_, _, rfl, rfl, rfl, by first | exact BG_d1 hb (by omega) (by omega) | exact BG_d2 hb (by omega) (by omega) (by omega)⟩
          · skip
            exfalso; omega
      · skip
        exfalso; omega
  · skip
    exfalso; omega
abbrev rm_jb_J5_isLatin1_aae02 : Room := { frames := 0, cells := 0, slots := 0, locals := 0 }
set_option maxRecDepth 100000 in
set_option maxHeartbeats 2000000 in
theorem jb_J5_isLatin1_aae02 (l : Launch) (E : EV) (x v : Nat) (n : Int) : Bi l yJ5_isLatin1_aae02 (cw yJ5_isLatin1_aae02 cJ5_isLatin1_aae02 1 (some .boolean)) rm_jb_J5_isLatin1_aae02 E [.ref x] [(x, .inr (5, [.ref v, .int (iI 0), .int (iI 0), .int (iI n)]))] [] (fun r w t => r = iI 1 ∧ w = [(x, .inr (5, [.ref v, .int (iI 0), .int (iI 0), .int (iI n)]))] ∧ t = []) 0 0 := by
  refine Bz_of (rm := rm_jb_J5_isLatin1_aae02) (mL := 1) (b := cJ5_isLatin1_aae02) RJ5 rfl (by decide +kernel) [(0, .ref x)] rfl (Nat.le_of_ble_eq_true rfl) (fun p_ e_ s_ m_ a_ b_ h_ c_ Q A C hnm hret => ?_)
  refine b_comp5 C rfl dJ5_isLatin1_aae02_0 (q := 3) rfl ?_
  refine b_if_eq C dJ5_isLatin1_aae02_3 (by omega) (q2 := 17) rfl (q := 6) rfl (fun hb1 => ?_) (fun hb1 => ?_)
  · skip
    exfalso; omega
  · skip
    refine b_aload_n C dJ5_isLatin1_aae02_6 0 rfl rfl (q := 7) rfl ?_
    refine b_get_coder C rfl 0 rfl dJ5_isLatin1_aae02_7 (q := 10) rfl ?_
    refine b_if_ne C dJ5_isLatin1_aae02_10 (by omega) (q2 := 17) rfl (q := 13) rfl (fun hb2 => ?_) (fun hb2 => ?_)
    · skip
      exfalso; omega
    · skip
      refine b_iconst C (z := 1) dJ5_isLatin1_aae02_13 (q := 14) rfl ?_
      refine b_goto C dJ5_isLatin1_aae02_14 (q := 18) rfl ?_
      exact hret _ _ _ _ _ _ _ (by omega) (by omega) dJ5_isLatin1_aae02_18 (by omega) ⟨rfl, rfl, rfl⟩
abbrev rm_jb_J5_append_c97b9 : Room := { frames := 4, cells := 1, slots := 130, locals := 110 }
set_option maxRecDepth 100000 in
set_option maxHeartbeats 2000000 in
theorem jb_J5_append_c97b9 (l : Launch) (E : EV) (x v : Nat) (cA : ClassId) (m : Nat) (g : Int → Int) (n : Int) (hb : BG g n) (hn : 0 ≤ n ∧ n ≤ m ∧ m ≤ 130) (a : Int) (ha : 0 ≤ a ∧ a < 100) (hs : n + 2 ≤ 60) : Br l yJ5_append_c97b9 (cw yJ5_append_c97b9 cJ5_append_c97b9 4 (some (.object "java/lang/AbstractStringBuilder"))) rm_jb_J5_append_c97b9 E [.ref x, .int (iI a)] [(x, .inr (5, [.ref v, .int (iI 0), .int (iI 0), .int (iI n)])), (v, .inl (cA, m, .inl (af g)))] [(cA, .byte)] (fun r w t => ∃ nn : Int, n + 1 ≤ nn ∧ nn ≤ n + 2 ∧ x = r ∧ SBR x nn w t) 1 130 := by
  refine Br_of (rm := rm_jb_J5_append_c97b9) (mL := 4) (b := cJ5_append_c97b9) (Or.inl ⟨_, rfl⟩) RJ5 rfl (by decide +kernel) [(0, .ref x), (1, .int (iI a))] rfl (Nat.le_of_ble_eq_true rfl) (fun p_ e_ s_ m_ a_ b_ h_ c_ Q A C hnm hret => ?_)
  refine b_aload_n C dJ5_append_c97b9_0 0 rfl rfl (q := 1) rfl ?_
  refine b_get_count C rfl 0 rfl dJ5_append_c97b9_1 (q := 4) rfl ?_
  refine b_istore_n C (L' := [(2, .int (iI n)), (0, .ref x), (1, .int (iI a))]) dJ5_append_c97b9_4 rfl (by decide) rfl (q := 5) rfl ?_
  refine b_iload_n C dJ5_append_c97b9_5 0 rfl rfl (q := 6) rfl ?_
  refine b_iload_n C dJ5_append_c97b9_6 2 rfl rfl (q := 7) rfl ?_
  refine b_cS_i C (nA := 1) (As := [.int (iI a)]) (jb_J6_stringSize_0f7a4 l E a ha) mlj_J5_245 mfj_J6_stringSize_0f7a4 rfl ⟨(Nat.le_of_ble_eq_true rfl), (Nat.le_of_ble_eq_true rfl)⟩ rfl rfl rfl (Nat.le_of_ble_eq_true rfl) (by show 0 + 0 ≤ 1 ∧ 0 + 0 ≤ 130; omega) dJ5_append_c97b9_7 (q := 10) rfl [] [0, 1] [] (wr := [(x, .inr (5, [.ref v, .int (iI 0), .int (iI 0), .int (iI n)])), (v, .inl (cA, m, .inl (af g)))]) rfl rfl rfl rfl (by decide) rfl (fun r1 w1 tb1 hr1 => ?_)
  obtain ⟨z6, rfl, hz6, rfl, rfl⟩ := hr1
  refine b_world (tb2 := [(cA, .byte)]) (ws2 := [(x, .inr (5, [.ref v, .int (iI 0), .int (iI 0), .int (iI n)])), (v, .inl (cA, m, .inl (af g)))]) rfl rfl ?_
  refine b_iadd C dJ5_append_c97b9_10 (q := 11) rfl ?_
  refine b_istore_n C (L' := [(3, .int (iI (n + z6))), (2, .int (iI n)), (0, .ref x), (1, .int (iI a))]) dJ5_append_c97b9_11 rfl (by decide) rfl (q := 12) rfl ?_
  refine b_aload_n C dJ5_append_c97b9_12 2 rfl rfl (q := 13) rfl ?_
  refine b_iload_n C dJ5_append_c97b9_13 0 rfl rfl (q := 14) rfl ?_
  refine b_cU_v C (nA := 1) (As := [.int (iI (n + z6))]) (jb_J5_ensureCapacityInternal_d00df l E x v cA m g n hb (by omega) (n + z6) (by omega)) 0 gU_J5_100 rfl (by decide +kernel) rfl rfl ⟨(Nat.le_of_ble_eq_true rfl), (Nat.le_of_ble_eq_true rfl)⟩ rfl rfl rfl (Nat.le_of_ble_eq_true rfl) (by show 0 + 1 ≤ 1 ∧ 0 + 130 ≤ 130; omega) dJ5_append_c97b9_14 (q := 17) rfl [0, 1] [] [0] (wr := []) rfl rfl rfl rfl (by decide) rfl (fun w1 tb1 hr1 => ?_)
  obtain ⟨v5, cA5, m5, g5, rfl, rfl, hb5, hn5, hm5, hi5⟩ := hr1
  refine b_world (tb2 := [(cA, .byte), (cA5, .byte)]) (ws2 := [(x, .inr (5, [.ref v5, .int (iI 0), .int (iI 0), .int (iI n)])), (v5, .inl (cA5, m5, .inl (af g5)))]) rfl rfl ?_
  refine b_wide (k2 := 1) (n2 := 130) (by omega) (by omega) ?_
  refine b_aload_n C dJ5_append_c97b9_17 2 rfl rfl (q := 18) rfl ?_
  refine b_cU_i C (nA := 0) (As := []) (jb_J5_isLatin1_aae02 l E x v5 n) 0 gU_J5_83 rfl (by decide +kernel) rfl rfl ⟨(Nat.le_of_ble_eq_true rfl), (Nat.le_of_ble_eq_true rfl)⟩ rfl rfl rfl (Nat.le_of_ble_eq_true rfl) (by show 1 + 0 ≤ 1 ∧ 130 + 0 ≤ 130; omega) dJ5_append_c97b9_18 (q := 21) rfl [0] [1] [] (wr := [(v5, .inl (cA5, m5, .inl (af g5)))]) rfl rfl rfl rfl (by decide) rfl (fun r1 w1 tb1 hr1 => ?_)
  obtain ⟨rfl, rfl, rfl⟩ := hr1
  refine b_world (tb2 := [(cA, .byte), (cA5, .byte)]) (ws2 := [(v5, .inl (cA5, m5, .inl (af g5))), (x, .inr (5, [.ref v5, .int (iI 0), .int (iI 0), .int (iI n)]))]) rfl rfl ?_
  refine b_wide (k2 := 1) (n2 := 130) (by omega) (by omega) ?_
  refine b_if_eq C dJ5_append_c97b9_21 (by omega) (q2 := 37) rfl (q := 24) rfl (fun hb1 => ?_) (fun hb1 => ?_)
  · skip
    exfalso; omega
  · skip
    refine b_iload_n C dJ5_append_c97b9_24 3 rfl rfl (q := 25) rfl ?_
    refine b_iload_n C dJ5_append_c97b9_25 0 rfl rfl (q := 26) rfl ?_
    refine b_aload_n C dJ5_append_c97b9_26 2 rfl rfl (q := 27) rfl ?_
    refine b_get_value C rfl 1 rfl dJ5_append_c97b9_27 (q := 30) rfl ?_
    refine b_cS_i C (nA := 3) (As := [.int (iI a), .int (iI (n + z6)), .ref v5]) (jb_J6_getChars_ba4f3 l E v5 cA5 m5 g5 n a (n + z6) hb5 (by omega) ha (by omega)) mlj_J5_248 mfj_J6_getChars_ba4f3 rfl ⟨(Nat.le_of_ble_eq_true rfl), (Nat.le_of_ble_eq_true rfl)⟩ rfl rfl rfl (Nat.le_of_ble_eq_true rfl) (by show 1 + 0 ≤ 1 ∧ 130 + 0 ≤ 130; omega) dJ5_append_c97b9_30 (q := 33) rfl [0] [1] [1] (wr := [(x, .inr (5, [.ref v5, .int (iI 0), .int (iI 0), .int (iI n)]))]) rfl rfl rfl rfl (by decide) rfl (fun r1 w1 tb1 hr1 => ?_)
    obtain ⟨z8, g8, rfl, rfl, rfl, hb8⟩ := hr1
    refine b_world (tb2 := [(cA, .byte), (cA5, .byte)]) (ws2 := [(x, .inr (5, [.ref v5, .int (iI 0), .int (iI 0), .int (iI n)])), (v5, .inl (cA5, m5, .inl (af g8)))]) rfl rfl ?_
    refine b_wide (k2 := 1) (n2 := 130) (by omega) (by omega) ?_
    refine b_pop C dJ5_append_c97b9_33 rfl (q := 34) rfl ?_
    refine b_goto C dJ5_append_c97b9_34 (q := 48) rfl ?_
    refine b_aload_n C dJ5_append_c97b9_48 2 rfl rfl (q := 49) rfl ?_
    refine b_iload_n C dJ5_append_c97b9_49 0 rfl rfl (q := 50) rfl ?_
    refine b_put_count C rfl 0 rfl dJ5_append_c97b9_50 (q := 53) rfl (ws2 := [(x, .inr (5, [.ref v5, .int (iI 0), .int (iI 0), .int (iI (n + z6))])), (v5, .inl (cA5, m5, .inl (af g8)))]) rfl ?_
    refine b_aload_n C dJ5_append_c97b9_53 2 rfl rfl (q := 54) rfl ?_
    refine b_drop (ws2 := [(x, .inr (5, [.ref v5, .int (iI 0), .int (iI 0), .int (iI (n + z6))])), (v5, .inl (cA5, m5, .inl (af g8)))]) (tb2 := [(cA5, .byte)]) [0, 1] [1] rfl rfl rfl ?_
    exact hret _ _ _ _ _ _ _ (by omega) (by omega) dJ5_append_c97b9_54 ⟨_, by omega, by omega, rfl, _, _, _, _, rfl, rfl, hb8, by omega, by omega⟩
abbrev rm_jb_J4_append_bf812 : Room := { frames := 5, cells := 1, slots := 130, locals := 133 }
set_option maxRecDepth 100000 in
set_option maxHeartbeats 2000000 in
theorem jb_J4_append_bf812 (l : Launch) (E : EV) (x v : Nat) (cA : ClassId) (m : Nat) (g : Int → Int) (n : Int) (hb : BG g n) (hn : 0 ≤ n ∧ n ≤ m ∧ m ≤ 130) (a : Int) (ha : 0 ≤ a ∧ a < 100) (hs : n + 2 ≤ 60) : Br l yJ4_append_bf812 (cw yJ4_append_bf812 cJ4_append_bf812 2 (some (.object "java/lang/StringBuilder"))) rm_jb_J4_append_bf812 E [.ref x, .int (iI a)] [(x, .inr (5, [.ref v, .int (iI 0), .int (iI 0), .int (iI n)])), (v, .inl (cA, m, .inl (af g)))] [(cA, .byte)] (fun r w t => ∃ nn : Int, n + 1 ≤ nn ∧ nn ≤ n + 2 ∧ x = r ∧ SBR x nn w t) 1 130 := by
  refine Br_of (rm := rm_jb_J4_append_bf812) (mL := 2) (b := cJ4_append_bf812) (Or.inl ⟨_, rfl⟩) RJ4 rfl (by decide +kernel) [(0, .ref x), (1, .int (iI a))] rfl (Nat.le_of_ble_eq_true rfl) (fun p_ e_ s_ m_ a_ b_ h_ c_ Q A C hnm hret => ?_)
  refine b_aload_n C dJ4_append_bf812_0 0 rfl rfl (q := 1) rfl ?_
  refine b_iload_n C dJ4_append_bf812_1 1 rfl rfl (q := 2) rfl ?_
  refine b_cP_r C (nA := 1) (As := [.int (iI a)]) (jb_J5_append_c97b9 l E x v cA m g n hb (by omega) a ha hs) 0 gP_J4_53 ⟨⟨by decide +kernel, by decide +kernel⟩, by decide +kernel⟩ (by decide +kernel) rfl rfl ⟨(Nat.le_of_ble_eq_true rfl), (Nat.le_of_ble_eq_true rfl)⟩ rfl rfl rfl (Nat.le_of_ble_eq_true rfl) (by show 0 + 1 ≤ 1 ∧ 0 + 130 ≤ 130; omega) dJ4_append_bf812_2 (q := 5) rfl [0, 1] [] [0] (wr := []) rfl rfl rfl rfl (by decide) rfl (fun x5 w1 tb1 hr1 => ?_)
  obtain ⟨nn5, h5a, h5b, rfl, v5, cA5, m5, g5, rfl, rfl, hb5, hn5, hm5⟩ := hr1
  refine b_world (tb2 := [(cA, .byte), (cA5, .byte)]) (ws2 := [(x, .inr (5, [.ref v5, .int (iI 0), .int (iI 0), .int (iI nn5)])), (v5, .inl (cA5, m5, .inl (af g5)))]) rfl rfl ?_
  refine b_wide (k2 := 1) (n2 := 130) (by omega) (by omega) ?_
  refine b_pop C dJ4_append_bf812_5 rfl (q := 6) rfl ?_
  refine b_aload_n C dJ4_append_bf812_6 0 rfl rfl (q := 7) rfl ?_
  refine b_drop (ws2 := [(x, .inr (5, [.ref v5, .int (iI 0), .int (iI 0), .int (iI nn5)])), (v5, .inl (cA5, m5, .inl (af g5)))]) (tb2 := [(cA5, .byte)]) [0, 1] [1] rfl rfl rfl ?_
  exact hret _ _ _ _ _ _ _ (by omega) (by omega) dJ4_append_bf812_7 ⟨nn5, h5a, h5b, rfl, v5, cA5, m5, g5, rfl, rfl, hb5, hn5, hm5⟩
abbrev rm_jb_J5_getValue_6d5f1 : Room := { frames := 0, cells := 0, slots := 0, locals := 0 }
set_option maxRecDepth 100000 in
set_option maxHeartbeats 2000000 in
theorem jb_J5_getValue_6d5f1 (l : Launch) (E : EV) (x v : Nat) (n : Int) : Br l yJ5_getValue_6d5f1 (cw yJ5_getValue_6d5f1 cJ5_getValue_6d5f1 1 (some (.array .byte))) rm_jb_J5_getValue_6d5f1 E [.ref x] [(x, .inr (5, [.ref v, .int (iI 0), .int (iI 0), .int (iI n)]))] [] (fun r w t => v = r ∧ w = [(x, .inr (5, [.ref v, .int (iI 0), .int (iI 0), .int (iI n)]))] ∧ t = []) 0 0 := by
  refine Br_of (rm := rm_jb_J5_getValue_6d5f1) (mL := 1) (b := cJ5_getValue_6d5f1) (Or.inr ⟨_, rfl⟩) RJ5 rfl (by decide +kernel) [(0, .ref x)] rfl (Nat.le_of_ble_eq_true rfl) (fun p_ e_ s_ m_ a_ b_ h_ c_ Q A C hnm hret => ?_)
  refine b_aload_n C dJ5_getValue_6d5f1_0 0 rfl rfl (q := 1) rfl ?_
  refine b_get_value C rfl 0 rfl dJ5_getValue_6d5f1_1 (q := 4) rfl ?_
  exact hret _ _ _ _ _ _ _ (by omega) (by omega) dJ5_getValue_6d5f1_4 ⟨rfl, rfl, rfl⟩
abbrev rm_jb_J5_length_8abf5 : Room := { frames := 0, cells := 0, slots := 0, locals := 0 }
set_option maxRecDepth 100000 in
set_option maxHeartbeats 2000000 in
theorem jb_J5_length_8abf5 (l : Launch) (E : EV) (x v : Nat) (n : Int) : Bi l yJ5_length_8abf5 (cw yJ5_length_8abf5 cJ5_length_8abf5 1 (some .int)) rm_jb_J5_length_8abf5 E [.ref x] [(x, .inr (5, [.ref v, .int (iI 0), .int (iI 0), .int (iI n)]))] [] (fun r w t => r = iI n ∧ w = [(x, .inr (5, [.ref v, .int (iI 0), .int (iI 0), .int (iI n)]))] ∧ t = []) 0 0 := by
  refine Bi_of (rm := rm_jb_J5_length_8abf5) (mL := 1) (b := cJ5_length_8abf5) RJ5 rfl (by decide +kernel) [(0, .ref x)] rfl (Nat.le_of_ble_eq_true rfl) (fun p_ e_ s_ m_ a_ b_ h_ c_ Q A C hnm hret => ?_)
  refine b_aload_n C dJ5_length_8abf5_0 0 rfl rfl (q := 1) rfl ?_
  refine b_get_count C rfl 0 rfl dJ5_length_8abf5_1 (q := 4) rfl ?_
  exact hret _ _ _ _ _ _ _ (by omega) (by omega) dJ5_length_8abf5_4 ⟨rfl, rfl, rfl⟩
abbrev rm_jb_J4_length_8abf5 : Room := { frames := 1, cells := 0, slots := 0, locals := 20 }
set_option maxRecDepth 100000 in
set_option maxHeartbeats 2000000 in
theorem jb_J4_length_8abf5 (l : Launch) (E : EV) (x v : Nat) (n : Int) : Bi l yJ4_length_8abf5 (cw yJ4_length_8abf5 cJ4_length_8abf5 1 (some .int)) rm_jb_J4_length_8abf5 E [.ref x] [(x, .inr (5, [.ref v, .int (iI 0), .int (iI 0), .int (iI n)]))] [] (fun r w t => r = iI n ∧ w = [(x, .inr (5, [.ref v, .int (iI 0), .int (iI 0), .int (iI n)]))] ∧ t = []) 0 0 := by
  refine Bi_of (rm := rm_jb_J4_length_8abf5) (mL := 1) (b := cJ4_length_8abf5) RJ4 rfl (by decide +kernel) [(0, .ref x)] rfl (Nat.le_of_ble_eq_true rfl) (fun p_ e_ s_ m_ a_ b_ h_ c_ Q A C hnm hret => ?_)
  refine b_aload_n C dJ4_length_8abf5_0 0 rfl rfl (q := 1) rfl ?_
  refine b_cP_i C (nA := 0) (As := []) (jb_J5_length_8abf5 l E x v n) 0 gP_J4_343 ⟨⟨by decide +kernel, by decide +kernel⟩, by decide +kernel⟩ (by decide +kernel) rfl rfl ⟨(Nat.le_of_ble_eq_true rfl), (Nat.le_of_ble_eq_true rfl)⟩ rfl rfl rfl (Nat.le_of_ble_eq_true rfl) (by show 0 + 0 ≤ 0 ∧ 0 + 0 ≤ 0; omega) dJ4_length_8abf5_1 (q := 4) rfl [0] [] [] (wr := []) rfl rfl rfl rfl (by decide) rfl (fun r1 w1 tb1 hr1 => ?_)
  obtain ⟨rfl, rfl, rfl⟩ := hr1
  refine b_world (tb2 := []) (ws2 := [(x, .inr (5, [.ref v, .int (iI 0), .int (iI 0), .int (iI n)]))]) rfl rfl ?_
  exact hret _ _ _ _ _ _ _ (by omega) (by omega) dJ4_length_8abf5_4 ⟨rfl, rfl, rfl⟩
abbrev rm_jb_J7_checkLength_df160 : Room := { frames := 0, cells := 0, slots := 0, locals := 0 }
set_option maxRecDepth 100000 in
set_option maxHeartbeats 2000000 in
theorem jb_J7_checkLength_df160 (l : Launch) (E : EV) (a b : Int) (ha : 0 ≤ a ∧ a ≤ b ∧ b ≤ 1000) : Bv l yJ7_checkLength_df160 (cw yJ7_checkLength_df160 cJ7_checkLength_df160 2 none) rm_jb_J7_checkLength_df160 E [.int (iI a), .int (iI b)] [] [] (fun w t => w = [] ∧ t = []) 0 0 := by
  refine Bv_of (rm := rm_jb_J7_checkLength_df160) (mL := 2) (b := cJ7_checkLength_df160) RJ7 rfl (by decide +kernel) [(0, .int (iI a)), (1, .int (iI b))] rfl (Nat.le_of_ble_eq_true rfl) (fun p_ e_ s_ m_ a_ b_ h_ c_ Q A C hnm hret => ?_)
  refine b_iload_n C dJ7_checkLength_df160_0 1 rfl rfl (q := 1) rfl ?_
  refine b_iload_n C dJ7_checkLength_df160_1 0 rfl rfl (q := 2) rfl ?_
  refine b_icmp_ge C dJ7_checkLength_df160_2 (by omega) (q2 := 37) rfl (q := 5) rfl (fun hb1 => ?_) (fun hb1 => ?_)
  · skip
    exact hret _ _ _ _ _ _ (by omega) (by omega) dJ7_checkLength_df160_37 ⟨rfl, rfl⟩
  · skip
    exfalso; omega
abbrev rm_jb_J7_copyOfRangeByte_39247 : Room := { frames := 1, cells := 1, slots := 130, locals := 60 }
set_option maxRecDepth 100000 in
set_option maxHeartbeats 2000000 in
theorem jb_J7_copyOfRangeByte_39247 (l : Launch) (E : EV) (v : Nat) (cA : ClassId) (m : Nat) (g : Int → Int) (n : Int) (hb : BG g n) (hn : 0 ≤ n ∧ n ≤ m ∧ m ≤ 130) : Br l yJ7_copyOfRangeByte_39247 (cw yJ7_copyOfRangeByte_39247 cJ7_copyOfRangeByte_39247 5 (some (.array .byte))) rm_jb_J7_copyOfRangeByte_39247 E [.ref v, .int (iI 0), .int (iI n)] [(v, .inl (cA, m, .inl (af g)))] [(cA, .byte)] (fun r w t => ∃ (cB : ClassId) (N : Nat) (h : Int → Int), w = [(v, .inl (cA, m, .inl (af g))), (r, .inl (cB, N, .inl (af h)))] ∧ t = [(cB, .byte)] ∧ (N : Int) = n ∧ BG h n) 1 130 := by
  refine Br_of (rm := rm_jb_J7_copyOfRangeByte_39247) (mL := 5) (b := cJ7_copyOfRangeByte_39247) (Or.inr ⟨_, rfl⟩) RJ7 rfl (by decide +kernel) [(0, .ref v), (1, .int (iI 0)), (2, .int (iI n))] rfl (Nat.le_of_ble_eq_true rfl) (fun p_ e_ s_ m_ a_ b_ h_ c_ Q A C hnm hret => ?_)
  refine b_iload_n C dJ7_copyOfRangeByte_39247_0 1 rfl rfl (q := 1) rfl ?_
  refine b_iload_n C dJ7_copyOfRangeByte_39247_1 2 rfl rfl (q := 2) rfl ?_
  refine b_cS_v C (nA := 2) (As := [.int (iI 0), .int (iI n)]) (jb_J7_checkLength_df160 l E 0 n (by omega)) mlj_J7_343 mfj_J7_checkLength_df160 rfl ⟨(Nat.le_of_ble_eq_true rfl), (Nat.le_of_ble_eq_true rfl)⟩ rfl rfl rfl (Nat.le_of_ble_eq_true rfl) (by show 0 + 0 ≤ 1 ∧ 0 + 0 ≤ 130; omega) dJ7_copyOfRangeByte_39247_2 (q := 5) rfl [] [0] [] (wr := [(v, .inl (cA, m, .inl (af g)))]) rfl rfl rfl rfl (by decide) rfl (fun w1 tb1 hr1 => ?_)
  obtain ⟨rfl, rfl⟩ := hr1
  refine b_world (tb2 := [(cA, .byte)]) (ws2 := [(v, .inl (cA, m, .inl (af g)))]) rfl rfl ?_
  refine b_iload_n C dJ7_copyOfRangeByte_39247_5 2 rfl rfl (q := 6) rfl ?_
  refine b_iload_n C dJ7_copyOfRangeByte_39247_6 1 rfl rfl (q := 7) rfl ?_
  refine b_isub C dJ7_copyOfRangeByte_39247_7 (q := 8) rfl ?_
  refine b_top (b := n) (by omega) ?_
  refine b_istore_n C (L' := [(3, .int (iI n)), (0, .ref v), (1, .int (iI 0)), (2, .int (iI n))]) dJ7_copyOfRangeByte_39247_8 rfl (by decide) rfl (q := 9) rfl ?_
  refine b_iload_n C dJ7_copyOfRangeByte_39247_9 0 rfl rfl (q := 10) rfl ?_
  refine b_newa C (N := n) (by omega) (by show 0 + 1 ≤ 1 ∧ 0 + (n : Int).toNat ≤ 130; omega) dJ7_copyOfRangeByte_39247_10 (q := 12) rfl (fun y cB => ?_)
  refine b_world (tb2 := [(cA, .byte), (cB, .byte)]) (ws2 := [(v, .inl (cA, m, .inl (af g))), (y, .inl (cB, ((n : Int).toNat), .inl (af (fun _ => 0))))]) rfl rfl ?_
  refine b_astore C (L' := [(4, .ref y), (3, .int (iI n)), (0, .ref v), (1, .int (iI 0)), (2, .int (iI n))]) dJ7_copyOfRangeByte_39247_12 (by decide) rfl (q := 14) rfl ?_
  refine b_aload_n C dJ7_copyOfRangeByte_39247_14 2 rfl rfl (q := 15) rfl ?_
  refine b_iload_n C dJ7_copyOfRangeByte_39247_15 3 rfl rfl (q := 16) rfl ?_
  refine b_aload C dJ7_copyOfRangeByte_39247_16 0 rfl (q := 18) rfl ?_
  refine b_iconst C (z := 0) dJ7_copyOfRangeByte_39247_18 (q := 19) rfl ?_
  refine b_aload_n C dJ7_copyOfRangeByte_39247_19 2 rfl rfl (q := 20) rfl ?_
  refine b_alen C 0 0 rfl rfl dJ7_copyOfRangeByte_39247_20 (q := 21) rfl ?_
  refine b_iload_n C dJ7_copyOfRangeByte_39247_21 3 rfl rfl (q := 22) rfl ?_
  refine b_isub C dJ7_copyOfRangeByte_39247_22 (q := 23) rfl ?_
  refine b_iload_n C dJ7_copyOfRangeByte_39247_23 1 rfl rfl (q := 24) rfl ?_
  refine b_min C mlj_J7_304 (by omega) dJ7_copyOfRangeByte_39247_24 (Nat.le_of_ble_eq_true rfl) (Nat.le_of_ble_eq_true rfl) (by show 1 ≤ 1 ∧ 0 + (n : Int).toNat ≤ 130; omega) (q := 27) rfl ?_
  refine b_top (b := n) (by omega) ?_
  refine b_copy C mlj_J7_150 0 1 0 1 rfl rfl rfl rfl (by omega) hb.1 (Nat.le_of_ble_eq_true rfl) (Nat.le_of_ble_eq_true rfl) dJ7_copyOfRangeByte_39247_27 (q := 30) rfl (ws2 := [(v, .inl (cA, m, .inl (af g))), (y, .inl (cB, ((n : Int).toNat), .inl (af (cpf g (fun _ => 0) 0 0 n))))]) rfl ?_
  refine b_aload C dJ7_copyOfRangeByte_39247_30 0 rfl (q := 32) rfl ?_
  refine b_drop (ws2 := [(v, .inl (cA, m, .inl (af g))), (y, .inl (cB, ((n : Int).toNat), .inl (af (cpf g (fun _ => 0) 0 0 n))))]) (tb2 := [(cB, .byte)]) [0, 1] [1] rfl rfl rfl ?_
  exact hret _ _ _ _ _ _ _ (by omega) (by omega) dJ7_copyOfRangeByte_39247_32 ⟨cB, _, _, rfl, rfl, by omega, BG_cp (by omega) hb⟩
abbrev rm_jb_J7_copyOfRange_39247 : Room := { frames := 2, cells := 1, slots := 130, locals := 84 }
set_option maxRecDepth 100000 in
set_option maxHeartbeats 2000000 in
theorem jb_J7_copyOfRange_39247 (l : Launch) (E : EV) (v : Nat) (cA : ClassId) (m : Nat) (g : Int → Int) (n : Int) (hb : BG g n) (hn : 0 ≤ n ∧ n ≤ m ∧ m ≤ 130) : Br l yJ7_copyOfRange_39247 (cw yJ7_copyOfRange_39247 cJ7_copyOfRange_39247 3 (some (.array .byte))) rm_jb_J7_copyOfRange_39247 E [.ref v, .int (iI 0), .int (iI n)] [(v, .inl (cA, m, .inl (af g)))] [(cA, .byte)] (fun r w t => ∃ (cB : ClassId) (N : Nat) (h : Int → Int), w = [(v, .inl (cA, m, .inl (af g))), (r, .inl (cB, N, .inl (af h)))] ∧ t = [(cB, .byte)] ∧ (N : Int) = n ∧ BG h n) 1 130 := by
  refine Br_of (rm := rm_jb_J7_copyOfRange_39247) (mL := 3) (b := cJ7_copyOfRange_39247) (Or.inr ⟨_, rfl⟩) RJ7 rfl (by decide +kernel) [(0, .ref v), (1, .int (iI 0)), (2, .int (iI n))] rfl (Nat.le_of_ble_eq_true rfl) (fun p_ e_ s_ m_ a_ b_ h_ c_ Q A C hnm hret => ?_)
  refine b_iload_n C dJ7_copyOfRange_39247_0 1 rfl rfl (q := 1) rfl ?_
  refine b_if_ne C dJ7_copyOfRange_39247_1 (by omega) (q2 := 10) rfl (q := 4) rfl (fun hb1 => ?_) (fun hb1 => ?_)
  · skip
    exfalso; omega
  · skip
    refine b_iload_n C dJ7_copyOfRange_39247_4 2 rfl rfl (q := 5) rfl ?_
    refine b_aload_n C dJ7_copyOfRange_39247_5 0 rfl rfl (q := 6) rfl ?_
    refine b_alen C 0 0 rfl rfl dJ7_copyOfRange_39247_6 (q := 7) rfl ?_
    refine b_icmp_eq C dJ7_copyOfRange_39247_7 (by omega) (q2 := 17) rfl (q := 10) rfl (fun hb2 => ?_) (fun hb2 => ?_)
    · skip
      refine b_aload_n C dJ7_copyOfRange_39247_17 0 rfl rfl (q := 18) rfl ?_
      refine b_clone C rfl 0 0 rfl rfl hb.1 (Nat.le_of_ble_eq_true rfl) (Nat.le_of_ble_eq_true rfl) (by show 0 + 1 ≤ 1 ∧ 0 + m ≤ 130; omega) dJ7_copyOfRange_39247_18 dJ7_copyOfRange_39247_21 (q := 24) rfl (fun y => ?_)
      refine b_world (tb2 := [(cA, .byte), (cA, .byte)]) (ws2 := [(v, .inl (cA, m, .inl (af g))), (y, .inl (cA, m, .inl (af g)))]) rfl rfl ?_
      refine b_drop (ws2 := [(v, .inl (cA, m, .inl (af g))), (y, .inl (cA, m, .inl (af g)))]) (tb2 := [(cA, .byte)]) [0, 1] [1] rfl rfl rfl ?_
      exact hret _ _ _ _ _ _ _ (by omega) (by omega) dJ7_copyOfRange_39247_24 ⟨_, _, _, rfl, rfl, by omega, by first | exact hb5 | exact hb⟩
    · skip
      refine b_aload_n C dJ7_copyOfRange_39247_10 0 rfl rfl (q := 11) rfl ?_
      refine b_iload_n C dJ7_copyOfRange_39247_11 1 rfl rfl (q := 12) rfl ?_
      refine b_iload_n C dJ7_copyOfRange_39247_12 2 rfl rfl (q := 13) rfl ?_
      refine b_cS_r C (nA := 3) (As := [.ref v, .int (iI 0), .int (iI n)]) (jb_J7_copyOfRangeByte_39247 l E v cA m g n hb hn) mlj_J7_339 mfj_J7_copyOfRangeByte_39247 rfl ⟨(Nat.le_of_ble_eq_true rfl), (Nat.le_of_ble_eq_true rfl)⟩ rfl rfl rfl (Nat.le_of_ble_eq_true rfl) (by show 0 + 1 ≤ 1 ∧ 0 + 130 ≤ 130; omega) dJ7_copyOfRange_39247_13 (q := 16) rfl [0] [] [0] (wr := []) rfl rfl rfl rfl (by decide) rfl (fun y5 w1 tb1 hr1 => ?_)
      obtain ⟨cB5, N5, g5, rfl, rfl, hN5, hb5⟩ := hr1
      refine b_world (tb2 := [(cA, .byte), (cB5, .byte)]) (ws2 := [(v, .inl (cA, m, .inl (af g))), (y5, .inl (cB5, N5, .inl (af g5)))]) rfl rfl ?_
      refine b_wide (k2 := 1) (n2 := 130) (by omega) (by omega) ?_
      refine b_drop (ws2 := [(v, .inl (cA, m, .inl (af g))), (y5, .inl (cB5, N5, .inl (af g5)))]) (tb2 := [(cB5, .byte)]) [0, 1] [1] rfl rfl rfl ?_
      exact hret _ _ _ _ _ _ _ (by omega) (by omega) dJ7_copyOfRange_39247_16 ⟨_, _, _, rfl, rfl, by omega, by first | exact hb5 | exact hb⟩
abbrev rm_jb_J0_init_db425 : Room := { frames := 3, cells := 1, slots := 130, locals := 106 }
set_option maxRecDepth 100000 in
set_option maxHeartbeats 2000000 in
theorem jb_J0_init_db425 (l : Launch) (E : EV) (s : Nat) (x v : Nat) (cA : ClassId) (m : Nat) (g : Int → Int) (n : Int) (hb : BG g n) (hn : 0 ≤ n ∧ n ≤ m ∧ m ≤ 130) : Bv l yJ0_init_db425 (cw yJ0_init_db425 cJ0_init_db425 5 none) rm_jb_J0_init_db425 E [.ref s, .ref x, .null] [(s, .inr (6, [.null, .int (iI 0), .int (iI 0), .int (iI 0)])), (x, .inr (5, [.ref v, .int (iI 0), .int (iI 0), .int (iI n)])), (v, .inl (cA, m, .inl (af g)))] [(cA, .byte)] (fun w t => STR9 s n w t) 1 130 := by
  refine Bv_of (rm := rm_jb_J0_init_db425) (mL := 5) (b := cJ0_init_db425) RJ0 rfl (by decide +kernel) [(0, .ref s), (1, .ref x), (2, .null)] rfl (Nat.le_of_ble_eq_true rfl) (fun p_ e_ s_ m_ a_ b_ h_ c_ Q A C hnm hret => ?_)
  refine b_aload_n C dJ0_init_db425_0 0 rfl rfl (q := 1) rfl ?_
  refine b_obj0 C rfl dJ0_init_db425_1 ⟨(Nat.le_of_ble_eq_true rfl), (Nat.le_of_ble_eq_true rfl)⟩ (q := 4) rfl rfl ?_
  refine b_aload_n C dJ0_init_db425_4 1 rfl rfl (q := 5) rfl ?_
  refine b_cU_r C (nA := 0) (As := []) (jb_J5_getValue_6d5f1 l E x v n) 1 gU_J0_552 rfl (by decide +kernel) rfl rfl ⟨(Nat.le_of_ble_eq_true rfl), (Nat.le_of_ble_eq_true rfl)⟩ rfl rfl rfl (Nat.le_of_ble_eq_true rfl) (by show 0 + 0 ≤ 1 ∧ 0 + 0 ≤ 130; omega) dJ0_init_db425_5 (q := 8) rfl [1] [0, 2] [] (wr := [(s, .inr (6, [.null, .int (iI 0), .int (iI 0), .int (iI 0)])), (v, .inl (cA, m, .inl (af g)))]) rfl rfl rfl rfl (by decide) rfl (fun v w1 tb1 hr1 => ?_)
  obtain ⟨rfl, rfl, rfl⟩ := hr1
  refine b_world (tb2 := [(cA, .byte)]) (ws2 := [(s, .inr (6, [.null, .int (iI 0), .int (iI 0), .int (iI 0)])), (v, .inl (cA, m, .inl (af g))), (x, .inr (5, [.ref v, .int (iI 0), .int (iI 0), .int (iI n)]))]) rfl rfl ?_
  refine b_astore_n C (L' := [(3, .ref v), (0, .ref s), (1, .ref x), (2, .null)]) dJ0_init_db425_8 rfl (by decide) rfl (q := 9) rfl ?_
  refine b_aload_n C dJ0_init_db425_9 2 rfl rfl (q := 10) rfl ?_
  refine b_cO_i C (nA := 0) (As := []) (jb_J4_length_8abf5 l E x v n) (b0 := cJ5_length_8abf5) (m0 := 1) (r0 := (some .int)) 2 gO_J0_549 (WA_in (List.mem_append_right _ (List.mem_append_right _ (List.mem_append_right _ (List.mem_append_left _ (List.mem_of_getElem? (l := tables_1_4) (i := 39) (by decide +kernel)))))) rfl) (by decide +kernel) rfl rfl ⟨(Nat.le_of_ble_eq_true rfl), (Nat.le_of_ble_eq_true rfl)⟩ rfl rfl rfl (Nat.le_of_ble_eq_true rfl) (by show 0 + 0 ≤ 1 ∧ 0 + 0 ≤ 130; omega) dJ0_init_db425_10 (q := 13) rfl [2] [0, 1] [] (wr := [(s, .inr (6, [.null, .int (iI 0), .int (iI 0), .int (iI 0)])), (v, .inl (cA, m, .inl (af g)))]) rfl rfl rfl rfl (by decide) rfl (fun r1 w1 tb1 hr1 => ?_)
  obtain ⟨rfl, rfl, rfl⟩ := hr1
  refine b_world (tb2 := [(cA, .byte)]) (ws2 := [(s, .inr (6, [.null, .int (iI 0), .int (iI 0), .int (iI 0)])), (v, .inl (cA, m, .inl (af g))), (x, .inr (5, [.ref v, .int (iI 0), .int (iI 0), .int (iI n)]))]) rfl rfl ?_
  refine b_istore C (L' := [(4, .int (iI n)), (3, .ref v), (0, .ref s), (1, .ref x), (2, .null)]) dJ0_init_db425_13 (by decide) rfl (q := 15) rfl ?_
  refine b_aload_n C dJ0_init_db425_15 3 rfl rfl (q := 16) rfl ?_
  refine b_cU_i C (nA := 0) (As := []) (jb_J5_isLatin1_aae02 l E x v n) 2 gU_J0_1047 rfl (by decide +kernel) rfl rfl ⟨(Nat.le_of_ble_eq_true rfl), (Nat.le_of_ble_eq_true rfl)⟩ rfl rfl rfl (Nat.le_of_ble_eq_true rfl) (by show 0 + 0 ≤ 1 ∧ 0 + 0 ≤ 130; omega) dJ0_init_db425_16 (q := 19) rfl [2] [0, 1] [] (wr := [(s, .inr (6, [.null, .int (iI 0), .int (iI 0), .int (iI 0)])), (v, .inl (cA, m, .inl (af g)))]) rfl rfl rfl rfl (by decide) rfl (fun r1 w1 tb1 hr1 => ?_)
  obtain ⟨rfl, rfl, rfl⟩ := hr1
  refine b_world (tb2 := [(cA, .byte)]) (ws2 := [(s, .inr (6, [.null, .int (iI 0), .int (iI 0), .int (iI 0)])), (v, .inl (cA, m, .inl (af g))), (x, .inr (5, [.ref v, .int (iI 0), .int (iI 0), .int (iI n)]))]) rfl rfl ?_
  refine b_if_eq C dJ0_init_db425_19 (by omega) (q2 := 41) rfl (q := 22) rfl (fun hb1 => ?_) (fun hb1 => ?_)
  · skip
    exfalso; omega
  · skip
    refine b_aload_n C dJ0_init_db425_22 2 rfl rfl (q := 23) rfl ?_
    refine b_iconst C (z := 0) dJ0_init_db425_23 (q := 24) rfl ?_
    refine b_putF_scod C rfl hnm 0 rfl dJ0_init_db425_24 (q := 27) rfl (ws2 := [(s, .inr (6, [.null, .int (iI 0), .int (iI 0), .int (iI 0)])), (v, .inl (cA, m, .inl (af g))), (x, .inr (5, [.ref v, .int (iI 0), .int (iI 0), .int (iI n)]))]) rfl ?_
    refine b_aload_n C dJ0_init_db425_27 2 rfl rfl (q := 28) rfl ?_
    refine b_aload_n C dJ0_init_db425_28 1 rfl rfl (q := 29) rfl ?_
    refine b_iconst C (z := 0) dJ0_init_db425_29 (q := 30) rfl ?_
    refine b_iload C dJ0_init_db425_30 0 rfl (q := 32) rfl ?_
    refine b_cS_r C (nA := 3) (As := [.ref v, .int (iI 0), .int (iI n)]) (jb_J7_copyOfRange_39247 l E v cA m g n hb hn) mlj_J0_54 mfj_J7_copyOfRange_39247 rfl ⟨(Nat.le_of_ble_eq_true rfl), (Nat.le_of_ble_eq_true rfl)⟩ rfl rfl rfl (Nat.le_of_ble_eq_true rfl) (by show 0 + 1 ≤ 1 ∧ 0 + 130 ≤ 130; omega) dJ0_init_db425_32 (q := 35) rfl [1] [0, 2] [0] (wr := [(s, .inr (6, [.null, .int (iI 0), .int (iI 0), .int (iI 0)])), (x, .inr (5, [.ref v, .int (iI 0), .int (iI 0), .int (iI n)]))]) rfl rfl rfl rfl (by decide) rfl (fun y5 w1 tb1 hr1 => ?_)
    obtain ⟨cB5, N5, g5, rfl, rfl, hN5, hb5⟩ := hr1
    refine b_world (tb2 := [(cA, .byte), (cB5, .byte)]) (ws2 := [(s, .inr (6, [.null, .int (iI 0), .int (iI 0), .int (iI 0)])), (x, .inr (5, [.ref v, .int (iI 0), .int (iI 0), .int (iI n)])), (v, .inl (cA, m, .inl (af g))), (y5, .inl (cB5, N5, .inl (af g5)))]) rfl rfl ?_
    refine b_wide (k2 := 1) (n2 := 130) (by omega) (by omega) ?_
    refine b_putF_sval C rfl hnm 0 rfl dJ0_init_db425_35 (q := 38) rfl (ws2 := [(s, .inr (6, [.ref y5, .int (iI 0), .int (iI 0), .int (iI 0)])), (x, .inr (5, [.ref v, .int (iI 0), .int (iI 0), .int (iI n)])), (v, .inl (cA, m, .inl (af g))), (y5, .inl (cB5, N5, .inl (af g5)))]) rfl ?_
    refine b_goto C dJ0_init_db425_38 (q := 97) rfl ?_
    refine b_drop (ws2 := [(s, .inr (6, [.ref y5, .int (iI 0), .int (iI 0), .int (iI 0)])), (y5, .inl (cB5, N5, .inl (af g5)))]) (tb2 := [(cB5, .byte)]) [0, 3] [1] rfl rfl rfl ?_
    exact hret _ _ _ _ _ _ (by omega) (by omega) dJ0_init_db425_97 ⟨y5, cB5, N5, g5, rfl, rfl, hN5, hb5⟩
abbrev rm_jb_J0_init_81219 : Room := { frames := 4, cells := 1, slots := 130, locals := 130 }
set_option maxRecDepth 100000 in
set_option maxHeartbeats 2000000 in
theorem jb_J0_init_81219 (l : Launch) (E : EV) (s : Nat) (x v : Nat) (cA : ClassId) (m : Nat) (g : Int → Int) (n : Int) (hb : BG g n) (hn : 0 ≤ n ∧ n ≤ m ∧ m ≤ 130) : Bv l yJ0_init_81219 (cw yJ0_init_81219 cJ0_init_81219 2 none) rm_jb_J0_init_81219 E [.ref s, .ref x] [(s, .inr (6, [.null, .int (iI 0), .int (iI 0), .int (iI 0)])), (x, .inr (5, [.ref v, .int (iI 0), .int (iI 0), .int (iI n)])), (v, .inl (cA, m, .inl (af g)))] [(cA, .byte)] (fun w t => STR9 s n w t) 1 130 := by
  refine Bv_of (rm := rm_jb_J0_init_81219) (mL := 2) (b := cJ0_init_81219) RJ0 rfl (by decide +kernel) [(0, .ref s), (1, .ref x)] rfl (Nat.le_of_ble_eq_true rfl) (fun p_ e_ s_ m_ a_ b_ h_ c_ Q A C hnm hret => ?_)
  refine b_aload_n C dJ0_init_81219_0 0 rfl rfl (q := 1) rfl ?_
  refine b_aload_n C dJ0_init_81219_1 1 rfl rfl (q := 2) rfl ?_
  refine b_null C dJ0_init_81219_2 (q := 3) rfl ?_
  refine b_cI_v C (nA := 2) (As := [.ref x, .null]) (jb_J0_init_db425 l E s x v cA m g n hb hn) mlj_J0_489 mij_J0_init_db425 rfl rfl ⟨(Nat.le_of_ble_eq_true rfl), (Nat.le_of_ble_eq_true rfl)⟩ rfl rfl rfl (Nat.le_of_ble_eq_true rfl) (by show 0 + 1 ≤ 1 ∧ 0 + 130 ≤ 130; omega) dJ0_init_81219_3 (q := 6) rfl [0, 1, 2] [] [0] (wr := []) rfl rfl rfl rfl (by decide) rfl (fun w1 tb1 hr1 => ?_)
  obtain ⟨y5, cB5, N5, g5, rfl, rfl, hN5, hb5⟩ := hr1
  refine b_world (tb2 := [(cA, .byte), (cB5, .byte)]) (ws2 := [(s, .inr (6, [.ref y5, .int (iI 0), .int (iI 0), .int (iI 0)])), (y5, .inl (cB5, N5, .inl (af g5)))]) rfl rfl ?_
  refine b_wide (k2 := 1) (n2 := 130) (by omega) (by omega) ?_
  refine b_drop (ws2 := [(s, .inr (6, [.ref y5, .int (iI 0), .int (iI 0), .int (iI 0)])), (y5, .inl (cB5, N5, .inl (af g5)))]) (tb2 := [(cB5, .byte)]) [0, 1] [1] rfl rfl rfl ?_
  exact hret _ _ _ _ _ _ (by omega) (by omega) dJ0_init_81219_6 ⟨y5, cB5, N5, g5, rfl, rfl, hN5, hb5⟩
abbrev rm_jb_J4_toString_0e30d : Room := { frames := 5, cells := 2, slots := 134, locals := 151 }
set_option maxRecDepth 100000 in
set_option maxHeartbeats 2000000 in
theorem jb_J4_toString_0e30d (l : Launch) (E : EV) (x v : Nat) (cA : ClassId) (m : Nat) (g : Int → Int) (n : Int) (hb : BG g n) (hn : 0 ≤ n ∧ n ≤ m ∧ m ≤ 130) : Br l yJ4_toString_0e30d (cw yJ4_toString_0e30d cJ4_toString_0e30d 1 (some (.object "java/lang/String"))) rm_jb_J4_toString_0e30d E [.ref x] [(x, .inr (5, [.ref v, .int (iI 0), .int (iI 0), .int (iI n)])), (v, .inl (cA, m, .inl (af g)))] [(cA, .byte)] (fun r w t => STR9 r n w t) 2 134 := by
  refine Br_of (rm := rm_jb_J4_toString_0e30d) (mL := 1) (b := cJ4_toString_0e30d) (Or.inl ⟨_, rfl⟩) RJ4 rfl (by decide +kernel) [(0, .ref x)] rfl (Nat.le_of_ble_eq_true rfl) (fun p_ e_ s_ m_ a_ b_ h_ c_ Q A C hnm hret => ?_)
  refine b_newS C rfl (by show 0 + 1 ≤ 2 ∧ 0 + 4 ≤ 134; omega) dJ4_toString_0e30d_0 (q := 3) rfl (fun s => ?_)
  refine b_world (tb2 := [(cA, .byte)]) (ws2 := [(x, .inr (5, [.ref v, .int (iI 0), .int (iI 0), .int (iI n)])), (v, .inl (cA, m, .inl (af g))), (s, .inr (6, [.null, .int (iI 0), .int (iI 0), .int (iI 0)]))]) rfl rfl ?_
  refine b_dup C dJ4_toString_0e30d_3 rfl (q := 4) rfl ?_
  refine b_aload_n C dJ4_toString_0e30d_4 0 rfl rfl (q := 5) rfl ?_
  refine b_cI_v C (nA := 1) (As := [.ref x]) (jb_J0_init_81219 l E s x v cA m g n hb hn) mlj_J4_137 mij_J0_init_81219 rfl rfl ⟨(Nat.le_of_ble_eq_true rfl), (Nat.le_of_ble_eq_true rfl)⟩ rfl rfl rfl (Nat.le_of_ble_eq_true rfl) (by show 1 + 1 ≤ 2 ∧ 4 + 130 ≤ 134; omega) dJ4_toString_0e30d_5 (q := 8) rfl [2, 0, 1] [] [0] (wr := []) rfl rfl rfl rfl (by decide) rfl (fun w1 tb1 hr1 => ?_)
  obtain ⟨y5, cB5, N5, g5, rfl, rfl, hN5, hb5⟩ := hr1
  refine b_world (tb2 := [(cA, .byte), (cB5, .byte)]) (ws2 := [(s, .inr (6, [.ref y5, .int (iI 0), .int (iI 0), .int (iI 0)])), (y5, .inl (cB5, N5, .inl (af g5)))]) rfl rfl ?_
  refine b_wide (k2 := 2) (n2 := 134) (by omega) (by omega) ?_
  refine b_drop (ws2 := [(s, .inr (6, [.ref y5, .int (iI 0), .int (iI 0), .int (iI 0)])), (y5, .inl (cB5, N5, .inl (af g5)))]) (tb2 := [(cB5, .byte)]) [0, 1] [1] rfl rfl rfl ?_
  exact hret _ _ _ _ _ _ _ (by omega) (by omega) dJ4_toString_0e30d_8 ⟨y5, cB5, N5, g5, rfl, rfl, hN5, hb5⟩
abbrev rm_jb_J5_init_d00df : Room := { frames := 1, cells := 1, slots := 16, locals := 13 }
set_option maxRecDepth 100000 in
set_option maxHeartbeats 2000000 in
theorem jb_J5_init_d00df (l : Launch) (E : EV) (x : Nat) : Bv l yJ5_init_d00df (cw yJ5_init_d00df cJ5_init_d00df 2 none) rm_jb_J5_init_d00df E [.ref x, .int (iI 16)] [(x, .inr (5, [.null, .int (iI 0), .int (iI 0), .int (iI 0)]))] [] (fun w t => SBR x 0 w t) 1 16 := by
  refine Bv_of (rm := rm_jb_J5_init_d00df) (mL := 2) (b := cJ5_init_d00df) RJ5 rfl (by decide +kernel) [(0, .ref x), (1, .int (iI 16))] rfl (Nat.le_of_ble_eq_true rfl) (fun p_ e_ s_ m_ a_ b_ h_ c_ Q A C hnm hret => ?_)
  refine b_aload_n C dJ5_init_d00df_0 0 rfl rfl (q := 1) rfl ?_
  refine b_obj5 C rfl dJ5_init_d00df_1 ⟨(Nat.le_of_ble_eq_true rfl), (Nat.le_of_ble_eq_true rfl)⟩ (q := 4) rfl rfl ?_
  refine b_comp5 C rfl dJ5_init_d00df_4 (q := 7) rfl ?_
  refine b_if_eq C dJ5_init_d00df_7 (by omega) (q2 := 25) rfl (q := 10) rfl (fun hb1 => ?_) (fun hb1 => ?_)
  · skip
    exfalso; omega
  · skip
    refine b_aload_n C dJ5_init_d00df_10 0 rfl rfl (q := 11) rfl ?_
    refine b_iload_n C dJ5_init_d00df_11 1 rfl rfl (q := 12) rfl ?_
    refine b_newa C (N := 16) (by omega) (by show 0 + 1 ≤ 1 ∧ 0 + (16 : Int).toNat ≤ 16; omega) dJ5_init_d00df_12 (q := 14) rfl (fun y cB => ?_)
    refine b_world (tb2 := [(cB, .byte)]) (ws2 := [(x, .inr (5, [.null, .int (iI 0), .int (iI 0), .int (iI 0)])), (y, .inl (cB, ((16 : Int).toNat), .inl (af (fun _ => 0))))]) rfl rfl ?_
    refine b_put_value C rfl 0 rfl dJ5_init_d00df_14 (q := 17) rfl (ws2 := [(x, .inr (5, [.ref y, .int (iI 0), .int (iI 0), .int (iI 0)])), (y, .inl (cB, ((16 : Int).toNat), .inl (af (fun _ => 0))))]) rfl ?_
    refine b_aload_n C dJ5_init_d00df_17 0 rfl rfl (q := 18) rfl ?_
    refine b_iconst C (z := 0) dJ5_init_d00df_18 (q := 19) rfl ?_
    refine b_put_coder C rfl 0 rfl dJ5_init_d00df_19 (q := 22) rfl (ws2 := [(x, .inr (5, [.ref y, .int (iI 0), .int (iI 0), .int (iI 0)])), (y, .inl (cB, ((16 : Int).toNat), .inl (af (fun _ => 0))))]) rfl ?_
    refine b_goto C dJ5_init_d00df_22 (q := 38) rfl ?_
    exact hret _ _ _ _ _ _ (by omega) (by omega) dJ5_init_d00df_38 ⟨y, cB, _, _, rfl, rfl, ⟨fun _ => by show (0 : Int) ≤ 0 ∧ (0 : Int) < 128; omega, fun j h1 h2 => by omega⟩, by omega, by omega⟩
abbrev rm_jb_J4_init_da8c8 : Room := { frames := 2, cells := 1, slots := 16, locals := 34 }
set_option maxRecDepth 100000 in
set_option maxHeartbeats 2000000 in
theorem jb_J4_init_da8c8 (l : Launch) (E : EV) (x : Nat) : Bv l yJ4_init_da8c8 (cw yJ4_init_da8c8 cJ4_init_da8c8 1 none) rm_jb_J4_init_da8c8 E [.ref x] [(x, .inr (5, [.null, .int (iI 0), .int (iI 0), .int (iI 0)]))] [] (fun w t => SBR x 0 w t) 1 16 := by
  refine Bv_of (rm := rm_jb_J4_init_da8c8) (mL := 1) (b := cJ4_init_da8c8) RJ4 rfl (by decide +kernel) [(0, .ref x)] rfl (Nat.le_of_ble_eq_true rfl) (fun p_ e_ s_ m_ a_ b_ h_ c_ Q A C hnm hret => ?_)
  refine b_aload_n C dJ4_init_da8c8_0 0 rfl rfl (q := 1) rfl ?_
  refine b_bipush C (z := 16) dJ4_init_da8c8_1 (by decide) (q := 3) rfl ?_
  refine b_cI_v C (nA := 1) (As := [.int (iI 16)]) (jb_J5_init_d00df l E x) mlj_J4_1 mij_J5_init_d00df rfl rfl ⟨(Nat.le_of_ble_eq_true rfl), (Nat.le_of_ble_eq_true rfl)⟩ rfl rfl rfl (Nat.le_of_ble_eq_true rfl) (by show 0 + 1 ≤ 1 ∧ 0 + 16 ≤ 16; omega) dJ4_init_da8c8_3 (q := 6) rfl [0] [] [] (wr := []) rfl rfl rfl rfl (by decide) rfl (fun w1 tb1 hr1 => ?_)
  obtain ⟨v5, cA5, m5, g5, rfl, rfl, hb5, hn5, hm5⟩ := hr1
  refine b_world (tb2 := [(cA5, .byte)]) (ws2 := [(x, .inr (5, [.ref v5, .int (iI 0), .int (iI 0), .int (iI 0)])), (v5, .inl (cA5, m5, .inl (af g5)))]) rfl rfl ?_
  refine b_wide (k2 := 1) (n2 := 16) (by omega) (by omega) ?_
  exact hret _ _ _ _ _ _ (by omega) (by omega) dJ4_init_da8c8_6 ⟨v5, cA5, m5, g5, rfl, rfl, hb5, hn5, hm5⟩
