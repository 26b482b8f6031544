theorem mlj_RJ0_335 : Cond.methodLink RJ0 335 yJ0_coder_7d493 ∈ WA := WA_in (List.mem_append_right _ (List.mem_append_right _ (List.mem_append_left _ (List.mem_of_getElem? (l := tables_1_3) (i := 187) (by decide +kernel))))) rfl
theorem mlj_RJ0_492 : Cond.methodLink RJ0 492 yJ0_isLatin1_aae02 ∈ WA := WA_in (List.mem_append_right _ (List.mem_append_right _ (List.mem_append_right _ (List.mem_append_left _ (List.mem_of_getElem? (l := tables_1_4) (i := 90) (by decide +kernel)))))) rfl
theorem mlj_RJ0_495 : Cond.methodLink RJ0 495 yJ1_charAt_3b067 ∈ WA := WA_in (List.mem_append_right _ (List.mem_append_right _ (List.mem_append_right _ (List.mem_append_left _ (List.mem_of_getElem? (l := tables_1_4) (i := 94) (by decide +kernel)))))) rfl
theorem mlj_RJ1_9 : Cond.methodLink RJ1 9 yJ0_checkIndex_df160 ∈ WA := WA_in (List.mem_append_right _ (List.mem_append_right _ (List.mem_append_right _ (List.mem_append_left _ (List.mem_of_getElem? (l := tables_1_4) (i := 97) (by decide +kernel)))))) rfl
theorem mlj_RJ0_1059 : Cond.methodLink RJ0 1059 yJ3_checkIndex_8e157 ∈ WA := WA_in (List.mem_append_right _ (List.mem_append_right _ (List.mem_append_right _ (List.mem_append_left _ (List.mem_of_getElem? (l := tables_1_4) (i := 100) (by decide +kernel)))))) rfl
theorem flj_9 : Cond.fieldLink RJ0 9 "java/lang/String" "value" "[B" ∈ WA := WA_in (List.mem_append_right _ (List.mem_append_right _ (List.mem_append_right _ (List.mem_append_left _ (List.mem_of_getElem? (l := tables_1_4) (i := 71) (by decide +kernel)))))) rfl
theorem flj_15 : Cond.fieldLink RJ0 15 "java/lang/String" "coder" "B" ∈ WA := WA_in (List.mem_append_right _ (List.mem_append_right _ (List.mem_append_right _ (List.mem_append_left _ (List.mem_of_getElem? (l := tables_1_4) (i := 72) (by decide +kernel)))))) rfl
theorem flj_38 : Cond.fieldLink RJ0 38 "java/lang/String" "COMPACT_STRINGS" "Z" ∈ WA := WA_in (List.mem_append_right _ (List.mem_append_right _ (List.mem_append_left _ (List.mem_of_getElem? (l := tables_1_3) (i := 191) (by decide +kernel))))) rfl
theorem flj_1053 : Cond.fieldLink RJ0 1053 "jdk/internal/util/Preconditions" "SIOOBE_FORMATTER" "Ljava/util/function/BiFunction;" ∈ WA := WA_in (List.mem_append_right _ (List.mem_append_right _ (List.mem_append_left _ (List.mem_of_getElem? (l := tables_1_3) (i := 169) (by decide +kernel))))) rfl
theorem mf_J0_length_8abf5 : mfV yJ0_length_8abf5 cJ0_length_8abf5 1 (some .int) 0 := ⟨(WA_in (List.mem_append_right _ (List.mem_append_right _ (List.mem_append_left _ (List.mem_of_getElem? (l := tables_1_3) (i := 186) (by decide +kernel))))) rfl), WA_in (List.mem_append_right _ (List.mem_append_right _ (List.mem_append_left _ (List.mem_of_getElem? (l := tables_1_3) (i := 184) (by decide +kernel))))) rfl, WA_in (List.mem_append_right _ (List.mem_append_right _ (List.mem_append_left _ (List.mem_of_getElem? (l := tables_1_3) (i := 185) (by decide +kernel))))) rfl, (WA_in (List.mem_append_left _ (List.mem_of_getElem? (l := tables_1_1) (i := 11) (by decide +kernel))) rfl), by decide +kernel, by decide +kernel, by decide +kernel⟩
theorem mf_J0_isEmpty_aae02 : mfV yJ0_isEmpty_aae02 cJ0_isEmpty_aae02 1 (some .boolean) 0 := ⟨(WA_in (List.mem_append_right _ (List.mem_append_right _ (List.mem_append_right _ (List.mem_append_left _ (List.mem_of_getElem? (l := tables_1_4) (i := 166) (by decide +kernel)))))) rfl), WA_in (List.mem_append_right _ (List.mem_append_right _ (List.mem_append_right _ (List.mem_append_left _ (List.mem_of_getElem? (l := tables_1_4) (i := 164) (by decide +kernel)))))) rfl, WA_in (List.mem_append_right _ (List.mem_append_right _ (List.mem_append_right _ (List.mem_append_left _ (List.mem_of_getElem? (l := tables_1_4) (i := 165) (by decide +kernel)))))) rfl, (WA_in (List.mem_append_left _ (List.mem_of_getElem? (l := tables_1_1) (i := 11) (by decide +kernel))) rfl), by decide +kernel, by decide +kernel, by decide +kernel⟩
theorem mf_J0_charAt_5068e : mfV yJ0_charAt_5068e cJ0_charAt_5068e 2 (some .char) 1 := ⟨(WA_in (List.mem_append_right _ (List.mem_append_right _ (List.mem_append_right _ (List.mem_append_left _ (List.mem_of_getElem? (l := tables_1_4) (i := 89) (by decide +kernel)))))) rfl), WA_in (List.mem_append_right _ (List.mem_append_right _ (List.mem_append_right _ (List.mem_append_left _ (List.mem_of_getElem? (l := tables_1_4) (i := 87) (by decide +kernel)))))) rfl, WA_in (List.mem_append_right _ (List.mem_append_right _ (List.mem_append_right _ (List.mem_append_left _ (List.mem_of_getElem? (l := tables_1_4) (i := 88) (by decide +kernel)))))) rfl, (WA_in (List.mem_append_left _ (List.mem_of_getElem? (l := tables_1_1) (i := 11) (by decide +kernel))) rfl), by decide +kernel, by decide +kernel, by decide +kernel⟩
theorem mf_J0_coder_7d493 : mfV yJ0_coder_7d493 cJ0_coder_7d493 1 (some .byte) 0 := ⟨(WA_in (List.mem_append_right _ (List.mem_append_right _ (List.mem_append_left _ (List.mem_of_getElem? (l := tables_1_3) (i := 190) (by decide +kernel))))) rfl), WA_in (List.mem_append_right _ (List.mem_append_right _ (List.mem_append_left _ (List.mem_of_getElem? (l := tables_1_3) (i := 188) (by decide +kernel))))) rfl, WA_in (List.mem_append_right _ (List.mem_append_right _ (List.mem_append_left _ (List.mem_of_getElem? (l := tables_1_3) (i := 189) (by decide +kernel))))) rfl, (WA_in (List.mem_append_left _ (List.mem_of_getElem? (l := tables_1_1) (i := 11) (by decide +kernel))) rfl), by decide +kernel, by decide +kernel, by decide +kernel⟩
theorem mf_J0_isLatin1_aae02 : mfV yJ0_isLatin1_aae02 cJ0_isLatin1_aae02 1 (some .boolean) 0 := ⟨(WA_in (List.mem_append_right _ (List.mem_append_right _ (List.mem_append_right _ (List.mem_append_left _ (List.mem_of_getElem? (l := tables_1_4) (i := 93) (by decide +kernel)))))) rfl), WA_in (List.mem_append_right _ (List.mem_append_right _ (List.mem_append_right _ (List.mem_append_left _ (List.mem_of_getElem? (l := tables_1_4) (i := 91) (by decide +kernel)))))) rfl, WA_in (List.mem_append_right _ (List.mem_append_right _ (List.mem_append_right _ (List.mem_append_left _ (List.mem_of_getElem? (l := tables_1_4) (i := 92) (by decide +kernel)))))) rfl, (WA_in (List.mem_append_left _ (List.mem_of_getElem? (l := tables_1_1) (i := 11) (by decide +kernel))) rfl), by decide +kernel, by decide +kernel, by decide +kernel⟩
theorem mf_J0_checkIndex_df160 : mfS yJ0_checkIndex_df160 cJ0_checkIndex_df160 2 none 2 := ⟨(WA_in (List.mem_append_right _ (List.mem_append_right _ (List.mem_append_right _ (List.mem_append_left _ (List.mem_of_getElem? (l := tables_1_4) (i := 99) (by decide +kernel)))))) rfl), WA_in (List.mem_append_right _ (List.mem_append_right _ (List.mem_append_right _ (List.mem_append_left _ (List.mem_of_getElem? (l := tables_1_4) (i := 98) (by decide +kernel)))))) rfl, (WA_in (List.mem_append_left _ (List.mem_of_getElem? (l := tables_1_1) (i := 11) (by decide +kernel))) rfl), by decide +kernel, by decide +kernel, by decide +kernel⟩
theorem mf_J1_charAt_3b067 : mfS yJ1_charAt_3b067 cJ1_charAt_3b067 2 (some .char) 2 := ⟨(WA_in (List.mem_append_right _ (List.mem_append_right _ (List.mem_append_right _ (List.mem_append_left _ (List.mem_of_getElem? (l := tables_1_4) (i := 96) (by decide +kernel)))))) rfl), WA_in (List.mem_append_right _ (List.mem_append_right _ (List.mem_append_right _ (List.mem_append_left _ (List.mem_of_getElem? (l := tables_1_4) (i := 95) (by decide +kernel)))))) rfl, (WA_in (List.mem_append_left _ (List.mem_of_getElem? (l := tables_1_1) (i := 22) (by decide +kernel))) rfl), by decide +kernel, by decide +kernel, by decide +kernel⟩
theorem mf_J3_checkIndex_8e157 : mfS yJ3_checkIndex_8e157 cJ3_checkIndex_8e157 3 (some .int) 3 := ⟨(WA_in (List.mem_append_right _ (List.mem_append_right _ (List.mem_append_right _ (List.mem_append_left _ (List.mem_of_getElem? (l := tables_1_4) (i := 102) (by decide +kernel)))))) rfl), WA_in (List.mem_append_right _ (List.mem_append_right _ (List.mem_append_right _ (List.mem_append_left _ (List.mem_of_getElem? (l := tables_1_4) (i := 101) (by decide +kernel)))))) rfl, (WA_in (List.mem_append_left _ (List.mem_of_getElem? (l := tables_1_1) (i := 21) (by decide +kernel))) rfl), by decide +kernel, by decide +kernel, by decide +kernel⟩
section GSTR
variable {p : Program} {l : Launch} {e : Env} {R : Room} {s : State} {m : MethodId} {args : Array Value} {below : List Frame} {meth : Method} {c : Code} {own : String} {cc : ByteArray} {nL : Nat} {E : EV} {A : Nat → Prop} {Q : State → Prop} {rt : Option FieldType}
variable {σ σ2 : SS} {k n pc q : Nat} {L : List (Nat × Value)} {sk sk0 : List Value}
abbrev ev (E : EV) (k : Nat) : Nat := E.2.2.2.2.1 k
theorem g_sval (C : CX p l e R s m args below meth c own cc nL E A rt) (ho : own = "java/lang/String") {w : Nat} (hw : w < sN) (d : decode cc pc = .ok (.getfield 9, 3)) (hq : pc + 3 = q) (K : GG p l e R s m args below meth c Q E A nL σ k n q L (.ref (ev E w) :: sk)) : GG p l e R s m args below meth c Q E A nL σ k n pc L (.ref (ek E w) :: sk) := by
  subst hq; subst ho; intro H locs ls hl hP hS
  exact vk_getf C.exec C.code (C.EH.2.2.1 w hw).2.2.1 hS C.hown (C.hts _ flj_9) (fun x h => h) d (K H locs ls hl hP hS)
theorem g_scod (C : CX p l e R s m args below meth c own cc nL E A rt) (ho : own = "java/lang/String") {w : Nat} (hw : w < sN) (d : decode cc pc = .ok (.getfield 15, 3)) (hq : pc + 3 = q) (K : GG p l e R s m args below meth c Q E A nL σ k n q L (.int (iI 0) :: sk)) : GG p l e R s m args below meth c Q E A nL σ k n pc L (.ref (ek E w) :: sk) := by
  subst hq; subst ho; intro H locs ls hl hP hS
  exact vk_getf C.exec C.code (C.EH.2.2.1 w hw).2.1 hS C.hown (C.hts _ flj_15) (fun x h => h) d (K H locs ls hl hP hS)
theorem g_slen (C : CX p l e R s m args below meth c own cc nL E A rt) {w : Nat} (hw : w < sN) {z : Int} (hz : ((sL.getD w 0 : Nat) : Int) = z) (d : decode cc pc = .ok (.arraylength, 1)) (hq : pc + 1 = q) (K : GG p l e R s m args below meth c Q E A nL σ k n q L (.int (iI z) :: sk)) : GG p l e R s m args below meth c Q E A nL σ k n pc L (.ref (ev E w) :: sk) := by
  subst hq; subst hz; intro H locs ls hl hP hS
  exact va_tlen C.exec C.code (C.EH.2.2.1 w hw).2.2.2 hS (nI_iI _) d (K H locs ls hl hP hS)
theorem g_sbyt (C : CX p l e R s m args below meth c own cc nL E A rt) {w : Nat} (hw : w < sN) {i : Int} (hi : 0 ≤ i ∧ i < ((sL.getD w 0 : Nat) : Int) ∧ i < 1000) {z : Int} (hz : (sB.getD w []).getD i.toNat 0 = iI z) (d : decode cc pc = .ok (.baload, 1)) (hq : pc + 1 = q) (K : GG p l e R s m args below meth c Q E A nL σ k n q L (.int (iI z) :: sk)) : GG p l e R s m args below meth c Q E A nL σ k n pc L (.int (iI i) :: .ref (ev E w) :: sk) := by
  subst hq; intro H locs ls hl hP hS
  refine va_tb C.exec C.code (C.EH.2.2.1 w hw).2.2.2 hS (vp_in_iff.mpr ?_) (by rw [iI_cl (by omega), hz]) d (K H locs ls hl hP hS)
  rw [iI_toInt (by omega)]; omega
theorem g_scomp (C : CX p l e R s m args below meth c own cc nL E A rt) (ho : own = "java/lang/String") (d : decode cc pc = .ok (.getstatic 38, 3)) (hq : pc + 3 = q) (K : GG p l e R s m args below meth c Q E A nL σ k n q L (.int (iI 1) :: sk)) : GG p l e R s m args below meth c Q E A nL σ k n pc L sk := by
  subst hq; subst ho; intro H locs ls hl hP hS
  exact va_gets C.exec C.code C.EH.2.2.2.1 hS C.hown (C.hts _ flj_38) (fun x h => h) d (K H locs ls hl hP hS)
theorem g_sio (C : CX p l e R s m args below meth c own cc nL E A rt) (ho : own = "java/lang/String") (d : decode cc pc = .ok (.getstatic 1053, 3)) (hq : pc + 3 = q) (K : ∀ v : Value, (v = .null ∨ ∃ t, v = .ref t) → GG p l e R s m args below meth c Q E A nL σ k n q L (v :: sk)) : GG p l e R s m args below meth c Q E A nL σ k n pc L sk := by
  subst hq; subst ho; intro H locs ls hl hP hS
  rcases C.EH.2.2.2.2.1 with h | ⟨t, h⟩
  · exact va_gets C.exec C.code h hS C.hown (C.hts _ flj_1053) (fun x h => h) d (K _ (Or.inl rfl) H locs ls hl hP hS)
  · exact va_gets C.exec C.code h hS C.hown (C.hts _ flj_1053) (fun x h => h) d (K _ (Or.inr ⟨t, rfl⟩) H locs ls hl hP hS)
theorem g_ishr0 (C : CX p l e R s m args below meth c own cc nL E A rt) {x : Int} (d : decode cc pc = .ok (.ishr, 1)) (hq : pc + 1 = q) (K : GG p l e R s m args below meth c Q E A nL σ k n q L (.int (iI x) :: sk)) : GG p l e R s m args below meth c Q E A nL σ k n pc L (.int (iI 0) :: .int (iI x) :: sk) := by
  subst hq; intro H locs ls hl hP hS
  refine lv_ishr C.exec C.code d ?_
  rw [show iI x >>> (iI 0 &&& 31) = iI x from by
    rw [show (iI 0 &&& 31 : Int32) = 0 from by decide]
    apply Int32.toBitVec_inj.mp
    simp]
  exact K H locs ls hl hP hS
theorem g_iand255 (C : CX p l e R s m args below meth c own cc nL E A rt) {x : Int} (hx : 0 ≤ x ∧ x < 128) (d : decode cc pc = .ok (.iand, 1)) (hq : pc + 1 = q) (K : GG p l e R s m args below meth c Q E A nL σ k n q L (.int (iI x) :: sk)) : GG p l e R s m args below meth c Q E A nL σ k n pc L (.int (iI 255) :: .int (iI x) :: sk) := by
  subst hq; intro H locs ls hl hP hS
  refine lv_iand C.exec C.code d ?_
  rw [show iI x &&& iI 255 = iI x from by
    rw [pk_and (iI x) 8 (by decide), nI_iI]
    congr 1
    have h2 := iI_tn x
    omega]
  exact K H locs ls hl hP hS
theorem mfS.gSo {y : MethodName} {b : ByteArray} {mL nA idx : Nat} {ret : Option FieldType} (h : mfS y b mL ret nA) (hl : Cond.methodLink own idx y ∈ WA) : GoodIn WA (va_wsS own idx y (cw y b mL ret)) := by
  refine WA_ok _ fun w hw => ?_
  unfold va_wsS at hw
  rcases List.mem_append.mp hw with h1 | h1
  · rcases List.mem_cons.mp h1 with rfl | h1
    · exact hl
    · rcases List.mem_cons.mp h1 with rfl | h1
      · exact h.2.1
      · rw [List.mem_singleton.mp h1]; exact h.2.2.1
  · rcases List.mem_cons.mp h1 with rfl | h1
    · exact h.1
    · exact h1
variable {y : MethodName} {b : ByteArray} {mL nA idx w : Nat} {ret : Option FieldType} {rm : Room} {As : List Value}
theorem g_cSo_i (C : CX p l e R s m args below meth c own cc nL E A rt) {r : Int} (hM : Ki l y (cw y b mL ret) rm E As σ r σ2) (hl : Cond.methodLink own idx y ∈ WA) (hy : mfS y b mL ret nA) (hn : As.length = nA) (hR : rm.frames + 1 ≤ R.frames ∧ 8 + (mL + 11) + rm.locals ≤ R.locals) (hrc : rm.cells = 0) (hrs : rm.slots = 0) (hst : sk0 = As.reverse ++ sk) (hcat : (sk.map fun v => v.category).sum ≤ 8) (hkn : k ≤ R.cells ∧ n ≤ R.slots) (d : decode cc pc = .ok (.invokestatic idx, 3)) (hq : pc + 3 = q) (K : GG p l e R s m args below meth c Q E A nL σ2 k n q L (.int (iI r) :: sk)) : GG p l e R s m args below meth c Q E A nL σ k n pc L sk0 := by
  subst hq; subst hst; intro H locs ls hl2 hP hS
  refine va_calli (va_runS (As := As) (rest := sk) C.fix (hM H.size) (va_cwS nA C.hts (hy.gSo hl) rfl hrc hrs hy.2.2.2 hR) ⟨PE_blind, fun U hU hW => ⟨rfl, C.pre hP hS U hU hW⟩⟩ rfl hn hl2.1 rfl (lv_room hcat) d hkn) hS (fun q _ h => C.sub hS q h) (C.sub hS) (fun r2 u t H1 locs1 ht hvm hw hB hz hk hS1 => ?_)
  subst hw; rw [ht] at hB; exact K H1 locs1 ls hl2 hB hS1
theorem g_cSo_v (C : CX p l e R s m args below meth c own cc nL E A rt) (hM : Kv l y (cw y b mL ret) rm E As σ σ2) (hl : Cond.methodLink own idx y ∈ WA) (hy : mfS y b mL ret nA) (hn : As.length = nA) (hR : rm.frames + 1 ≤ R.frames ∧ 8 + (mL + 11) + rm.locals ≤ R.locals) (hrc : rm.cells = 0) (hrs : rm.slots = 0) (hst : sk0 = As.reverse ++ sk) (hcat : (sk.map fun v => v.category).sum ≤ 8) (hkn : k ≤ R.cells ∧ n ≤ R.slots) (d : decode cc pc = .ok (.invokestatic idx, 3)) (hq : pc + 3 = q) (K : GG p l e R s m args below meth c Q E A nL σ2 k n q L sk) : GG p l e R s m args below meth c Q E A nL σ k n pc L sk0 := by
  subst hq; subst hst; intro H locs ls hl2 hP hS
  refine va_callv (va_runS (As := As) (rest := sk) C.fix (hM H.size) (va_cwS nA C.hts (hy.gSo hl) rfl hrc hrs hy.2.2.2 hR) ⟨PE_blind, fun U hU hW => ⟨rfl, C.pre hP hS U hU hW⟩⟩ rfl hn hl2.1 rfl (lv_room hcat) d hkn) hS (fun q _ h => C.sub hS q h) (C.sub hS) (fun u t H1 locs1 ht hvm hw hB hz hk hS1 => ?_)
  rw [ht] at hB; exact K H1 locs1 ls hl2 hB hS1
/-- a method of a string constant -/
theorem g_cVs_i (C : CX p l e R s m args below meth c own cc nL E A rt) {r : Int} (hw : w < sN) (hM : Ki l y (cw y b mL ret) rm E (.ref (ek E w) :: As) σ r σ2) (hl : Cond.methodLink own idx y ∈ WA) (hy : mfV y b mL ret nA) (hv : y.cls = "java/lang/String") (hn : As.length = nA) (hR : rm.frames + 1 ≤ R.frames ∧ 8 + (mL + 11) + rm.locals ≤ R.locals) (hrc : rm.cells = 0) (hrs : rm.slots = 0) (hst : sk0 = As.reverse ++ .ref (ek E w) :: sk) (hcat : (sk.map fun v => v.category).sum ≤ 8) (hkn : k ≤ R.cells ∧ n ≤ R.slots) (d : decode cc pc = .ok (.invokevirtual idx, 3)) (hq : pc + 3 = q) (K : GG p l e R s m args below meth c Q E A nL σ2 k n q L (.int (iI r) :: sk)) : GG p l e R s m args below meth c Q E A nL σ k n pc L sk0 := by
  subst hq; subst hst; intro H locs ls hl2 hP hS
  have hr : ∃ cell : Cell, H[ek E w]? = some cell ∧ cell.vm.isStatics = false ∧ s.vm.findClass "java/lang/String" = some cell.cls := by
    obtain ⟨cell, h1, h2, h3, -⟩ := (C.EH.2.2.1 w hw).1.kept hS.2.1
    exact ⟨cell, h1, h2, h3⟩
  refine va_calli (va_runV (As := As) (rest := sk) C.fix (hM H.size) (cwV nA C.hts (hy.gV hl) rfl hrc hrs ⟨rfl, hy.2.2.2.2⟩ hR) ⟨PE_blind, by rw [hv]; exact hr, fun U hU hW => ⟨rfl, C.pre hP hS U hU hW⟩⟩ rfl hn hl2.1 rfl (lv_room hcat) d hkn) hS (fun q _ h => C.sub hS q h) (C.sub hS) (fun r2 u t H1 locs1 ht hvm hw hB hz hk hS1 => ?_)
  subst hw; rw [ht] at hB; exact K H1 locs1 ls hl2 hB hS1
theorem g_bret (C : CX p l e R s m args below meth c own cc nL E A (some .byte)) {r v : Int} (hz : v = 0) (d : decode cc pc = .ok (.ireturn, 1)) (hv : v = r) (hσ : σ = σ2) : GG p l e R s m args below meth c (MQ below (va_Qi (fun x (_ : Unit) => x = iI r) (fun _ t => va_P E.1 gcl (Wd E σ2) t.heap) A) args s k n A) E A nL σ k n pc L [.int (iI v)] := by
  subst hv; subst hσ; intro H locs ls hl hP hS
  exact W.zret (v := iI v) C.exec C.code C.ret (by subst hz; decide) (fun t ht hW => ⟨⟨iI v, (), rfl, rfl, by show va_P _ _ _ t.heap; rw [ht]; exact hP⟩, hS.F ht⟩) hS.2.2 d C.locks
end GSTR
def sLi (w : Nat) : Int := ((sL.getD w 0 : Nat) : Int)
def sBi (w : Nat) (i : Int) : Int := ((sB.getD w []).getD i.toNat 0).toInt
theorem sBi_iI (w : Nat) (i : Int) : (sB.getD w []).getD i.toNat 0 = iI (sBi w i) := (iI_of _).symm
theorem sBi_all : ∀ w, w < sN → sL.getD w 0 < 1000 ∧ ((sB.getD w []).all fun b => decide (0 ≤ b ∧ b < 128)) = true := by decide +kernel
theorem sBi_rg {w : Nat} (hw : w < sN) (i : Int) : 0 ≤ sBi w i ∧ sBi w i < 128 := by
  have h1 := List.all_eq_true.mp (sBi_all w hw).2
  unfold sBi
  rw [List.getD_eq_getElem?_getD]
  cases h : (sB.getD w [])[i.toNat]? with
  | none => decide
  | some b =>
    have h2 := of_decide_eq_true (h1 b (List.mem_of_getElem? h))
    show 0 ≤ b.toInt ∧ b.toInt < 128
    have h3 := Int32.le_iff_toInt_le.mp h2.1
    have h4 := Int32.lt_iff_toInt_lt.mp h2.2
    rw [show (0 : Int32).toInt = 0 from rfl] at h3
    rw [show (128 : Int32).toInt = 128 from by decide] at h4
    exact ⟨h3, h4⟩
theorem sLi_rg {w : Nat} (hw : w < sN) : 0 ≤ sLi w ∧ sLi w < 1000 := by
  have := (sBi_all w hw).1
  unfold sLi; omega
abbrev LE9 {a b : Nat} (h : Nat.ble a b = true) : a ≤ b := Nat.le_of_ble_eq_true h
section STRM
variable (l : Launch) (E : EV) (σ : SS)
abbrev rm_s0 : Room := { frames := 0, cells := 0, slots := 0, locals := 0 }
abbrev rm_s1 : Room := { frames := 1, cells := 0, slots := 0, locals := 30 }
abbrev rm_s2 : Room := { frames := 2, cells := 0, slots := 0, locals := 60 }
abbrev rm_s3 : Room := { frames := 3, cells := 0, slots := 0, locals := 90 }
theorem c_coder {w : Nat} (hw : w < sN) : Ki l yJ0_coder_7d493 (cw yJ0_coder_7d493 cJ0_coder_7d493 1 (some .byte)) rm_s0 E [.ref (ek E w)] σ 0 σ := by
  intro sz
  refine Met.ofW (cc := cJ0_coder_7d493) (maxL := 1) (ret := some .byte) (by decide +kernel) rfl ?_
  intro p e s m args below meth c s₁ B hml hv
  obtain ⟨rfl, hsz, hP, hK, hE, hap⟩ := hv
  subst hsz
  have hts := atoms_spec (ws := cw yJ0_coder_7d493 cJ0_coder_7d493 1 (some .byte)) B.pre
  have C : CX p l e rm_s0 s m ([.ref (ek E w)] : List Value).toArray below meth c "java/lang/String" cJ0_coder_7d493 1 E (aA E s.heap.size) (some .byte) := ⟨B.exec, B.bytes, hml, findClass_of_methodNamed B.named, fun w h => hts w (List.mem_cons_of_mem _ h), B.notSynchronized, hK, hE, hap, fun k hk => Or.inl ⟨k, hk, rfl⟩, fun q h => Or.inr h, B.returns⟩
  have hl := lv_entry ([.ref (ek E w)] : List Value) (n := 1) (Nat.le_of_ble_eq_true rfl)
  rw [lg_entry_eq]
  have K : GG p l e rm_s0 s m ([.ref (ek E w)] : List Value).toArray below meth c (MQ below (va_Qi (fun x (_ : Unit) => x = iI 0) (fun _ t => va_P E.1 gcl (Wd E σ) t.heap) (aA E s.heap.size)) ([.ref (ek E w)] : List Value).toArray s 0 0 (aA E s.heap.size)) E (aA E s.heap.size) 1 σ 0 0 0 [(0, .ref (ek E w))] [] := by
    refine g_scomp C rfl dJ0_coder_7d493_0 (q := 3) rfl ?_
    refine g_if_eq C dJ0_coder_7d493_3 (by omega) (q2 := 13) rfl (q := 6) rfl (fun h => ?_) (fun h => ?_)
    · exfalso; omega
    · refine g_aload_n C dJ0_coder_7d493_6 0 rfl rfl (q := 7) rfl ?_
      refine g_scod C rfl hw dJ0_coder_7d493_7 (q := 10) rfl ?_
      refine g_goto C dJ0_coder_7d493_10 (q := 14) rfl ?_
      exact g_bret C rfl dJ0_coder_7d493_14 rfl rfl
  exact K s.heap [] _ hl hP va_S.rf
theorem c_latin1 {w : Nat} (hw : w < sN) : Ki l yJ0_isLatin1_aae02 (cw yJ0_isLatin1_aae02 cJ0_isLatin1_aae02 1 (some .boolean)) rm_s0 E [.ref (ek E w)] σ 1 σ := by
  refine Kz_of (rm := rm_s0) (mL := 1) (b := cJ0_isLatin1_aae02) "java/lang/String" rfl (by decide +kernel) rfl rfl [(0, .ref (ek E w))] rfl (Nat.le_of_ble_eq_true rfl) (fun p_ e_ s_ m_ a_ b_ h_ c_ Q A C hret => ?_)
  refine g_scomp C rfl dJ0_isLatin1_aae02_0 (q := 3) rfl ?_
  refine g_if_eq C dJ0_isLatin1_aae02_3 (by omega) (q2 := 17) rfl (q := 6) rfl (fun h => ?_) (fun h => ?_)
  · exfalso; omega
  · refine g_aload_n C dJ0_isLatin1_aae02_6 0 rfl rfl (q := 7) rfl ?_
    refine g_scod C rfl hw dJ0_isLatin1_aae02_7 (q := 10) rfl ?_
    refine g_if_ne C dJ0_isLatin1_aae02_10 (by omega) (q2 := 17) rfl (q := 13) rfl (fun h => ?_) (fun h => ?_)
    · exfalso; omega
    · refine g_iconst C dJ0_isLatin1_aae02_13 (q := 14) rfl ?_
      refine g_goto C dJ0_isLatin1_aae02_14 (q := 18) rfl ?_
      exact hret _ _ _ dJ0_isLatin1_aae02_18 (by omega) rfl
theorem c_length {w : Nat} (hw : w < sN) : Ki l yJ0_length_8abf5 (cw yJ0_length_8abf5 cJ0_length_8abf5 1 (some .int)) rm_s1 E [.ref (ek E w)] σ (sLi w) σ := by
  refine Ki_of (rm := rm_s1) (mL := 1) (b := cJ0_length_8abf5) "java/lang/String" rfl (by decide +kernel) rfl rfl [(0, .ref (ek E w))] rfl (Nat.le_of_ble_eq_true rfl) (fun p_ e_ s_ m_ a_ b_ h_ c_ Q A C hret => ?_)
  refine g_aload_n C dJ0_length_8abf5_0 0 rfl rfl (q := 1) rfl ?_
  refine g_sval C rfl hw dJ0_length_8abf5_1 (q := 4) rfl ?_
  refine g_slen C hw rfl dJ0_length_8abf5_4 (q := 5) rfl ?_
  refine g_aload_n C dJ0_length_8abf5_5 0 rfl rfl (q := 6) rfl ?_
  refine g_cVs_i C (As := []) hw (c_coder l E _ hw) mlj_RJ0_335 mf_J0_coder_7d493 rfl rfl ⟨(Nat.le_of_ble_eq_true rfl), (Nat.le_of_ble_eq_true rfl)⟩ rfl rfl rfl (Nat.le_of_ble_eq_true rfl) ⟨(Nat.le_of_ble_eq_true rfl), (Nat.le_of_ble_eq_true rfl)⟩ dJ0_length_8abf5_6 (q := 9) rfl ?_
  refine g_ishr0 C dJ0_length_8abf5_9 (q := 10) rfl ?_
  exact hret _ _ _ dJ0_length_8abf5_10 rfl
theorem c_isEmpty {w : Nat} (hw : w < sN) : Ki l yJ0_isEmpty_aae02 (cw yJ0_isEmpty_aae02 cJ0_isEmpty_aae02 1 (some .boolean)) rm_s0 E [.ref (ek E w)] σ (if sLi w = 0 then 1 else 0) σ := by
  have hrg := sLi_rg hw
  refine Kz_of (rm := rm_s0) (mL := 1) (b := cJ0_isEmpty_aae02) "java/lang/String" rfl (by decide +kernel) rfl rfl [(0, .ref (ek E w))] rfl (Nat.le_of_ble_eq_true rfl) (fun p_ e_ s_ m_ a_ b_ h_ c_ Q A C hret => ?_)
  refine g_aload_n C dJ0_isEmpty_aae02_0 0 rfl rfl (q := 1) rfl ?_
  refine g_sval C rfl hw dJ0_isEmpty_aae02_1 (q := 4) rfl ?_
  refine g_slen C hw (z := sLi w) rfl dJ0_isEmpty_aae02_4 (q := 5) rfl ?_
  refine g_if_ne C dJ0_isEmpty_aae02_5 (by omega) (q2 := 12) rfl (q := 8) rfl (fun h => ?_) (fun h => ?_)
  · refine g_iconst C dJ0_isEmpty_aae02_12 (q := 13) rfl ?_
    exact hret _ _ _ dJ0_isEmpty_aae02_13 (by omega) (if_neg h).symm
  · refine g_iconst C dJ0_isEmpty_aae02_8 (q := 9) rfl ?_
    refine g_goto C dJ0_isEmpty_aae02_9 (q := 13) rfl ?_
    exact hret _ _ _ dJ0_isEmpty_aae02_13 (by omega) (if_pos (by omega)).symm
theorem c_pcheck {i n : Int} {v : Value} (hv : v = .null ∨ ∃ t, v = .ref t) (h : 0 ≤ i ∧ i < n ∧ n < 1000) : Ki l yJ3_checkIndex_8e157 (cw yJ3_checkIndex_8e157 cJ3_checkIndex_8e157 3 (some .int)) rm_s0 E [.int (iI i), .int (iI n), v] σ i σ := by
  refine Ki_of (rm := rm_s0) (mL := 3) (b := cJ3_checkIndex_8e157) RJ3 rfl (by decide +kernel) rfl rfl [(0, .int (iI i)), (1, .int (iI n)), (2, v)] (by rcases hv with rfl | ⟨t, rfl⟩ <;> rfl) (by rcases hv with rfl | ⟨t, rfl⟩ <;> exact Nat.le_of_ble_eq_true rfl) (fun p_ e_ s_ m_ a_ b_ h_ c_ Q A C hret => ?_)
  refine g_iload_n C dJ3_checkIndex_8e157_0 0 rfl rfl (q := 1) rfl ?_
  refine g_if_lt C dJ3_checkIndex_8e157_1 (by omega) (q2 := 9) rfl (q := 4) rfl (fun h => ?_) (fun h => ?_)
  · exfalso; omega
  · refine g_iload_n C dJ3_checkIndex_8e157_4 0 rfl rfl (q := 5) rfl ?_
    refine g_iload_n C dJ3_checkIndex_8e157_5 1 rfl rfl (q := 6) rfl ?_
    refine g_icmp_lt C dJ3_checkIndex_8e157_6 (by omega) (q2 := 16) rfl (q := 9) rfl (fun h => ?_) (fun h => ?_)
    · refine g_iload_n C dJ3_checkIndex_8e157_16 0 rfl rfl (q := 17) rfl ?_
      exact hret _ _ _ dJ3_checkIndex_8e157_17 rfl
    · exfalso; omega
theorem c_scheck {i n : Int} (h : 0 ≤ i ∧ i < n ∧ n < 1000) : Kv l yJ0_checkIndex_df160 (cw yJ0_checkIndex_df160 cJ0_checkIndex_df160 2 none) rm_s1 E [.int (iI i), .int (iI n)] σ σ := by
  refine Kv_of (rm := rm_s1) (mL := 2) (b := cJ0_checkIndex_df160) "java/lang/String" rfl (by decide +kernel) rfl rfl [(0, .int (iI i)), (1, .int (iI n))] rfl (Nat.le_of_ble_eq_true rfl) (fun p_ e_ s_ m_ a_ b_ h_ c_ Q A C hret => ?_)
  refine g_iload_n C dJ0_checkIndex_df160_0 0 rfl rfl (q := 1) rfl ?_
  refine g_iload_n C dJ0_checkIndex_df160_1 1 rfl rfl (q := 2) rfl ?_
  refine g_sio C rfl dJ0_checkIndex_df160_2 (q := 5) rfl (fun v hv => ?_)
  refine g_cSo_i C (As := [.int (iI i), .int (iI n), v]) (c_pcheck l E _ hv h) mlj_RJ0_1059 mf_J3_checkIndex_8e157 rfl ⟨(Nat.le_of_ble_eq_true rfl), (Nat.le_of_ble_eq_true rfl)⟩ rfl rfl rfl (Nat.le_of_ble_eq_true rfl) ⟨(Nat.le_of_ble_eq_true rfl), (Nat.le_of_ble_eq_true rfl)⟩ dJ0_checkIndex_df160_5 (q := 8) rfl ?_
  refine g_pop C dJ0_checkIndex_df160_8 rfl (q := 9) rfl ?_
  exact hret _ _ dJ0_checkIndex_df160_9
theorem c_lchar {w : Nat} (hw : w < sN) {i : Int} (h : 0 ≤ i ∧ i < sLi w) : Ki l yJ1_charAt_3b067 (cw yJ1_charAt_3b067 cJ1_charAt_3b067 2 (some .char)) rm_s2 E [.ref (ev E w), .int (iI i)] σ (sBi w i) σ := by
  have hrg := sLi_rg hw
  have hb := sBi_rg hw i
  refine Kc_of (rm := rm_s2) (mL := 2) (b := cJ1_charAt_3b067) RJ1 rfl (by decide +kernel) rfl rfl [(0, .ref (ev E w)), (1, .int (iI i))] rfl (Nat.le_of_ble_eq_true rfl) (fun p_ e_ s_ m_ a_ b_ h_ c_ Q A C hret => ?_)
  refine g_iload_n C dJ1_charAt_3b067_0 1 rfl rfl (q := 1) rfl ?_
  refine g_aload_n C dJ1_charAt_3b067_1 0 rfl rfl (q := 2) rfl ?_
  refine g_slen C hw (z := sLi w) rfl dJ1_charAt_3b067_2 (q := 3) rfl ?_
  refine g_cSo_v C (As := [.int (iI i), .int (iI (sLi w))]) (c_scheck l E _ (by omega)) mlj_RJ1_9 mf_J0_checkIndex_df160 rfl ⟨(Nat.le_of_ble_eq_true rfl), (Nat.le_of_ble_eq_true rfl)⟩ rfl rfl rfl (Nat.le_of_ble_eq_true rfl) ⟨(Nat.le_of_ble_eq_true rfl), (Nat.le_of_ble_eq_true rfl)⟩ dJ1_charAt_3b067_3 (q := 6) rfl ?_
  refine g_aload_n C dJ1_charAt_3b067_6 0 rfl rfl (q := 7) rfl ?_
  refine g_iload_n C dJ1_charAt_3b067_7 1 rfl rfl (q := 8) rfl ?_
  refine g_sbyt C hw (by unfold sLi at h hrg; omega) (sBi_iI w i) dJ1_charAt_3b067_8 (q := 9) rfl ?_
  refine g_sipush C dJ1_charAt_3b067_9 (by decide) (q := 12) rfl ?_
  refine g_iand255 C hb dJ1_charAt_3b067_12 (q := 13) rfl ?_
  refine g_i2c C dJ1_charAt_3b067_13 (q := 14) rfl ?_
  refine g_top (b := sBi w i) (by omega) ?_
  exact hret _ _ _ dJ1_charAt_3b067_14 (by omega) rfl
theorem c_charAt {w : Nat} (hw : w < sN) {i : Int} (h : 0 ≤ i ∧ i < sLi w) : Ki l yJ0_charAt_5068e (cw yJ0_charAt_5068e cJ0_charAt_5068e 2 (some .char)) rm_s3 E [.ref (ek E w), .int (iI i)] σ (sBi w i) σ := by
  have hb := sBi_rg hw i
  refine Kc_of (rm := rm_s3) (mL := 2) (b := cJ0_charAt_5068e) "java/lang/String" rfl (by decide +kernel) rfl rfl [(0, .ref (ek E w)), (1, .int (iI i))] rfl (Nat.le_of_ble_eq_true rfl) (fun p_ e_ s_ m_ a_ b_ h_ c_ Q A C hret => ?_)
  refine g_aload_n C dJ0_charAt_5068e_0 0 rfl rfl (q := 1) rfl ?_
  refine g_cVs_i C (As := []) hw (c_latin1 l E _ hw) mlj_RJ0_492 mf_J0_isLatin1_aae02 rfl rfl ⟨(Nat.le_of_ble_eq_true rfl), (Nat.le_of_ble_eq_true rfl)⟩ rfl rfl rfl (Nat.le_of_ble_eq_true rfl) ⟨(Nat.le_of_ble_eq_true rfl), (Nat.le_of_ble_eq_true rfl)⟩ dJ0_charAt_5068e_1 (q := 4) rfl ?_
  refine g_if_eq C dJ0_charAt_5068e_4 (by omega) (q2 := 16) rfl (q := 7) rfl (fun h => ?_) (fun h => ?_)
  · exfalso; omega
  · refine g_aload_n C dJ0_charAt_5068e_7 0 rfl rfl (q := 8) rfl ?_
    refine g_sval C rfl hw dJ0_charAt_5068e_8 (q := 11) rfl ?_
    refine g_iload_n C dJ0_charAt_5068e_11 1 rfl rfl (q := 12) rfl ?_
    refine g_cSo_i C (As := [.ref (ev E w), .int (iI i)]) (c_lchar l E _ hw (by assumption)) mlj_RJ0_495 mf_J1_charAt_3b067 rfl ⟨(Nat.le_of_ble_eq_true rfl), (Nat.le_of_ble_eq_true rfl)⟩ rfl rfl rfl (Nat.le_of_ble_eq_true rfl) ⟨(Nat.le_of_ble_eq_true rfl), (Nat.le_of_ble_eq_true rfl)⟩ dJ0_charAt_5068e_12 (q := 15) rfl ?_
    exact hret _ _ _ dJ0_charAt_5068e_15 (by omega) rfl
end STRM
