def mfV (y : MethodName) (b : ByteArray) (mL : Nat) (ret : Option FieldType) (n : Nat) : Prop :=
  Cond.code y b mL ret ∈ WA ∧ Cond.instanceMethod y ∈ WA ∧ Cond.selects y.cls y y ∈ WA ∧ Cond.initialized y.cls ∈ WA ∧ y.cls ≠ "java/lang/invoke/MethodHandle" ∧ y.cls ≠ "java/lang/invoke/VarHandle" ∧ (parseMethodDescriptor y.desc).map (fun d => d.parameters.length) = some n
def mfS (y : MethodName) (b : ByteArray) (mL : Nat) (ret : Option FieldType) (n : Nat) : Prop :=
  Cond.code y b mL ret ∈ WA ∧ Cond.static y ∈ WA ∧ Cond.initialized y.cls ∈ WA ∧ y.cls ≠ "java/lang/invoke/MethodHandle" ∧ y.cls ≠ "java/lang/invoke/VarHandle" ∧ (parseMethodDescriptor y.desc).map (fun d => d.parameters.length) = some n
theorem mfV.gV {own : String} {idx : Nat} {y : MethodName} {b : ByteArray} {mL n : Nat} {ret : Option FieldType} (h : mfV y b mL ret n) (hl : Cond.methodLink own idx y ∈ WA) : GoodIn WA (wsV own idx y.cls y (cw y b mL ret)) := by
  refine WA_ok _ fun w hw => ?_
  rcases List.mem_append.mp hw with h1 | h1
  · rcases List.mem_cons.mp h1 with rfl | h1
    · exact hl
    · rcases List.mem_cons.mp h1 with rfl | h1
      · exact h.2.1
      · rcases List.mem_cons.mp h1 with rfl | h1
        · exact h.2.2.1
        · rw [List.mem_singleton.mp h1]; exact h.2.2.2.1
  · rcases List.mem_cons.mp h1 with rfl | h1
    · exact h.1
    · exact h1
theorem cw_good {y : MethodName} {b : ByteArray} {mL : Nat} {ret : Option FieldType} (h : Cond.code y b mL ret ∈ WA) : GoodIn WA (cw y b mL ret) := WA_ok _ fun w hw => by
  rcases List.mem_cons.mp hw with rfl | h1
  · exact h
  · exact h1
theorem mfS.gS {own : String} {idx : Nat} {y : MethodName} {b : ByteArray} {mL n : Nat} {ret : Option FieldType} (h : mfS y b mL ret n) (ho : y.cls = own) (hl : Cond.methodLink own idx y ∈ WA) : GoodIn WA (wsS own idx y (cw y b mL ret)) := by
  refine WA_ok _ fun w hw => ?_
  rcases List.mem_append.mp hw with h1 | h1
  · rcases List.mem_cons.mp h1 with rfl | h1
    · exact hl
    · rcases List.mem_cons.mp h1 with rfl | h1
      · exact h.2.1
      · rw [List.mem_singleton.mp h1, ← ho]; exact h.2.2.1
  · rcases List.mem_cons.mp h1 with rfl | h1
    · exact h.1
    · exact h1
/-- what a method of the system finds at its start -/
def PE (E : EV) (sz : Nat) (σ : SS) (U : State) : Prop := U.heap.size = sz ∧ va_P E.1 gcl (Wd E σ) U.heap ∧ EK E U ∧ EH E (aA E sz) U U.heap ∧ apart E
theorem PE_blind {av : List Value} {E : EV} {sz : Nat} {σ : SS} : FrameBlind (va_Pc av (PE E sz σ)) := fun a U g mk h => by
  obtain ⟨h0, h1, h2, h3, h4, h5⟩ := h
  exact ⟨h0, h1, h2, EK.same (s := U) (U := U.calling g mk a) rfl h3, EH.moved (u := U) (U := U.calling g mk a) (Vm.Alike.refl U.vm) h4, h5⟩
def Ki (l : Launch) (y : MethodName) (ws : List Cond) (rm : Room) (E : EV) (av : List Value) (σ : SS) (r : Int) (σ' : SS) : Prop := ∀ sz : Nat, Met l y ws rm (va_Pc av (PE E sz σ)) (va_Qi (fun x (_ : Unit) => x = iI r) (fun _ t => va_P E.1 gcl (Wd E σ') t.heap) (aA E sz)) 0 0 (aA E sz)
def Kl (l : Launch) (y : MethodName) (ws : List Cond) (rm : Room) (E : EV) (av : List Value) (σ : SS) (r : Int) (σ' : SS) : Prop := ∀ sz : Nat, Met l y ws rm (va_Pc av (PE E sz σ)) (va_Ql (fun x (_ : Unit) => x = iL r) (fun _ t => va_P E.1 gcl (Wd E σ') t.heap) (aA E sz)) 0 0 (aA E sz)
def Kd (l : Launch) (y : MethodName) (ws : List Cond) (rm : Room) (E : EV) (av : List Value) (σ : SS) (r : UInt64) (σ' : SS) : Prop := ∀ sz : Nat, Met l y ws rm (va_Pc av (PE E sz σ)) (va_Qd (fun x (_ : Unit) => x = r) (fun _ t => va_P E.1 gcl (Wd E σ') t.heap) (aA E sz)) 0 0 (aA E sz)
def Kf (l : Launch) (y : MethodName) (ws : List Cond) (rm : Room) (E : EV) (av : List Value) (σ : SS) (r : UInt32) (σ' : SS) : Prop := ∀ sz : Nat, Met l y ws rm (va_Pc av (PE E sz σ)) (va_Qf (fun x (_ : Unit) => x = r) (fun _ t => va_P E.1 gcl (Wd E σ') t.heap) (aA E sz)) 0 0 (aA E sz)
def Kv (l : Launch) (y : MethodName) (ws : List Cond) (rm : Room) (E : EV) (av : List Value) (σ : SS) (σ' : SS) : Prop := ∀ sz : Nat, Met l y ws rm (va_Pc av (PE E sz σ)) (va_Qv (fun (_ : Unit) => True) (fun _ t => va_P E.1 gcl (Wd E σ') t.heap) (aA E sz)) 0 0 (aA E sz)
def Kr (l : Launch) (y : MethodName) (ws : List Cond) (rm : Room) (E : EV) (av : List Value) (σ : SS) (r : Nat) (σ' : SS) : Prop := ∀ sz : Nat, Met l y ws rm (va_Pc av (PE E sz σ)) (va_Qr (fun (_ : Unit) => True) (fun _ a9 t => a9 = r ∧ va_P E.1 gcl (Wd E σ') t.heap) (aA E sz)) 0 0 (aA E sz)
section GCALLS
variable {p : Program} {l : Launch} {e : Env} {R : Room} {s : State} {m : MethodId} {args : Array Value} {below : List Frame} {meth : Method} {c : Code} {own : String} {cc : ByteArray} {nL : Nat} {E : EV} {A : Nat → Prop} {Q : State → Prop} {rt : Option FieldType}
theorem CX.sub (C : CX p l e R s m args below meth c own cc nL E A rt) {H : Heap} {locs : List Loc} (hS : va_S A s.heap H locs) : ∀ q, aA E H.size q → A q := fun q h => by
  rcases h with ⟨k, hk, rfl⟩ | h
  · exact C.inA k hk
  · exact C.big q (Nat.le_trans hS.1 h)
theorem CX.pre (C : CX p l e R s m args below meth c own cc nL E A rt) {σ : SS} {H : Heap} {locs : List Loc} (hP : va_P E.1 gcl (Wd E σ) H) (hS : va_S A s.heap H locs) (U : State) (hU : U.heap = H) (hW : s.WarmedH U.vm) : PE E H.size σ U :=
  ⟨by rw [hU], by rw [hU]; exact hP, EK.warm hW C.K, by rw [hU]; exact EH.moved hW.alike ((C.EH.kept hS.2.1).narrow (C.sub hS)), C.ap⟩
variable {σ σ' : SS} {k n pc q : Nat} {L L' : List (Nat × Value)} {sk sk0 : List Value}
variable {y : MethodName} {b : ByteArray} {mL nA idx o ci : Nat} {ret : Option FieldType} {rm : Room} {As : List Value} {fs : List Value} {vc : vw_C} {host : String}
theorem g_cV_i (C : CX p l e R s m args below meth c own cc nL E A rt) {r : Int} (hM : Ki l y (cw y b mL ret) rm E (.ref (ea E o) :: As) σ r σ') (hl : Cond.methodLink own idx y ∈ WA) (hy : mfV y b mL ret nA) (ho : (Wd E σ)[o]? = some (ea E o, .inr (ci, fs))) (hc : gcl[ci]? = some vc) (hv : vc.1 = y.cls) (hn : As.length = nA) (hR : rm.frames + 1 ≤ R.frames ∧ 8 + (mL + 11) + rm.locals ≤ R.locals) (hrc : rm.cells = 0) (hrs : rm.slots = 0) (hst : sk0 = As.reverse ++ .ref (ea E o) :: sk) (hcat : (sk.map fun v => v.category).sum ≤ 8) (hkn : k ≤ R.cells ∧ n ≤ R.slots) (d : decode cc pc = .ok (.invokevirtual idx, 3)) (hq : pc + 3 = q) (K : GG p l e R s m args below meth c Q E A nL σ' k n q L (.int (iI r) :: sk)) : GG p l e R s m args below meth c Q E A nL σ k n pc L sk0 := by
  subst hq; subst hst; intro H locs ls hl2 hP hS
  refine va_calli (va_runV (As := As) (rest := sk) C.fix (hM H.size) (cwV nA C.hts (hy.gV hl) rfl hrc hrs ⟨rfl, hy.2.2.2.2⟩ hR) ⟨PE_blind, by rw [← hv]; exact va_recv C.K.1 hP (ci := ci) (q0 := o) hc ho, fun U hU hW => ⟨rfl, C.pre hP hS U hU hW⟩⟩ rfl hn hl2.1 rfl (lv_room hcat) d hkn) hS (fun q _ h => C.sub hS q h) (C.sub hS) (fun r2 u t H1 locs1 ht hvm hw hB hz hk hS1 => ?_)
  subst hw; rw [ht] at hB; exact K H1 locs1 ls hl2 hB hS1
theorem g_cVN_i (C : CX p l e R s m args below meth c own cc nL E A rt) {r : Int} (hM : Ki l y (cw y b mL ret) rm E (.ref (ea E o) :: As) σ r σ') (hl : Cond.methodLinkNest own idx y host ∈ tables_1) (hy : mfV y b mL ret nA) (ho : (Wd E σ)[o]? = some (ea E o, .inr (ci, fs))) (hc : gcl[ci]? = some vc) (hv : vc.1 = y.cls) (hn : As.length = nA) (hR : rm.frames + 1 ≤ R.frames ∧ 8 + (mL + 11) + rm.locals ≤ R.locals) (hrc : rm.cells = 0) (hrs : rm.slots = 0) (hst : sk0 = As.reverse ++ .ref (ea E o) :: sk) (hcat : (sk.map fun v => v.category).sum ≤ 8) (hkn : k ≤ R.cells ∧ n ≤ R.slots) (d : decode cc pc = .ok (.invokevirtual idx, 3)) (hq : pc + 3 = q) (K : GG p l e R s m args below meth c Q E A nL σ' k n q L (.int (iI r) :: sk)) : GG p l e R s m args below meth c Q E A nL σ k n pc L sk0 := by
  subst hq; subst hst; intro H locs ls hl2 hP hS
  refine va_calli (va_runVN (As := As) (rest := sk) (C := y.cls) C.fix (hM H.size) ⟨va_cnB nA C.hts (cw_good hy.1) rfl hrc hrs (C.K.2.1 _ hl rfl) (C.hts _ hy.2.2.2.1) hy.2.2.2.2 hR, C.hts _ hy.2.1, C.hts _ hy.2.2.1⟩ ⟨PE_blind, by rw [← hv]; exact va_recv C.K.1 hP (ci := ci) (q0 := o) hc ho, fun U hU hW => ⟨rfl, C.pre hP hS U hU hW⟩⟩ rfl hn hl2.1 rfl (lv_room hcat) d hkn) hS (fun q _ h => C.sub hS q h) (C.sub hS) (fun r2 u t H1 locs1 ht hvm hw hB hz hk hS1 => ?_)
  subst hw; rw [ht] at hB; exact K H1 locs1 ls hl2 hB hS1
theorem g_cS_i (C : CX p l e R s m args below meth c own cc nL E A rt) {r : Int} (hM : Ki l y (cw y b mL ret) rm E As σ r σ') (hl : Cond.methodLink own idx y ∈ WA) (hy : mfS y b mL ret nA) (hv : y.cls = own) (hn : As.length = nA) (hR : rm.frames + 1 ≤ R.frames ∧ 8 + (mL + 11) + rm.locals ≤ R.locals) (hrc : rm.cells = 0) (hrs : rm.slots = 0) (hst : sk0 = As.reverse ++ sk) (hcat : (sk.map fun v => v.category).sum ≤ 8) (hkn : k ≤ R.cells ∧ n ≤ R.slots) (d : decode cc pc = .ok (.invokestatic idx, 3)) (hq : pc + 3 = q) (K : GG p l e R s m args below meth c Q E A nL σ' k n q L (.int (iI r) :: sk)) : GG p l e R s m args below meth c Q E A nL σ k n pc L sk0 := by
  subst hq; subst hst; intro H locs ls hl2 hP hS
  refine va_calli (va_runS (As := As) (rest := sk) C.fix (hM H.size) (cwS nA C.hts (hy.gS hv hl) rfl hrc hrs ⟨hv, hy.2.2.2⟩ hR) ⟨PE_blind, fun U hU hW => ⟨rfl, C.pre hP hS U hU hW⟩⟩ rfl hn hl2.1 rfl (lv_room hcat) d hkn) hS (fun q _ h => C.sub hS q h) (C.sub hS) (fun r2 u t H1 locs1 ht hvm hw hB hz hk hS1 => ?_)
  subst hw; rw [ht] at hB; exact K H1 locs1 ls hl2 hB hS1
theorem g_cSN_i (C : CX p l e R s m args below meth c own cc nL E A rt) {r : Int} (hM : Ki l y (cw y b mL ret) rm E As σ r σ') (hl : Cond.methodLinkNest own idx y host ∈ tables_1) (hy : mfS y b mL ret nA) (hn : As.length = nA) (hR : rm.frames + 1 ≤ R.frames ∧ 8 + (mL + 11) + rm.locals ≤ R.locals) (hrc : rm.cells = 0) (hrs : rm.slots = 0) (hst : sk0 = As.reverse ++ sk) (hcat : (sk.map fun v => v.category).sum ≤ 8) (hkn : k ≤ R.cells ∧ n ≤ R.slots) (d : decode cc pc = .ok (.invokestatic idx, 3)) (hq : pc + 3 = q) (K : GG p l e R s m args below meth c Q E A nL σ' k n q L (.int (iI r) :: sk)) : GG p l e R s m args below meth c Q E A nL σ k n pc L sk0 := by
  subst hq; subst hst; intro H locs ls hl2 hP hS
  refine va_calli (va_runSN (As := As) (rest := sk) C.fix (hM H.size) ⟨va_cnB nA C.hts (cw_good hy.1) rfl hrc hrs (C.K.2.1 _ hl rfl) (C.hts _ hy.2.2.1) hy.2.2.2 hR, C.hts _ hy.2.1, trivial⟩ ⟨PE_blind, fun U hU hW => ⟨rfl, C.pre hP hS U hU hW⟩⟩ rfl hn hl2.1 rfl (lv_room hcat) d hkn) hS (fun q _ h => C.sub hS q h) (C.sub hS) (fun r2 u t H1 locs1 ht hvm hw hB hz hk hS1 => ?_)
  subst hw; rw [ht] at hB; exact K H1 locs1 ls hl2 hB hS1
theorem g_cV_l (C : CX p l e R s m args below meth c own cc nL E A rt) {r : Int} (hM : Kl l y (cw y b mL ret) rm E (.ref (ea E o) :: As) σ r σ') (hl : Cond.methodLink own idx y ∈ WA) (hy : mfV y b mL ret nA) (ho : (Wd E σ)[o]? = some (ea E o, .inr (ci, fs))) (hc : gcl[ci]? = some vc) (hv : vc.1 = y.cls) (hn : As.length = nA) (hR : rm.frames + 1 ≤ R.frames ∧ 8 + (mL + 11) + rm.locals ≤ R.locals) (hrc : rm.cells = 0) (hrs : rm.slots = 0) (hst : sk0 = As.reverse ++ .ref (ea E o) :: sk) (hcat : (sk.map fun v => v.category).sum ≤ 8) (hkn : k ≤ R.cells ∧ n ≤ R.slots) (d : decode cc pc = .ok (.invokevirtual idx, 3)) (hq : pc + 3 = q) (K : GG p l e R s m args below meth c Q E A nL σ' k n q L (.long (iL r) :: sk)) : GG p l e R s m args below meth c Q E A nL σ k n pc L sk0 := by
  subst hq; subst hst; intro H locs ls hl2 hP hS
  refine va_calll (va_runV (As := As) (rest := sk) C.fix (hM H.size) (cwV nA C.hts (hy.gV hl) rfl hrc hrs ⟨rfl, hy.2.2.2.2⟩ hR) ⟨PE_blind, by rw [← hv]; exact va_recv C.K.1 hP (ci := ci) (q0 := o) hc ho, fun U hU hW => ⟨rfl, C.pre hP hS U hU hW⟩⟩ rfl hn hl2.1 rfl (lv_room hcat) d hkn) hS (fun q _ h => C.sub hS q h) (C.sub hS) (fun r2 u t H1 locs1 ht hvm hw hB hz hk hS1 => ?_)
  subst hw; rw [ht] at hB; exact K H1 locs1 ls hl2 hB hS1
theorem g_cVN_l (C : CX p l e R s m args below meth c own cc nL E A rt) {r : Int} (hM : Kl l y (cw y b mL ret) rm E (.ref (ea E o) :: As) σ r σ') (hl : Cond.methodLinkNest own idx y host ∈ tables_1) (hy : mfV y b mL ret nA) (ho : (Wd E σ)[o]? = some (ea E o, .inr (ci, fs))) (hc : gcl[ci]? = some vc) (hv : vc.1 = y.cls) (hn : As.length = nA) (hR : rm.frames + 1 ≤ R.frames ∧ 8 + (mL + 11) + rm.locals ≤ R.locals) (hrc : rm.cells = 0) (hrs : rm.slots = 0) (hst : sk0 = As.reverse ++ .ref (ea E o) :: sk) (hcat : (sk.map fun v => v.category).sum ≤ 8) (hkn : k ≤ R.cells ∧ n ≤ R.slots) (d : decode cc pc = .ok (.invokevirtual idx, 3)) (hq : pc + 3 = q) (K : GG p l e R s m args below meth c Q E A nL σ' k n q L (.long (iL r) :: sk)) : GG p l e R s m args below meth c Q E A nL σ k n pc L sk0 := by
  subst hq; subst hst; intro H locs ls hl2 hP hS
  refine va_calll (va_runVN (As := As) (rest := sk) (C := y.cls) C.fix (hM H.size) ⟨va_cnB nA C.hts (cw_good hy.1) rfl hrc hrs (C.K.2.1 _ hl rfl) (C.hts _ hy.2.2.2.1) hy.2.2.2.2 hR, C.hts _ hy.2.1, C.hts _ hy.2.2.1⟩ ⟨PE_blind, by rw [← hv]; exact va_recv C.K.1 hP (ci := ci) (q0 := o) hc ho, fun U hU hW => ⟨rfl, C.pre hP hS U hU hW⟩⟩ rfl hn hl2.1 rfl (lv_room hcat) d hkn) hS (fun q _ h => C.sub hS q h) (C.sub hS) (fun r2 u t H1 locs1 ht hvm hw hB hz hk hS1 => ?_)
  subst hw; rw [ht] at hB; exact K H1 locs1 ls hl2 hB hS1
theorem g_cS_l (C : CX p l e R s m args below meth c own cc nL E A rt) {r : Int} (hM : Kl l y (cw y b mL ret) rm E As σ r σ') (hl : Cond.methodLink own idx y ∈ WA) (hy : mfS y b mL ret nA) (hv : y.cls = own) (hn : As.length = nA) (hR : rm.frames + 1 ≤ R.frames ∧ 8 + (mL + 11) + rm.locals ≤ R.locals) (hrc : rm.cells = 0) (hrs : rm.slots = 0) (hst : sk0 = As.reverse ++ sk) (hcat : (sk.map fun v => v.category).sum ≤ 8) (hkn : k ≤ R.cells ∧ n ≤ R.slots) (d : decode cc pc = .ok (.invokestatic idx, 3)) (hq : pc + 3 = q) (K : GG p l e R s m args below meth c Q E A nL σ' k n q L (.long (iL r) :: sk)) : GG p l e R s m args below meth c Q E A nL σ k n pc L sk0 := by
  subst hq; subst hst; intro H locs ls hl2 hP hS
  refine va_calll (va_runS (As := As) (rest := sk) C.fix (hM H.size) (cwS nA C.hts (hy.gS hv hl) rfl hrc hrs ⟨hv, hy.2.2.2⟩ hR) ⟨PE_blind, fun U hU hW => ⟨rfl, C.pre hP hS U hU hW⟩⟩ rfl hn hl2.1 rfl (lv_room hcat) d hkn) hS (fun q _ h => C.sub hS q h) (C.sub hS) (fun r2 u t H1 locs1 ht hvm hw hB hz hk hS1 => ?_)
  subst hw; rw [ht] at hB; exact K H1 locs1 ls hl2 hB hS1
theorem g_cSN_l (C : CX p l e R s m args below meth c own cc nL E A rt) {r : Int} (hM : Kl l y (cw y b mL ret) rm E As σ r σ') (hl : Cond.methodLinkNest own idx y host ∈ tables_1) (hy : mfS y b mL ret nA) (hn : As.length = nA) (hR : rm.frames + 1 ≤ R.frames ∧ 8 + (mL + 11) + rm.locals ≤ R.locals) (hrc : rm.cells = 0) (hrs : rm.slots = 0) (hst : sk0 = As.reverse ++ sk) (hcat : (sk.map fun v => v.category).sum ≤ 8) (hkn : k ≤ R.cells ∧ n ≤ R.slots) (d : decode cc pc = .ok (.invokestatic idx, 3)) (hq : pc + 3 = q) (K : GG p l e R s m args below meth c Q E A nL σ' k n q L (.long (iL r) :: sk)) : GG p l e R s m args below meth c Q E A nL σ k n pc L sk0 := by
  subst hq; subst hst; intro H locs ls hl2 hP hS
  refine va_calll (va_runSN (As := As) (rest := sk) C.fix (hM H.size) ⟨va_cnB nA C.hts (cw_good hy.1) rfl hrc hrs (C.K.2.1 _ hl rfl) (C.hts _ hy.2.2.1) hy.2.2.2 hR, C.hts _ hy.2.1, trivial⟩ ⟨PE_blind, fun U hU hW => ⟨rfl, C.pre hP hS U hU hW⟩⟩ rfl hn hl2.1 rfl (lv_room hcat) d hkn) hS (fun q _ h => C.sub hS q h) (C.sub hS) (fun r2 u t H1 locs1 ht hvm hw hB hz hk hS1 => ?_)
  subst hw; rw [ht] at hB; exact K H1 locs1 ls hl2 hB hS1
theorem g_cV_d (C : CX p l e R s m args below meth c own cc nL E A rt) {r : UInt64} (hM : Kd l y (cw y b mL ret) rm E (.ref (ea E o) :: As) σ r σ') (hl : Cond.methodLink own idx y ∈ WA) (hy : mfV y b mL ret nA) (ho : (Wd E σ)[o]? = some (ea E o, .inr (ci, fs))) (hc : gcl[ci]? = some vc) (hv : vc.1 = y.cls) (hn : As.length = nA) (hR : rm.frames + 1 ≤ R.frames ∧ 8 + (mL + 11) + rm.locals ≤ R.locals) (hrc : rm.cells = 0) (hrs : rm.slots = 0) (hst : sk0 = As.reverse ++ .ref (ea E o) :: sk) (hcat : (sk.map fun v => v.category).sum ≤ 8) (hkn : k ≤ R.cells ∧ n ≤ R.slots) (d : decode cc pc = .ok (.invokevirtual idx, 3)) (hq : pc + 3 = q) (K : GG p l e R s m args below meth c Q E A nL σ' k n q L (.double r :: sk)) : GG p l e R s m args below meth c Q E A nL σ k n pc L sk0 := by
  subst hq; subst hst; intro H locs ls hl2 hP hS
  refine va_calld (va_runV (As := As) (rest := sk) C.fix (hM H.size) (cwV nA C.hts (hy.gV hl) rfl hrc hrs ⟨rfl, hy.2.2.2.2⟩ hR) ⟨PE_blind, by rw [← hv]; exact va_recv C.K.1 hP (ci := ci) (q0 := o) hc ho, fun U hU hW => ⟨rfl, C.pre hP hS U hU hW⟩⟩ rfl hn hl2.1 rfl (lv_room hcat) d hkn) hS (fun q _ h => C.sub hS q h) (C.sub hS) (fun r2 u t H1 locs1 ht hvm hw hB hz hk hS1 => ?_)
  subst hw; rw [ht] at hB; exact K H1 locs1 ls hl2 hB hS1
theorem g_cVN_d (C : CX p l e R s m args below meth c own cc nL E A rt) {r : UInt64} (hM : Kd l y (cw y b mL ret) rm E (.ref (ea E o) :: As) σ r σ') (hl : Cond.methodLinkNest own idx y host ∈ tables_1) (hy : mfV y b mL ret nA) (ho : (Wd E σ)[o]? = some (ea E o, .inr (ci, fs))) (hc : gcl[ci]? = some vc) (hv : vc.1 = y.cls) (hn : As.length = nA) (hR : rm.frames + 1 ≤ R.frames ∧ 8 + (mL + 11) + rm.locals ≤ R.locals) (hrc : rm.cells = 0) (hrs : rm.slots = 0) (hst : sk0 = As.reverse ++ .ref (ea E o) :: sk) (hcat : (sk.map fun v => v.category).sum ≤ 8) (hkn : k ≤ R.cells ∧ n ≤ R.slots) (d : decode cc pc = .ok (.invokevirtual idx, 3)) (hq : pc + 3 = q) (K : GG p l e R s m args below meth c Q E A nL σ' k n q L (.double r :: sk)) : GG p l e R s m args below meth c Q E A nL σ k n pc L sk0 := by
  subst hq; subst hst; intro H locs ls hl2 hP hS
  refine va_calld (va_runVN (As := As) (rest := sk) (C := y.cls) C.fix (hM H.size) ⟨va_cnB nA C.hts (cw_good hy.1) rfl hrc hrs (C.K.2.1 _ hl rfl) (C.hts _ hy.2.2.2.1) hy.2.2.2.2 hR, C.hts _ hy.2.1, C.hts _ hy.2.2.1⟩ ⟨PE_blind, by rw [← hv]; exact va_recv C.K.1 hP (ci := ci) (q0 := o) hc ho, fun U hU hW => ⟨rfl, C.pre hP hS U hU hW⟩⟩ rfl hn hl2.1 rfl (lv_room hcat) d hkn) hS (fun q _ h => C.sub hS q h) (C.sub hS) (fun r2 u t H1 locs1 ht hvm hw hB hz hk hS1 => ?_)
  subst hw; rw [ht] at hB; exact K H1 locs1 ls hl2 hB hS1
theorem g_cS_d (C : CX p l e R s m args below meth c own cc nL E A rt) {r : UInt64} (hM : Kd l y (cw y b mL ret) rm E As σ r σ') (hl : Cond.methodLink own idx y ∈ WA) (hy : mfS y b mL ret nA) (hv : y.cls = own) (hn : As.length = nA) (hR : rm.frames + 1 ≤ R.frames ∧ 8 + (mL + 11) + rm.locals ≤ R.locals) (hrc : rm.cells = 0) (hrs : rm.slots = 0) (hst : sk0 = As.reverse ++ sk) (hcat : (sk.map fun v => v.category).sum ≤ 8) (hkn : k ≤ R.cells ∧ n ≤ R.slots) (d : decode cc pc = .ok (.invokestatic idx, 3)) (hq : pc + 3 = q) (K : GG p l e R s m args below meth c Q E A nL σ' k n q L (.double r :: sk)) : GG p l e R s m args below meth c Q E A nL σ k n pc L sk0 := by
  subst hq; subst hst; intro H locs ls hl2 hP hS
  refine va_calld (va_runS (As := As) (rest := sk) C.fix (hM H.size) (cwS nA C.hts (hy.gS hv hl) rfl hrc hrs ⟨hv, hy.2.2.2⟩ hR) ⟨PE_blind, fun U hU hW => ⟨rfl, C.pre hP hS U hU hW⟩⟩ rfl hn hl2.1 rfl (lv_room hcat) d hkn) hS (fun q _ h => C.sub hS q h) (C.sub hS) (fun r2 u t H1 locs1 ht hvm hw hB hz hk hS1 => ?_)
  subst hw; rw [ht] at hB; exact K H1 locs1 ls hl2 hB hS1
theorem g_cSN_d (C : CX p l e R s m args below meth c own cc nL E A rt) {r : UInt64} (hM : Kd l y (cw y b mL ret) rm E As σ r σ') (hl : Cond.methodLinkNest own idx y host ∈ tables_1) (hy : mfS y b mL ret nA) (hn : As.length = nA) (hR : rm.frames + 1 ≤ R.frames ∧ 8 + (mL + 11) + rm.locals ≤ R.locals) (hrc : rm.cells = 0) (hrs : rm.slots = 0) (hst : sk0 = As.reverse ++ sk) (hcat : (sk.map fun v => v.category).sum ≤ 8) (hkn : k ≤ R.cells ∧ n ≤ R.slots) (d : decode cc pc = .ok (.invokestatic idx, 3)) (hq : pc + 3 = q) (K : GG p l e R s m args below meth c Q E A nL σ' k n q L (.double r :: sk)) : GG p l e R s m args below meth c Q E A nL σ k n pc L sk0 := by
  subst hq; subst hst; intro H locs ls hl2 hP hS
  refine va_calld (va_runSN (As := As) (rest := sk) C.fix (hM H.size) ⟨va_cnB nA C.hts (cw_good hy.1) rfl hrc hrs (C.K.2.1 _ hl rfl) (C.hts _ hy.2.2.1) hy.2.2.2 hR, C.hts _ hy.2.1, trivial⟩ ⟨PE_blind, fun U hU hW => ⟨rfl, C.pre hP hS U hU hW⟩⟩ rfl hn hl2.1 rfl (lv_room hcat) d hkn) hS (fun q _ h => C.sub hS q h) (C.sub hS) (fun r2 u t H1 locs1 ht hvm hw hB hz hk hS1 => ?_)
  subst hw; rw [ht] at hB; exact K H1 locs1 ls hl2 hB hS1
theorem g_cV_f (C : CX p l e R s m args below meth c own cc nL E A rt) {r : UInt32} (hM : Kf l y (cw y b mL ret) rm E (.ref (ea E o) :: As) σ r σ') (hl : Cond.methodLink own idx y ∈ WA) (hy : mfV y b mL ret nA) (ho : (Wd E σ)[o]? = some (ea E o, .inr (ci, fs))) (hc : gcl[ci]? = some vc) (hv : vc.1 = y.cls) (hn : As.length = nA) (hR : rm.frames + 1 ≤ R.frames ∧ 8 + (mL + 11) + rm.locals ≤ R.locals) (hrc : rm.cells = 0) (hrs : rm.slots = 0) (hst : sk0 = As.reverse ++ .ref (ea E o) :: sk) (hcat : (sk.map fun v => v.category).sum ≤ 8) (hkn : k ≤ R.cells ∧ n ≤ R.slots) (d : decode cc pc = .ok (.invokevirtual idx, 3)) (hq : pc + 3 = q) (K : GG p l e R s m args below meth c Q E A nL σ' k n q L (.float r :: sk)) : GG p l e R s m args below meth c Q E A nL σ k n pc L sk0 := by
  subst hq; subst hst; intro H locs ls hl2 hP hS
  refine va_callf (va_runV (As := As) (rest := sk) C.fix (hM H.size) (cwV nA C.hts (hy.gV hl) rfl hrc hrs ⟨rfl, hy.2.2.2.2⟩ hR) ⟨PE_blind, by rw [← hv]; exact va_recv C.K.1 hP (ci := ci) (q0 := o) hc ho, fun U hU hW => ⟨rfl, C.pre hP hS U hU hW⟩⟩ rfl hn hl2.1 rfl (lv_room hcat) d hkn) hS (fun q _ h => C.sub hS q h) (C.sub hS) (fun r2 u t H1 locs1 ht hvm hw hB hz hk hS1 => ?_)
  subst hw; rw [ht] at hB; exact K H1 locs1 ls hl2 hB hS1
theorem g_cVN_f (C : CX p l e R s m args below meth c own cc nL E A rt) {r : UInt32} (hM : Kf l y (cw y b mL ret) rm E (.ref (ea E o) :: As) σ r σ') (hl : Cond.methodLinkNest own idx y host ∈ tables_1) (hy : mfV y b mL ret nA) (ho : (Wd E σ)[o]? = some (ea E o, .inr (ci, fs))) (hc : gcl[ci]? = some vc) (hv : vc.1 = y.cls) (hn : As.length = nA) (hR : rm.frames + 1 ≤ R.frames ∧ 8 + (mL + 11) + rm.locals ≤ R.locals) (hrc : rm.cells = 0) (hrs : rm.slots = 0) (hst : sk0 = As.reverse ++ .ref (ea E o) :: sk) (hcat : (sk.map fun v => v.category).sum ≤ 8) (hkn : k ≤ R.cells ∧ n ≤ R.slots) (d : decode cc pc = .ok (.invokevirtual idx, 3)) (hq : pc + 3 = q) (K : GG p l e R s m args below meth c Q E A nL σ' k n q L (.float r :: sk)) : GG p l e R s m args below meth c Q E A nL σ k n pc L sk0 := by
  subst hq; subst hst; intro H locs ls hl2 hP hS
  refine va_callf (va_runVN (As := As) (rest := sk) (C := y.cls) C.fix (hM H.size) ⟨va_cnB nA C.hts (cw_good hy.1) rfl hrc hrs (C.K.2.1 _ hl rfl) (C.hts _ hy.2.2.2.1) hy.2.2.2.2 hR, C.hts _ hy.2.1, C.hts _ hy.2.2.1⟩ ⟨PE_blind, by rw [← hv]; exact va_recv C.K.1 hP (ci := ci) (q0 := o) hc ho, fun U hU hW => ⟨rfl, C.pre hP hS U hU hW⟩⟩ rfl hn hl2.1 rfl (lv_room hcat) d hkn) hS (fun q _ h => C.sub hS q h) (C.sub hS) (fun r2 u t H1 locs1 ht hvm hw hB hz hk hS1 => ?_)
  subst hw; rw [ht] at hB; exact K H1 locs1 ls hl2 hB hS1
theorem g_cS_f (C : CX p l e R s m args below meth c own cc nL E A rt) {r : UInt32} (hM : Kf l y (cw y b mL ret) rm E As σ r σ') (hl : Cond.methodLink own idx y ∈ WA) (hy : mfS y b mL ret nA) (hv : y.cls = own) (hn : As.length = nA) (hR : rm.frames + 1 ≤ R.frames ∧ 8 + (mL + 11) + rm.locals ≤ R.locals) (hrc : rm.cells = 0) (hrs : rm.slots = 0) (hst : sk0 = As.reverse ++ sk) (hcat : (sk.map fun v => v.category).sum ≤ 8) (hkn : k ≤ R.cells ∧ n ≤ R.slots) (d : decode cc pc = .ok (.invokestatic idx, 3)) (hq : pc + 3 = q) (K : GG p l e R s m args below meth c Q E A nL σ' k n q L (.float r :: sk)) : GG p l e R s m args below meth c Q E A nL σ k n pc L sk0 := by
  subst hq; subst hst; intro H locs ls hl2 hP hS
  refine va_callf (va_runS (As := As) (rest := sk) C.fix (hM H.size) (cwS nA C.hts (hy.gS hv hl) rfl hrc hrs ⟨hv, hy.2.2.2⟩ hR) ⟨PE_blind, fun U hU hW => ⟨rfl, C.pre hP hS U hU hW⟩⟩ rfl hn hl2.1 rfl (lv_room hcat) d hkn) hS (fun q _ h => C.sub hS q h) (C.sub hS) (fun r2 u t H1 locs1 ht hvm hw hB hz hk hS1 => ?_)
  subst hw; rw [ht] at hB; exact K H1 locs1 ls hl2 hB hS1
theorem g_cSN_f (C : CX p l e R s m args below meth c own cc nL E A rt) {r : UInt32} (hM : Kf l y (cw y b mL ret) rm E As σ r σ') (hl : Cond.methodLinkNest own idx y host ∈ tables_1) (hy : mfS y b mL ret nA) (hn : As.length = nA) (hR : rm.frames + 1 ≤ R.frames ∧ 8 + (mL + 11) + rm.locals ≤ R.locals) (hrc : rm.cells = 0) (hrs : rm.slots = 0) (hst : sk0 = As.reverse ++ sk) (hcat : (sk.map fun v => v.category).sum ≤ 8) (hkn : k ≤ R.cells ∧ n ≤ R.slots) (d : decode cc pc = .ok (.invokestatic idx, 3)) (hq : pc + 3 = q) (K : GG p l e R s m args below meth c Q E A nL σ' k n q L (.float r :: sk)) : GG p l e R s m args below meth c Q E A nL σ k n pc L sk0 := by
  subst hq; subst hst; intro H locs ls hl2 hP hS
  refine va_callf (va_runSN (As := As) (rest := sk) C.fix (hM H.size) ⟨va_cnB nA C.hts (cw_good hy.1) rfl hrc hrs (C.K.2.1 _ hl rfl) (C.hts _ hy.2.2.1) hy.2.2.2 hR, C.hts _ hy.2.1, trivial⟩ ⟨PE_blind, fun U hU hW => ⟨rfl, C.pre hP hS U hU hW⟩⟩ rfl hn hl2.1 rfl (lv_room hcat) d hkn) hS (fun q _ h => C.sub hS q h) (C.sub hS) (fun r2 u t H1 locs1 ht hvm hw hB hz hk hS1 => ?_)
  subst hw; rw [ht] at hB; exact K H1 locs1 ls hl2 hB hS1
theorem g_cV_v (C : CX p l e R s m args below meth c own cc nL E A rt) (hM : Kv l y (cw y b mL ret) rm E (.ref (ea E o) :: As) σ σ') (hl : Cond.methodLink own idx y ∈ WA) (hy : mfV y b mL ret nA) (ho : (Wd E σ)[o]? = some (ea E o, .inr (ci, fs))) (hc : gcl[ci]? = some vc) (hv : vc.1 = y.cls) (hn : As.length = nA) (hR : rm.frames + 1 ≤ R.frames ∧ 8 + (mL + 11) + rm.locals ≤ R.locals) (hrc : rm.cells = 0) (hrs : rm.slots = 0) (hst : sk0 = As.reverse ++ .ref (ea E o) :: sk) (hcat : (sk.map fun v => v.category).sum ≤ 8) (hkn : k ≤ R.cells ∧ n ≤ R.slots) (d : decode cc pc = .ok (.invokevirtual idx, 3)) (hq : pc + 3 = q) (K : GG p l e R s m args below meth c Q E A nL σ' k n q L (sk)) : GG p l e R s m args below meth c Q E A nL σ k n pc L sk0 := by
  subst hq; subst hst; intro H locs ls hl2 hP hS
  refine va_callv (va_runV (As := As) (rest := sk) C.fix (hM H.size) (cwV nA C.hts (hy.gV hl) rfl hrc hrs ⟨rfl, hy.2.2.2.2⟩ hR) ⟨PE_blind, by rw [← hv]; exact va_recv C.K.1 hP (ci := ci) (q0 := o) hc ho, fun U hU hW => ⟨rfl, C.pre hP hS U hU hW⟩⟩ rfl hn hl2.1 rfl (lv_room hcat) d hkn) hS (fun q _ h => C.sub hS q h) (C.sub hS) (fun u t H1 locs1 ht hvm hw hB hz hk hS1 => ?_)
  rw [ht] at hB; exact K H1 locs1 ls hl2 hB hS1
theorem g_cVN_v (C : CX p l e R s m args below meth c own cc nL E A rt) (hM : Kv l y (cw y b mL ret) rm E (.ref (ea E o) :: As) σ σ') (hl : Cond.methodLinkNest own idx y host ∈ tables_1) (hy : mfV y b mL ret nA) (ho : (Wd E σ)[o]? = some (ea E o, .inr (ci, fs))) (hc : gcl[ci]? = some vc) (hv : vc.1 = y.cls) (hn : As.length = nA) (hR : rm.frames + 1 ≤ R.frames ∧ 8 + (mL + 11) + rm.locals ≤ R.locals) (hrc : rm.cells = 0) (hrs : rm.slots = 0) (hst : sk0 = As.reverse ++ .ref (ea E o) :: sk) (hcat : (sk.map fun v => v.category).sum ≤ 8) (hkn : k ≤ R.cells ∧ n ≤ R.slots) (d : decode cc pc = .ok (.invokevirtual idx, 3)) (hq : pc + 3 = q) (K : GG p l e R s m args below meth c Q E A nL σ' k n q L (sk)) : GG p l e R s m args below meth c Q E A nL σ k n pc L sk0 := by
  subst hq; subst hst; intro H locs ls hl2 hP hS
  refine va_callv (va_runVN (As := As) (rest := sk) (C := y.cls) C.fix (hM H.size) ⟨va_cnB nA C.hts (cw_good hy.1) rfl hrc hrs (C.K.2.1 _ hl rfl) (C.hts _ hy.2.2.2.1) hy.2.2.2.2 hR, C.hts _ hy.2.1, C.hts _ hy.2.2.1⟩ ⟨PE_blind, by rw [← hv]; exact va_recv C.K.1 hP (ci := ci) (q0 := o) hc ho, fun U hU hW => ⟨rfl, C.pre hP hS U hU hW⟩⟩ rfl hn hl2.1 rfl (lv_room hcat) d hkn) hS (fun q _ h => C.sub hS q h) (C.sub hS) (fun u t H1 locs1 ht hvm hw hB hz hk hS1 => ?_)
  rw [ht] at hB; exact K H1 locs1 ls hl2 hB hS1
theorem g_cS_v (C : CX p l e R s m args below meth c own cc nL E A rt) (hM : Kv l y (cw y b mL ret) rm E As σ σ') (hl : Cond.methodLink own idx y ∈ WA) (hy : mfS y b mL ret nA) (hv : y.cls = own) (hn : As.length = nA) (hR : rm.frames + 1 ≤ R.frames ∧ 8 + (mL + 11) + rm.locals ≤ R.locals) (hrc : rm.cells = 0) (hrs : rm.slots = 0) (hst : sk0 = As.reverse ++ sk) (hcat : (sk.map fun v => v.category).sum ≤ 8) (hkn : k ≤ R.cells ∧ n ≤ R.slots) (d : decode cc pc = .ok (.invokestatic idx, 3)) (hq : pc + 3 = q) (K : GG p l e R s m args below meth c Q E A nL σ' k n q L (sk)) : GG p l e R s m args below meth c Q E A nL σ k n pc L sk0 := by
  subst hq; subst hst; intro H locs ls hl2 hP hS
  refine va_callv (va_runS (As := As) (rest := sk) C.fix (hM H.size) (cwS nA C.hts (hy.gS hv hl) rfl hrc hrs ⟨hv, hy.2.2.2⟩ hR) ⟨PE_blind, fun U hU hW => ⟨rfl, C.pre hP hS U hU hW⟩⟩ rfl hn hl2.1 rfl (lv_room hcat) d hkn) hS (fun q _ h => C.sub hS q h) (C.sub hS) (fun u t H1 locs1 ht hvm hw hB hz hk hS1 => ?_)
  rw [ht] at hB; exact K H1 locs1 ls hl2 hB hS1
theorem g_cSN_v (C : CX p l e R s m args below meth c own cc nL E A rt) (hM : Kv l y (cw y b mL ret) rm E As σ σ') (hl : Cond.methodLinkNest own idx y host ∈ tables_1) (hy : mfS y b mL ret nA) (hn : As.length = nA) (hR : rm.frames + 1 ≤ R.frames ∧ 8 + (mL + 11) + rm.locals ≤ R.locals) (hrc : rm.cells = 0) (hrs : rm.slots = 0) (hst : sk0 = As.reverse ++ sk) (hcat : (sk.map fun v => v.category).sum ≤ 8) (hkn : k ≤ R.cells ∧ n ≤ R.slots) (d : decode cc pc = .ok (.invokestatic idx, 3)) (hq : pc + 3 = q) (K : GG p l e R s m args below meth c Q E A nL σ' k n q L (sk)) : GG p l e R s m args below meth c Q E A nL σ k n pc L sk0 := by
  subst hq; subst hst; intro H locs ls hl2 hP hS
  refine va_callv (va_runSN (As := As) (rest := sk) C.fix (hM H.size) ⟨va_cnB nA C.hts (cw_good hy.1) rfl hrc hrs (C.K.2.1 _ hl rfl) (C.hts _ hy.2.2.1) hy.2.2.2 hR, C.hts _ hy.2.1, trivial⟩ ⟨PE_blind, fun U hU hW => ⟨rfl, C.pre hP hS U hU hW⟩⟩ rfl hn hl2.1 rfl (lv_room hcat) d hkn) hS (fun q _ h => C.sub hS q h) (C.sub hS) (fun u t H1 locs1 ht hvm hw hB hz hk hS1 => ?_)
  rw [ht] at hB; exact K H1 locs1 ls hl2 hB hS1
theorem g_cV_r (C : CX p l e R s m args below meth c own cc nL E A rt) {r : Nat} (hM : Kr l y (cw y b mL ret) rm E (.ref (ea E o) :: As) σ r σ') (hl : Cond.methodLink own idx y ∈ WA) (hy : mfV y b mL ret nA) (ho : (Wd E σ)[o]? = some (ea E o, .inr (ci, fs))) (hc : gcl[ci]? = some vc) (hv : vc.1 = y.cls) (hn : As.length = nA) (hR : rm.frames + 1 ≤ R.frames ∧ 8 + (mL + 11) + rm.locals ≤ R.locals) (hrc : rm.cells = 0) (hrs : rm.slots = 0) (hst : sk0 = As.reverse ++ .ref (ea E o) :: sk) (hcat : (sk.map fun v => v.category).sum ≤ 8) (hkn : k ≤ R.cells ∧ n ≤ R.slots) (d : decode cc pc = .ok (.invokevirtual idx, 3)) (hq : pc + 3 = q) (K : GG p l e R s m args below meth c Q E A nL σ' k n q L (.ref r :: sk)) : GG p l e R s m args below meth c Q E A nL σ k n pc L sk0 := by
  subst hq; subst hst; intro H locs ls hl2 hP hS
  refine va_callr (va_runV (As := As) (rest := sk) C.fix (hM H.size) (cwV nA C.hts (hy.gV hl) rfl hrc hrs ⟨rfl, hy.2.2.2.2⟩ hR) ⟨PE_blind, by rw [← hv]; exact va_recv C.K.1 hP (ci := ci) (q0 := o) hc ho, fun U hU hW => ⟨rfl, C.pre hP hS U hU hW⟩⟩ rfl hn hl2.1 rfl (lv_room hcat) d hkn) hS (fun q _ h => C.sub hS q h) (C.sub hS) (fun u a9 t H1 locs1 ht hvm hw hB hz hk hS1 => ?_)
  obtain ⟨rfl, hB⟩ := hB; rw [ht] at hB; exact K H1 locs1 ls hl2 hB hS1
theorem g_cVN_r (C : CX p l e R s m args below meth c own cc nL E A rt) {r : Nat} (hM : Kr l y (cw y b mL ret) rm E (.ref (ea E o) :: As) σ r σ') (hl : Cond.methodLinkNest own idx y host ∈ tables_1) (hy : mfV y b mL ret nA) (ho : (Wd E σ)[o]? = some (ea E o, .inr (ci, fs))) (hc : gcl[ci]? = some vc) (hv : vc.1 = y.cls) (hn : As.length = nA) (hR : rm.frames + 1 ≤ R.frames ∧ 8 + (mL + 11) + rm.locals ≤ R.locals) (hrc : rm.cells = 0) (hrs : rm.slots = 0) (hst : sk0 = As.reverse ++ .ref (ea E o) :: sk) (hcat : (sk.map fun v => v.category).sum ≤ 8) (hkn : k ≤ R.cells ∧ n ≤ R.slots) (d : decode cc pc = .ok (.invokevirtual idx, 3)) (hq : pc + 3 = q) (K : GG p l e R s m args below meth c Q E A nL σ' k n q L (.ref r :: sk)) : GG p l e R s m args below meth c Q E A nL σ k n pc L sk0 := by
  subst hq; subst hst; intro H locs ls hl2 hP hS
  refine va_callr (va_runVN (As := As) (rest := sk) (C := y.cls) C.fix (hM H.size) ⟨va_cnB nA C.hts (cw_good hy.1) rfl hrc hrs (C.K.2.1 _ hl rfl) (C.hts _ hy.2.2.2.1) hy.2.2.2.2 hR, C.hts _ hy.2.1, C.hts _ hy.2.2.1⟩ ⟨PE_blind, by rw [← hv]; exact va_recv C.K.1 hP (ci := ci) (q0 := o) hc ho, fun U hU hW => ⟨rfl, C.pre hP hS U hU hW⟩⟩ rfl hn hl2.1 rfl (lv_room hcat) d hkn) hS (fun q _ h => C.sub hS q h) (C.sub hS) (fun u a9 t H1 locs1 ht hvm hw hB hz hk hS1 => ?_)
  obtain ⟨rfl, hB⟩ := hB; rw [ht] at hB; exact K H1 locs1 ls hl2 hB hS1
theorem g_cS_r (C : CX p l e R s m args below meth c own cc nL E A rt) {r : Nat} (hM : Kr l y (cw y b mL ret) rm E As σ r σ') (hl : Cond.methodLink own idx y ∈ WA) (hy : mfS y b mL ret nA) (hv : y.cls = own) (hn : As.length = nA) (hR : rm.frames + 1 ≤ R.frames ∧ 8 + (mL + 11) + rm.locals ≤ R.locals) (hrc : rm.cells = 0) (hrs : rm.slots = 0) (hst : sk0 = As.reverse ++ sk) (hcat : (sk.map fun v => v.category).sum ≤ 8) (hkn : k ≤ R.cells ∧ n ≤ R.slots) (d : decode cc pc = .ok (.invokestatic idx, 3)) (hq : pc + 3 = q) (K : GG p l e R s m args below meth c Q E A nL σ' k n q L (.ref r :: sk)) : GG p l e R s m args below meth c Q E A nL σ k n pc L sk0 := by
  subst hq; subst hst; intro H locs ls hl2 hP hS
  refine va_callr (va_runS (As := As) (rest := sk) C.fix (hM H.size) (cwS nA C.hts (hy.gS hv hl) rfl hrc hrs ⟨hv, hy.2.2.2⟩ hR) ⟨PE_blind, fun U hU hW => ⟨rfl, C.pre hP hS U hU hW⟩⟩ rfl hn hl2.1 rfl (lv_room hcat) d hkn) hS (fun q _ h => C.sub hS q h) (C.sub hS) (fun u a9 t H1 locs1 ht hvm hw hB hz hk hS1 => ?_)
  obtain ⟨rfl, hB⟩ := hB; rw [ht] at hB; exact K H1 locs1 ls hl2 hB hS1
theorem g_cSN_r (C : CX p l e R s m args below meth c own cc nL E A rt) {r : Nat} (hM : Kr l y (cw y b mL ret) rm E As σ r σ') (hl : Cond.methodLinkNest own idx y host ∈ tables_1) (hy : mfS y b mL ret nA) (hn : As.length = nA) (hR : rm.frames + 1 ≤ R.frames ∧ 8 + (mL + 11) + rm.locals ≤ R.locals) (hrc : rm.cells = 0) (hrs : rm.slots = 0) (hst : sk0 = As.reverse ++ sk) (hcat : (sk.map fun v => v.category).sum ≤ 8) (hkn : k ≤ R.cells ∧ n ≤ R.slots) (d : decode cc pc = .ok (.invokestatic idx, 3)) (hq : pc + 3 = q) (K : GG p l e R s m args below meth c Q E A nL σ' k n q L (.ref r :: sk)) : GG p l e R s m args below meth c Q E A nL σ k n pc L sk0 := by
  subst hq; subst hst; intro H locs ls hl2 hP hS
  refine va_callr (va_runSN (As := As) (rest := sk) C.fix (hM H.size) ⟨va_cnB nA C.hts (cw_good hy.1) rfl hrc hrs (C.K.2.1 _ hl rfl) (C.hts _ hy.2.2.1) hy.2.2.2 hR, C.hts _ hy.2.1, trivial⟩ ⟨PE_blind, fun U hU hW => ⟨rfl, C.pre hP hS U hU hW⟩⟩ rfl hn hl2.1 rfl (lv_room hcat) d hkn) hS (fun q _ h => C.sub hS q h) (C.sub hS) (fun u a9 t H1 locs1 ht hvm hw hB hz hk hS1 => ?_)
  obtain ⟨rfl, hB⟩ := hB; rw [ht] at hB; exact K H1 locs1 ls hl2 hB hS1
theorem g_iret (C : CX p l e R s m args below meth c own cc nL E A (some .int)) {r v : Int} (d : decode cc pc = .ok (.ireturn, 1)) (hv : v = r) (hσ : σ = σ') : GG p l e R s m args below meth c (MQ below (va_Qi (fun x (_ : Unit) => x = iI r) (fun _ t => va_P E.1 gcl (Wd E σ') t.heap) A) args s k n A) E A nL σ k n pc L [.int (iI v)] := by
  subst hv; subst hσ; intro H locs ls hl hP hS
  exact W.iret (v := iI v) C.exec C.code C.ret (fun t ht hW => ⟨⟨iI v, (), rfl, rfl, by show va_P _ _ _ t.heap; rw [ht]; exact hP⟩, hS.F ht⟩) hS.2.2 d C.locks
theorem g_zret (C : CX p l e R s m args below meth c own cc nL E A (some .boolean)) {r v : Int} (hz : v = 0 ∨ v = 1) (d : decode cc pc = .ok (.ireturn, 1)) (hv : v = r) (hσ : σ = σ') : GG p l e R s m args below meth c (MQ below (va_Qi (fun x (_ : Unit) => x = iI r) (fun _ t => va_P E.1 gcl (Wd E σ') t.heap) A) args s k n A) E A nL σ k n pc L [.int (iI v)] := by
  subst hv; subst hσ; intro H locs ls hl hP hS
  exact W.zret (v := iI v) C.exec C.code C.ret (by rcases hz with rfl | rfl <;> decide) (fun t ht hW => ⟨⟨iI v, (), rfl, rfl, by show va_P _ _ _ t.heap; rw [ht]; exact hP⟩, hS.F ht⟩) hS.2.2 d C.locks
theorem g_chret (C : CX p l e R s m args below meth c own cc nL E A (some .char)) {r v : Int} (hz : 0 ≤ v ∧ v < 65536) (d : decode cc pc = .ok (.ireturn, 1)) (hv : v = r) (hσ : σ = σ') : GG p l e R s m args below meth c (MQ below (va_Qi (fun x (_ : Unit) => x = iI r) (fun _ t => va_P E.1 gcl (Wd E σ') t.heap) A) args s k n A) E A nL σ k n pc L [.int (iI v)] := by
  subst hv; subst hσ; intro H locs ls hl hP hS
  exact W.zret (v := iI v) C.exec C.code C.ret (iI_narC hz) (fun t ht hW => ⟨⟨iI v, (), rfl, rfl, by show va_P _ _ _ t.heap; rw [ht]; exact hP⟩, hS.F ht⟩) hS.2.2 d C.locks
theorem g_lret (C : CX p l e R s m args below meth c own cc nL E A (some .long)) {r v : Int} (d : decode cc pc = .ok (.lreturn, 1)) (hv : v = r) (hσ : σ = σ') : GG p l e R s m args below meth c (MQ below (va_Ql (fun x (_ : Unit) => x = iL r) (fun _ t => va_P E.1 gcl (Wd E σ') t.heap) A) args s k n A) E A nL σ k n pc L [.long (iL v)] := by
  subst hv; subst hσ; intro H locs ls hl hP hS
  exact W.lret (v := iL v) C.exec C.code C.ret (fun t ht hW => ⟨⟨iL v, (), rfl, rfl, by show va_P _ _ _ t.heap; rw [ht]; exact hP⟩, hS.F ht⟩) hS.2.2 d C.locks
theorem g_dret (C : CX p l e R s m args below meth c own cc nL E A (some .double)) {r v : UInt64} (d : decode cc pc = .ok (.dreturn, 1)) (hv : v = r) (hσ : σ = σ') : GG p l e R s m args below meth c (MQ below (va_Qd (fun x (_ : Unit) => x = r) (fun _ t => va_P E.1 gcl (Wd E σ') t.heap) A) args s k n A) E A nL σ k n pc L [.double v] := by
  subst hv; subst hσ; intro H locs ls hl hP hS
  exact W.dret (v := v) C.exec C.code C.ret (fun t ht hW => ⟨⟨v, (), rfl, rfl, by show va_P _ _ _ t.heap; rw [ht]; exact hP⟩, hS.F ht⟩) hS.2.2 d C.locks
theorem g_fret (C : CX p l e R s m args below meth c own cc nL E A (some .float)) {r v : UInt32} (d : decode cc pc = .ok (.freturn, 1)) (hv : v = r) (hσ : σ = σ') : GG p l e R s m args below meth c (MQ below (va_Qf (fun x (_ : Unit) => x = r) (fun _ t => va_P E.1 gcl (Wd E σ') t.heap) A) args s k n A) E A nL σ k n pc L [.float v] := by
  subst hv; subst hσ; intro H locs ls hl hP hS
  exact W.fret (v := v) C.exec C.code C.ret (fun t ht hW => ⟨⟨v, (), rfl, rfl, by show va_P _ _ _ t.heap; rw [ht]; exact hP⟩, hS.F ht⟩) hS.2.2 d C.locks
theorem g_vret (C : CX p l e R s m args below meth c own cc nL E A none) (d : decode cc pc = .ok (.return_, 1)) (hσ : σ = σ') : GG p l e R s m args below meth c (MQ below (va_Qv (fun (_ : Unit) => True) (fun _ t => va_P E.1 gcl (Wd E σ') t.heap) A) args s k n A) E A nL σ k n pc L [] := by
  subst hσ; intro H locs ls hl hP hS
  exact W.vret C.exec C.code C.ret (fun t ht hW => ⟨⟨(), rfl, trivial, by show va_P _ _ _ t.heap; rw [ht]; exact hP⟩, hS.F ht⟩) hS.2.2 d C.locks
theorem g_aret {rty : FieldType} (C : CX p l e R s m args below meth c own cc nL E A (some rty)) {r v : Nat} (hrk : (∃ n, rty = .object n) ∨ ∃ t, rty = .array t) (d : decode cc pc = .ok (.areturn, 1)) (hv : v = r) (hσ : σ = σ') : GG p l e R s m args below meth c (MQ below (va_Qr (fun (_ : Unit) => True) (fun _ a9 t => a9 = r ∧ va_P E.1 gcl (Wd E σ') t.heap) A) args s k n A) E A nL σ k n pc L [.ref v] := by
  subst hv; subst hσ; intro H locs ls hl hP hS
  exact W.aret (v := .ref v) C.exec C.code C.ret hrk (Or.inr ⟨v, rfl⟩) (fun t ht hW => ⟨⟨(), v, rfl, trivial, rfl, by show va_P _ _ _ t.heap; rw [ht]; exact hP⟩, hS.F ht⟩) hS.2.2 d C.locks
end GCALLS
theorem Ki_of {l : Launch} {y : MethodName} {b : ByteArray} {mL : Nat} {rm : Room} {E : EV} {av : List Value} {σ σ' : SS} {r : Int} (own : String) (hown : y.cls = own) (hy : plainName y.cls = true) (hrc : rm.cells = 0) (hrs : rm.slots = 0) (L0 : List (Nat × Value)) (hL : lv_args 0 av = L0) (hsl : (lg_sl av).length ≤ mL)
    (body : ∀ (p : Program) (e : Env) (s : State) (m : MethodId) (args : Array Value) (below : List Frame) (meth : Method) (c : Code) (Q : State → Prop) (A : Nat → Prop), CX p l e rm s m args below meth c own b mL E A (some .int) → (∀ (pc : Nat) (L : List (Nat × Value)) (v : Int), decode b pc = .ok (.ireturn, 1) → v = r → GG p l e rm s m args below meth c Q E A mL σ' 0 0 pc L [.int (iI v)]) → GG p l e rm s m args below meth c Q E A mL σ 0 0 0 L0 []) : Ki l y (cw y b mL (some .int)) rm E av σ r σ' := by
  intro sz
  refine Met.ofW (cc := b) (maxL := mL) (ret := some .int) hy rfl ?_
  intro p e s m args below meth c s₁ B hml hv
  obtain ⟨rfl, hsz, hP, hK, hE, hap⟩ := hv
  subst hsz; subst hown; subst hL
  have hts := atoms_spec (ws := cw y b mL (some .int)) B.pre
  have C : CX p l e rm s m av.toArray below meth c y.cls b mL E (aA E s.heap.size) (some .int) := ⟨B.exec, B.bytes, hml, findClass_of_methodNamed B.named, fun w h => hts w (List.mem_cons_of_mem _ h), B.notSynchronized, hK, hE, hap, fun k hk => Or.inl ⟨k, hk, rfl⟩, fun q h => Or.inr h, B.returns⟩
  have hl := lv_entry av (n := mL) hsl
  rw [lg_entry_eq]
  exact body p e s m av.toArray below meth c _ _ C (fun pc L v d hv => g_iret C d hv rfl) s.heap [] _ hl hP va_S.rf
theorem Kz_of {l : Launch} {y : MethodName} {b : ByteArray} {mL : Nat} {rm : Room} {E : EV} {av : List Value} {σ σ' : SS} {r : Int} (own : String) (hown : y.cls = own) (hy : plainName y.cls = true) (hrc : rm.cells = 0) (hrs : rm.slots = 0) (L0 : List (Nat × Value)) (hL : lv_args 0 av = L0) (hsl : (lg_sl av).length ≤ mL)
    (body : ∀ (p : Program) (e : Env) (s : State) (m : MethodId) (args : Array Value) (below : List Frame) (meth : Method) (c : Code) (Q : State → Prop) (A : Nat → Prop), CX p l e rm s m args below meth c own b mL E A (some .boolean) → (∀ (pc : Nat) (L : List (Nat × Value)) (v : Int), decode b pc = .ok (.ireturn, 1) → (v = 0 ∨ v = 1) → v = r → GG p l e rm s m args below meth c Q E A mL σ' 0 0 pc L [.int (iI v)]) → GG p l e rm s m args below meth c Q E A mL σ 0 0 0 L0 []) : Ki l y (cw y b mL (some .boolean)) rm E av σ r σ' := by
  intro sz
  refine Met.ofW (cc := b) (maxL := mL) (ret := some .boolean) hy rfl ?_
  intro p e s m args below meth c s₁ B hml hv
  obtain ⟨rfl, hsz, hP, hK, hE, hap⟩ := hv
  subst hsz; subst hown; subst hL
  have hts := atoms_spec (ws := cw y b mL (some .boolean)) B.pre
  have C : CX p l e rm s m av.toArray below meth c y.cls b mL E (aA E s.heap.size) (some .boolean) := ⟨B.exec, B.bytes, hml, findClass_of_methodNamed B.named, fun w h => hts w (List.mem_cons_of_mem _ h), B.notSynchronized, hK, hE, hap, fun k hk => Or.inl ⟨k, hk, rfl⟩, fun q h => Or.inr h, B.returns⟩
  have hl := lv_entry av (n := mL) hsl
  rw [lg_entry_eq]
  exact body p e s m av.toArray below meth c _ _ C (fun pc L v d hz hv => g_zret C hz d hv rfl) s.heap [] _ hl hP va_S.rf
theorem Kc_of {l : Launch} {y : MethodName} {b : ByteArray} {mL : Nat} {rm : Room} {E : EV} {av : List Value} {σ σ' : SS} {r : Int} (own : String) (hown : y.cls = own) (hy : plainName y.cls = true) (hrc : rm.cells = 0) (hrs : rm.slots = 0) (L0 : List (Nat × Value)) (hL : lv_args 0 av = L0) (hsl : (lg_sl av).length ≤ mL)
    (body : ∀ (p : Program) (e : Env) (s : State) (m : MethodId) (args : Array Value) (below : List Frame) (meth : Method) (c : Code) (Q : State → Prop) (A : Nat → Prop), CX p l e rm s m args below meth c own b mL E A (some .char) → (∀ (pc : Nat) (L : List (Nat × Value)) (v : Int), decode b pc = .ok (.ireturn, 1) → (0 ≤ v ∧ v < 65536) → v = r → GG p l e rm s m args below meth c Q E A mL σ' 0 0 pc L [.int (iI v)]) → GG p l e rm s m args below meth c Q E A mL σ 0 0 0 L0 []) : Ki l y (cw y b mL (some .char)) rm E av σ r σ' := by
  intro sz
  refine Met.ofW (cc := b) (maxL := mL) (ret := some .char) hy rfl ?_
  intro p e s m args below meth c s₁ B hml hv
  obtain ⟨rfl, hsz, hP, hK, hE, hap⟩ := hv
  subst hsz; subst hown; subst hL
  have hts := atoms_spec (ws := cw y b mL (some .char)) B.pre
  have C : CX p l e rm s m av.toArray below meth c y.cls b mL E (aA E s.heap.size) (some .char) := ⟨B.exec, B.bytes, hml, findClass_of_methodNamed B.named, fun w h => hts w (List.mem_cons_of_mem _ h), B.notSynchronized, hK, hE, hap, fun k hk => Or.inl ⟨k, hk, rfl⟩, fun q h => Or.inr h, B.returns⟩
  have hl := lv_entry av (n := mL) hsl
  rw [lg_entry_eq]
  exact body p e s m av.toArray below meth c _ _ C (fun pc L v d hz hv => g_chret C hz d hv rfl) s.heap [] _ hl hP va_S.rf
theorem Kl_of {l : Launch} {y : MethodName} {b : ByteArray} {mL : Nat} {rm : Room} {E : EV} {av : List Value} {σ σ' : SS} {r : Int} (own : String) (hown : y.cls = own) (hy : plainName y.cls = true) (hrc : rm.cells = 0) (hrs : rm.slots = 0) (L0 : List (Nat × Value)) (hL : lv_args 0 av = L0) (hsl : (lg_sl av).length ≤ mL)
    (body : ∀ (p : Program) (e : Env) (s : State) (m : MethodId) (args : Array Value) (below : List Frame) (meth : Method) (c : Code) (Q : State → Prop) (A : Nat → Prop), CX p l e rm s m args below meth c own b mL E A (some .long) → (∀ (pc : Nat) (L : List (Nat × Value)) (v : Int), decode b pc = .ok (.lreturn, 1) → v = r → GG p l e rm s m args below meth c Q E A mL σ' 0 0 pc L [.long (iL v)]) → GG p l e rm s m args below meth c Q E A mL σ 0 0 0 L0 []) : Kl l y (cw y b mL (some .long)) rm E av σ r σ' := by
  intro sz
  refine Met.ofW (cc := b) (maxL := mL) (ret := some .long) hy rfl ?_
  intro p e s m args below meth c s₁ B hml hv
  obtain ⟨rfl, hsz, hP, hK, hE, hap⟩ := hv
  subst hsz; subst hown; subst hL
  have hts := atoms_spec (ws := cw y b mL (some .long)) B.pre
  have C : CX p l e rm s m av.toArray below meth c y.cls b mL E (aA E s.heap.size) (some .long) := ⟨B.exec, B.bytes, hml, findClass_of_methodNamed B.named, fun w h => hts w (List.mem_cons_of_mem _ h), B.notSynchronized, hK, hE, hap, fun k hk => Or.inl ⟨k, hk, rfl⟩, fun q h => Or.inr h, B.returns⟩
  have hl := lv_entry av (n := mL) hsl
  rw [lg_entry_eq]
  exact body p e s m av.toArray below meth c _ _ C (fun pc L v d hv => g_lret C d hv rfl) s.heap [] _ hl hP va_S.rf
theorem Kd_of {l : Launch} {y : MethodName} {b : ByteArray} {mL : Nat} {rm : Room} {E : EV} {av : List Value} {σ σ' : SS} {r : UInt64} (own : String) (hown : y.cls = own) (hy : plainName y.cls = true) (hrc : rm.cells = 0) (hrs : rm.slots = 0) (L0 : List (Nat × Value)) (hL : lv_args 0 av = L0) (hsl : (lg_sl av).length ≤ mL)
    (body : ∀ (p : Program) (e : Env) (s : State) (m : MethodId) (args : Array Value) (below : List Frame) (meth : Method) (c : Code) (Q : State → Prop) (A : Nat → Prop), CX p l e rm s m args below meth c own b mL E A (some .double) → (∀ (pc : Nat) (L : List (Nat × Value)) (v : UInt64), decode b pc = .ok (.dreturn, 1) → v = r → GG p l e rm s m args below meth c Q E A mL σ' 0 0 pc L [.double v]) → GG p l e rm s m args below meth c Q E A mL σ 0 0 0 L0 []) : Kd l y (cw y b mL (some .double)) rm E av σ r σ' := by
  intro sz
  refine Met.ofW (cc := b) (maxL := mL) (ret := some .double) hy rfl ?_
  intro p e s m args below meth c s₁ B hml hv
  obtain ⟨rfl, hsz, hP, hK, hE, hap⟩ := hv
  subst hsz; subst hown; subst hL
  have hts := atoms_spec (ws := cw y b mL (some .double)) B.pre
  have C : CX p l e rm s m av.toArray below meth c y.cls b mL E (aA E s.heap.size) (some .double) := ⟨B.exec, B.bytes, hml, findClass_of_methodNamed B.named, fun w h => hts w (List.mem_cons_of_mem _ h), B.notSynchronized, hK, hE, hap, fun k hk => Or.inl ⟨k, hk, rfl⟩, fun q h => Or.inr h, B.returns⟩
  have hl := lv_entry av (n := mL) hsl
  rw [lg_entry_eq]
  exact body p e s m av.toArray below meth c _ _ C (fun pc L v d hv => g_dret C d hv rfl) s.heap [] _ hl hP va_S.rf
theorem Kf_of {l : Launch} {y : MethodName} {b : ByteArray} {mL : Nat} {rm : Room} {E : EV} {av : List Value} {σ σ' : SS} {r : UInt32} (own : String) (hown : y.cls = own) (hy : plainName y.cls = true) (hrc : rm.cells = 0) (hrs : rm.slots = 0) (L0 : List (Nat × Value)) (hL : lv_args 0 av = L0) (hsl : (lg_sl av).length ≤ mL)
    (body : ∀ (p : Program) (e : Env) (s : State) (m : MethodId) (args : Array Value) (below : List Frame) (meth : Method) (c : Code) (Q : State → Prop) (A : Nat → Prop), CX p l e rm s m args below meth c own b mL E A (some .float) → (∀ (pc : Nat) (L : List (Nat × Value)) (v : UInt32), decode b pc = .ok (.freturn, 1) → v = r → GG p l e rm s m args below meth c Q E A mL σ' 0 0 pc L [.float v]) → GG p l e rm s m args below meth c Q E A mL σ 0 0 0 L0 []) : Kf l y (cw y b mL (some .float)) rm E av σ r σ' := by
  intro sz
  refine Met.ofW (cc := b) (maxL := mL) (ret := some .float) hy rfl ?_
  intro p e s m args below meth c s₁ B hml hv
  obtain ⟨rfl, hsz, hP, hK, hE, hap⟩ := hv
  subst hsz; subst hown; subst hL
  have hts := atoms_spec (ws := cw y b mL (some .float)) B.pre
  have C : CX p l e rm s m av.toArray below meth c y.cls b mL E (aA E s.heap.size) (some .float) := ⟨B.exec, B.bytes, hml, findClass_of_methodNamed B.named, fun w h => hts w (List.mem_cons_of_mem _ h), B.notSynchronized, hK, hE, hap, fun k hk => Or.inl ⟨k, hk, rfl⟩, fun q h => Or.inr h, B.returns⟩
  have hl := lv_entry av (n := mL) hsl
  rw [lg_entry_eq]
  exact body p e s m av.toArray below meth c _ _ C (fun pc L v d hv => g_fret C d hv rfl) s.heap [] _ hl hP va_S.rf
theorem Kv_of {l : Launch} {y : MethodName} {b : ByteArray} {mL : Nat} {rm : Room} {E : EV} {av : List Value} {σ σ' : SS} (own : String) (hown : y.cls = own) (hy : plainName y.cls = true) (hrc : rm.cells = 0) (hrs : rm.slots = 0) (L0 : List (Nat × Value)) (hL : lv_args 0 av = L0) (hsl : (lg_sl av).length ≤ mL)
    (body : ∀ (p : Program) (e : Env) (s : State) (m : MethodId) (args : Array Value) (below : List Frame) (meth : Method) (c : Code) (Q : State → Prop) (A : Nat → Prop), CX p l e rm s m args below meth c own b mL E A (none) → (∀ (pc : Nat) (L : List (Nat × Value)) , decode b pc = .ok (.return_, 1) → GG p l e rm s m args below meth c Q E A mL σ' 0 0 pc L []) → GG p l e rm s m args below meth c Q E A mL σ 0 0 0 L0 []) : Kv l y (cw y b mL (none)) rm E av σ σ' := by
  intro sz
  refine Met.ofW (cc := b) (maxL := mL) (ret := none) hy rfl ?_
  intro p e s m args below meth c s₁ B hml hv
  obtain ⟨rfl, hsz, hP, hK, hE, hap⟩ := hv
  subst hsz; subst hown; subst hL
  have hts := atoms_spec (ws := cw y b mL (none)) B.pre
  have C : CX p l e rm s m av.toArray below meth c y.cls b mL E (aA E s.heap.size) (none) := ⟨B.exec, B.bytes, hml, findClass_of_methodNamed B.named, fun w h => hts w (List.mem_cons_of_mem _ h), B.notSynchronized, hK, hE, hap, fun k hk => Or.inl ⟨k, hk, rfl⟩, fun q h => Or.inr h, B.returns⟩
  have hl := lv_entry av (n := mL) hsl
  rw [lg_entry_eq]
  exact body p e s m av.toArray below meth c _ _ C (fun pc L d => g_vret C d rfl) s.heap [] _ hl hP va_S.rf
theorem Kr_of {l : Launch} {y : MethodName} {b : ByteArray} {mL : Nat} {rm : Room} {E : EV} {av : List Value} {σ σ' : SS} {r : Nat} (own : String) (hown : y.cls = own) (hy : plainName y.cls = true) (hrc : rm.cells = 0) (hrs : rm.slots = 0) (L0 : List (Nat × Value)) (hL : lv_args 0 av = L0) (hsl : (lg_sl av).length ≤ mL)
    (body : ∀ (p : Program) (e : Env) (s : State) (m : MethodId) (args : Array Value) (below : List Frame) (meth : Method) (c : Code) (Q : State → Prop) (A : Nat → Prop), CX p l e rm s m args below meth c own b mL E A (some (.object "java/lang/String")) → (∀ (pc : Nat) (L : List (Nat × Value)) (v : Nat), decode b pc = .ok (.areturn, 1) → v = r → GG p l e rm s m args below meth c Q E A mL σ' 0 0 pc L [.ref v]) → GG p l e rm s m args below meth c Q E A mL σ 0 0 0 L0 []) : Kr l y (cw y b mL (some (.object "java/lang/String"))) rm E av σ r σ' := by
  intro sz
  refine Met.ofW (cc := b) (maxL := mL) (ret := some (.object "java/lang/String")) hy rfl ?_
  intro p e s m args below meth c s₁ B hml hv
  obtain ⟨rfl, hsz, hP, hK, hE, hap⟩ := hv
  subst hsz; subst hown; subst hL
  have hts := atoms_spec (ws := cw y b mL (some (.object "java/lang/String"))) B.pre
  have C : CX p l e rm s m av.toArray below meth c y.cls b mL E (aA E s.heap.size) (some (.object "java/lang/String")) := ⟨B.exec, B.bytes, hml, findClass_of_methodNamed B.named, fun w h => hts w (List.mem_cons_of_mem _ h), B.notSynchronized, hK, hE, hap, fun k hk => Or.inl ⟨k, hk, rfl⟩, fun q h => Or.inr h, B.returns⟩
  have hl := lv_entry av (n := mL) hsl
  rw [lg_entry_eq]
  exact body p e s m av.toArray below meth c _ _ C (fun pc L v d hv => g_aret C (Or.inl ⟨_, rfl⟩) d hv rfl) s.heap [] _ hl hP va_S.rf
