/-! contracts of the law's methods, which make objects: mc cells of ms slots at most -/
def TI (l : Launch) (y : MethodName) (ws : List Cond) (rm : Room) (E : EV) (av : List Value) (σ : SS) (r : Int) (σ' : SS) (mc ms : Nat) : Prop := ∀ sz : Nat, vx_Met l y ws rm (va_Pc av (PE E sz σ)) (va_Qi (fun x (_ : Unit) => x = iI r) (fun _ t => va_P E.1 gcl (Wd E σ') t.heap) (aA E sz)) NX mc ms (aA E sz)
def TD (l : Launch) (y : MethodName) (ws : List Cond) (rm : Room) (E : EV) (av : List Value) (σ : SS) (r : UInt64) (σ' : SS) (mc ms : Nat) : Prop := ∀ sz : Nat, vx_Met l y ws rm (va_Pc av (PE E sz σ)) (va_Qd (fun x (_ : Unit) => x = r) (fun _ t => va_P E.1 gcl (Wd E σ') t.heap) (aA E sz)) NX mc ms (aA E sz)
def TR (l : Launch) (y : MethodName) (ws : List Cond) (rm : Room) (E : EV) (av : List Value) (σ : SS) (r : UInt32) (σ' : SS) (mc ms : Nat) : Prop := ∀ sz : Nat, vx_Met l y ws rm (va_Pc av (PE E sz σ)) (va_Qf (fun x (_ : Unit) => x = r) (fun _ t => va_P E.1 gcl (Wd E σ') t.heap) (aA E sz)) NX mc ms (aA E sz)
def NI (l : Launch) (y : MethodName) (ws : List Cond) (rm : Room) (E : EV) (av : List Value) (σ : SS) (r : Int) (σ' : SS) (mc ms : Nat) : Prop := ∀ sz : Nat, Met l y ws rm (va_Pc av (PE E sz σ)) (va_Qi (fun x (_ : Unit) => x = iI r) (fun _ t => va_P E.1 gcl (Wd E σ') t.heap) (aA E sz)) mc ms (aA E sz)
def NL (l : Launch) (y : MethodName) (ws : List Cond) (rm : Room) (E : EV) (av : List Value) (σ : SS) (r : Int) (σ' : SS) (mc ms : Nat) : Prop := ∀ sz : Nat, Met l y ws rm (va_Pc av (PE E sz σ)) (va_Ql (fun x (_ : Unit) => x = iL r) (fun _ t => va_P E.1 gcl (Wd E σ') t.heap) (aA E sz)) mc ms (aA E sz)
theorem TI_of {l : Launch} {y : MethodName} {b : ByteArray} {mL mc ms : Nat} {rm : Room} {E : EV} {av : List Value} {σ σ' : SS} {r : Int} {hh : List (Nat × Nat × Nat × Nat)} (own : String) (hown : y.cls = own) (hy : plainName y.cls = true) (L0 : List (Nat × Value)) (hL : lv_args 0 av = L0) (hsl : (lg_sl av).length ≤ mL)
    (body : ∀ (p : Program) (e : Env) (s : State) (m : MethodId) (args : Array Value) (below : List Frame) (meth : Method) (c : Code) (Q : State → Prop) (A : Nat → Prop), CX p l e rm s m args below meth c own b mL E A (some .int) → c.exceptionTable.toList = tableOf hh → (∀ (k n pc : Nat) (L : List (Nat × Value)) (v : Int), k ≤ mc → n ≤ ms → decode b pc = .ok (.ireturn, 1) → v = r → GG p l e rm s m args below meth c Q E A mL σ' k n pc L [.int (iI v)]) → GG p l e rm s m args below meth c Q E A mL σ 0 0 0 L0 []) : TI l y (cwh y b mL (some .int) hh) rm E av σ r σ' mc ms := by
  intro sz
  refine vx_ofWH (cc := b) (maxL := mL) (ret := some .int) (hh := hh) hy rfl ?_
  intro p e s m args below meth c s₁ B hml hv
  obtain ⟨rfl, hsz, hP, hK, hE, hap⟩ := hv
  subst hsz; subst hown; subst hL
  have hts := atoms_spec (ws := cwh y b mL (some .int) hh) B.pre
  have C : CX p l e rm s m av.toArray below meth c y.cls b mL E (aA E s.heap.size) (some .int) := ⟨B.exec, B.bytes, hml, findClass_of_methodNamed B.named, fun w h => hts w (List.mem_cons_of_mem _ h), B.notSynchronized, hK, hE, hap, fun k hk => Or.inl ⟨k, hk, rfl⟩, fun q h => Or.inr h, B.returns⟩
  have hl := lv_entry av (n := mL) hsl
  rw [lg_entry_eq]
  refine body p e s m av.toArray below meth c _ _ C (vx_table (x := y) B (hts _ List.mem_cons_self)) (fun k n pc L v hk hn d hv => ?_) s.heap [] _ hl hP va_S.rf
  refine g_wide hk hn ?_
  intro H locs ls hl hP hS
  exact vx_ret (g_iret C (σ := σ') d hv rfl H locs ls hl hP hS)
theorem TD_of {l : Launch} {y : MethodName} {b : ByteArray} {mL mc ms : Nat} {rm : Room} {E : EV} {av : List Value} {σ σ' : SS} {r : UInt64} {hh : List (Nat × Nat × Nat × Nat)} (own : String) (hown : y.cls = own) (hy : plainName y.cls = true) (L0 : List (Nat × Value)) (hL : lv_args 0 av = L0) (hsl : (lg_sl av).length ≤ mL)
    (body : ∀ (p : Program) (e : Env) (s : State) (m : MethodId) (args : Array Value) (below : List Frame) (meth : Method) (c : Code) (Q : State → Prop) (A : Nat → Prop), CX p l e rm s m args below meth c own b mL E A (some .double) → c.exceptionTable.toList = tableOf hh → (∀ (k n pc : Nat) (L : List (Nat × Value)) (v : UInt64), k ≤ mc → n ≤ ms → decode b pc = .ok (.dreturn, 1) → v = r → GG p l e rm s m args below meth c Q E A mL σ' k n pc L [.double v]) → GG p l e rm s m args below meth c Q E A mL σ 0 0 0 L0 []) : TD l y (cwh y b mL (some .double) hh) rm E av σ r σ' mc ms := by
  intro sz
  refine vx_ofWH (cc := b) (maxL := mL) (ret := some .double) (hh := hh) hy rfl ?_
  intro p e s m args below meth c s₁ B hml hv
  obtain ⟨rfl, hsz, hP, hK, hE, hap⟩ := hv
  subst hsz; subst hown; subst hL
  have hts := atoms_spec (ws := cwh y b mL (some .double) hh) B.pre
  have C : CX p l e rm s m av.toArray below meth c y.cls b mL E (aA E s.heap.size) (some .double) := ⟨B.exec, B.bytes, hml, findClass_of_methodNamed B.named, fun w h => hts w (List.mem_cons_of_mem _ h), B.notSynchronized, hK, hE, hap, fun k hk => Or.inl ⟨k, hk, rfl⟩, fun q h => Or.inr h, B.returns⟩
  have hl := lv_entry av (n := mL) hsl
  rw [lg_entry_eq]
  refine body p e s m av.toArray below meth c _ _ C (vx_table (x := y) B (hts _ List.mem_cons_self)) (fun k n pc L v hk hn d hv => ?_) s.heap [] _ hl hP va_S.rf
  refine g_wide hk hn ?_
  intro H locs ls hl hP hS
  exact vx_ret (g_dret C (σ := σ') d hv rfl H locs ls hl hP hS)
theorem TR_of {l : Launch} {y : MethodName} {b : ByteArray} {mL mc ms : Nat} {rm : Room} {E : EV} {av : List Value} {σ σ' : SS} {r : UInt32} {hh : List (Nat × Nat × Nat × Nat)} (own : String) (hown : y.cls = own) (hy : plainName y.cls = true) (L0 : List (Nat × Value)) (hL : lv_args 0 av = L0) (hsl : (lg_sl av).length ≤ mL)
    (body : ∀ (p : Program) (e : Env) (s : State) (m : MethodId) (args : Array Value) (below : List Frame) (meth : Method) (c : Code) (Q : State → Prop) (A : Nat → Prop), CX p l e rm s m args below meth c own b mL E A (some .float) → c.exceptionTable.toList = tableOf hh → (∀ (k n pc : Nat) (L : List (Nat × Value)) (v : UInt32), k ≤ mc → n ≤ ms → decode b pc = .ok (.freturn, 1) → v = r → GG p l e rm s m args below meth c Q E A mL σ' k n pc L [.float v]) → GG p l e rm s m args below meth c Q E A mL σ 0 0 0 L0 []) : TR l y (cwh y b mL (some .float) hh) rm E av σ r σ' mc ms := by
  intro sz
  refine vx_ofWH (cc := b) (maxL := mL) (ret := some .float) (hh := hh) hy rfl ?_
  intro p e s m args below meth c s₁ B hml hv
  obtain ⟨rfl, hsz, hP, hK, hE, hap⟩ := hv
  subst hsz; subst hown; subst hL
  have hts := atoms_spec (ws := cwh y b mL (some .float) hh) B.pre
  have C : CX p l e rm s m av.toArray below meth c y.cls b mL E (aA E s.heap.size) (some .float) := ⟨B.exec, B.bytes, hml, findClass_of_methodNamed B.named, fun w h => hts w (List.mem_cons_of_mem _ h), B.notSynchronized, hK, hE, hap, fun k hk => Or.inl ⟨k, hk, rfl⟩, fun q h => Or.inr h, B.returns⟩
  have hl := lv_entry av (n := mL) hsl
  rw [lg_entry_eq]
  refine body p e s m av.toArray below meth c _ _ C (vx_table (x := y) B (hts _ List.mem_cons_self)) (fun k n pc L v hk hn d hv => ?_) s.heap [] _ hl hP va_S.rf
  refine g_wide hk hn ?_
  intro H locs ls hl hP hS
  exact vx_ret (g_fret C (σ := σ') d hv rfl H locs ls hl hP hS)
theorem NI_of {l : Launch} {y : MethodName} {b : ByteArray} {mL mc ms : Nat} {rm : Room} {E : EV} {av : List Value} {σ σ' : SS} {r : Int} (own : String) (hown : y.cls = own) (hy : plainName y.cls = true) (L0 : List (Nat × Value)) (hL : lv_args 0 av = L0) (hsl : (lg_sl av).length ≤ mL)
    (body : ∀ (p : Program) (e : Env) (s : State) (m : MethodId) (args : Array Value) (below : List Frame) (meth : Method) (c : Code) (Q : State → Prop) (A : Nat → Prop), CX p l e rm s m args below meth c own b mL E A (some .int) → (∀ (k n pc : Nat) (L : List (Nat × Value)) (v : Int), k ≤ mc → n ≤ ms → decode b pc = .ok (.ireturn, 1) → v = r → GG p l e rm s m args below meth c Q E A mL σ' k n pc L [.int (iI v)]) → GG p l e rm s m args below meth c Q E A mL σ 0 0 0 L0 []) : NI l y (cw y b mL (some .int)) rm E av σ r σ' mc ms := by
  intro sz
  refine Met.ofW (cc := b) (maxL := mL) (ret := some .int) hy rfl ?_
  intro p e s m args below meth c s₁ B hml hv
  obtain ⟨rfl, hsz, hP, hK, hE, hap⟩ := hv
  subst hsz; subst hown; subst hL
  have hts := atoms_spec (ws := cw y b mL (some .int)) B.pre
  have C : CX p l e rm s m av.toArray below meth c y.cls b mL E (aA E s.heap.size) (some .int) := ⟨B.exec, B.bytes, hml, findClass_of_methodNamed B.named, fun w h => hts w (List.mem_cons_of_mem _ h), B.notSynchronized, hK, hE, hap, fun k hk => Or.inl ⟨k, hk, rfl⟩, fun q h => Or.inr h, B.returns⟩
  have hl := lv_entry av (n := mL) hsl
  rw [lg_entry_eq]
  exact body p e s m av.toArray below meth c _ _ C (fun pk pn pc L v hk hn d hv => g_wide hk hn (g_iret C d hv rfl)) s.heap [] _ hl hP va_S.rf
theorem NZ_of {l : Launch} {y : MethodName} {b : ByteArray} {mL mc ms : Nat} {rm : Room} {E : EV} {av : List Value} {σ σ' : SS} {r : Int} (own : String) (hown : y.cls = own) (hy : plainName y.cls = true) (L0 : List (Nat × Value)) (hL : lv_args 0 av = L0) (hsl : (lg_sl av).length ≤ mL)
    (body : ∀ (p : Program) (e : Env) (s : State) (m : MethodId) (args : Array Value) (below : List Frame) (meth : Method) (c : Code) (Q : State → Prop) (A : Nat → Prop), CX p l e rm s m args below meth c own b mL E A (some .boolean) → (∀ (k n pc : Nat) (L : List (Nat × Value)) (v : Int), k ≤ mc → n ≤ ms → decode b pc = .ok (.ireturn, 1) → (v = 0 ∨ v = 1) → v = r → GG p l e rm s m args below meth c Q E A mL σ' k n pc L [.int (iI v)]) → GG p l e rm s m args below meth c Q E A mL σ 0 0 0 L0 []) : NI l y (cw y b mL (some .boolean)) rm E av σ r σ' mc ms := by
  intro sz
  refine Met.ofW (cc := b) (maxL := mL) (ret := some .boolean) hy rfl ?_
  intro p e s m args below meth c s₁ B hml hv
  obtain ⟨rfl, hsz, hP, hK, hE, hap⟩ := hv
  subst hsz; subst hown; subst hL
  have hts := atoms_spec (ws := cw y b mL (some .boolean)) B.pre
  have C : CX p l e rm s m av.toArray below meth c y.cls b mL E (aA E s.heap.size) (some .boolean) := ⟨B.exec, B.bytes, hml, findClass_of_methodNamed B.named, fun w h => hts w (List.mem_cons_of_mem _ h), B.notSynchronized, hK, hE, hap, fun k hk => Or.inl ⟨k, hk, rfl⟩, fun q h => Or.inr h, B.returns⟩
  have hl := lv_entry av (n := mL) hsl
  rw [lg_entry_eq]
  exact body p e s m av.toArray below meth c _ _ C (fun pk pn pc L v hk hn d hz hv => g_wide hk hn (g_zret C hz d hv rfl)) s.heap [] _ hl hP va_S.rf
theorem NL_of {l : Launch} {y : MethodName} {b : ByteArray} {mL mc ms : Nat} {rm : Room} {E : EV} {av : List Value} {σ σ' : SS} {r : Int} (own : String) (hown : y.cls = own) (hy : plainName y.cls = true) (L0 : List (Nat × Value)) (hL : lv_args 0 av = L0) (hsl : (lg_sl av).length ≤ mL)
    (body : ∀ (p : Program) (e : Env) (s : State) (m : MethodId) (args : Array Value) (below : List Frame) (meth : Method) (c : Code) (Q : State → Prop) (A : Nat → Prop), CX p l e rm s m args below meth c own b mL E A (some .long) → (∀ (k n pc : Nat) (L : List (Nat × Value)) (v : Int), k ≤ mc → n ≤ ms → decode b pc = .ok (.lreturn, 1) → v = r → GG p l e rm s m args below meth c Q E A mL σ' k n pc L [.long (iL v)]) → GG p l e rm s m args below meth c Q E A mL σ 0 0 0 L0 []) : NL l y (cw y b mL (some .long)) rm E av σ r σ' mc ms := by
  intro sz
  refine Met.ofW (cc := b) (maxL := mL) (ret := some .long) hy rfl ?_
  intro p e s m args below meth c s₁ B hml hv
  obtain ⟨rfl, hsz, hP, hK, hE, hap⟩ := hv
  subst hsz; subst hown; subst hL
  have hts := atoms_spec (ws := cw y b mL (some .long)) B.pre
  have C : CX p l e rm s m av.toArray below meth c y.cls b mL E (aA E s.heap.size) (some .long) := ⟨B.exec, B.bytes, hml, findClass_of_methodNamed B.named, fun w h => hts w (List.mem_cons_of_mem _ h), B.notSynchronized, hK, hE, hap, fun k hk => Or.inl ⟨k, hk, rfl⟩, fun q h => Or.inr h, B.returns⟩
  have hl := lv_entry av (n := mL) hsl
  rw [lg_entry_eq]
  exact body p e s m av.toArray below meth c _ _ C (fun pk pn pc L v hk hn d hv => g_wide hk hn (g_lret C d hv rfl)) s.heap [] _ hl hP va_S.rf
section GLAW8
variable {p : Program} {l : Launch} {e : Env} {R : Room} {s : State} {m : MethodId} {args : Array Value} {below : List Frame} {meth : Method} {c : Code} {own : String} {cc : ByteArray} {nL : Nat} {E : EV} {A : Nat → Prop} {Q : State → Prop} {rt : Option FieldType}
variable {σ σ' : SS} {k n pc q mc ms : Nat} {L : List (Nat × Value)} {sk sk0 : List Value}
variable {y : MethodName} {b : ByteArray} {mL nA idx : Nat} {ret : Option FieldType} {rm : Room} {As : List Value}
theorem g_cT_i (C : CX p l e R s m args below meth c own cc nL E A rt) {hh : List (Nat × Nat × Nat × Nat)} {r : Int} (hM : TI l y (cwh y b mL ret hh) rm E As σ r σ' mc ms) (hl : Cond.methodLink own idx y ∈ WA) (hy : mfH y b mL ret hh nA) (hn : As.length = nA) (hR : rm.frames + 1 ≤ R.frames ∧ 8 + (mL + 11) + rm.locals ≤ R.locals) (hrc : rm.cells = mc) (hrs : rm.slots = ms) (hst : sk0 = As.reverse ++ sk) (hcat : (sk.map fun v => v.category).sum ≤ 8) (hkn : k + mc ≤ R.cells ∧ n + ms ≤ R.slots) (d : decode cc pc = .ok (.invokestatic idx, 3)) (hq : pc + 3 = q) (K : GG p l e R s m args below meth c Q E A nL σ' (k + mc) (n + ms) q L (.int (iI r) :: sk)) : GG p l e R s m args below meth c Q E A nL σ k n pc L sk0 := by
  subst hq; subst hst; intro H locs ls hl2 hP hS
  refine vx_calli (vx_runSX (As := As) (rest := sk) C.fix (hM H.size) (vx_cwSW nA C.hts (hy.gS hl) rfl hrc hrs hy.2.2.2 hR) ⟨PE_blind, fun U hU hW => ⟨rfl, C.pre hP hS U hU hW⟩⟩ rfl hn hl2.1 rfl (lv_room hcat) d hkn) hS (fun q _ h => C.sub hS q h) (C.sub hS) (fun q _ h => h.elim) (fun E9 ce q9 u t H1 locs1 ht hvm hu => hu.elim) (fun r2 u t H1 locs1 ht hvm hw hB hz hk hS1 => ?_)
  subst hw; rw [ht] at hB; exact K H1 locs1 ls hl2 hB hS1
theorem g_cT_d (C : CX p l e R s m args below meth c own cc nL E A rt) {hh : List (Nat × Nat × Nat × Nat)} {r : UInt64} (hM : TD l y (cwh y b mL ret hh) rm E As σ r σ' mc ms) (hl : Cond.methodLink own idx y ∈ WA) (hy : mfH y b mL ret hh nA) (hn : As.length = nA) (hR : rm.frames + 1 ≤ R.frames ∧ 8 + (mL + 11) + rm.locals ≤ R.locals) (hrc : rm.cells = mc) (hrs : rm.slots = ms) (hst : sk0 = As.reverse ++ sk) (hcat : (sk.map fun v => v.category).sum ≤ 8) (hkn : k + mc ≤ R.cells ∧ n + ms ≤ R.slots) (d : decode cc pc = .ok (.invokestatic idx, 3)) (hq : pc + 3 = q) (K : GG p l e R s m args below meth c Q E A nL σ' (k + mc) (n + ms) q L (.double r :: sk)) : GG p l e R s m args below meth c Q E A nL σ k n pc L sk0 := by
  subst hq; subst hst; intro H locs ls hl2 hP hS
  refine vx_calld (vx_runSX (As := As) (rest := sk) C.fix (hM H.size) (vx_cwSW nA C.hts (hy.gS hl) rfl hrc hrs hy.2.2.2 hR) ⟨PE_blind, fun U hU hW => ⟨rfl, C.pre hP hS U hU hW⟩⟩ rfl hn hl2.1 rfl (lv_room hcat) d hkn) hS (fun q _ h => C.sub hS q h) (C.sub hS) (fun q _ h => h.elim) (fun E9 ce q9 u t H1 locs1 ht hvm hu => hu.elim) (fun r2 u t H1 locs1 ht hvm hw hB hz hk hS1 => ?_)
  subst hw; rw [ht] at hB; exact K H1 locs1 ls hl2 hB hS1
theorem g_cT_f (C : CX p l e R s m args below meth c own cc nL E A rt) {hh : List (Nat × Nat × Nat × Nat)} {r : UInt32} (hM : TR l y (cwh y b mL ret hh) rm E As σ r σ' mc ms) (hl : Cond.methodLink own idx y ∈ WA) (hy : mfH y b mL ret hh nA) (hn : As.length = nA) (hR : rm.frames + 1 ≤ R.frames ∧ 8 + (mL + 11) + rm.locals ≤ R.locals) (hrc : rm.cells = mc) (hrs : rm.slots = ms) (hst : sk0 = As.reverse ++ sk) (hcat : (sk.map fun v => v.category).sum ≤ 8) (hkn : k + mc ≤ R.cells ∧ n + ms ≤ R.slots) (d : decode cc pc = .ok (.invokestatic idx, 3)) (hq : pc + 3 = q) (K : GG p l e R s m args below meth c Q E A nL σ' (k + mc) (n + ms) q L (.float r :: sk)) : GG p l e R s m args below meth c Q E A nL σ k n pc L sk0 := by
  subst hq; subst hst; intro H locs ls hl2 hP hS
  refine vx_callf (vx_runSX (As := As) (rest := sk) C.fix (hM H.size) (vx_cwSW nA C.hts (hy.gS hl) rfl hrc hrs hy.2.2.2 hR) ⟨PE_blind, fun U hU hW => ⟨rfl, C.pre hP hS U hU hW⟩⟩ rfl hn hl2.1 rfl (lv_room hcat) d hkn) hS (fun q _ h => C.sub hS q h) (C.sub hS) (fun q _ h => h.elim) (fun E9 ce q9 u t H1 locs1 ht hvm hu => hu.elim) (fun r2 u t H1 locs1 ht hvm hw hB hz hk hS1 => ?_)
  subst hw; rw [ht] at hB; exact K H1 locs1 ls hl2 hB hS1
theorem g_cN_i (C : CX p l e R s m args below meth c own cc nL E A rt) {r : Int} (hM : NI l y (cw y b mL ret) rm E As σ r σ' mc ms) (hl : Cond.methodLink own idx y ∈ WA) (hy : mfS y b mL ret nA) (hv : y.cls = own) (hn : As.length = nA) (hR : rm.frames + 1 ≤ R.frames ∧ 8 + (mL + 11) + rm.locals ≤ R.locals) (hrc : rm.cells = mc) (hrs : rm.slots = ms) (hst : sk0 = As.reverse ++ sk) (hcat : (sk.map fun v => v.category).sum ≤ 8) (hkn : k + mc ≤ R.cells ∧ n + ms ≤ R.slots) (d : decode cc pc = .ok (.invokestatic idx, 3)) (hq : pc + 3 = q) (K : GG p l e R s m args below meth c Q E A nL σ' (k + mc) (n + ms) q L (.int (iI r) :: sk)) : GG p l e R s m args below meth c Q E A nL σ k n pc L sk0 := by
  subst hq; subst hst; intro H locs ls hl2 hP hS
  refine va_calli (va_runS (As := As) (rest := sk) C.fix (hM H.size) (cwS nA C.hts (hy.gS hv hl) rfl hrc hrs ⟨hv, hy.2.2.2⟩ hR) ⟨PE_blind, fun U hU hW => ⟨rfl, C.pre hP hS U hU hW⟩⟩ rfl hn hl2.1 rfl (lv_room hcat) d hkn) hS (fun q _ h => C.sub hS q h) (C.sub hS) (fun r2 u t H1 locs1 ht hvm hw hB hz hk hS1 => ?_)
  subst hw; rw [ht] at hB; exact K H1 locs1 ls hl2 hB hS1
theorem g_cN_l (C : CX p l e R s m args below meth c own cc nL E A rt) {r : Int} (hM : NL l y (cw y b mL ret) rm E As σ r σ' mc ms) (hl : Cond.methodLink own idx y ∈ WA) (hy : mfS y b mL ret nA) (hv : y.cls = own) (hn : As.length = nA) (hR : rm.frames + 1 ≤ R.frames ∧ 8 + (mL + 11) + rm.locals ≤ R.locals) (hrc : rm.cells = mc) (hrs : rm.slots = ms) (hst : sk0 = As.reverse ++ sk) (hcat : (sk.map fun v => v.category).sum ≤ 8) (hkn : k + mc ≤ R.cells ∧ n + ms ≤ R.slots) (d : decode cc pc = .ok (.invokestatic idx, 3)) (hq : pc + 3 = q) (K : GG p l e R s m args below meth c Q E A nL σ' (k + mc) (n + ms) q L (.long (iL r) :: sk)) : GG p l e R s m args below meth c Q E A nL σ k n pc L sk0 := by
  subst hq; subst hst; intro H locs ls hl2 hP hS
  refine va_calll (va_runS (As := As) (rest := sk) C.fix (hM H.size) (cwS nA C.hts (hy.gS hv hl) rfl hrc hrs ⟨hv, hy.2.2.2⟩ hR) ⟨PE_blind, fun U hU hW => ⟨rfl, C.pre hP hS U hU hW⟩⟩ rfl hn hl2.1 rfl (lv_room hcat) d hkn) hS (fun q _ h => C.sub hS q h) (C.sub hS) (fun r2 u t H1 locs1 ht hvm hw hB hz hk hS1 => ?_)
  subst hw; rw [ht] at hB; exact K H1 locs1 ls hl2 hB hS1
end GLAW8
