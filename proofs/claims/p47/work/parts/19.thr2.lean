/-! throwing: what a body owes that throws X with the world σ' behind it; calls of such methods; handlers -/
def XQ (below : List Frame) (E : EV) (σ' : SS) (X : String) (A : Nat → Prop) (args : Array Value) (s : State) : State → Prop := vx_MQ below (fun _ _ _ _ => False) (vx_X (fun _ : Unit => True) (fun X' _ t => X' = X ∧ va_P E.1 gcl (Wd E σ') t.heap) A) args s 1 6 A
def Kx (l : Launch) (y : MethodName) (ws : List Cond) (rm : Room) (E : EV) (av : List Value) (σ : SS) (X : String) (σ' : SS) : Prop := ∀ sz : Nat, vx_Met l y ws rm (va_Pc av (PE E sz σ)) (fun _ _ _ _ => False) (vx_X (fun _ : Unit => True) (fun X' _ t => X' = X ∧ va_P E.1 gcl (Wd E σ') t.heap) (aA E sz)) 1 6 (aA E sz)
/-- what a throw of X in the class stands on -/
def TF (X : String) (ik ic ix : Nat) (by9 : ByteArray) : Prop := Cond.classLink RX4 ik X ∈ WA ∧ Cond.initialized X ∈ WA ∧ (nxw ic X ix by9).all nx_in = true ∧ (Cond.classLink RX4 ik X :: Cond.initialized X :: nxw ic X ix by9).all vx_ot = true ∧ Bundle.fit X = true ∧ (decode by9 0 = .ok (.aload_n 0, 1) ∧ decode by9 1 = .ok (.aload_n 1, 1) ∧ decode by9 2 = .ok (.invokespecial ix, 3) ∧ decode by9 5 = .ok (.return_, 1))
theorem tf_IOOBE : TF xIOOBE 210 214 7 prog_19_method_2_code := ⟨xk_IOOBE, xi_IOOBE, xt_IOOBE, xg_IOOBE, by decide +kernel, xb_IOOBE⟩
theorem xc_IOOBE : Cond.castable xIOOBE xIOOBE ∈ vxw := by simp [vxw]
theorem tf_IAE : TF xIAE 146 150 7 prog_17_method_2_code := ⟨xk_IAE, xi_IAE, xt_IAE, xg_IAE, by decide +kernel, xb_IAE⟩
theorem xc_IAE : Cond.castable xIAE xIAE ∈ vxw := by simp [vxw]
theorem tf_ISE : TF xISE 157 161 7 prog_18_method_2_code := ⟨xk_ISE, xi_ISE, xt_ISE, xg_ISE, by decide +kernel, xb_ISE⟩
theorem xc_ISE : Cond.castable xISE xISE ∈ vxw := by simp [vxw]
theorem tf_NSEE : TF xNSEE 248 252 13 prog_33_method_4_code := ⟨xk_NSEE, xi_NSEE, xt_NSEE, xg_NSEE, by decide +kernel, xb_NSEE⟩
theorem xc_NSEE : Cond.castable xNSEE xNSEE ∈ vxw := by simp [vxw]
theorem tf_AE : TF xAE 219 223 7 prog_11_method_2_code := ⟨xk_AE, xi_AE, xt_AE, xg_AE, by decide +kernel, xb_AE⟩
theorem xc_AE : Cond.castable xAE xAE ∈ vxw := by simp [vxw]
section GTHR
variable {p : Program} {l : Launch} {e : Env} {R : Room} {s : State} {m : MethodId} {args : Array Value} {below : List Frame} {meth : Method} {c : Code} {own : String} {cc : ByteArray} {nL : Nat} {E : EV} {A : Nat → Prop} {Q : State → Prop} {rt : Option FieldType}
theorem g_thr (C : CX p l e R s m args below meth c RX4 cc nL E A rt) (hst : l.stackTraces = false) (hne : ∀ x ∈ c.exceptionTable.toList, False) {X text : String} {ik ic ix is k pc : Nat} {by9 : ByteArray} {σ : SS} {L : List (Nat × Value)} (hT : TF X ik ic ix by9) (hs : (RX4, is, text, k) ∈ sT) (hR : 6 ≤ R.frames ∧ 82 ≤ R.locals ∧ 1 ≤ R.cells ∧ 6 ≤ R.slots)
    (d0 : decode cc pc = .ok (.new ik, 3)) (d3 : decode cc (pc + 3) = .ok (.dup, 1)) (d4 : decode cc (pc + 4) = .ok (.ldc is, 2)) (d6 : decode cc (pc + 6) = .ok (.invokespecial ic, 3)) (d9 : decode cc (pc + 9) = .ok (.athrow, 1)) (hQ : Q = XQ below E σ X A args s) : GG p l e R s m args below meth c Q E A nL σ 0 0 pc L [] := by
  subst hQ; intro H locs ls hl hP hS
  have hat : ∀ w ∈ nxw ic X ix by9, w.before args s = true := fun w hw => by
    have h1 := List.all_eq_true.mp hT.2.2.1 w hw
    unfold nx_in at h1
    rcases (Bool.or_eq_true _ _).mp h1 with h2 | h2
    · have h3 := of_decide_eq_true h2
      exact va_Nw.use (isDC_tab (vxw_DC w h3)) (C.K.2.2.2.1 w h3)
    · have h3 := (Bool.and_eq_true _ _).mp h2
      exact C.hts _ (WA_in (of_decide_eq_true h3.2) h3.1)
  refine nx_throw C.exec C.code hst (Y1 := xRE) (names := xNM) (ik := ik) (is := is) (ic := ic) (sa := ek E k) (text := text) (A := A) C.hown hT.2.2.2.2.1 (by decide +kernel) (by decide +kernel) hT.2.2.2.2.2.1 hT.2.2.2.2.2.2.1 hT.2.2.2.2.2.2.2.1 hT.2.2.2.2.2.2.2.2 (C.hts _ hT.1) (C.hts _ hT.2.1) (C.K.2.2.1 _ hs) hat (fun w hw => List.all_eq_true.mp hT.2.2.2.1 w hw) C.EH.1 C.EH.2.1 hS (hl.1.trans C.ml.symm) d0 d3 d4 d6 d9 (fun x hx => (hne x hx).elim) hR.1 hR.2.1 hR.2.2.1 hR.2.2.2 C.locks (fun t hv hz hk => ?_) hS.2.2 (Nat.le_refl _) (Nat.le_refl _)
  refine ⟨(), trivial, ⟨rfl, hP.kept fun k q hq => hk _ (hP k q hq).lt⟩, Nat.le_trans hS.1 hz, fun q h1 h2 => ?_⟩
  rw [hk q (Nat.lt_of_lt_of_le h1 hS.1)]
  exact hS.2.1 q h1 h2
theorem vx_callx {H : Heap} {locs : List Loc} {cells slots mc ms pc : Nat} {ls : Array Slot} {rest st0 : List Value} {A0 : Nat → Prop} {H0 : Heap} {free : Addr → Prop} {SX : Type} {px : SX → Prop} {BX : String → SX → State → Prop} {AX : Nat → Prop} (hr : vx_Run p l e R s m args below meth c H locs cells slots mc ms (F0 m pc ls st0) rest (fun _ _ _ => False) (vx_X px BX AX) free) (hS : va_S A0 H0 H locs) (hf : ∀ q, free q → A0 q) (hAX : ∀ q, q < H.size → AX q → A0 q)
    (kx : ∀ (E : String) (ce : Cell) (q9 : Addr) (u : SX) (t : State) (H1 : Heap) (locs1 : List Loc), t.heap = H1 → s.vm.Alike t.vm → px u → BX E u t → H.size ≤ H1.size → (∀ q : Nat, q < H.size → ¬ AX q → H1[q]? = H[q]?) → va_S A0 H0 H1 locs1 → H1[q9]? = some ce → ce.vm = .none → s.vm.findClass E = some ce.cls → vx_W p l e R s m args below meth c H1 locs1 (cells + mc) (slots + ms) Q (F0 m pc ls rest) q9) : W p l e R s m args below meth c H locs cells slots Q (F0 m pc ls st0) := by
  intro T hT X
  rcases hr T hT X with ⟨v, st₀, t, T', L, h0, X', hL, e1, e2, hF, st⟩ | ⟨q, st₀, t, T', L, E, ce, h0, X', hL, e1, e2, ⟨u, hp, hb, hF⟩, hce, hcv, hcl, st⟩
  · exact hF.elim
  · obtain ⟨k1, k2, k3⟩ := vx_keep h0 e1 hS hAX hf hL hF
    obtain ⟨t2, a1, b1⟩ := kx E ce q u t T'.heap (locs ++ L) e1.symm (by rw [← e2]; exact X'.warmed.alike) hp hb k1 k2 k3 (by rw [e1]; exact hce) hcv hcl T' rfl X'
    exact ⟨t2, st.trans a1, b1⟩
variable {σ σ' : SS} {k n pc q : Nat} {L L' : List (Nat × Value)} {sk sk0 : List Value}
variable {y : MethodName} {b : ByteArray} {mL nA idx o ci : Nat} {ret : Option FieldType} {rm : Room} {As : List Value} {fs : List Value} {vc : vw_C} {host : String} {X : String}
/-- a call that throws, not caught here -/
theorem g_xS (C : CX p l e R s m args below meth c own cc nL E A rt) (hne : ∀ x ∈ c.exceptionTable.toList, False) (hM : Kx l y (cw y b mL ret) rm E As σ X σ') (hl : Cond.methodLink own idx y ∈ WA) (hy : mfS y b mL ret nA) (hv : y.cls = own) (hn : As.length = nA) (hR : rm.frames + 1 ≤ R.frames ∧ 8 + (mL + 11) + rm.locals ≤ R.locals) (hrc : rm.cells = 1) (hrs : rm.slots = 6) (hst : sk0 = As.reverse ++ sk) (hcat : (sk.map fun v => v.category).sum ≤ 8) (hkn : 1 ≤ R.cells ∧ 6 ≤ R.slots) (d : decode cc pc = .ok (.invokestatic idx, 3)) (hQ : Q = XQ below E σ' X A args s) : GG p l e R s m args below meth c Q E A nL σ 0 0 pc L sk0 := by
  subst hQ; subst hst; intro H locs ls hl2 hP hS
  refine vx_callx (vx_runS (As := As) (rest := sk) C.fix (hM H.size) (cwS nA C.hts (hy.gS hv hl) rfl hrc hrs ⟨hv, hy.2.2.2⟩ hR) ⟨PE_blind, fun U hU hW => ⟨rfl, C.pre hP hS U hU hW⟩⟩ rfl hn hl2.1 rfl (lv_room hcat) d hkn) hS (fun q h => C.sub hS q h) (fun q _ h => C.sub hS q h) (fun E9 ce q9 u t H1 locs1 ht hvm _ hB hz hk hS1 hce hcv hcl => ?_)
  refine vx_out (fun x hx => (hne x hx).elim) C.locks hce hcv hcl (fun t9 ht9 hv9 => ⟨(), trivial, ⟨hB.1, ?_⟩, hS1.F ht9⟩) hS1.2.2 (by omega) (by omega)
  rw [ht9, ← ht]; exact hB.2
theorem g_xV (C : CX p l e R s m args below meth c own cc nL E A rt) (hne : ∀ x ∈ c.exceptionTable.toList, False) (hM : Kx l y (cw y b mL ret) rm E (.ref (ea E o) :: As) σ X σ') (hl : Cond.methodLink own idx y ∈ WA) (hy : mfV y b mL ret nA) (ho : (Wd E σ)[o]? = some (ea E o, .inr (ci, fs))) (hc : gcl[ci]? = some vc) (hv : vc.1 = y.cls) (hn : As.length = nA) (hR : rm.frames + 1 ≤ R.frames ∧ 8 + (mL + 11) + rm.locals ≤ R.locals) (hrc : rm.cells = 1) (hrs : rm.slots = 6) (hst : sk0 = As.reverse ++ .ref (ea E o) :: sk) (hcat : (sk.map fun v => v.category).sum ≤ 8) (hkn : 1 ≤ R.cells ∧ 6 ≤ R.slots) (d : decode cc pc = .ok (.invokevirtual idx, 3)) (hQ : Q = XQ below E σ' X A args s) : GG p l e R s m args below meth c Q E A nL σ 0 0 pc L sk0 := by
  subst hQ; subst hst; intro H locs ls hl2 hP hS
  refine vx_callx (vx_runV (As := As) (rest := sk) C.fix (hM H.size) (cwV nA C.hts (hy.gV hl) rfl hrc hrs ⟨rfl, hy.2.2.2.2⟩ hR) ⟨PE_blind, by rw [← hv]; exact va_recv C.K.1 hP (ci := ci) (q0 := o) hc ho, fun U hU hW => ⟨rfl, C.pre hP hS U hU hW⟩⟩ rfl hn hl2.1 rfl (lv_room hcat) d hkn) hS (fun q h => C.sub hS q h) (fun q _ h => C.sub hS q h) (fun E9 ce q9 u t H1 locs1 ht hvm _ hB hz hk hS1 hce hcv hcl => ?_)
  refine vx_out (fun x hx => (hne x hx).elim) C.locks hce hcv hcl (fun t9 ht9 hv9 => ⟨(), trivial, ⟨hB.1, ?_⟩, hS1.F ht9⟩) hS1.2.2 (by omega) (by omega)
  rw [ht9, ← ht]; exact hB.2
/-- a call that throws, caught here by the row x of the table -/
theorem g_xVc (C : CX p l e R s m args below meth c own cc nL E A rt) (hM : Kx l y (cw y b mL ret) rm E (.ref (ea E o) :: As) σ X σ') (hl : Cond.methodLink own idx y ∈ WA) (hy : mfV y b mL ret nA) (ho : (Wd E σ)[o]? = some (ea E o, .inr (ci, fs))) (hc : gcl[ci]? = some vc) (hv : vc.1 = y.cls) (hn : As.length = nA) (hR : rm.frames + 1 ≤ R.frames ∧ 8 + (mL + 11) + rm.locals ≤ R.locals) (hrc : rm.cells = 1) (hrs : rm.slots = 6) (hst : sk0 = As.reverse ++ .ref (ea E o) :: sk) (hcat : (sk.map fun v => v.category).sum ≤ 8) (hkn : k + 1 ≤ R.cells ∧ n + 6 ≤ R.slots) (d : decode cc pc = .ok (.invokevirtual idx, 3))
    (pre : List ExceptionTableEntry) (x : ExceptionTableEntry) (suf : List ExceptionTableEntry) (hsplit : c.exceptionTable.toList = pre ++ x :: suf) (hpass : ∀ z ∈ pre, covers z pc = false ∨ (z.catchType ≠ 0 ∧ ∃ nm : String, Cond.classLink own z.catchType nm ∈ WA ∧ (X, nm) ∈ ncs)) (hx : covers x pc = true) (h0 : x.catchType ≠ 0) (hlink : Cond.classLink own x.catchType X ∈ WA) (hcast : Cond.castable X X ∈ vxw) {q : Nat} (hq : x.handlerPc = q)
    (K : ∀ q9 : Nat, GG p l e R s m args below meth c Q E A nL σ' (k + 1) (n + 6) q L [.ref q9]) : GG p l e R s m args below meth c Q E A nL σ k n pc L sk0 := by
  subst hst; subst hq; intro H locs ls hl2 hP hS
  refine vx_callx (vx_runV (As := As) (rest := sk) C.fix (hM H.size) (cwV nA C.hts (hy.gV hl) rfl hrc hrs ⟨rfl, hy.2.2.2.2⟩ hR) ⟨PE_blind, by rw [← hv]; exact va_recv C.K.1 hP (ci := ci) (q0 := o) hc ho, fun U hU hW => ⟨rfl, C.pre hP hS U hU hW⟩⟩ rfl hn hl2.1 rfl (lv_room hcat) d hkn) hS (fun q h => C.sub hS q h) (fun q _ h => C.sub hS q h) (fun E9 ce q9 u t H1 locs1 ht hvm _ hB hz hk hS1 hce hcv hcl => ?_)
  obtain ⟨hE9, hB⟩ := hB
  subst hE9
  rw [ht] at hB
  exact vx_catch C.hown pre x suf hsplit (fun z hz => (hpass z hz).imp id (fun ⟨h1, nm, h2, h3⟩ => ⟨h1, nm, C.hts _ h2, C.K.2.2.2.2 _ h3⟩)) hx h0 (C.hts _ hlink) (va_Nw.use (isDC_tab (vxw_DC _ hcast)) (C.K.2.2.2.1 _ hcast)) hce hcv hcl (K q9 H1 locs1 ls hl2 hB hS1)
end GTHR
theorem Kx_of {l : Launch} {y : MethodName} {b : ByteArray} {mL : Nat} {rm : Room} {E : EV} {av : List Value} {σ σ' : SS} {X : String} {ret : Option FieldType} (own : String) (hown : y.cls = own) (hy : plainName y.cls = true) (L0 : List (Nat × Value)) (hL : lv_args 0 av = L0) (hsl : (lg_sl av).length ≤ mL)
    (body : ∀ (p : Program) (e : Env) (s : State) (m : MethodId) (args : Array Value) (below : List Frame) (meth : Method) (c : Code) (Q : State → Prop) (A : Nat → Prop), CX p l e rm s m args below meth c own b mL E A ret → (∀ x ∈ c.exceptionTable.toList, False) → Q = XQ below E σ' X A args s → GG p l e rm s m args below meth c Q E A mL σ 0 0 0 L0 []) : Kx l y (cw y b mL ret) rm E av σ X σ' := by
  intro sz
  refine vx_ofW (cc := b) (maxL := mL) (ret := ret) hy rfl ?_
  intro p e s m args below meth c s₁ B hml hne hv
  obtain ⟨rfl, hsz, hP, hK, hE, hap⟩ := hv
  subst hsz; subst hown; subst hL
  have hts := atoms_spec (ws := cw y b mL ret) B.pre
  have C : CX p l e rm s m av.toArray below meth c y.cls b mL E (aA E s.heap.size) ret := ⟨B.exec, B.bytes, hml, findClass_of_methodNamed B.named, fun w h => hts w (List.mem_cons_of_mem _ h), B.notSynchronized, hK, hE, hap, fun k hk => Or.inl ⟨k, hk, rfl⟩, fun q h => Or.inr h, B.returns⟩
  have hl := lv_entry av (n := mL) hsl
  rw [lg_entry_eq]
  exact body p e s m av.toArray below meth c _ _ C hne rfl s.heap [] _ hl hP va_S.rf
/-! the law's own methods, which catch -/
def cwh (y : MethodName) (b : ByteArray) (mL : Nat) (ret : Option FieldType) (hh : List (Nat × Nat × Nat × Nat)) : List Cond := Cond.codeWith y b mL ret hh :: WA
abbrev NX : String → State → State → Prop := vx_X (fun _ : Unit => False) (fun _ _ _ => True) (fun _ => False)
def KL (l : Launch) (y : MethodName) (ws : List Cond) (rm : Room) (E : EV) (av : List Value) (σ : SS) (r : Int) (σ' : SS) : Prop := ∀ sz : Nat, vx_Met l y ws rm (va_Pc av (PE E sz σ)) (va_Qi (fun x (_ : Unit) => x = iI r) (fun _ t => va_P E.1 gcl (Wd E σ') t.heap) (aA E sz)) NX 1 6 (aA E sz)
theorem KL_of {l : Launch} {y : MethodName} {b : ByteArray} {mL : Nat} {rm : Room} {E : EV} {av : List Value} {σ σ' : SS} {r : Int} {hh : List (Nat × Nat × Nat × Nat)} (own : String) (hown : y.cls = own) (hy : plainName y.cls = true) (L0 : List (Nat × Value)) (hL : lv_args 0 av = L0) (hsl : (lg_sl av).length ≤ mL)
    (body : ∀ (p : Program) (e : Env) (s : State) (m : MethodId) (args : Array Value) (below : List Frame) (meth : Method) (c : Code) (Q : State → Prop) (A : Nat → Prop), CX p l e rm s m args below meth c own b mL E A (some .int) → c.exceptionTable.toList = tableOf hh → (∀ (k n pc : Nat) (L : List (Nat × Value)) (v : Int), k ≤ 1 → n ≤ 6 → decode b pc = .ok (.ireturn, 1) → v = r → GG p l e rm s m args below meth c Q E A mL σ' k n pc L [.int (iI v)]) → GG p l e rm s m args below meth c Q E A mL σ 0 0 0 L0 []) : KL l y (cwh y b mL (some .int) hh) rm E av σ r σ' := by
  intro sz
  refine vx_ofWH (cc := b) (maxL := mL) (ret := some .int) (hh := hh) hy rfl ?_
  intro p e s m args below meth c s₁ B hml hv
  obtain ⟨rfl, hsz, hP, hK, hE, hap⟩ := hv
  subst hsz; subst hown; subst hL
  have hts := atoms_spec (ws := cwh y b mL (some .int) hh) B.pre
  have C : CX p l e rm s m av.toArray below meth c y.cls b mL E (aA E s.heap.size) (some .int) := ⟨B.exec, B.bytes, hml, findClass_of_methodNamed B.named, fun w h => hts w (List.mem_cons_of_mem _ h), B.notSynchronized, hK, hE, hap, fun k hk => Or.inl ⟨k, hk, rfl⟩, fun q h => Or.inr h, B.returns⟩
  have hl := lv_entry av (n := mL) hsl
  rw [lg_entry_eq]
  refine body p e s m av.toArray below meth c _ _ C (vx_table (x := y) B (hts _ List.mem_cons_self)) (fun k n pc L v hk hn d hv => ?_) s.heap [] _ hl hP va_S.rf
  refine g_wide hk hn ?_
  intro H locs ls hl hP hS
  exact vx_ret (g_iret C (σ := σ') d hv rfl H locs ls hl hP hS)
section GLAW
variable {p : Program} {l : Launch} {e : Env} {R : Room} {s : State} {m : MethodId} {args : Array Value} {below : List Frame} {meth : Method} {c : Code} {own : String} {cc : ByteArray} {nL : Nat} {E : EV} {A : Nat → Prop} {Q : State → Prop} {rt : Option FieldType}
variable {σ σ' : SS} {k n pc q : Nat} {L L' : List (Nat × Value)} {sk sk0 : List Value}
variable {y : MethodName} {b : ByteArray} {mL nA idx : Nat} {ret : Option FieldType} {rm : Room} {As : List Value}
def mfH (y : MethodName) (b : ByteArray) (mL : Nat) (ret : Option FieldType) (hh : List (Nat × Nat × Nat × Nat)) (n : Nat) : Prop :=
  Cond.codeWith y b mL ret hh ∈ WA ∧ Cond.static y ∈ WA ∧ Cond.initialized y.cls ∈ WA ∧ y.cls ≠ "java/lang/invoke/MethodHandle" ∧ y.cls ≠ "java/lang/invoke/VarHandle" ∧ (parseMethodDescriptor y.desc).map (fun d => d.parameters.length) = some n
theorem mfH.gS {hh : List (Nat × Nat × Nat × Nat)} (h : mfH y b mL ret hh nA) (hl : Cond.methodLink own idx y ∈ WA) : GoodIn WA (va_wsS own idx y (cwh y b mL ret hh)) := by
  refine WA_ok _ fun w hw => ?_
  unfold va_wsS at hw
  rcases List.mem_append.mp hw with h1 | h1
  · rcases List.mem_cons.mp h1 with rfl | h1
    · exact hl
    · rcases List.mem_cons.mp h1 with rfl | h1
      · exact h.2.1
      · rw [List.mem_singleton.mp h1]; exact h.2.2.1
  · rcases List.mem_cons.mp h1 with rfl | h1
    · exact h.1
    · exact h1
/-- the law calls one of its own methods -/
theorem g_cL (C : CX p l e R s m args below meth c own cc nL E A rt) {hh : List (Nat × Nat × Nat × Nat)} {r : Int} (hM : KL l y (cwh y b mL ret hh) rm E As σ r σ') (hl : Cond.methodLink own idx y ∈ WA) (hy : mfH y b mL ret hh nA) (hn : As.length = nA) (hR : rm.frames + 1 ≤ R.frames ∧ 8 + (mL + 11) + rm.locals ≤ R.locals) (hrc : rm.cells = 1) (hrs : rm.slots = 6) (hst : sk0 = As.reverse ++ sk) (hcat : (sk.map fun v => v.category).sum ≤ 8) (hkn : k + 1 ≤ R.cells ∧ n + 6 ≤ R.slots) (d : decode cc pc = .ok (.invokestatic idx, 3)) (hq : pc + 3 = q) (K : GG p l e R s m args below meth c Q E A nL σ' (k + 1) (n + 6) q L (.int (iI r) :: sk)) : GG p l e R s m args below meth c Q E A nL σ k n pc L sk0 := by
  subst hq; subst hst; intro H locs ls hl2 hP hS
  refine vx_calli (vx_runSX (As := As) (rest := sk) C.fix (hM H.size) (vx_cwSW nA C.hts (hy.gS hl) rfl hrc hrs hy.2.2.2 hR) ⟨PE_blind, fun U hU hW => ⟨rfl, C.pre hP hS U hU hW⟩⟩ rfl hn hl2.1 rfl (lv_room hcat) d hkn) hS (fun q _ h => C.sub hS q h) (C.sub hS) (fun q _ h => h.elim) (fun E9 ce q9 u t H1 locs1 ht hvm hu => hu.elim) (fun r2 u t H1 locs1 ht hvm hw hB hz hk hS1 => ?_)
  subst hw; rw [ht] at hB; exact K H1 locs1 ls hl2 hB hS1
end GLAW
