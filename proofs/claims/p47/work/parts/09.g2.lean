/-- what a method's body stands on, the same at each of its places -/
def CX (p : Program) (l : Launch) (e : Env) (R : Room) (s : State) (m : MethodId) (args : Array Value) (below : List Frame) (meth : Method) (c : Code) (own : String) (cc : ByteArray) (nL : Nat) (E : EV) (A : Nat → Prop) (rt : Option FieldType) : Prop :=
  p.tables.exec = Jvm.exec ∧ c.code = cc ∧ c.maxLocals = nL ∧ s.vm.findClass own = some m.cls ∧ (∀ w ∈ WA, w.before args s = true) ∧ meth.locks = false ∧ EK E s ∧ EH E A s s.heap ∧ apart E ∧ (∀ k : Nat, k < 14 → A (ea E k)) ∧ (∀ q : Nat, s.heap.size ≤ q → A q) ∧ meth.sig.returnType = rt
/-- at a place with these locals and this stack, the world σ: the machine comes to Q -/
def GG (p : Program) (l : Launch) (e : Env) (R : Room) (s : State) (m : MethodId) (args : Array Value) (below : List Frame) (meth : Method) (c : Code) (Q : State → Prop) (E : EV) (A : Nat → Prop) (nL : Nat) (σ : SS) (k n : Nat) (pc : Nat) (L : List (Nat × Value)) (sk : List Value) : Prop :=
  ∀ (H : Heap) (locs : List Loc) (ls : Array Slot), lv_has ls nL L → va_P E.1 gcl (Wd E σ) H → va_S A s.heap H locs → W p l e R s m args below meth c H locs k n Q (F0 m pc ls sk)
section GROWS
variable {p : Program} {l : Launch} {e : Env} {R : Room} {s : State} {m : MethodId} {args : Array Value} {below : List Frame} {meth : Method} {c : Code} {own : String} {cc : ByteArray} {nL : Nat} {E : EV} {A : Nat → Prop} {Q : State → Prop} {rt : Option FieldType}
theorem CX.exec (C : CX p l e R s m args below meth c own cc nL E A rt) : p.tables.exec = Jvm.exec := C.1
theorem CX.code (C : CX p l e R s m args below meth c own cc nL E A rt) : c.code = cc := C.2.1
theorem CX.ml (C : CX p l e R s m args below meth c own cc nL E A rt) : c.maxLocals = nL := C.2.2.1
theorem CX.hown (C : CX p l e R s m args below meth c own cc nL E A rt) : s.vm.findClass own = some m.cls := C.2.2.2.1
theorem CX.hts (C : CX p l e R s m args below meth c own cc nL E A rt) : ∀ w ∈ WA, w.before args s = true := C.2.2.2.2.1
theorem CX.locks (C : CX p l e R s m args below meth c own cc nL E A rt) : meth.locks = false := C.2.2.2.2.2.1
theorem CX.K (C : CX p l e R s m args below meth c own cc nL E A rt) : EK E s := C.2.2.2.2.2.2.1
theorem CX.EH (C : CX p l e R s m args below meth c own cc nL E A rt) : EH E A s s.heap := C.2.2.2.2.2.2.2.1
theorem CX.ap (C : CX p l e R s m args below meth c own cc nL E A rt) : apart E := C.2.2.2.2.2.2.2.2.1
theorem CX.inA (C : CX p l e R s m args below meth c own cc nL E A rt) : ∀ k : Nat, k < 14 → A (ea E k) := C.2.2.2.2.2.2.2.2.2.1
theorem CX.big (C : CX p l e R s m args below meth c own cc nL E A rt) : ∀ q : Nat, s.heap.size ≤ q → A q := C.2.2.2.2.2.2.2.2.2.2.1
theorem CX.ret (C : CX p l e R s m args below meth c own cc nL E A rt) : meth.sig.returnType = rt := C.2.2.2.2.2.2.2.2.2.2.2
theorem CX.D (C : CX p l e R s m args below meth c own cc nL E A rt) (σ : SS) : va_D A (Wd E σ) := Wd_D C.ap C.inA σ
theorem CX.fix (C : CX p l e R s m args below meth c own cc nL E A rt) : CallFix p m c cc nL s args WA own := ⟨C.exec, C.code, C.ml, C.hown, C.hts⟩
variable {σ : SS} {k n pc q : Nat} {L L' : List (Nat × Value)} {sk : List Value}
theorem g_wide {k2 n2 : Nat} (h1 : k ≤ k2) (h2 : n ≤ n2) (K : GG p l e R s m args below meth c Q E A nL σ k2 n2 pc L sk) : GG p l e R s m args below meth c Q E A nL σ k n pc L sk := fun H locs ls hl hP hS => W.widen h1 h2 (K H locs ls hl hP hS)
theorem g_sub (ks : List Nat) (hL : lv_pick L ks = L') (K : GG p l e R s m args below meth c Q E A nL σ k n pc L' sk) : GG p l e R s m args below meth c Q E A nL σ k n pc L sk := fun H locs ls hl hP hS => K H locs ls (lv_sub hl ks hL) hP hS
theorem g_eq {σ2 : SS} {sk2 : List Value} (h1 : σ = σ2) (h2 : sk = sk2) (K : GG p l e R s m args below meth c Q E A nL σ2 k n pc L sk2) : GG p l e R s m args below meth c Q E A nL σ k n pc L sk := by subst h1; subst h2; exact K
theorem g_top {a b : Int} (h : a = b) (K : GG p l e R s m args below meth c Q E A nL σ k n pc L (.int (iI b) :: sk)) : GG p l e R s m args below meth c Q E A nL σ k n pc L (.int (iI a) :: sk) := by subst h; exact K
theorem g_st {σ2 : SS} (h1 : σ = σ2) (K : GG p l e R s m args below meth c Q E A nL σ2 k n pc L sk) : GG p l e R s m args below meth c Q E A nL σ k n pc L sk := by subst h1; exact K
theorem g_loc (h1 : L = L') (K : GG p l e R s m args below meth c Q E A nL σ k n pc L' sk) : GG p l e R s m args below meth c Q E A nL σ k n pc L sk := by subst h1; exact K

theorem g_iconst (C : CX p l e R s m args below meth c own cc nL E A rt) {z : Int} (d : decode cc pc = .ok (.iconst z, 1))  (hq : pc + 1 = q) (K : GG p l e R s m args below meth c Q E A nL σ k n q L (.int (iI z) :: sk)) : GG p l e R s m args below meth c Q E A nL σ k n pc L (sk) := by
  subst hq; intro H locs ls hl hP hS
  exact lv_iconst (v := iI z) C.exec C.code d rfl (K H locs ls hl hP hS)
theorem g_bipush (C : CX p l e R s m args below meth c own cc nL E A rt) {z : Int} (d : decode cc pc = .ok (.bipush z, 2)) (hv : (Int8.ofInt z).toInt32 = iI z) (hq : pc + 2 = q) (K : GG p l e R s m args below meth c Q E A nL σ k n q L (.int (iI z) :: sk)) : GG p l e R s m args below meth c Q E A nL σ k n pc L (sk) := by
  subst hq; intro H locs ls hl hP hS
  exact lv_bipush (v := iI z) C.exec C.code d hv (K H locs ls hl hP hS)
theorem g_sipush (C : CX p l e R s m args below meth c own cc nL E A rt) {z : Int} (d : decode cc pc = .ok (.sipush z, 3)) (hv : (Int16.ofInt z).toInt32 = iI z) (hq : pc + 3 = q) (K : GG p l e R s m args below meth c Q E A nL σ k n q L (.int (iI z) :: sk)) : GG p l e R s m args below meth c Q E A nL σ k n pc L (sk) := by
  subst hq; intro H locs ls hl hP hS
  exact lv_sipush (v := iI z) C.exec C.code d hv (K H locs ls hl hP hS)
theorem g_lconst (C : CX p l e R s m args below meth c own cc nL E A rt) {z : Fin 2} {y : Int} (d : decode cc pc = .ok (.lconst z, 1)) (hv : Int64.ofNat (z : Nat) = iL y) (hq : pc + 1 = q) (K : GG p l e R s m args below meth c Q E A nL σ k n q L (.long (iL y) :: sk)) : GG p l e R s m args below meth c Q E A nL σ k n pc L (sk) := by
  subst hq; intro H locs ls hl hP hS
  exact lv_lconst (v := iL y) C.exec C.code d hv (K H locs ls hl hP hS)
theorem g_iload_n (C : CX p l e R s m args below meth c own cc nL E A rt) {x : Int} {f : Fin 4} {i : Nat} (d : decode cc pc = .ok (.iload_n f, 1)) (j : Nat) (hf : (f : Nat) = i) (hj : L[j]? = some (i, .int (iI x))) (hq : pc + 1 = q) (K : GG p l e R s m args below meth c Q E A nL σ k n q L (.int (iI x) :: sk)) : GG p l e R s m args below meth c Q E A nL σ k n pc L (sk) := by
  subst hq; intro H locs ls hl hP hS
  exact lv_iload_n C.exec C.code d hf (lv_at hl j hj) (K H locs ls hl hP hS)
theorem g_iload (C : CX p l e R s m args below meth c own cc nL E A rt) {x : Int} {i : Nat} (d : decode cc pc = .ok (.iload i, 2)) (j : Nat) (hj : L[j]? = some (i, .int (iI x))) (hq : pc + 2 = q) (K : GG p l e R s m args below meth c Q E A nL σ k n q L (.int (iI x) :: sk)) : GG p l e R s m args below meth c Q E A nL σ k n pc L (sk) := by
  subst hq; intro H locs ls hl hP hS
  exact lv_iload C.exec C.code d (lv_at hl j hj) (K H locs ls hl hP hS)
theorem g_istore_n (C : CX p l e R s m args below meth c own cc nL E A rt) {x : Int} {f : Fin 4} {i : Nat} (d : decode cc pc = .ok (.istore_n f, 1)) (hf : (f : Nat) = i) (hn : i < nL) (hj : (i, Value.int (iI x)) :: L.filter (fun q => !(q.1 == i) && !(q.1 + 1 == i && q.2.category == 2)) = L') (hq : pc + 1 = q) (K : GG p l e R s m args below meth c Q E A nL σ k n q L' (sk)) : GG p l e R s m args below meth c Q E A nL σ k n pc L (.int (iI x) :: sk) := by
  subst hq; intro H locs ls hl hP hS
  exact lv_istore_n C.exec C.code d hf hl hn hj (fun ls2 h2 => K H locs ls2 h2 hP hS)
theorem g_istore (C : CX p l e R s m args below meth c own cc nL E A rt) {x : Int} {i : Nat} (d : decode cc pc = .ok (.istore i, 2)) (hn : i < nL) (hj : (i, Value.int (iI x)) :: L.filter (fun q => !(q.1 == i) && !(q.1 + 1 == i && q.2.category == 2)) = L') (hq : pc + 2 = q) (K : GG p l e R s m args below meth c Q E A nL σ k n q L' (sk)) : GG p l e R s m args below meth c Q E A nL σ k n pc L (.int (iI x) :: sk) := by
  subst hq; intro H locs ls hl hP hS
  exact lv_istore C.exec C.code d hl hn hj (fun ls2 h2 => K H locs ls2 h2 hP hS)
theorem g_aload_n (C : CX p l e R s m args below meth c own cc nL E A rt) {x : Nat} {f : Fin 4} {i : Nat} (d : decode cc pc = .ok (.aload_n f, 1)) (j : Nat) (hf : (f : Nat) = i) (hj : L[j]? = some (i, .ref x)) (hq : pc + 1 = q) (K : GG p l e R s m args below meth c Q E A nL σ k n q L (.ref x :: sk)) : GG p l e R s m args below meth c Q E A nL σ k n pc L (sk) := by
  subst hq; intro H locs ls hl hP hS
  exact lv_aload_n C.exec C.code d hf (lv_at hl j hj) (K H locs ls hl hP hS)
theorem g_aload (C : CX p l e R s m args below meth c own cc nL E A rt) {x : Nat} {i : Nat} (d : decode cc pc = .ok (.aload i, 2)) (j : Nat) (hj : L[j]? = some (i, .ref x)) (hq : pc + 2 = q) (K : GG p l e R s m args below meth c Q E A nL σ k n q L (.ref x :: sk)) : GG p l e R s m args below meth c Q E A nL σ k n pc L (sk) := by
  subst hq; intro H locs ls hl hP hS
  exact lv_aload C.exec C.code d (lv_at hl j hj) (K H locs ls hl hP hS)
theorem g_astore_n (C : CX p l e R s m args below meth c own cc nL E A rt) {x : Nat} {f : Fin 4} {i : Nat} (d : decode cc pc = .ok (.astore_n f, 1)) (hf : (f : Nat) = i) (hn : i < nL) (hj : (i, Value.ref x) :: L.filter (fun q => !(q.1 == i) && !(q.1 + 1 == i && q.2.category == 2)) = L') (hq : pc + 1 = q) (K : GG p l e R s m args below meth c Q E A nL σ k n q L' (sk)) : GG p l e R s m args below meth c Q E A nL σ k n pc L (.ref x :: sk) := by
  subst hq; intro H locs ls hl hP hS
  exact lv_astore_n C.exec C.code d hf hl hn hj (fun ls2 h2 => K H locs ls2 h2 hP hS)
theorem g_astore (C : CX p l e R s m args below meth c own cc nL E A rt) {x : Nat} {i : Nat} (d : decode cc pc = .ok (.astore i, 2)) (hn : i < nL) (hj : (i, Value.ref x) :: L.filter (fun q => !(q.1 == i) && !(q.1 + 1 == i && q.2.category == 2)) = L') (hq : pc + 2 = q) (K : GG p l e R s m args below meth c Q E A nL σ k n q L' (sk)) : GG p l e R s m args below meth c Q E A nL σ k n pc L (.ref x :: sk) := by
  subst hq; intro H locs ls hl hP hS
  exact lv_astore C.exec C.code d hl hn hj (fun ls2 h2 => K H locs ls2 h2 hP hS)
theorem g_lload_n (C : CX p l e R s m args below meth c own cc nL E A rt) {x : Int64} {f : Fin 4} {i : Nat} (d : decode cc pc = .ok (.lload_n f, 1)) (j : Nat) (hf : (f : Nat) = i) (hj : L[j]? = some (i, .long x)) (hq : pc + 1 = q) (K : GG p l e R s m args below meth c Q E A nL σ k n q L (.long x :: sk)) : GG p l e R s m args below meth c Q E A nL σ k n pc L (sk) := by
  subst hq; intro H locs ls hl hP hS
  exact lv_lload_n C.exec C.code d hf (lv_at hl j hj) (K H locs ls hl hP hS)
theorem g_lstore_n (C : CX p l e R s m args below meth c own cc nL E A rt) {x : Int64} {f : Fin 4} {i : Nat} (d : decode cc pc = .ok (.lstore_n f, 1)) (hf : (f : Nat) = i) (hn : i + 1 < nL) (hj : (i, Value.long x) :: L.filter (fun q => !(q.1 == i) && (!(q.1 == i + 1) && !(q.1 + 1 == i && q.2.category == 2))) = L') (hq : pc + 1 = q) (K : GG p l e R s m args below meth c Q E A nL σ k n q L' (sk)) : GG p l e R s m args below meth c Q E A nL σ k n pc L (.long x :: sk) := by
  subst hq; intro H locs ls hl hP hS
  exact lv_lstore_n C.exec C.code d hf hl hn hj (fun ls2 h2 => K H locs ls2 h2 hP hS)
theorem g_dload (C : CX p l e R s m args below meth c own cc nL E A rt) {x : UInt64} {i : Nat} (d : decode cc pc = .ok (.dload i, 2)) (j : Nat) (hj : L[j]? = some (i, .double x)) (hq : pc + 2 = q) (K : GG p l e R s m args below meth c Q E A nL σ k n q L (.double x :: sk)) : GG p l e R s m args below meth c Q E A nL σ k n pc L (sk) := by
  subst hq; intro H locs ls hl hP hS
  exact lv_dload C.exec C.code d (lv_at hl j hj) (K H locs ls hl hP hS)
theorem g_dstore (C : CX p l e R s m args below meth c own cc nL E A rt) {x : UInt64} {i : Nat} (d : decode cc pc = .ok (.dstore i, 2)) (hn : i + 1 < nL) (hj : (i, Value.double x) :: L.filter (fun q => !(q.1 == i) && (!(q.1 == i + 1) && !(q.1 + 1 == i && q.2.category == 2))) = L') (hq : pc + 2 = q) (K : GG p l e R s m args below meth c Q E A nL σ k n q L' (sk)) : GG p l e R s m args below meth c Q E A nL σ k n pc L (.double x :: sk) := by
  subst hq; intro H locs ls hl hP hS
  exact lv_dstore C.exec C.code d hl hn hj (fun ls2 h2 => K H locs ls2 h2 hP hS)
theorem g_fload (C : CX p l e R s m args below meth c own cc nL E A rt) {x : UInt32} {i : Nat} (d : decode cc pc = .ok (.fload i, 2)) (j : Nat) (hj : L[j]? = some (i, .float x)) (hq : pc + 2 = q) (K : GG p l e R s m args below meth c Q E A nL σ k n q L (.float x :: sk)) : GG p l e R s m args below meth c Q E A nL σ k n pc L (sk) := by
  subst hq; intro H locs ls hl hP hS
  exact lv_fload C.exec C.code d (lv_at hl j hj) (K H locs ls hl hP hS)
theorem g_fstore (C : CX p l e R s m args below meth c own cc nL E A rt) {x : UInt32} {i : Nat} (d : decode cc pc = .ok (.fstore i, 2)) (hn : i < nL) (hj : (i, Value.float x) :: L.filter (fun q => !(q.1 == i) && !(q.1 + 1 == i && q.2.category == 2)) = L') (hq : pc + 2 = q) (K : GG p l e R s m args below meth c Q E A nL σ k n q L' (sk)) : GG p l e R s m args below meth c Q E A nL σ k n pc L (.float x :: sk) := by
  subst hq; intro H locs ls hl hP hS
  exact lv_fstore C.exec C.code d hl hn hj (fun ls2 h2 => K H locs ls2 h2 hP hS)
theorem g_iinc (C : CX p l e R s m args below meth c own cc nL E A rt) {i : Nat} {z a : Int} (d : decode cc pc = .ok (.iinc i z, 3)) (j : Nat) (hj : L[j]? = some (i, .int (iI a))) (hn : i < nL) (hr : (i, Value.int (iI (a + z))) :: L.filter (fun q => !(q.1 == i) && !(q.1 + 1 == i && q.2.category == 2)) = L') (hq : pc + 3 = q) (K : GG p l e R s m args below meth c Q E A nL σ k n q L' sk) : GG p l e R s m args below meth c Q E A nL σ k n pc L sk := by
  subst hq; intro H locs ls hl hP hS
  exact lv_iinc (v := iI (a + z)) C.exec C.code d hl hj (iI_add a z) hn hr (fun ls2 h2 => K H locs ls2 h2 hP hS)
theorem g_iadd (C : CX p l e R s m args below meth c own cc nL E A rt) {a b : Int} (d : decode cc pc = .ok (.iadd, 1)) (hq : pc + 1 = q) (K : GG p l e R s m args below meth c Q E A nL σ k n q L (.int (iI (a + b)) :: sk)) : GG p l e R s m args below meth c Q E A nL σ k n pc L (.int (iI b) :: .int (iI a) :: sk) := by
  subst hq; intro H locs ls hl hP hS
  refine lv_iadd C.exec C.code d ?_
  rw [iI_add]
  exact K H locs ls hl hP hS
theorem g_isub (C : CX p l e R s m args below meth c own cc nL E A rt) {a b : Int} (d : decode cc pc = .ok (.isub, 1)) (hq : pc + 1 = q) (K : GG p l e R s m args below meth c Q E A nL σ k n q L (.int (iI (a - b)) :: sk)) : GG p l e R s m args below meth c Q E A nL σ k n pc L (.int (iI b) :: .int (iI a) :: sk) := by
  subst hq; intro H locs ls hl hP hS
  refine lv_isub C.exec C.code d ?_
  rw [iI_sub]
  exact K H locs ls hl hP hS
theorem g_imul (C : CX p l e R s m args below meth c own cc nL E A rt) {a b : Int} (d : decode cc pc = .ok (.imul, 1)) (hq : pc + 1 = q) (K : GG p l e R s m args below meth c Q E A nL σ k n q L (.int (iI (a * b)) :: sk)) : GG p l e R s m args below meth c Q E A nL σ k n pc L (.int (iI b) :: .int (iI a) :: sk) := by
  subst hq; intro H locs ls hl hP hS
  refine lv_imul C.exec C.code d ?_
  rw [iI_mul]
  exact K H locs ls hl hP hS
theorem g_idiv (C : CX p l e R s m args below meth c own cc nL E A rt) {a b : Int} (d : decode cc pc = .ok (.idiv, 1)) (h : 0 ≤ a ∧ a ≤ 2147483647 ∧ 0 < b ∧ b ≤ 2147483647) (hq : pc + 1 = q) (K : GG p l e R s m args below meth c Q E A nL σ k n q L (.int (iI (a / b)) :: sk)) : GG p l e R s m args below meth c Q E A nL σ k n pc L (.int (iI b) :: .int (iI a) :: sk) := by
  subst hq; intro H locs ls hl hP hS
  refine lv_idiv C.exec C.code d (fun h0 => ?_) ?_
  · have := (iI_ne0 (a := b) (by omega)).mp h0
    omega
  · rw [iI_div ⟨h.1, h.2.1⟩ h.2.2]
    exact K H locs ls hl hP hS
theorem g_irem (C : CX p l e R s m args below meth c own cc nL E A rt) {a b : Int} (d : decode cc pc = .ok (.irem, 1)) (h : 0 ≤ a ∧ a ≤ 2147483647 ∧ 0 < b ∧ b ≤ 2147483647) (hq : pc + 1 = q) (K : GG p l e R s m args below meth c Q E A nL σ k n q L (.int (iI (a % b)) :: sk)) : GG p l e R s m args below meth c Q E A nL σ k n pc L (.int (iI b) :: .int (iI a) :: sk) := by
  subst hq; intro H locs ls hl hP hS
  refine lv_irem C.exec C.code d (fun h0 => ?_) ?_
  · have := (iI_ne0 (a := b) (by omega)).mp h0
    omega
  · rw [iI_rem ⟨h.1, h.2.1⟩ h.2.2]
    exact K H locs ls hl hP hS
theorem g_iand63 (C : CX p l e R s m args below meth c own cc nL E A rt) {a : Int} (d : decode cc pc = .ok (.iand, 1)) (hq : pc + 1 = q) (K : GG p l e R s m args below meth c Q E A nL σ k n q L (.int (iI (a % 64)) :: sk)) : GG p l e R s m args below meth c Q E A nL σ k n pc L (.int (iI 63) :: .int (iI a) :: sk) := by
  subst hq; intro H locs ls hl hP hS
  refine lv_iand C.exec C.code d ?_
  rw [iI_and63]
  exact K H locs ls hl hP hS
theorem g_i2c (C : CX p l e R s m args below meth c own cc nL E A rt) {a : Int} (d : decode cc pc = .ok (.i2c, 1)) (hq : pc + 1 = q) (K : GG p l e R s m args below meth c Q E A nL σ k n q L (.int (iI (a % 65536)) :: sk)) : GG p l e R s m args below meth c Q E A nL σ k n pc L (.int (iI a) :: sk) := by
  subst hq; intro H locs ls hl hP hS
  exact lv_i2c C.exec C.code d (iI_c a) (K H locs ls hl hP hS)
theorem g_i2l (C : CX p l e R s m args below meth c own cc nL E A rt) {a : Int} (d : decode cc pc = .ok (.i2l, 1)) (h : -2147483648 ≤ a ∧ a ≤ 2147483647) (hq : pc + 1 = q) (K : GG p l e R s m args below meth c Q E A nL σ k n q L (.long (iL a) :: sk)) : GG p l e R s m args below meth c Q E A nL σ k n pc L (.int (iI a) :: sk) := by
  subst hq; intro H locs ls hl hP hS
  exact lv_i2l C.exec C.code d (iI_L h) (K H locs ls hl hP hS)
theorem g_ladd (C : CX p l e R s m args below meth c own cc nL E A rt) {a b : Int} (d : decode cc pc = .ok (.ladd, 1)) (hq : pc + 1 = q) (K : GG p l e R s m args below meth c Q E A nL σ k n q L (.long (iL (a + b)) :: sk)) : GG p l e R s m args below meth c Q E A nL σ k n pc L (.long (iL b) :: .long (iL a) :: sk) := by
  subst hq; intro H locs ls hl hP hS
  refine lv_ladd C.exec C.code d ?_
  rw [iL_add]
  exact K H locs ls hl hP hS
theorem g_goto (C : CX p l e R s m args below meth c own cc nL E A rt) {off : Int} (d : decode cc pc = .ok (.goto off, 3)) (hq : (pc : Int) + off = (q : Int)) (K : GG p l e R s m args below meth c Q E A nL σ k n q L sk) : GG p l e R s m args below meth c Q E A nL σ k n pc L sk := by
  intro H locs ls hl hP hS
  exact lv_goto C.exec C.code d hq (K H locs ls hl hP hS)
theorem g_dup (C : CX p l e R s m args below meth c own cc nL E A rt) {v : Value} (d : decode cc pc = .ok (.dup, 1)) (hv : v.category = 1) (hq : pc + 1 = q) (K : GG p l e R s m args below meth c Q E A nL σ k n q L (v :: v :: sk)) : GG p l e R s m args below meth c Q E A nL σ k n pc L (v :: sk) := by
  subst hq; intro H locs ls hl hP hS
  exact lv_dup C.exec C.code d hv (K H locs ls hl hP hS)
theorem g_dup2 (C : CX p l e R s m args below meth c own cc nL E A rt) {v u : Value} (d : decode cc pc = .ok (.dup2, 1)) (hv : v.category = 1) (hu : u.category = 1) (hq : pc + 1 = q) (K : GG p l e R s m args below meth c Q E A nL σ k n q L (v :: u :: v :: u :: sk)) : GG p l e R s m args below meth c Q E A nL σ k n pc L (v :: u :: sk) := by
  subst hq; intro H locs ls hl hP hS
  exact lv_dup2_11 C.exec C.code d hv hu (K H locs ls hl hP hS)
theorem g_pop (C : CX p l e R s m args below meth c own cc nL E A rt) {v : Value} (d : decode cc pc = .ok (.pop, 1)) (hv : v.category = 1) (hq : pc + 1 = q) (K : GG p l e R s m args below meth c Q E A nL σ k n q L sk) : GG p l e R s m args below meth c Q E A nL σ k n pc L (v :: sk) := by
  subst hq; intro H locs ls hl hP hS
  exact lv_pop C.exec C.code d hv (K H locs ls hl hP hS)
theorem g_icmp_eq (C : CX p l e R s m args below meth c own cc nL E A rt) {a b off : Int} {q2 : Nat} (d : decode cc pc = .ok (.if_icmp .eq off, 3)) (h : -2147483648 ≤ a ∧ a ≤ 2147483647 ∧ -2147483648 ≤ b ∧ b ≤ 2147483647) (ht : (pc : Int) + off = (q2 : Int)) (hq : pc + 3 = q) (kt : a = b → GG p l e R s m args below meth c Q E A nL σ k n q2 L sk) (kf : a ≠ b → GG p l e R s m args below meth c Q E A nL σ k n q L sk) : GG p l e R s m args below meth c Q E A nL σ k n pc L (.int (iI b) :: .int (iI a) :: sk) := by
  subst hq; intro H locs ls hl hP hS
  exact lv_icmp_eq C.exec C.code d ht (fun z => kt ((iI_eq h).mp z) H locs ls hl hP hS) (fun z => kf (fun y => z ((iI_eq h).mpr y)) H locs ls hl hP hS)
theorem g_icmp_ne (C : CX p l e R s m args below meth c own cc nL E A rt) {a b off : Int} {q2 : Nat} (d : decode cc pc = .ok (.if_icmp .ne off, 3)) (h : -2147483648 ≤ a ∧ a ≤ 2147483647 ∧ -2147483648 ≤ b ∧ b ≤ 2147483647) (ht : (pc : Int) + off = (q2 : Int)) (hq : pc + 3 = q) (kt : a ≠ b → GG p l e R s m args below meth c Q E A nL σ k n q2 L sk) (kf : a = b → GG p l e R s m args below meth c Q E A nL σ k n q L sk) : GG p l e R s m args below meth c Q E A nL σ k n pc L (.int (iI b) :: .int (iI a) :: sk) := by
  subst hq; intro H locs ls hl hP hS
  exact lv_icmp_ne C.exec C.code d ht (fun z => kt (fun y => z ((iI_eq h).mpr y)) H locs ls hl hP hS) (fun z => kf ((iI_eq h).mp z) H locs ls hl hP hS)
theorem g_icmp_lt (C : CX p l e R s m args below meth c own cc nL E A rt) {a b off : Int} {q2 : Nat} (d : decode cc pc = .ok (.if_icmp .lt off, 3)) (h : -2147483648 ≤ a ∧ a ≤ 2147483647 ∧ -2147483648 ≤ b ∧ b ≤ 2147483647) (ht : (pc : Int) + off = (q2 : Int)) (hq : pc + 3 = q) (kt : a < b → GG p l e R s m args below meth c Q E A nL σ k n q2 L sk) (kf : b ≤ a → GG p l e R s m args below meth c Q E A nL σ k n q L sk) : GG p l e R s m args below meth c Q E A nL σ k n pc L (.int (iI b) :: .int (iI a) :: sk) := by
  subst hq; intro H locs ls hl hP hS
  exact lv_icmp_lt C.exec C.code d ht (fun z => kt ((iI_lt h).mp z) H locs ls hl hP hS) (fun z => kf (Int.not_lt.mp (fun y => z ((iI_lt h).mpr y))) H locs ls hl hP hS)
theorem g_icmp_ge (C : CX p l e R s m args below meth c own cc nL E A rt) {a b off : Int} {q2 : Nat} (d : decode cc pc = .ok (.if_icmp .ge off, 3)) (h : -2147483648 ≤ a ∧ a ≤ 2147483647 ∧ -2147483648 ≤ b ∧ b ≤ 2147483647) (ht : (pc : Int) + off = (q2 : Int)) (hq : pc + 3 = q) (kt : b ≤ a → GG p l e R s m args below meth c Q E A nL σ k n q2 L sk) (kf : a < b → GG p l e R s m args below meth c Q E A nL σ k n q L sk) : GG p l e R s m args below meth c Q E A nL σ k n pc L (.int (iI b) :: .int (iI a) :: sk) := by
  subst hq; intro H locs ls hl hP hS
  exact lv_icmp_ge C.exec C.code d ht (fun z => kt ((iI_le ⟨h.2.2.1, h.2.2.2, h.1, h.2.1⟩).mp z) H locs ls hl hP hS) (fun z => kf (Int.not_le.mp (fun y => z ((iI_le ⟨h.2.2.1, h.2.2.2, h.1, h.2.1⟩).mpr y))) H locs ls hl hP hS)
theorem g_icmp_gt (C : CX p l e R s m args below meth c own cc nL E A rt) {a b off : Int} {q2 : Nat} (d : decode cc pc = .ok (.if_icmp .gt off, 3)) (h : -2147483648 ≤ a ∧ a ≤ 2147483647 ∧ -2147483648 ≤ b ∧ b ≤ 2147483647) (ht : (pc : Int) + off = (q2 : Int)) (hq : pc + 3 = q) (kt : b < a → GG p l e R s m args below meth c Q E A nL σ k n q2 L sk) (kf : a ≤ b → GG p l e R s m args below meth c Q E A nL σ k n q L sk) : GG p l e R s m args below meth c Q E A nL σ k n pc L (.int (iI b) :: .int (iI a) :: sk) := by
  subst hq; intro H locs ls hl hP hS
  exact lv_icmp_gt C.exec C.code d ht (fun z => kt ((iI_lt ⟨h.2.2.1, h.2.2.2, h.1, h.2.1⟩).mp z) H locs ls hl hP hS) (fun z => kf (Int.not_lt.mp (fun y => z ((iI_lt ⟨h.2.2.1, h.2.2.2, h.1, h.2.1⟩).mpr y))) H locs ls hl hP hS)
theorem g_icmp_le (C : CX p l e R s m args below meth c own cc nL E A rt) {a b off : Int} {q2 : Nat} (d : decode cc pc = .ok (.if_icmp .le off, 3)) (h : -2147483648 ≤ a ∧ a ≤ 2147483647 ∧ -2147483648 ≤ b ∧ b ≤ 2147483647) (ht : (pc : Int) + off = (q2 : Int)) (hq : pc + 3 = q) (kt : a ≤ b → GG p l e R s m args below meth c Q E A nL σ k n q2 L sk) (kf : b < a → GG p l e R s m args below meth c Q E A nL σ k n q L sk) : GG p l e R s m args below meth c Q E A nL σ k n pc L (.int (iI b) :: .int (iI a) :: sk) := by
  subst hq; intro H locs ls hl hP hS
  exact lv_icmp_le C.exec C.code d ht (fun z => kt ((iI_le h).mp z) H locs ls hl hP hS) (fun z => kf (Int.not_le.mp (fun y => z ((iI_le h).mpr y))) H locs ls hl hP hS)
theorem g_if_eq (C : CX p l e R s m args below meth c own cc nL E A rt) {a off : Int} {q2 : Nat} (d : decode cc pc = .ok (.ifCond .eq off, 3)) (h : -2147483648 ≤ a ∧ a ≤ 2147483647) (ht : (pc : Int) + off = (q2 : Int)) (hq : pc + 3 = q) (kt : a = 0 → GG p l e R s m args below meth c Q E A nL σ k n q2 L sk) (kf : a ≠ 0 → GG p l e R s m args below meth c Q E A nL σ k n q L sk) : GG p l e R s m args below meth c Q E A nL σ k n pc L (.int (iI a) :: sk) := by
  subst hq; intro H locs ls hl hP hS
  exact lv_if_eq C.exec C.code d ht (fun z => kt ((iI_ne0 h).mp z) H locs ls hl hP hS) (fun z => kf (fun y => z ((iI_ne0 h).mpr y)) H locs ls hl hP hS)
theorem g_if_ne (C : CX p l e R s m args below meth c own cc nL E A rt) {a off : Int} {q2 : Nat} (d : decode cc pc = .ok (.ifCond .ne off, 3)) (h : -2147483648 ≤ a ∧ a ≤ 2147483647) (ht : (pc : Int) + off = (q2 : Int)) (hq : pc + 3 = q) (kt : a ≠ 0 → GG p l e R s m args below meth c Q E A nL σ k n q2 L sk) (kf : a = 0 → GG p l e R s m args below meth c Q E A nL σ k n q L sk) : GG p l e R s m args below meth c Q E A nL σ k n pc L (.int (iI a) :: sk) := by
  subst hq; intro H locs ls hl hP hS
  exact lv_if_ne C.exec C.code d ht (fun z => kt (fun y => z ((iI_ne0 h).mpr y)) H locs ls hl hP hS) (fun z => kf ((iI_ne0 h).mp z) H locs ls hl hP hS)
theorem g_if_lt (C : CX p l e R s m args below meth c own cc nL E A rt) {a off : Int} {q2 : Nat} (d : decode cc pc = .ok (.ifCond .lt off, 3)) (h : -2147483648 ≤ a ∧ a ≤ 2147483647) (ht : (pc : Int) + off = (q2 : Int)) (hq : pc + 3 = q) (kt : a < 0 → GG p l e R s m args below meth c Q E A nL σ k n q2 L sk) (kf : 0 ≤ a → GG p l e R s m args below meth c Q E A nL σ k n q L sk) : GG p l e R s m args below meth c Q E A nL σ k n pc L (.int (iI a) :: sk) := by
  subst hq; intro H locs ls hl hP hS
  exact lv_if_lt C.exec C.code d ht (fun z => kt ((iI_lt0 h).mp z) H locs ls hl hP hS) (fun z => kf (Int.not_lt.mp (fun y => z ((iI_lt0 h).mpr y))) H locs ls hl hP hS)
theorem g_if_ge (C : CX p l e R s m args below meth c own cc nL E A rt) {a off : Int} {q2 : Nat} (d : decode cc pc = .ok (.ifCond .ge off, 3)) (h : -2147483648 ≤ a ∧ a ≤ 2147483647) (ht : (pc : Int) + off = (q2 : Int)) (hq : pc + 3 = q) (kt : 0 ≤ a → GG p l e R s m args below meth c Q E A nL σ k n q2 L sk) (kf : a < 0 → GG p l e R s m args below meth c Q E A nL σ k n q L sk) : GG p l e R s m args below meth c Q E A nL σ k n pc L (.int (iI a) :: sk) := by
  subst hq; intro H locs ls hl hP hS
  exact lv_if_ge C.exec C.code d ht (fun z => kt ((iI_0le h).mp z) H locs ls hl hP hS) (fun z => kf (Int.not_le.mp (fun y => z ((iI_0le h).mpr y))) H locs ls hl hP hS)
theorem g_if_gt (C : CX p l e R s m args below meth c own cc nL E A rt) {a off : Int} {q2 : Nat} (d : decode cc pc = .ok (.ifCond .gt off, 3)) (h : -2147483648 ≤ a ∧ a ≤ 2147483647) (ht : (pc : Int) + off = (q2 : Int)) (hq : pc + 3 = q) (kt : 0 < a → GG p l e R s m args below meth c Q E A nL σ k n q2 L sk) (kf : a ≤ 0 → GG p l e R s m args below meth c Q E A nL σ k n q L sk) : GG p l e R s m args below meth c Q E A nL σ k n pc L (.int (iI a) :: sk) := by
  subst hq; intro H locs ls hl hP hS
  exact lv_if_gt C.exec C.code d ht (fun z => kt ((iI_0lt h).mp z) H locs ls hl hP hS) (fun z => kf (Int.not_lt.mp (fun y => z ((iI_0lt h).mpr y))) H locs ls hl hP hS)
theorem g_if_le (C : CX p l e R s m args below meth c own cc nL E A rt) {a off : Int} {q2 : Nat} (d : decode cc pc = .ok (.ifCond .le off, 3)) (h : -2147483648 ≤ a ∧ a ≤ 2147483647) (ht : (pc : Int) + off = (q2 : Int)) (hq : pc + 3 = q) (kt : a ≤ 0 → GG p l e R s m args below meth c Q E A nL σ k n q2 L sk) (kf : 0 < a → GG p l e R s m args below meth c Q E A nL σ k n q L sk) : GG p l e R s m args below meth c Q E A nL σ k n pc L (.int (iI a) :: sk) := by
  subst hq; intro H locs ls hl hP hS
  exact lv_if_le C.exec C.code d ht (fun z => kt ((iI_le0 h).mp z) H locs ls hl hP hS) (fun z => kf (Int.not_le.mp (fun y => z ((iI_le0 h).mpr y))) H locs ls hl hP hS)
theorem g_tabI (C : CX p l e R s m args below meth c own cc nL E A rt) {a dflt lo hi off : Int} {offs : Array Int} {len : Nat} (d : decode cc pc = .ok (.tableswitch dflt lo hi offs, len)) (h : -2147483648 ≤ a ∧ a ≤ 2147483647) (h1 : lo ≤ a) (h2 : a ≤ hi) (ho : offs[(a - lo).toNat]? = some off) (ht : (pc : Int) + off = (q : Int)) (K : GG p l e R s m args below meth c Q E A nL σ k n q L sk) : GG p l e R s m args below meth c Q E A nL σ k n pc L (.int (iI a) :: sk) := by
  intro H locs ls hl hP hS
  exact lv_tableIn C.exec C.code d (by rw [iI_toInt h]; omega) (by rw [iI_toInt h]; omega) (by rw [iI_toInt h]; exact ho) ht (K H locs ls hl hP hS)
theorem g_tabO (C : CX p l e R s m args below meth c own cc nL E A rt) {a dflt lo hi : Int} {offs : Array Int} {len : Nat} (d : decode cc pc = .ok (.tableswitch dflt lo hi offs, len)) (h : -2147483648 ≤ a ∧ a ≤ 2147483647) (h1 : a < lo ∨ hi < a) (ht : (pc : Int) + dflt = (q : Int)) (K : GG p l e R s m args below meth c Q E A nL σ k n q L sk) : GG p l e R s m args below meth c Q E A nL σ k n pc L (.int (iI a) :: sk) := by
  intro H locs ls hl hP hS
  exact lv_tableOut C.exec C.code d (by rw [iI_toInt h]; exact h1) ht (K H locs ls hl hP hS)
theorem g_look (C : CX p l e R s m args below meth c own cc nL E A rt) {a dflt off : Int} {ps : Array (Int × Int)} {len : Nat} (d : decode cc pc = .ok (.lookupswitch dflt ps, len)) (h : -2147483648 ≤ a ∧ a ≤ 2147483647) (hp : (ps.toList.zip (ps.toList.drop 1)).all (fun (a, next) => a.1 < next.1) = true) (ho : Op.lookupswitch.offset ps.toList dflt a = off) (ht : (pc : Int) + off = (q : Int)) (K : GG p l e R s m args below meth c Q E A nL σ k n q L sk) : GG p l e R s m args below meth c Q E A nL σ k n pc L (.int (iI a) :: sk) := by
  intro H locs ls hl hP hS
  exact lv_lookup C.exec C.code d hp (by rw [iI_toInt h]; exact ho) ht (K H locs ls hl hP hS)
theorem g_ldcS (C : CX p l e R s m args below meth c own cc nL E A rt) {i : Nat} {tx : String} {w : Nat} (hw : (own, i, tx, w) ∈ sT) (d : decode cc pc = .ok (.ldc i, 2)) (hq : pc + 2 = q) (K : GG p l e R s m args below meth c Q E A nL σ k n q L (.ref (ek E w) :: sk)) : GG p l e R s m args below meth c Q E A nL σ k n pc L sk := by
  subst hq; intro H locs ls hl hP hS
  exact va_ldcS C.exec C.code C.hown (C.K.2.2.1 (own, i, tx, w) hw) d (K H locs ls hl hP hS)
end GROWS
