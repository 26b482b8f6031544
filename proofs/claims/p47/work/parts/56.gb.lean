theorem uw_J4 : ∀ w ∈ u_ws RJ4 TJ4 4, w ∈ WA := by
  show ∀ w ∈ [u_lay RJ4 TJ4 0, u_lay RJ4 TJ4 1, u_lay RJ4 TJ4 2, u_lay RJ4 TJ4 3], w ∈ WA
  exact List.forall_mem_cons.mpr ⟨(WA_in (List.mem_append_right _ (List.mem_append_right _ (List.mem_append_left _ (List.mem_of_getElem? (l := tables_1_3) (i := 100) (by decide +kernel))))) rfl), List.forall_mem_cons.mpr ⟨(WA_in (List.mem_append_right _ (List.mem_append_right _ (List.mem_append_left _ (List.mem_of_getElem? (l := tables_1_3) (i := 102) (by decide +kernel))))) rfl), List.forall_mem_cons.mpr ⟨(WA_in (List.mem_append_right _ (List.mem_append_right _ (List.mem_append_left _ (List.mem_of_getElem? (l := tables_1_3) (i := 104) (by decide +kernel))))) rfl), List.forall_mem_cons.mpr ⟨(WA_in (List.mem_append_right _ (List.mem_append_right _ (List.mem_append_left _ (List.mem_of_getElem? (l := tables_1_3) (i := 106) (by decide +kernel))))) rfl), fun _ h => nomatch h⟩⟩⟩⟩
theorem uw_J0 : ∀ w ∈ u_ws RJ0 TJ0 4, w ∈ WA := by
  show ∀ w ∈ [u_lay RJ0 TJ0 0, u_lay RJ0 TJ0 1, u_lay RJ0 TJ0 2, u_lay RJ0 TJ0 3], w ∈ WA
  exact List.forall_mem_cons.mpr ⟨(WA_in (List.mem_append_right _ (List.mem_append_left _ (List.mem_of_getElem? (l := tables_1_2) (i := 21) (by decide +kernel)))) rfl), List.forall_mem_cons.mpr ⟨(WA_in (List.mem_append_right _ (List.mem_append_left _ (List.mem_of_getElem? (l := tables_1_2) (i := 23) (by decide +kernel)))) rfl), List.forall_mem_cons.mpr ⟨(WA_in (List.mem_append_right _ (List.mem_append_right _ (List.mem_append_right _ (List.mem_append_left _ (List.mem_of_getElem? (l := tables_1_4) (i := 73) (by decide +kernel)))))) rfl), List.forall_mem_cons.mpr ⟨(WA_in (List.mem_append_right _ (List.mem_append_right _ (List.mem_append_right _ (List.mem_append_left _ (List.mem_of_getElem? (l := tables_1_4) (i := 75) (by decide +kernel)))))) rfl), fun _ h => nomatch h⟩⟩⟩⟩
/-! a private method of the class above, called on a StringBuilder -/
theorem sel_up {y z : MethodName} {s : State} {args : Array Value} (hz : (Cond.selects RJ4 z z).before args s = true) (hc : z.cls = y.cls) (hy : y.cls ≠ "java/lang/invoke/MethodHandle" ∧ y.cls ≠ "java/lang/invoke/VarHandle") (hzn : (Cond.instanceMethod z).before args s = true) (hpriv : (Cond.privateMethod y).before args s = true) (hinst : (Cond.instanceMethod y).before args s = true) : (Cond.selects RJ4 y y).before args s = true := by
  obtain ⟨c, r, mz, q1, q2, q3, q4, kz, q5, q6⟩ := Cond.selects_spec hz
  obtain ⟨mk, methM, hnamed, hmethM, -, -⟩ := Cond.instanceMethod_spec hinst
  have hfound : s.methodFound? y.cls y.name y.desc = some mk := State.methodFound?_of_named hnamed hy
  have hcls : mk.cls = mz.cls := by
    have h1 := findClass_of_methodNamed hnamed
    have h2 := findClass_of_methodNamed q3
    rw [hc] at h2
    exact Option.some.inj (h1.symm.trans h2)
  have hsel : selectMethod {} s.vm c mk = .method mk := selectMethod_private hmethM (Cond.privateMethod_at hpriv mk methM hnamed hmethM)
  simp only [Cond.before, Cond.holds, Cond.value, q1, hfound, hnamed, hsel, hcls, q5]
  simp [q6]
abbrev WB : List Cond := WA
theorem sb_in {w : Cond} (h : w ∈ sbS) : w ∈ WA := List.mem_filter.mpr ⟨List.mem_append_right _ (List.mem_append_right _ h), by simp only [sbS, List.mem_cons, List.not_mem_nil, or_false] at h; rcases h with rfl | rfl | rfl | rfl <;> rfl⟩
/-- the start: the private methods of the class above -/
theorem sb_hts {args : Array Value} {s : State} (h : ∀ w ∈ tables_1, w.before args s = true) : ∀ w ∈ sbS, w.before args s = true := by
  have hz := h (Cond.selects RJ4 yJ5_isLatin1_aae02 yJ5_isLatin1_aae02) (List.mem_append_right _ (List.mem_append_right _ (List.mem_append_left _ (List.mem_of_getElem? (l := tables_1_3) (i := 155) (by decide +kernel)))))
  have hzn := h (Cond.instanceMethod yJ5_isLatin1_aae02) (List.mem_append_right _ (List.mem_append_right _ (List.mem_append_left _ (List.mem_of_getElem? (l := tables_1_3) (i := 153) (by decide +kernel)))))
  intro w hw
  simp only [sbS, List.mem_cons, List.not_mem_nil, or_false] at hw
  rcases hw with rfl | rfl | rfl | rfl
  · exact sel_up hz rfl ⟨by decide +kernel, by decide +kernel⟩ hzn (h _ (List.mem_append_right _ (List.mem_append_right _ (List.mem_append_left _ (List.mem_of_getElem? (l := tables_1_3) (i := 122) (by decide +kernel)))))) (h _ (List.mem_append_right _ (List.mem_append_right _ (List.mem_append_left _ (List.mem_of_getElem? (l := tables_1_3) (i := 123) (by decide +kernel))))))
  · exact sel_up hz rfl ⟨by decide +kernel, by decide +kernel⟩ hzn (h _ (List.mem_append_right _ (List.mem_append_right _ (List.mem_append_left _ (List.mem_of_getElem? (l := tables_1_3) (i := 126) (by decide +kernel)))))) (h _ (List.mem_append_right _ (List.mem_append_right _ (List.mem_append_left _ (List.mem_of_getElem? (l := tables_1_3) (i := 127) (by decide +kernel))))))
  · exact sel_up hz rfl ⟨by decide +kernel, by decide +kernel⟩ hzn (h _ (List.mem_append_right _ (List.mem_append_right _ (List.mem_append_left _ (List.mem_of_getElem? (l := tables_1_3) (i := 193) (by decide +kernel)))))) (h _ (List.mem_append_right _ (List.mem_append_right _ (List.mem_append_left _ (List.mem_of_getElem? (l := tables_1_3) (i := 194) (by decide +kernel))))))
  · exact sel_up hz rfl ⟨by decide +kernel, by decide +kernel⟩ hzn (h _ (List.mem_append_right _ (List.mem_append_right _ (List.mem_append_left _ (List.mem_of_getElem? (l := tables_1_3) (i := 197) (by decide +kernel)))))) (h _ (List.mem_append_right _ (List.mem_append_right _ (List.mem_append_left _ (List.mem_of_getElem? (l := tables_1_3) (i := 198) (by decide +kernel))))))
theorem WB_ok : ∀ ws : List Cond, (∀ w ∈ ws, w ∈ WB) → GoodIn WB ws := WA_ok
theorem WA_WB {w : Cond} (h : w ∈ WA) : w ∈ WB := h
theorem fm_of {α : Type} {f : Nat → Option α} {ks : List Nat} {xs : List α} (h : ks.map f = xs.map some) : ks.filterMap f = xs := by
  have h1 : (ks.map f).filterMap id = (xs.map some).filterMap id := by rw [h]
  rw [List.filterMap_map, List.filterMap_map] at h1
  have h2 : ks.filterMap (id ∘ f) = ks.filterMap f := rfl
  rw [h2] at h1
  rw [h1]
  clear h h1 h2
  induction xs with
  | nil => rfl
  | cons x xs ih => rw [List.filterMap_cons_some (b := x) (f := id ∘ some) rfl, ih]
def CB (p : Program) (l : Launch) (e : Env) (R : Room) (s : State) (m : MethodId) (args : Array Value) (below : List Frame) (meth : Method) (c : Code) (own : String) (cc : ByteArray) (nL : Nat) (E : EV) (A : Nat → Prop) (rt : Option FieldType) : Prop :=
  p.tables.exec = Jvm.exec ∧ c.code = cc ∧ c.maxLocals = nL ∧ s.vm.findClass own = some m.cls ∧ (∀ w ∈ WB, w.before args s = true) ∧ meth.locks = false ∧ EK E s ∧ EH E A s s.heap ∧ (∀ q : Nat, s.heap.size ≤ q → A q) ∧ meth.sig.returnType = rt
def GB (p : Program) (l : Launch) (e : Env) (R : Room) (s : State) (m : MethodId) (args : Array Value) (below : List Frame) (meth : Method) (c : Code) (Q : State → Prop) (E : EV) (A : Nat → Prop) (nL : Nat) (tb : List (ClassId × FieldType)) (ws : va_W) (k n : Nat) (pc : Nat) (L : List (Nat × Value)) (sk : List Value) : Prop :=
  ∀ (H : Heap) (locs : List Loc) (ls : Array Slot), lv_has ls nL L → va_K E.1 gcl tb s → va_P E.1 gcl ws H → va_D A ws → va_S A s.heap H locs → W p l e R s m args below meth c H locs k n Q (F0 m pc ls sk)
section BROWS
variable {p : Program} {l : Launch} {e : Env} {R : Room} {s : State} {m : MethodId} {args : Array Value} {below : List Frame} {meth : Method} {c : Code} {own : String} {cc : ByteArray} {nL : Nat} {E : EV} {A : Nat → Prop} {Q : State → Prop} {rt : Option FieldType}
theorem CB.exec (C : CB p l e R s m args below meth c own cc nL E A rt) : p.tables.exec = Jvm.exec := C.1
theorem CB.code (C : CB p l e R s m args below meth c own cc nL E A rt) : c.code = cc := C.2.1
theorem CB.ml (C : CB p l e R s m args below meth c own cc nL E A rt) : c.maxLocals = nL := C.2.2.1
theorem CB.hown (C : CB p l e R s m args below meth c own cc nL E A rt) : s.vm.findClass own = some m.cls := C.2.2.2.1
theorem CB.htb (C : CB p l e R s m args below meth c own cc nL E A rt) : ∀ w ∈ WB, w.before args s = true := C.2.2.2.2.1
theorem CB.hts (C : CB p l e R s m args below meth c own cc nL E A rt) : ∀ w ∈ WA, w.before args s = true := fun w h => C.2.2.2.2.1 w (WA_WB h)
theorem CB.locks (C : CB p l e R s m args below meth c own cc nL E A rt) : meth.locks = false := C.2.2.2.2.2.1
theorem CB.K (C : CB p l e R s m args below meth c own cc nL E A rt) : EK E s := C.2.2.2.2.2.2.1
theorem CB.EH (C : CB p l e R s m args below meth c own cc nL E A rt) : EH E A s s.heap := C.2.2.2.2.2.2.2.1
theorem CB.big (C : CB p l e R s m args below meth c own cc nL E A rt) : ∀ q : Nat, s.heap.size ≤ q → A q := C.2.2.2.2.2.2.2.2.1
theorem CB.ret (C : CB p l e R s m args below meth c own cc nL E A rt) : meth.sig.returnType = rt := C.2.2.2.2.2.2.2.2.2
theorem CB.fix (C : CB p l e R s m args below meth c own cc nL E A rt) : CallFix p m c cc nL s args WA own := ⟨C.exec, C.code, C.ml, C.hown, C.hts⟩
theorem CB.fixb (C : CB p l e R s m args below meth c own cc nL E A rt) : CallFix p m c cc nL s args WB own := ⟨C.exec, C.code, C.ml, C.hown, C.htb⟩
variable {tb tb2 : List (ClassId × FieldType)} {ws ws2 : va_W} {k n pc q : Nat} {L L' : List (Nat × Value)} {sk : List Value}
theorem b_wide {k2 n2 : Nat} (h1 : k ≤ k2) (h2 : n ≤ n2) (K : GB p l e R s m args below meth c Q E A nL tb ws k2 n2 pc L sk) : GB p l e R s m args below meth c Q E A nL tb ws k n pc L sk := fun H locs ls hl hK hP hD hS => W.widen h1 h2 (K H locs ls hl hK hP hD hS)
theorem b_sub (ks : List Nat) (hL : lv_pick L ks = L') (K : GB p l e R s m args below meth c Q E A nL tb ws k n pc L' sk) : GB p l e R s m args below meth c Q E A nL tb ws k n pc L sk := fun H locs ls hl hK hP hD hS => K H locs ls (lv_sub hl ks hL) hK hP hD hS
theorem b_top {a b : Int} (h : a = b) (K : GB p l e R s m args below meth c Q E A nL tb ws k n pc L (.int (iI b) :: sk)) : GB p l e R s m args below meth c Q E A nL tb ws k n pc L (.int (iI a) :: sk) := by subst h; exact K
theorem b_loc (h1 : L = L') (K : GB p l e R s m args below meth c Q E A nL tb ws k n pc L' sk) : GB p l e R s m args below meth c Q E A nL tb ws k n pc L sk := by subst h1; exact K
theorem b_iconst (C : CB p l e R s m args below meth c own cc nL E A rt) {z : Int} (d : decode cc pc = .ok (.iconst z, 1))  (hq : pc + 1 = q) (K : GB p l e R s m args below meth c Q E A nL tb ws k n q L (.int (iI z) :: sk)) : GB p l e R s m args below meth c Q E A nL tb ws k n pc L (sk) := by
  subst hq; intro H locs ls hl hK hP hD hS
  exact lv_iconst (v := iI z) C.exec C.code d rfl (K H locs ls hl hK hP hD hS)
theorem b_bipush (C : CB p l e R s m args below meth c own cc nL E A rt) {z : Int} (d : decode cc pc = .ok (.bipush z, 2)) (hv : (Int8.ofInt z).toInt32 = iI z) (hq : pc + 2 = q) (K : GB p l e R s m args below meth c Q E A nL tb ws k n q L (.int (iI z) :: sk)) : GB p l e R s m args below meth c Q E A nL tb ws k n pc L (sk) := by
  subst hq; intro H locs ls hl hK hP hD hS
  exact lv_bipush (v := iI z) C.exec C.code d hv (K H locs ls hl hK hP hD hS)
theorem b_sipush (C : CB p l e R s m args below meth c own cc nL E A rt) {z : Int} (d : decode cc pc = .ok (.sipush z, 3)) (hv : (Int16.ofInt z).toInt32 = iI z) (hq : pc + 3 = q) (K : GB p l e R s m args below meth c Q E A nL tb ws k n q L (.int (iI z) :: sk)) : GB p l e R s m args below meth c Q E A nL tb ws k n pc L (sk) := by
  subst hq; intro H locs ls hl hK hP hD hS
  exact lv_sipush (v := iI z) C.exec C.code d hv (K H locs ls hl hK hP hD hS)
theorem b_lconst (C : CB p l e R s m args below meth c own cc nL E A rt) {z : Fin 2} {y : Int} (d : decode cc pc = .ok (.lconst z, 1)) (hv : Int64.ofNat (z : Nat) = iL y) (hq : pc + 1 = q) (K : GB p l e R s m args below meth c Q E A nL tb ws k n q L (.long (iL y) :: sk)) : GB p l e R s m args below meth c Q E A nL tb ws k n pc L (sk) := by
  subst hq; intro H locs ls hl hK hP hD hS
  exact lv_lconst (v := iL y) C.exec C.code d hv (K H locs ls hl hK hP hD hS)
theorem b_iload_n (C : CB p l e R s m args below meth c own cc nL E A rt) {x : Int} {f : Fin 4} {i : Nat} (d : decode cc pc = .ok (.iload_n f, 1)) (j : Nat) (hf : (f : Nat) = i) (hj : L[j]? = some (i, .int (iI x))) (hq : pc + 1 = q) (K : GB p l e R s m args below meth c Q E A nL tb ws k n q L (.int (iI x) :: sk)) : GB p l e R s m args below meth c Q E A nL tb ws k n pc L (sk) := by
  subst hq; intro H locs ls hl hK hP hD hS
  exact lv_iload_n C.exec C.code d hf (lv_at hl j hj) (K H locs ls hl hK hP hD hS)
theorem b_iload (C : CB p l e R s m args below meth c own cc nL E A rt) {x : Int} {i : Nat} (d : decode cc pc = .ok (.iload i, 2)) (j : Nat) (hj : L[j]? = some (i, .int (iI x))) (hq : pc + 2 = q) (K : GB p l e R s m args below meth c Q E A nL tb ws k n q L (.int (iI x) :: sk)) : GB p l e R s m args below meth c Q E A nL tb ws k n pc L (sk) := by
  subst hq; intro H locs ls hl hK hP hD hS
  exact lv_iload C.exec C.code d (lv_at hl j hj) (K H locs ls hl hK hP hD hS)
theorem b_istore_n (C : CB p l e R s m args below meth c own cc nL E A rt) {x : Int} {f : Fin 4} {i : Nat} (d : decode cc pc = .ok (.istore_n f, 1)) (hf : (f : Nat) = i) (hn : i < nL) (hj : (i, Value.int (iI x)) :: L.filter (fun q => !(q.1 == i) && !(q.1 + 1 == i && q.2.category == 2)) = L') (hq : pc + 1 = q) (K : GB p l e R s m args below meth c Q E A nL tb ws k n q L' (sk)) : GB p l e R s m args below meth c Q E A nL tb ws k n pc L (.int (iI x) :: sk) := by
  subst hq; intro H locs ls hl hK hP hD hS
  exact lv_istore_n C.exec C.code d hf hl hn hj (fun ls2 h2 => K H locs ls2 h2 hK hP hD hS)
theorem b_istore (C : CB p l e R s m args below meth c own cc nL E A rt) {x : Int} {i : Nat} (d : decode cc pc = .ok (.istore i, 2)) (hn : i < nL) (hj : (i, Value.int (iI x)) :: L.filter (fun q => !(q.1 == i) && !(q.1 + 1 == i && q.2.category == 2)) = L') (hq : pc + 2 = q) (K : GB p l e R s m args below meth c Q E A nL tb ws k n q L' (sk)) : GB p l e R s m args below meth c Q E A nL tb ws k n pc L (.int (iI x) :: sk) := by
  subst hq; intro H locs ls hl hK hP hD hS
  exact lv_istore C.exec C.code d hl hn hj (fun ls2 h2 => K H locs ls2 h2 hK hP hD hS)
theorem b_aload_n (C : CB p l e R s m args below meth c own cc nL E A rt) {x : Nat} {f : Fin 4} {i : Nat} (d : decode cc pc = .ok (.aload_n f, 1)) (j : Nat) (hf : (f : Nat) = i) (hj : L[j]? = some (i, .ref x)) (hq : pc + 1 = q) (K : GB p l e R s m args below meth c Q E A nL tb ws k n q L (.ref x :: sk)) : GB p l e R s m args below meth c Q E A nL tb ws k n pc L (sk) := by
  subst hq; intro H locs ls hl hK hP hD hS
  exact lv_aload_n C.exec C.code d hf (lv_at hl j hj) (K H locs ls hl hK hP hD hS)
theorem b_aload (C : CB p l e R s m args below meth c own cc nL E A rt) {x : Nat} {i : Nat} (d : decode cc pc = .ok (.aload i, 2)) (j : Nat) (hj : L[j]? = some (i, .ref x)) (hq : pc + 2 = q) (K : GB p l e R s m args below meth c Q E A nL tb ws k n q L (.ref x :: sk)) : GB p l e R s m args below meth c Q E A nL tb ws k n pc L (sk) := by
  subst hq; intro H locs ls hl hK hP hD hS
  exact lv_aload C.exec C.code d (lv_at hl j hj) (K H locs ls hl hK hP hD hS)
theorem b_astore_n (C : CB p l e R s m args below meth c own cc nL E A rt) {x : Nat} {f : Fin 4} {i : Nat} (d : decode cc pc = .ok (.astore_n f, 1)) (hf : (f : Nat) = i) (hn : i < nL) (hj : (i, Value.ref x) :: L.filter (fun q => !(q.1 == i) && !(q.1 + 1 == i && q.2.category == 2)) = L') (hq : pc + 1 = q) (K : GB p l e R s m args below meth c Q E A nL tb ws k n q L' (sk)) : GB p l e R s m args below meth c Q E A nL tb ws k n pc L (.ref x :: sk) := by
  subst hq; intro H locs ls hl hK hP hD hS
  exact lv_astore_n C.exec C.code d hf hl hn hj (fun ls2 h2 => K H locs ls2 h2 hK hP hD hS)
theorem b_astore (C : CB p l e R s m args below meth c own cc nL E A rt) {x : Nat} {i : Nat} (d : decode cc pc = .ok (.astore i, 2)) (hn : i < nL) (hj : (i, Value.ref x) :: L.filter (fun q => !(q.1 == i) && !(q.1 + 1 == i && q.2.category == 2)) = L') (hq : pc + 2 = q) (K : GB p l e R s m args below meth c Q E A nL tb ws k n q L' (sk)) : GB p l e R s m args below meth c Q E A nL tb ws k n pc L (.ref x :: sk) := by
  subst hq; intro H locs ls hl hK hP hD hS
  exact lv_astore C.exec C.code d hl hn hj (fun ls2 h2 => K H locs ls2 h2 hK hP hD hS)
theorem b_lload_n (C : CB p l e R s m args below meth c own cc nL E A rt) {x : Int64} {f : Fin 4} {i : Nat} (d : decode cc pc = .ok (.lload_n f, 1)) (j : Nat) (hf : (f : Nat) = i) (hj : L[j]? = some (i, .long x)) (hq : pc + 1 = q) (K : GB p l e R s m args below meth c Q E A nL tb ws k n q L (.long x :: sk)) : GB p l e R s m args below meth c Q E A nL tb ws k n pc L (sk) := by
  subst hq; intro H locs ls hl hK hP hD hS
  exact lv_lload_n C.exec C.code d hf (lv_at hl j hj) (K H locs ls hl hK hP hD hS)
theorem b_lstore_n (C : CB p l e R s m args below meth c own cc nL E A rt) {x : Int64} {f : Fin 4} {i : Nat} (d : decode cc pc = .ok (.lstore_n f, 1)) (hf : (f : Nat) = i) (hn : i + 1 < nL) (hj : (i, Value.long x) :: L.filter (fun q => !(q.1 == i) && (!(q.1 == i + 1) && !(q.1 + 1 == i && q.2.category == 2))) = L') (hq : pc + 1 = q) (K : GB p l e R s m args below meth c Q E A nL tb ws k n q L' (sk)) : GB p l e R s m args below meth c Q E A nL tb ws k n pc L (.long x :: sk) := by
  subst hq; intro H locs ls hl hK hP hD hS
  exact lv_lstore_n C.exec C.code d hf hl hn hj (fun ls2 h2 => K H locs ls2 h2 hK hP hD hS)
theorem b_dload (C : CB p l e R s m args below meth c own cc nL E A rt) {x : UInt64} {i : Nat} (d : decode cc pc = .ok (.dload i, 2)) (j : Nat) (hj : L[j]? = some (i, .double x)) (hq : pc + 2 = q) (K : GB p l e R s m args below meth c Q E A nL tb ws k n q L (.double x :: sk)) : GB p l e R s m args below meth c Q E A nL tb ws k n pc L (sk) := by
  subst hq; intro H locs ls hl hK hP hD hS
  exact lv_dload C.exec C.code d (lv_at hl j hj) (K H locs ls hl hK hP hD hS)
theorem b_dstore (C : CB p l e R s m args below meth c own cc nL E A rt) {x : UInt64} {i : Nat} (d : decode cc pc = .ok (.dstore i, 2)) (hn : i + 1 < nL) (hj : (i, Value.double x) :: L.filter (fun q => !(q.1 == i) && (!(q.1 == i + 1) && !(q.1 + 1 == i && q.2.category == 2))) = L') (hq : pc + 2 = q) (K : GB p l e R s m args below meth c Q E A nL tb ws k n q L' (sk)) : GB p l e R s m args below meth c Q E A nL tb ws k n pc L (.double x :: sk) := by
  subst hq; intro H locs ls hl hK hP hD hS
  exact lv_dstore C.exec C.code d hl hn hj (fun ls2 h2 => K H locs ls2 h2 hK hP hD hS)
theorem b_fload (C : CB p l e R s m args below meth c own cc nL E A rt) {x : UInt32} {i : Nat} (d : decode cc pc = .ok (.fload i, 2)) (j : Nat) (hj : L[j]? = some (i, .float x)) (hq : pc + 2 = q) (K : GB p l e R s m args below meth c Q E A nL tb ws k n q L (.float x :: sk)) : GB p l e R s m args below meth c Q E A nL tb ws k n pc L (sk) := by
  subst hq; intro H locs ls hl hK hP hD hS
  exact lv_fload C.exec C.code d (lv_at hl j hj) (K H locs ls hl hK hP hD hS)
theorem b_fstore (C : CB p l e R s m args below meth c own cc nL E A rt) {x : UInt32} {i : Nat} (d : decode cc pc = .ok (.fstore i, 2)) (hn : i < nL) (hj : (i, Value.float x) :: L.filter (fun q => !(q.1 == i) && !(q.1 + 1 == i && q.2.category == 2)) = L') (hq : pc + 2 = q) (K : GB p l e R s m args below meth c Q E A nL tb ws k n q L' (sk)) : GB p l e R s m args below meth c Q E A nL tb ws k n pc L (.float x :: sk) := by
  subst hq; intro H locs ls hl hK hP hD hS
  exact lv_fstore C.exec C.code d hl hn hj (fun ls2 h2 => K H locs ls2 h2 hK hP hD hS)
theorem b_iinc (C : CB p l e R s m args below meth c own cc nL E A rt) {i : Nat} {z a : Int} (d : decode cc pc = .ok (.iinc i z, 3)) (j : Nat) (hj : L[j]? = some (i, .int (iI a))) (hn : i < nL) (hr : (i, Value.int (iI (a + z))) :: L.filter (fun q => !(q.1 == i) && !(q.1 + 1 == i && q.2.category == 2)) = L') (hq : pc + 3 = q) (K : GB p l e R s m args below meth c Q E A nL tb ws k n q L' sk) : GB p l e R s m args below meth c Q E A nL tb ws k n pc L sk := by
  subst hq; intro H locs ls hl hK hP hD hS
  exact lv_iinc (v := iI (a + z)) C.exec C.code d hl hj (iI_add a z) hn hr (fun ls2 h2 => K H locs ls2 h2 hK hP hD hS)
theorem b_iadd (C : CB p l e R s m args below meth c own cc nL E A rt) {a b : Int} (d : decode cc pc = .ok (.iadd, 1)) (hq : pc + 1 = q) (K : GB p l e R s m args below meth c Q E A nL tb ws k n q L (.int (iI (a + b)) :: sk)) : GB p l e R s m args below meth c Q E A nL tb ws k n pc L (.int (iI b) :: .int (iI a) :: sk) := by
  subst hq; intro H locs ls hl hK hP hD hS
  refine lv_iadd C.exec C.code d ?_
  rw [iI_add]
  exact K H locs ls hl hK hP hD hS
theorem b_isub (C : CB p l e R s m args below meth c own cc nL E A rt) {a b : Int} (d : decode cc pc = .ok (.isub, 1)) (hq : pc + 1 = q) (K : GB p l e R s m args below meth c Q E A nL tb ws k n q L (.int (iI (a - b)) :: sk)) : GB p l e R s m args below meth c Q E A nL tb ws k n pc L (.int (iI b) :: .int (iI a) :: sk) := by
  subst hq; intro H locs ls hl hK hP hD hS
  refine lv_isub C.exec C.code d ?_
  rw [iI_sub]
  exact K H locs ls hl hK hP hD hS
theorem b_imul (C : CB p l e R s m args below meth c own cc nL E A rt) {a b : Int} (d : decode cc pc = .ok (.imul, 1)) (hq : pc + 1 = q) (K : GB p l e R s m args below meth c Q E A nL tb ws k n q L (.int (iI (a * b)) :: sk)) : GB p l e R s m args below meth c Q E A nL tb ws k n pc L (.int (iI b) :: .int (iI a) :: sk) := by
  subst hq; intro H locs ls hl hK hP hD hS
  refine lv_imul C.exec C.code d ?_
  rw [iI_mul]
  exact K H locs ls hl hK hP hD hS
theorem b_idiv (C : CB p l e R s m args below meth c own cc nL E A rt) {a b : Int} (d : decode cc pc = .ok (.idiv, 1)) (h : 0 ≤ a ∧ a ≤ 2147483647 ∧ 0 < b ∧ b ≤ 2147483647) (hq : pc + 1 = q) (K : GB p l e R s m args below meth c Q E A nL tb ws k n q L (.int (iI (a / b)) :: sk)) : GB p l e R s m args below meth c Q E A nL tb ws k n pc L (.int (iI b) :: .int (iI a) :: sk) := by
  subst hq; intro H locs ls hl hK hP hD hS
  refine lv_idiv C.exec C.code d (fun h0 => ?_) ?_
  · have := (iI_ne0 (a := b) (by omega)).mp h0
    omega
  · rw [iI_div ⟨h.1, h.2.1⟩ h.2.2]
    exact K H locs ls hl hK hP hD hS
theorem b_irem (C : CB p l e R s m args below meth c own cc nL E A rt) {a b : Int} (d : decode cc pc = .ok (.irem, 1)) (h : 0 ≤ a ∧ a ≤ 2147483647 ∧ 0 < b ∧ b ≤ 2147483647) (hq : pc + 1 = q) (K : GB p l e R s m args below meth c Q E A nL tb ws k n q L (.int (iI (a % b)) :: sk)) : GB p l e R s m args below meth c Q E A nL tb ws k n pc L (.int (iI b) :: .int (iI a) :: sk) := by
  subst hq; intro H locs ls hl hK hP hD hS
  refine lv_irem C.exec C.code d (fun h0 => ?_) ?_
  · have := (iI_ne0 (a := b) (by omega)).mp h0
    omega
  · rw [iI_rem ⟨h.1, h.2.1⟩ h.2.2]
    exact K H locs ls hl hK hP hD hS
theorem b_iand63 (C : CB p l e R s m args below meth c own cc nL E A rt) {a : Int} (d : decode cc pc = .ok (.iand, 1)) (hq : pc + 1 = q) (K : GB p l e R s m args below meth c Q E A nL tb ws k n q L (.int (iI (a % 64)) :: sk)) : GB p l e R s m args below meth c Q E A nL tb ws k n pc L (.int (iI 63) :: .int (iI a) :: sk) := by
  subst hq; intro H locs ls hl hK hP hD hS
  refine lv_iand C.exec C.code d ?_
  rw [iI_and63]
  exact K H locs ls hl hK hP hD hS
theorem b_i2c (C : CB p l e R s m args below meth c own cc nL E A rt) {a : Int} (d : decode cc pc = .ok (.i2c, 1)) (hq : pc + 1 = q) (K : GB p l e R s m args below meth c Q E A nL tb ws k n q L (.int (iI (a % 65536)) :: sk)) : GB p l e R s m args below meth c Q E A nL tb ws k n pc L (.int (iI a) :: sk) := by
  subst hq; intro H locs ls hl hK hP hD hS
  exact lv_i2c C.exec C.code d (iI_c a) (K H locs ls hl hK hP hD hS)
theorem b_i2l (C : CB p l e R s m args below meth c own cc nL E A rt) {a : Int} (d : decode cc pc = .ok (.i2l, 1)) (h : -2147483648 ≤ a ∧ a ≤ 2147483647) (hq : pc + 1 = q) (K : GB p l e R s m args below meth c Q E A nL tb ws k n q L (.long (iL a) :: sk)) : GB p l e R s m args below meth c Q E A nL tb ws k n pc L (.int (iI a) :: sk) := by
  subst hq; intro H locs ls hl hK hP hD hS
  exact lv_i2l C.exec C.code d (iI_L h) (K H locs ls hl hK hP hD hS)
theorem b_ladd (C : CB p l e R s m args below meth c own cc nL E A rt) {a b : Int} (d : decode cc pc = .ok (.ladd, 1)) (hq : pc + 1 = q) (K : GB p l e R s m args below meth c Q E A nL tb ws k n q L (.long (iL (a + b)) :: sk)) : GB p l e R s m args below meth c Q E A nL tb ws k n pc L (.long (iL b) :: .long (iL a) :: sk) := by
  subst hq; intro H locs ls hl hK hP hD hS
  refine lv_ladd C.exec C.code d ?_
  rw [iL_add]
  exact K H locs ls hl hK hP hD hS
theorem b_goto (C : CB p l e R s m args below meth c own cc nL E A rt) {off : Int} (d : decode cc pc = .ok (.goto off, 3)) (hq : (pc : Int) + off = (q : Int)) (K : GB p l e R s m args below meth c Q E A nL tb ws k n q L sk) : GB p l e R s m args below meth c Q E A nL tb ws k n pc L sk := by
  intro H locs ls hl hK hP hD hS
  exact lv_goto C.exec C.code d hq (K H locs ls hl hK hP hD hS)
theorem b_dup (C : CB p l e R s m args below meth c own cc nL E A rt) {v : Value} (d : decode cc pc = .ok (.dup, 1)) (hv : v.category = 1) (hq : pc + 1 = q) (K : GB p l e R s m args below meth c Q E A nL tb ws k n q L (v :: v :: sk)) : GB p l e R s m args below meth c Q E A nL tb ws k n pc L (v :: sk) := by
  subst hq; intro H locs ls hl hK hP hD hS
  exact lv_dup C.exec C.code d hv (K H locs ls hl hK hP hD hS)
theorem b_dup2 (C : CB p l e R s m args below meth c own cc nL E A rt) {v u : Value} (d : decode cc pc = .ok (.dup2, 1)) (hv : v.category = 1) (hu : u.category = 1) (hq : pc + 1 = q) (K : GB p l e R s m args below meth c Q E A nL tb ws k n q L (v :: u :: v :: u :: sk)) : GB p l e R s m args below meth c Q E A nL tb ws k n pc L (v :: u :: sk) := by
  subst hq; intro H locs ls hl hK hP hD hS
  exact lv_dup2_11 C.exec C.code d hv hu (K H locs ls hl hK hP hD hS)
theorem b_pop (C : CB p l e R s m args below meth c own cc nL E A rt) {v : Value} (d : decode cc pc = .ok (.pop, 1)) (hv : v.category = 1) (hq : pc + 1 = q) (K : GB p l e R s m args below meth c Q E A nL tb ws k n q L sk) : GB p l e R s m args below meth c Q E A nL tb ws k n pc L (v :: sk) := by
  subst hq; intro H locs ls hl hK hP hD hS
  exact lv_pop C.exec C.code d hv (K H locs ls hl hK hP hD hS)
theorem b_icmp_eq (C : CB p l e R s m args below meth c own cc nL E A rt) {a b off : Int} {q2 : Nat} (d : decode cc pc = .ok (.if_icmp .eq off, 3)) (h : -2147483648 ≤ a ∧ a ≤ 2147483647 ∧ -2147483648 ≤ b ∧ b ≤ 2147483647) (ht : (pc : Int) + off = (q2 : Int)) (hq : pc + 3 = q) (kt : a = b → GB p l e R s m args below meth c Q E A nL tb ws k n q2 L sk) (kf : a ≠ b → GB p l e R s m args below meth c Q E A nL tb ws k n q L sk) : GB p l e R s m args below meth c Q E A nL tb ws k n pc L (.int (iI b) :: .int (iI a) :: sk) := by
  subst hq; intro H locs ls hl hK hP hD hS
  exact lv_icmp_eq C.exec C.code d ht (fun z => kt ((iI_eq h).mp z) H locs ls hl hK hP hD hS) (fun z => kf (fun y => z ((iI_eq h).mpr y)) H locs ls hl hK hP hD hS)
theorem b_icmp_ne (C : CB p l e R s m args below meth c own cc nL E A rt) {a b off : Int} {q2 : Nat} (d : decode cc pc = .ok (.if_icmp .ne off, 3)) (h : -2147483648 ≤ a ∧ a ≤ 2147483647 ∧ -2147483648 ≤ b ∧ b ≤ 2147483647) (ht : (pc : Int) + off = (q2 : Int)) (hq : pc + 3 = q) (kt : a ≠ b → GB p l e R s m args below meth c Q E A nL tb ws k n q2 L sk) (kf : a = b → GB p l e R s m args below meth c Q E A nL tb ws k n q L sk) : GB p l e R s m args below meth c Q E A nL tb ws k n pc L (.int (iI b) :: .int (iI a) :: sk) := by
  subst hq; intro H locs ls hl hK hP hD hS
  exact lv_icmp_ne C.exec C.code d ht (fun z => kt (fun y => z ((iI_eq h).mpr y)) H locs ls hl hK hP hD hS) (fun z => kf ((iI_eq h).mp z) H locs ls hl hK hP hD hS)
theorem b_icmp_lt (C : CB p l e R s m args below meth c own cc nL E A rt) {a b off : Int} {q2 : Nat} (d : decode cc pc = .ok (.if_icmp .lt off, 3)) (h : -2147483648 ≤ a ∧ a ≤ 2147483647 ∧ -2147483648 ≤ b ∧ b ≤ 2147483647) (ht : (pc : Int) + off = (q2 : Int)) (hq : pc + 3 = q) (kt : a < b → GB p l e R s m args below meth c Q E A nL tb ws k n q2 L sk) (kf : b ≤ a → GB p l e R s m args below meth c Q E A nL tb ws k n q L sk) : GB p l e R s m args below meth c Q E A nL tb ws k n pc L (.int (iI b) :: .int (iI a) :: sk) := by
  subst hq; intro H locs ls hl hK hP hD hS
  exact lv_icmp_lt C.exec C.code d ht (fun z => kt ((iI_lt h).mp z) H locs ls hl hK hP hD hS) (fun z => kf (Int.not_lt.mp (fun y => z ((iI_lt h).mpr y))) H locs ls hl hK hP hD hS)
theorem b_icmp_ge (C : CB p l e R s m args below meth c own cc nL E A rt) {a b off : Int} {q2 : Nat} (d : decode cc pc = .ok (.if_icmp .ge off, 3)) (h : -2147483648 ≤ a ∧ a ≤ 2147483647 ∧ -2147483648 ≤ b ∧ b ≤ 2147483647) (ht : (pc : Int) + off = (q2 : Int)) (hq : pc + 3 = q) (kt : b ≤ a → GB p l e R s m args below meth c Q E A nL tb ws k n q2 L sk) (kf : a < b → GB p l e R s m args below meth c Q E A nL tb ws k n q L sk) : GB p l e R s m args below meth c Q E A nL tb ws k n pc L (.int (iI b) :: .int (iI a) :: sk) := by
  subst hq; intro H locs ls hl hK hP hD hS
  exact lv_icmp_ge C.exec C.code d ht (fun z => kt ((iI_le ⟨h.2.2.1, h.2.2.2, h.1, h.2.1⟩).mp z) H locs ls hl hK hP hD hS) (fun z => kf (Int.not_le.mp (fun y => z ((iI_le ⟨h.2.2.1, h.2.2.2, h.1, h.2.1⟩).mpr y))) H locs ls hl hK hP hD hS)
theorem b_icmp_gt (C : CB p l e R s m args below meth c own cc nL E A rt) {a b off : Int} {q2 : Nat} (d : decode cc pc = .ok (.if_icmp .gt off, 3)) (h : -2147483648 ≤ a ∧ a ≤ 2147483647 ∧ -2147483648 ≤ b ∧ b ≤ 2147483647) (ht : (pc : Int) + off = (q2 : Int)) (hq : pc + 3 = q) (kt : b < a → GB p l e R s m args below meth c Q E A nL tb ws k n q2 L sk) (kf : a ≤ b → GB p l e R s m args below meth c Q E A nL tb ws k n q L sk) : GB p l e R s m args below meth c Q E A nL tb ws k n pc L (.int (iI b) :: .int (iI a) :: sk) := by
  subst hq; intro H locs ls hl hK hP hD hS
  exact lv_icmp_gt C.exec C.code d ht (fun z => kt ((iI_lt ⟨h.2.2.1, h.2.2.2, h.1, h.2.1⟩).mp z) H locs ls hl hK hP hD hS) (fun z => kf (Int.not_lt.mp (fun y => z ((iI_lt ⟨h.2.2.1, h.2.2.2, h.1, h.2.1⟩).mpr y))) H locs ls hl hK hP hD hS)
theorem b_icmp_le (C : CB p l e R s m args below meth c own cc nL E A rt) {a b off : Int} {q2 : Nat} (d : decode cc pc = .ok (.if_icmp .le off, 3)) (h : -2147483648 ≤ a ∧ a ≤ 2147483647 ∧ -2147483648 ≤ b ∧ b ≤ 2147483647) (ht : (pc : Int) + off = (q2 : Int)) (hq : pc + 3 = q) (kt : a ≤ b → GB p l e R s m args below meth c Q E A nL tb ws k n q2 L sk) (kf : b < a → GB p l e R s m args below meth c Q E A nL tb ws k n q L sk) : GB p l e R s m args below meth c Q E A nL tb ws k n pc L (.int (iI b) :: .int (iI a) :: sk) := by
  subst hq; intro H locs ls hl hK hP hD hS
  exact lv_icmp_le C.exec C.code d ht (fun z => kt ((iI_le h).mp z) H locs ls hl hK hP hD hS) (fun z => kf (Int.not_le.mp (fun y => z ((iI_le h).mpr y))) H locs ls hl hK hP hD hS)
theorem b_if_eq (C : CB p l e R s m args below meth c own cc nL E A rt) {a off : Int} {q2 : Nat} (d : decode cc pc = .ok (.ifCond .eq off, 3)) (h : -2147483648 ≤ a ∧ a ≤ 2147483647) (ht : (pc : Int) + off = (q2 : Int)) (hq : pc + 3 = q) (kt : a = 0 → GB p l e R s m args below meth c Q E A nL tb ws k n q2 L sk) (kf : a ≠ 0 → GB p l e R s m args below meth c Q E A nL tb ws k n q L sk) : GB p l e R s m args below meth c Q E A nL tb ws k n pc L (.int (iI a) :: sk) := by
  subst hq; intro H locs ls hl hK hP hD hS
  exact lv_if_eq C.exec C.code d ht (fun z => kt ((iI_ne0 h).mp z) H locs ls hl hK hP hD hS) (fun z => kf (fun y => z ((iI_ne0 h).mpr y)) H locs ls hl hK hP hD hS)
theorem b_if_ne (C : CB p l e R s m args below meth c own cc nL E A rt) {a off : Int} {q2 : Nat} (d : decode cc pc = .ok (.ifCond .ne off, 3)) (h : -2147483648 ≤ a ∧ a ≤ 2147483647) (ht : (pc : Int) + off = (q2 : Int)) (hq : pc + 3 = q) (kt : a ≠ 0 → GB p l e R s m args below meth c Q E A nL tb ws k n q2 L sk) (kf : a = 0 → GB p l e R s m args below meth c Q E A nL tb ws k n q L sk) : GB p l e R s m args below meth c Q E A nL tb ws k n pc L (.int (iI a) :: sk) := by
  subst hq; intro H locs ls hl hK hP hD hS
  exact lv_if_ne C.exec C.code d ht (fun z => kt (fun y => z ((iI_ne0 h).mpr y)) H locs ls hl hK hP hD hS) (fun z => kf ((iI_ne0 h).mp z) H locs ls hl hK hP hD hS)
theorem b_if_lt (C : CB p l e R s m args below meth c own cc nL E A rt) {a off : Int} {q2 : Nat} (d : decode cc pc = .ok (.ifCond .lt off, 3)) (h : -2147483648 ≤ a ∧ a ≤ 2147483647) (ht : (pc : Int) + off = (q2 : Int)) (hq : pc + 3 = q) (kt : a < 0 → GB p l e R s m args below meth c Q E A nL tb ws k n q2 L sk) (kf : 0 ≤ a → GB p l e R s m args below meth c Q E A nL tb ws k n q L sk) : GB p l e R s m args below meth c Q E A nL tb ws k n pc L (.int (iI a) :: sk) := by
  subst hq; intro H locs ls hl hK hP hD hS
  exact lv_if_lt C.exec C.code d ht (fun z => kt ((iI_lt0 h).mp z) H locs ls hl hK hP hD hS) (fun z => kf (Int.not_lt.mp (fun y => z ((iI_lt0 h).mpr y))) H locs ls hl hK hP hD hS)
theorem b_if_ge (C : CB p l e R s m args below meth c own cc nL E A rt) {a off : Int} {q2 : Nat} (d : decode cc pc = .ok (.ifCond .ge off, 3)) (h : -2147483648 ≤ a ∧ a ≤ 2147483647) (ht : (pc : Int) + off = (q2 : Int)) (hq : pc + 3 = q) (kt : 0 ≤ a → GB p l e R s m args below meth c Q E A nL tb ws k n q2 L sk) (kf : a < 0 → GB p l e R s m args below meth c Q E A nL tb ws k n q L sk) : GB p l e R s m args below meth c Q E A nL tb ws k n pc L (.int (iI a) :: sk) := by
  subst hq; intro H locs ls hl hK hP hD hS
  exact lv_if_ge C.exec C.code d ht (fun z => kt ((iI_0le h).mp z) H locs ls hl hK hP hD hS) (fun z => kf (Int.not_le.mp (fun y => z ((iI_0le h).mpr y))) H locs ls hl hK hP hD hS)
theorem b_if_gt (C : CB p l e R s m args below meth c own cc nL E A rt) {a off : Int} {q2 : Nat} (d : decode cc pc = .ok (.ifCond .gt off, 3)) (h : -2147483648 ≤ a ∧ a ≤ 2147483647) (ht : (pc : Int) + off = (q2 : Int)) (hq : pc + 3 = q) (kt : 0 < a → GB p l e R s m args below meth c Q E A nL tb ws k n q2 L sk) (kf : a ≤ 0 → GB p l e R s m args below meth c Q E A nL tb ws k n q L sk) : GB p l e R s m args below meth c Q E A nL tb ws k n pc L (.int (iI a) :: sk) := by
  subst hq; intro H locs ls hl hK hP hD hS
  exact lv_if_gt C.exec C.code d ht (fun z => kt ((iI_0lt h).mp z) H locs ls hl hK hP hD hS) (fun z => kf (Int.not_lt.mp (fun y => z ((iI_0lt h).mpr y))) H locs ls hl hK hP hD hS)
theorem b_if_le (C : CB p l e R s m args below meth c own cc nL E A rt) {a off : Int} {q2 : Nat} (d : decode cc pc = .ok (.ifCond .le off, 3)) (h : -2147483648 ≤ a ∧ a ≤ 2147483647) (ht : (pc : Int) + off = (q2 : Int)) (hq : pc + 3 = q) (kt : a ≤ 0 → GB p l e R s m args below meth c Q E A nL tb ws k n q2 L sk) (kf : 0 < a → GB p l e R s m args below meth c Q E A nL tb ws k n q L sk) : GB p l e R s m args below meth c Q E A nL tb ws k n pc L (.int (iI a) :: sk) := by
  subst hq; intro H locs ls hl hK hP hD hS
  exact lv_if_le C.exec C.code d ht (fun z => kt ((iI_le0 h).mp z) H locs ls hl hK hP hD hS) (fun z => kf (Int.not_le.mp (fun y => z ((iI_le0 h).mpr y))) H locs ls hl hK hP hD hS)
theorem b_tabI (C : CB p l e R s m args below meth c own cc nL E A rt) {a dflt lo hi off : Int} {offs : Array Int} {len : Nat} (d : decode cc pc = .ok (.tableswitch dflt lo hi offs, len)) (h : -2147483648 ≤ a ∧ a ≤ 2147483647) (h1 : lo ≤ a) (h2 : a ≤ hi) (ho : offs[(a - lo).toNat]? = some off) (ht : (pc : Int) + off = (q : Int)) (K : GB p l e R s m args below meth c Q E A nL tb ws k n q L sk) : GB p l e R s m args below meth c Q E A nL tb ws k n pc L (.int (iI a) :: sk) := by
  intro H locs ls hl hK hP hD hS
  exact lv_tableIn C.exec C.code d (by rw [iI_toInt h]; omega) (by rw [iI_toInt h]; omega) (by rw [iI_toInt h]; exact ho) ht (K H locs ls hl hK hP hD hS)
theorem b_tabO (C : CB p l e R s m args below meth c own cc nL E A rt) {a dflt lo hi : Int} {offs : Array Int} {len : Nat} (d : decode cc pc = .ok (.tableswitch dflt lo hi offs, len)) (h : -2147483648 ≤ a ∧ a ≤ 2147483647) (h1 : a < lo ∨ hi < a) (ht : (pc : Int) + dflt = (q : Int)) (K : GB p l e R s m args below meth c Q E A nL tb ws k n q L sk) : GB p l e R s m args below meth c Q E A nL tb ws k n pc L (.int (iI a) :: sk) := by
  intro H locs ls hl hK hP hD hS
  exact lv_tableOut C.exec C.code d (by rw [iI_toInt h]; exact h1) ht (K H locs ls hl hK hP hD hS)
theorem b_look (C : CB p l e R s m args below meth c own cc nL E A rt) {a dflt off : Int} {ps : Array (Int × Int)} {len : Nat} (d : decode cc pc = .ok (.lookupswitch dflt ps, len)) (h : -2147483648 ≤ a ∧ a ≤ 2147483647) (hp : (ps.toList.zip (ps.toList.drop 1)).all (fun (a, next) => a.1 < next.1) = true) (ho : Op.lookupswitch.offset ps.toList dflt a = off) (ht : (pc : Int) + off = (q : Int)) (K : GB p l e R s m args below meth c Q E A nL tb ws k n q L sk) : GB p l e R s m args below meth c Q E A nL tb ws k n pc L (.int (iI a) :: sk) := by
  intro H locs ls hl hK hP hD hS
  exact lv_lookup C.exec C.code d hp (by rw [iI_toInt h]; exact ho) ht (K H locs ls hl hK hP hD hS)
theorem b_ldcS (C : CB p l e R s m args below meth c own cc nL E A rt) {i : Nat} {tx : String} {w : Nat} (hw : (own, i, tx, w) ∈ sT) (d : decode cc pc = .ok (.ldc i, 2)) (hq : pc + 2 = q) (K : GB p l e R s m args below meth c Q E A nL tb ws k n q L (.ref (ek E w) :: sk)) : GB p l e R s m args below meth c Q E A nL tb ws k n pc L sk := by
  subst hq; intro H locs ls hl hK hP hD hS
  exact va_ldcS C.exec C.code C.hown (C.K.2.2.1 (own, i, tx, w) hw) d (K H locs ls hl hK hP hD hS)
theorem b_world (h1 : tb = tb2) (h2 : ws = ws2) (K : GB p l e R s m args below meth c Q E A nL tb2 ws2 k n pc L sk) : GB p l e R s m args below meth c Q E A nL tb ws k n pc L sk := by subst h1; subst h2; exact K
theorem b_drop (ks ts : List Nat) (hk : va_nd ks = true) (h2 : ks.map (fun i => ws[i]?) = ws2.map some) (h3 : ts.filterMap (fun i => tb[i]?) = tb2) (K : GB p l e R s m args below meth c Q E A nL tb2 ws2 k n pc L sk) : GB p l e R s m args below meth c Q E A nL tb ws k n pc L sk := fun H locs ls hl hK hP hD hS => K H locs ls hl (hK.sub ts h3) (hP.sub ks (fm_of h2)) (hD.sub ks hk h2) hS
theorem b_null (C : CB p l e R s m args below meth c own cc nL E A rt)  (d : decode cc pc = .ok (.aconst_null, 1))  (hq : pc + 1 = q) (K : GB p l e R s m args below meth c Q E A nL tb ws k n q L (.null :: sk)) : GB p l e R s m args below meth c Q E A nL tb ws k n pc L (sk) := by
  subst hq; intro H locs ls hl hK hP hD hS
  exact lv_null C.exec C.code d (K H locs ls hl hK hP hD hS)
theorem b_ineg (C : CB p l e R s m args below meth c own cc nL E A rt) {a : Int} (d : decode cc pc = .ok (.ineg, 1))  (hq : pc + 1 = q) (K : GB p l e R s m args below meth c Q E A nL tb ws k n q L (.int (iI (-a)) :: sk)) : GB p l e R s m args below meth c Q E A nL tb ws k n pc L (.int (iI a) :: sk) := by
  subst hq; intro H locs ls hl hK hP hD hS
  refine lv_ineg C.exec C.code d ?_
  rw [show -(iI a) = iI (-a) from (Int32.ofInt_neg a).symm]
  exact K H locs ls hl hK hP hD hS
theorem b_ishr0 (C : CB p l e R s m args below meth c own cc nL E A rt) {x : Int} (d : decode cc pc = .ok (.ishr, 1))  (hq : pc + 1 = q) (K : GB p l e R s m args below meth c Q E A nL tb ws k n q L (.int (iI x) :: sk)) : GB p l e R s m args below meth c Q E A nL tb ws k n pc L (.int (iI 0) :: .int (iI x) :: sk) := by
  subst hq; intro H locs ls hl hK hP hD hS
  refine lv_ishr C.exec C.code d ?_
  rw [show iI x >>> (iI 0 &&& 31) = iI x from by
    rw [show (iI 0 &&& 31 : Int32) = 0 from by decide]
    apply Int32.toBitVec_inj.mp
    simp]
  exact K H locs ls hl hK hP hD hS
theorem b_ishl0 (C : CB p l e R s m args below meth c own cc nL E A rt) {x : Int} (d : decode cc pc = .ok (.ishl, 1))  (hq : pc + 1 = q) (K : GB p l e R s m args below meth c Q E A nL tb ws k n q L (.int (iI x) :: sk)) : GB p l e R s m args below meth c Q E A nL tb ws k n pc L (.int (iI 0) :: .int (iI x) :: sk) := by
  subst hq; intro H locs ls hl hK hP hD hS
  refine lv_ishl C.exec C.code d ?_
  rw [show iI x <<< (iI 0 &&& 31) = iI x from by
    rw [show (iI 0 &&& 31 : Int32) = 0 from by decide]
    apply Int32.toBitVec_inj.mp
    simp]
  exact K H locs ls hl hK hP hD hS
theorem b_ifnn (C : CB p l e R s m args below meth c own cc nL E A rt) {x : Nat} {off : Int} (d : decode cc pc = .ok (.ifnonnull off, 3)) (hq : (pc : Int) + off = (q : Int)) (K : GB p l e R s m args below meth c Q E A nL tb ws k n q L sk) : GB p l e R s m args below meth c Q E A nL tb ws k n pc L (.ref x :: sk) := by
  intro H locs ls hl hK hP hD hS
  exact lv_ifnonnull C.exec C.code d hq (K H locs ls hl hK hP hD hS)
theorem b_comp5 (C : CB p l e R s m args below meth c own cc nL E A rt) (ho : own = RJ5) (d : decode cc pc = .ok (.getstatic 18, 3))  (hq : pc + 3 = q) (K : GB p l e R s m args below meth c Q E A nL tb ws k n q L (.int (iI 1) :: sk)) : GB p l e R s m args below meth c Q E A nL tb ws k n pc L (sk) := by
  subst hq; intro H locs ls hl hK hP hD hS
  subst ho
  exact va_gets C.exec C.code C.EH.2.2.2.1 hS C.hown (C.hts _ (WA_in (List.mem_append_right _ (List.mem_append_right _ (List.mem_append_left _ (List.mem_of_getElem? (l := tables_1_3) (i := 87) (by decide +kernel))))) rfl)) (fun x h => h) d (K H locs ls hl hK hP hD hS)
theorem b_comp0 (C : CB p l e R s m args below meth c own cc nL E A rt) (ho : own = RJ0) (d : decode cc pc = .ok (.getstatic 38, 3))  (hq : pc + 3 = q) (K : GB p l e R s m args below meth c Q E A nL tb ws k n q L (.int (iI 1) :: sk)) : GB p l e R s m args below meth c Q E A nL tb ws k n pc L (sk) := by
  subst hq; intro H locs ls hl hK hP hD hS
  subst ho
  exact va_gets C.exec C.code C.EH.2.2.2.1 hS C.hown (C.hts _ (WA_in (List.mem_append_right _ (List.mem_append_right _ (List.mem_append_left _ (List.mem_of_getElem? (l := tables_1_3) (i := 191) (by decide +kernel))))) rfl)) (fun x h => h) d (K H locs ls hl hK hP hD hS)
theorem b_done (C : CB p l e R s m args below meth c own cc nL E A rt) (ho : own = RJ6) {i : Int} (hi : 0 ≤ i ∧ i < 100) (d : decode cc pc = .ok (.getstatic 83, 3)) (K : ∀ t : Nat, (∀ {pc3 q3 : Nat} {L3 : List (Nat × Value)} {sk3 : List Value}, decode cc pc3 = .ok (.baload, 1) → pc3 + 1 = q3 → GB p l e R s m args below meth c Q E A nL tb ws k n q3 L3 (.int (iI (48 + i % 10)) :: sk3) → GB p l e R s m args below meth c Q E A nL tb ws k n pc3 L3 (.int (iI i) :: .ref t :: sk3)) → GB p l e R s m args below meth c Q E A nL tb ws k n (pc + 3) L (.ref t :: sk)) : GB p l e R s m args below meth c Q E A nL tb ws k n pc L sk := by
  subst ho
  obtain ⟨t, h1, h2⟩ := C.EH.2.2.2.2.2.1
  intro H locs ls hl hK hP hD hS
  refine va_gets C.exec C.code h1 hS C.hown (C.hts _ (WA_in (List.mem_append_right _ (List.mem_append_right _ (List.mem_append_left _ (List.mem_of_getElem? (l := tables_1_3) (i := 239) (by decide +kernel))))) rfl)) (fun x h => h) d (K t ?_ H locs ls hl hK hP hD hS)
  intro pc3 q3 L3 sk3 d3 hq3 K3 H locs ls hl hK hP hD hS
  subst hq3
  refine va_tb C.exec C.code h2 hS (vp_in_iff.mpr (by rw [iI_toInt (by omega)]; omega)) (show (fun j => Value.int (iI (48 + dOne j : Nat))) (iI i).toNatClampNeg = Value.int (iI (48 + i % 10)) by
    show Value.int (iI (48 + dOne (iI i).toNatClampNeg : Nat)) = _
    rw [iI_cl (by omega)]
    congr 2
    show ((48 + i.toNat % 10 : Nat) : Int) = _
    omega) d3 (K3 H locs ls hl hK hP hD hS)
theorem b_dten (C : CB p l e R s m args below meth c own cc nL E A rt) (ho : own = RJ6) {i : Int} (hi : 0 ≤ i ∧ i < 100) (d : decode cc pc = .ok (.getstatic 87, 3)) (K : ∀ t : Nat, (∀ {pc3 q3 : Nat} {L3 : List (Nat × Value)} {sk3 : List Value}, decode cc pc3 = .ok (.baload, 1) → pc3 + 1 = q3 → GB p l e R s m args below meth c Q E A nL tb ws k n q3 L3 (.int (iI (48 + i / 10)) :: sk3) → GB p l e R s m args below meth c Q E A nL tb ws k n pc3 L3 (.int (iI i) :: .ref t :: sk3)) → GB p l e R s m args below meth c Q E A nL tb ws k n (pc + 3) L (.ref t :: sk)) : GB p l e R s m args below meth c Q E A nL tb ws k n pc L sk := by
  subst ho
  obtain ⟨t, h1, h2⟩ := C.EH.2.2.2.2.2.2.1
  intro H locs ls hl hK hP hD hS
  refine va_gets C.exec C.code h1 hS C.hown (C.hts _ (WA_in (List.mem_append_right _ (List.mem_append_right _ (List.mem_append_right _ (List.mem_append_left _ (List.mem_of_getElem? (l := tables_1_4) (i := 1) (by decide +kernel)))))) rfl)) (fun x h => h) d (K t ?_ H locs ls hl hK hP hD hS)
  intro pc3 q3 L3 sk3 d3 hq3 K3 H locs ls hl hK hP hD hS
  subst hq3
  refine va_tb C.exec C.code h2 hS (vp_in_iff.mpr (by rw [iI_toInt (by omega)]; omega)) (show (fun j => Value.int (iI (48 + dTen j : Nat))) (iI i).toNatClampNeg = Value.int (iI (48 + i / 10)) by
    show Value.int (iI (48 + dTen (iI i).toNatClampNeg : Nat)) = _
    rw [iI_cl (by omega)]
    congr 2
    show ((48 + i.toNat / 10 : Nat) : Int) = _
    omega) d3 (K3 H locs ls hl hK hP hD hS)
theorem b_alen (C : CB p l e R s m args below meth c own cc nL E A rt) {x : Nat} (i0 t0 : Nat) {cA : ClassId} {N : Nat} {f : Int → Int} (ha : ws[i0]? = some (x, .inl (cA, N, .inl (af f)))) (ht : tb[t0]? = some (cA, .byte)) (d : decode cc pc = .ok (.arraylength, 1))  (hq : pc + 1 = q) (K : GB p l e R s m args below meth c Q E A nL tb ws k n q L (.int (iI N) :: sk)) : GB p l e R s m args below meth c Q E A nL tb ws k n pc L (.ref x :: sk) := by
  subst hq; intro H locs ls hl hK hP hD hS
  exact va_alen (x := (N, .inl (af f))) C.exec C.code hK hP i0 t0 ha ht (nI_iI N) d (K H locs ls hl hK hP hD hS)
theorem iI_narB {z : Int} (h : 0 ≤ z ∧ z < 128) : vp_nar .byte (iI z) = iI z := by
  obtain ⟨n, rfl⟩ : ∃ n : Nat, z = n := ⟨z.toNat, by omega⟩
  rw [← nI_iI, vp_nar_byte]
  have : ∀ n : Fin 128, (nI n.val).toInt8.toInt32 = nI n.val := by decide +kernel
  exact this ⟨n, by omega⟩
theorem iI_fitB {z : Int} (h : 0 ≤ z ∧ z < 128) : fits .byte (.int (iI z)) = true := by
  obtain ⟨n, rfl⟩ : ∃ n : Nat, z = n := ⟨z.toNat, by omega⟩
  rw [← nI_iI]
  have : ∀ n : Fin 128, fits .byte (.int (nI n.val)) = true := by decide +kernel
  exact this ⟨n, by omega⟩
theorem b_bast (C : CB p l e R s m args below meth c own cc nL E A rt) {x : Nat} (i0 t0 : Nat) {cA : ClassId} {N : Nat} {f : Int → Int} (ha : ws[i0]? = some (x, .inl (cA, N, .inl (af f)))) (ht : tb[t0]? = some (cA, .byte)) {i z : Int} (hi : 0 ≤ i ∧ i < N ∧ N < 100000) (hz : 0 ≤ z ∧ z < 128) (d : decode cc pc = .ok (.bastore, 1)) (hq : pc + 1 = q) (hw : ws.set i0 (x, .inl (cA, N, .inl (af (pt f i z)))) = ws2) (K : GB p l e R s m args below meth c Q E A nL tb ws2 k n q L sk) : GB p l e R s m args below meth c Q E A nL tb ws k n pc L (.int (iI z) :: .int (iI i) :: .ref x :: sk) := by
  subst hq; subst hw; intro H locs ls hl hK hP hD hS
  refine va_bast (n := N) (f := af f) C.exec C.code hK hP hD hS i0 t0 ha ht (vp_in_iff.mpr (by rw [iI_toInt (by omega)]; omega)) d (fun H1 locs1 hP1 hD1 hS1 => ?_)
  rw [iI_narB hz, af_st (by omega)] at hP1 hD1
  exact K H1 locs1 ls hl hK hP1 hD1 hS1
theorem b_newa (C : CB p l e R s m args below meth c own cc nL E A rt) {N : Int} (hN : 0 ≤ N ∧ N ≤ 1000) (hR : k + 1 ≤ R.cells ∧ n + N.toNat ≤ R.slots) (d : decode cc pc = .ok (.newarray .byte, 2)) (hq : pc + 2 = q) (K : ∀ (x : Nat) (cA : ClassId), GB p l e R s m args below meth c Q E A nL (tb ++ [(cA, .byte)]) (ws ++ [(x, .inl (cA, N.toNat, .inl (af (fun _ => 0))))]) (k + 1) (n + N.toNat) q L (.ref x :: sk)) : GB p l e R s m args below meth c Q E A nL tb ws k n pc L (.int (iI N) :: sk) := by
  subst hq; intro H locs ls hl hK hP hD hS
  refine va_newa (atype := .byte) (ty := .byte) (a0 := (N.toNat, .inl (af (fun _ => 0)))) (N' := N.toNat) C.exec C.code (C.hts _ (WA_in (List.mem_append_right _ (List.mem_append_left _ (List.mem_of_getElem? (l := tables_1_2) (i := 20) (by decide +kernel)))) rfl)) rfl hK hP hD hS C.big (fun _ => rfl) (fun h => by have := (iI_lt0 (a := N) (by omega)).mp h; omega) (iI_cl (by omega)) (by show N.toNat * 1 ≤ _; omega) hR.1 hR.2 d (fun x cA H1 hK1 hP1 hD1 hS1 => K x cA H1 locs ls hl hK1 hP1 hD1 hS1)
theorem b_copy (C : CB p l e R s m args below meth c own cc nL E A rt) {idx : Nat} (hl9 : Cond.methodLink own idx arraycopyName ∈ WA) {x y : Nat} (i0 i1 t0 t1 : Nat) {c0 c1 : ClassId} {n0 n1 : Nat} {f g : Int → Int} (h0 : ws[i0]? = some (x, .inl (c0, n0, .inl (af f)))) (h1 : ws[i1]? = some (y, .inl (c1, n1, .inl (af g)))) (ht0 : tb[t0]? = some (c0, .byte)) (ht1 : tb[t1]? = some (c1, .byte)) {sp dp z : Int} (h : 0 ≤ sp ∧ 0 ≤ dp ∧ 0 ≤ z ∧ sp + z ≤ n0 ∧ dp + z ≤ n1 ∧ (n0 : Int) < 10000 ∧ (n1 : Int) < 10000) (hf : ∀ j, 0 ≤ f j ∧ f j < 128) (hR : 1 ≤ R.frames) (hlo : (sk.map fun v => v.category).sum + (nativeFrameWords "java/lang/System" "arraycopy" 5 + 11) ≤ R.locals) (d : decode cc pc = .ok (.invokestatic idx, 3)) (hq : pc + 3 = q) (hw : ws.set i1 (y, .inl (c1, n1, .inl (af (cpf f g sp dp z)))) = ws2) (K : GB p l e R s m args below meth c Q E A nL tb ws2 k n q L sk) : GB p l e R s m args below meth c Q E A nL tb ws k n pc L (.int (iI z) :: .int (iI dp) :: .ref y :: .int (iI sp) :: .ref x :: sk) := by
  subst hq; subst hw; intro H locs ls hl hK hP hD hS
  refine va_copyi C.exec C.code (C.ml.trans hl.1.symm) C.hown (C.hts _ hl9) (C.hts _ (WA_in wm_cp_n wm_cp_g)) (C.hts _ wm_cp_s) (C.hts _ wm_sys) hK hP hD hS i0 i1 t0 t1 h0 h1 ht0 ht1 rfl (fun q9 => by have := (iI_lt0 (a := sp) (by omega)).mp q9; omega) (fun q9 => by have := (iI_lt0 (a := dp) (by omega)).mp q9; omega) (fun q9 => by have := (iI_lt0 (a := z) (by omega)).mp q9; omega) (by rw [iI_cl (by omega), iI_cl (by omega)]; omega) (by rw [iI_cl (by omega), iI_cl (by omega)]; omega) (fun i _ => iI_fitB (hf _)) hR hlo d (fun H1 locs1 hP1 hD1 hS1 => ?_)
  rw [af_cp (by omega)] at hP1 hD1
  exact K H1 locs1 ls hl hK hP1 hD1 hS1
theorem b_copyt (C : CB p l e R s m args below meth c own cc nL E A rt) {idx : Nat} (hl9 : Cond.methodLink own idx arraycopyName ∈ WA) {qy v ln y : Nat} {f9 : Nat → Int32} (hy : ey E = some (qy, v, ln, f9)) (i1 t1 : Nat) {c1 : ClassId} {n1 : Nat} {f g : Int → Int} (hfe : ∀ i : Int, 0 ≤ i → i < ln → f9 i.toNat = iI (f i) ∧ 0 ≤ f i ∧ f i < 128) (h1 : ws[i1]? = some (y, .inl (c1, n1, .inl (af g)))) (ht1 : tb[t1]? = some (c1, .byte)) {dp : Int} (h : 0 ≤ dp ∧ dp + ln ≤ n1 ∧ (ln : Int) < 10000 ∧ (n1 : Int) < 10000) (hR : 1 ≤ R.frames) (hlo : (sk.map fun v => v.category).sum + (nativeFrameWords "java/lang/System" "arraycopy" 5 + 11) ≤ R.locals) (d : decode cc pc = .ok (.invokestatic idx, 3)) (hq : pc + 3 = q) (hw : ws.set i1 (y, .inl (c1, n1, .inl (af (cpf f g 0 dp ln)))) = ws2) (K : GB p l e R s m args below meth c Q E A nL tb ws2 k n q L sk) : GB p l e R s m args below meth c Q E A nL tb ws k n pc L (.int (iI ln) :: .int (iI dp) :: .ref y :: .int (iI 0) :: .ref v :: sk) := by
  subst hq; subst hw; intro H locs ls hl hK hP hD hS
  refine vk_copyt C.exec C.code (C.ml.trans hl.1.symm) C.hown (C.hts _ hl9) (C.hts _ (WA_in wm_cp_n wm_cp_g)) (C.hts _ wm_cp_s) (C.hts _ wm_sys) hK hP hD hS (f := f9) (n0 := ln) (C.EH.2.2.2.2.2.2.2.2 qy v ln f9 hy).2.2.2 i1 t1 h1 ht1 (fun q9 => by have := (iI_lt0 (a := 0) (by omega)).mp q9; omega) (fun q9 => by have := (iI_lt0 (a := dp) (by omega)).mp q9; omega) (fun q9 => by have := (iI_lt0 (a := (ln : Int)) (by omega)).mp q9; omega) (by rw [iI_cl (by omega), iI_cl (by omega)]; omega) (by rw [iI_cl (by omega), iI_cl (by omega)]; omega) (fun i hi => by
      rw [iI_cl (by omega)] at hi
      rw [iI_cl (by omega)]
      have h9 := hfe i (by omega) (by omega)
      rw [show (0 : Int).toNat + i = ((i : Int)).toNat by omega, h9.1]
      exact iI_fitB h9.2) hR hlo d (fun H1 locs1 hP1 hD1 hS1 => ?_)
  have e : va_cpy f9 (af g) (iI 0).toNatClampNeg (iI dp).toNatClampNeg (iI ln).toNatClampNeg = af (cpf f g 0 dp ln) := by
    rw [iI_cl (by omega), iI_cl (by omega), iI_cl (by omega)]
    funext j; unfold va_cpy af cpf
    by_cases hj : dp.toNat ≤ j ∧ j < dp.toNat + (ln : Int).toNat
    · rw [if_pos hj, if_pos (by omega), show (0 : Int).toNat + (j - dp.toNat) = (0 + ((j : Int) - dp)).toNat by omega]
      exact (hfe _ (by omega) (by omega)).1
    · rw [if_neg hj, if_neg (by omega)]
  rw [e] at hP1 hD1
  exact K H1 locs1 ls hl hK hP1 hD1 hS1
theorem b_clone (C : CB p l e R s m args below meth c own cc nL E A rt) (ho : own = RJ7) {x : Nat} (i0 t0 : Nat) {cA : ClassId} {N : Nat} {f : Int → Int} (ha : ws[i0]? = some (x, .inl (cA, N, .inl (af f)))) (ht : tb[t0]? = some (cA, .byte)) (hf : ∀ j, 0 ≤ f j ∧ f j < 128) (hR : 1 ≤ R.frames) (hlo : (sk.map fun v => v.category).sum + 14 ≤ R.locals) (hk : k + 1 ≤ R.cells ∧ n + N ≤ R.slots) (d : decode cc pc = .ok (.invokevirtual 310, 3)) (d2 : decode cc (pc + 3) = .ok (.checkcast 311, 3)) (hq : pc + 3 + 3 = q) (K : ∀ y : Nat, GB p l e R s m args below meth c Q E A nL (tb ++ [(cA, .byte)]) (ws ++ [(y, .inl (cA, N, .inl (af f)))]) (k + 1) (n + N) q L (.ref y :: sk)) : GB p l e R s m args below meth c Q E A nL tb ws k n pc L (.ref x :: sk) := by
  subst hq; subst ho; intro H locs ls hl hK hP hD hS
  have hnm : s.vm.findClass "[B" = some cA := (hK.2 t0 _ ht).2
  refine va_clone C.exec C.code (C.ml.trans hl.1.symm) (ad := "[B") (x := (N, .inl (af f))) C.hown (C.hts _ (WA_in (List.mem_append_right _ (List.mem_append_right _ (List.mem_append_left _ (List.mem_of_getElem? (l := tables_1_3) (i := 143) (by decide +kernel))))) rfl)) (C.hts _ (WA_in (List.mem_append_right _ (List.mem_append_right _ (List.mem_append_left _ (List.mem_of_getElem? (l := tables_1_3) (i := 144) (by decide +kernel))))) rfl)) (C.hts _ (WA_in (List.mem_append_right _ (List.mem_append_right _ (List.mem_append_left _ (List.mem_of_getElem? (l := tables_1_3) (i := 145) (by decide +kernel))))) rfl)) (C.hts _ (WA_in (List.mem_append_right _ (List.mem_append_right _ (List.mem_append_left _ (List.mem_of_getElem? (l := tables_1_3) (i := 146) (by decide +kernel))))) rfl)) (C.hts _ (WA_in (List.mem_append_right _ (List.mem_append_right _ (List.mem_append_left _ (List.mem_of_getElem? (l := tables_1_3) (i := 147) (by decide +kernel))))) rfl)) (C.K.2.2.2.1 _ (by simp [vxw])) hK hP hD hS C.big i0 t0 ha ht hnm (fun i v hv => ?_) hR hlo hk.1 hk.2 d (fun y H1 hK1 hP1 hD1 hS1 => ?_)
  · have h1 : (vp_cell cA (N, .inl (af f))).slots[i]? = some v := hv
    have h2 : ∀ g : Nat → Int32, (∀ j, fits .byte (.int (g j)) = true) → (vp_cell cA (N, .inl g)).slots[i]? = some v → fits .byte v = true := by
      intro g hg h3
      have h4 : (Array.ofFn (n := N) fun j => Value.int (g j.val))[i]? = some v := h3
      rw [Array.getElem?_ofFn] at h4
      split at h4
      · cases h4; exact hg i
      · cases h4
    exact h2 _ (fun j => iI_fitB (hf _)) h1
  · refine va_castA C.exec C.code C.hown (C.hts _ (WA_in (List.mem_append_right _ (List.mem_append_right _ (List.mem_append_left _ (List.mem_of_getElem? (l := tables_1_3) (i := 149) (by decide +kernel))))) rfl)) hP1 ws.length (by rw [List.getElem?_append_right (Nat.le_refl _), Nat.sub_self]; rfl) hnm d2 (K y H1 locs ls hl hK1 hP1 hD1 hS1)
theorem b_get_value (C : CB p l e R s m args below meth c own cc nL E A rt) (ho : own = RJ5) {x : Nat} (i0 : Nat) {v0 v1 v2 v3 : Value} (ha : ws[i0]? = some (x, .inr (5, [v0, v1, v2, v3]))) (d : decode cc pc = .ok (.getfield 15, 3)) (hq : pc + 3 = q) (K : GB p l e R s m args below meth c Q E A nL tb ws k n q L (v0 :: sk)) : GB p l e R s m args below meth c Q E A nL tb ws k n pc L (.ref x :: sk) := by
  subst hq; subst ho; intro H locs ls hl hK hP hD hS
  exact va_get (D := E.1) (cl := gcl) (ci := 5) (v := v0) (C := RJ4) (T := TJ4) (N := 4) C.exec C.code C.hts uw_J4 C.hown C.K.1 hP i0 ha rfl 0 (by decide) (C.hts _ (WA_in (List.mem_append_right _ (List.mem_append_right _ (List.mem_append_left _ (List.mem_of_getElem? (l := tables_1_3) (i := 96) (by decide +kernel))))) rfl)) (fun _ h9 => h9) rfl d (K H locs ls hl hK hP hD hS)
theorem b_put_value (C : CB p l e R s m args below meth c own cc nL E A rt) (ho : own = RJ5) {x : Nat} {z : Nat} (i0 : Nat) {v0 v1 v2 v3 : Value} (ha : ws[i0]? = some (x, .inr (5, [v0, v1, v2, v3]))) (d : decode cc pc = .ok (.putfield 15, 3)) (hq : pc + 3 = q) (hw : ws.set i0 (x, .inr (5, [.ref z, v1, v2, v3])) = ws2) (K : GB p l e R s m args below meth c Q E A nL tb ws2 k n q L sk) : GB p l e R s m args below meth c Q E A nL tb ws k n pc L (.ref z :: .ref x :: sk) := by
  subst hq; subst ho; subst hw; intro H locs ls hl hK hP hD hS
  exact va_put (D := E.1) (cl := gcl) (ci := 5) (v := .ref z) (ty := .array .byte) (C := RJ4) (T := TJ4) (N := 4) C.exec C.code C.hts uw_J4 tyJ4 tyJ4_ok nmJ4 C.hown C.K.1 hP hD hS i0 ha rfl 0 (by decide) (C.hts _ (WA_in (List.mem_append_right _ (List.mem_append_right _ (List.mem_append_left _ (List.mem_of_getElem? (l := tables_1_3) (i := 96) (by decide +kernel))))) rfl)) (fun _ h9 => h9) rfl (by decide +kernel) rfl rfl (Nat.le_of_ble_eq_true rfl) d (fun H1 locs1 hP1 hD1 hS1 => K H1 locs1 ls hl hK hP1 hD1 hS1)
theorem b_get_coder (C : CB p l e R s m args below meth c own cc nL E A rt) (ho : own = RJ5) {x : Nat} (i0 : Nat) {v0 v1 v2 v3 : Value} (ha : ws[i0]? = some (x, .inr (5, [v0, v1, v2, v3]))) (d : decode cc pc = .ok (.getfield 22, 3)) (hq : pc + 3 = q) (K : GB p l e R s m args below meth c Q E A nL tb ws k n q L (v1 :: sk)) : GB p l e R s m args below meth c Q E A nL tb ws k n pc L (.ref x :: sk) := by
  subst hq; subst ho; intro H locs ls hl hK hP hD hS
  exact va_get (D := E.1) (cl := gcl) (ci := 5) (v := v1) (C := RJ4) (T := TJ4) (N := 4) C.exec C.code C.hts uw_J4 C.hown C.K.1 hP i0 ha rfl 1 (by decide) (C.hts _ (WA_in (List.mem_append_right _ (List.mem_append_right _ (List.mem_append_left _ (List.mem_of_getElem? (l := tables_1_3) (i := 97) (by decide +kernel))))) rfl)) (fun _ h9 => h9) rfl d (K H locs ls hl hK hP hD hS)
theorem b_put_coder (C : CB p l e R s m args below meth c own cc nL E A rt) (ho : own = RJ5) {x : Nat}  (i0 : Nat) {v0 v1 v2 v3 : Value} (ha : ws[i0]? = some (x, .inr (5, [v0, v1, v2, v3]))) (d : decode cc pc = .ok (.putfield 22, 3)) (hq : pc + 3 = q) (hw : ws.set i0 (x, .inr (5, [v0, .int (iI 0), v2, v3])) = ws2) (K : GB p l e R s m args below meth c Q E A nL tb ws2 k n q L sk) : GB p l e R s m args below meth c Q E A nL tb ws k n pc L (.int (iI 0) :: .ref x :: sk) := by
  subst hq; subst ho; subst hw; intro H locs ls hl hK hP hD hS
  exact va_put (D := E.1) (cl := gcl) (ci := 5) (v := .int (iI 0)) (ty := .byte) (C := RJ4) (T := TJ4) (N := 4) C.exec C.code C.hts uw_J4 tyJ4 tyJ4_ok nmJ4 C.hown C.K.1 hP hD hS i0 ha rfl 1 (by decide) (C.hts _ (WA_in (List.mem_append_right _ (List.mem_append_right _ (List.mem_append_left _ (List.mem_of_getElem? (l := tables_1_3) (i := 97) (by decide +kernel))))) rfl)) (fun _ h9 => h9) rfl (by decide +kernel) (by decide) (by decide) (Nat.le_of_ble_eq_true rfl) d (fun H1 locs1 hP1 hD1 hS1 => K H1 locs1 ls hl hK hP1 hD1 hS1)
theorem b_get_count (C : CB p l e R s m args below meth c own cc nL E A rt) (ho : own = RJ5) {x : Nat} (i0 : Nat) {v0 v1 v2 v3 : Value} (ha : ws[i0]? = some (x, .inr (5, [v0, v1, v2, v3]))) (d : decode cc pc = .ok (.getfield 79, 3)) (hq : pc + 3 = q) (K : GB p l e R s m args below meth c Q E A nL tb ws k n q L (v3 :: sk)) : GB p l e R s m args below meth c Q E A nL tb ws k n pc L (.ref x :: sk) := by
  subst hq; subst ho; intro H locs ls hl hK hP hD hS
  exact va_get (D := E.1) (cl := gcl) (ci := 5) (v := v3) (C := RJ4) (T := TJ4) (N := 4) C.exec C.code C.hts uw_J4 C.hown C.K.1 hP i0 ha rfl 3 (by decide) (C.hts _ (WA_in (List.mem_append_right _ (List.mem_append_right _ (List.mem_append_left _ (List.mem_of_getElem? (l := tables_1_3) (i := 99) (by decide +kernel))))) rfl)) (fun _ h9 => h9) rfl d (K H locs ls hl hK hP hD hS)
theorem b_put_count (C : CB p l e R s m args below meth c own cc nL E A rt) (ho : own = RJ5) {x : Nat} {z : Int} (i0 : Nat) {v0 v1 v2 v3 : Value} (ha : ws[i0]? = some (x, .inr (5, [v0, v1, v2, v3]))) (d : decode cc pc = .ok (.putfield 79, 3)) (hq : pc + 3 = q) (hw : ws.set i0 (x, .inr (5, [v0, v1, v2, .int (iI z)])) = ws2) (K : GB p l e R s m args below meth c Q E A nL tb ws2 k n q L sk) : GB p l e R s m args below meth c Q E A nL tb ws k n pc L (.int (iI z) :: .ref x :: sk) := by
  subst hq; subst ho; subst hw; intro H locs ls hl hK hP hD hS
  exact va_put (D := E.1) (cl := gcl) (ci := 5) (v := .int (iI z)) (ty := .int) (C := RJ4) (T := TJ4) (N := 4) C.exec C.code C.hts uw_J4 tyJ4 tyJ4_ok nmJ4 C.hown C.K.1 hP hD hS i0 ha rfl 3 (by decide) (C.hts _ (WA_in (List.mem_append_right _ (List.mem_append_right _ (List.mem_append_left _ (List.mem_of_getElem? (l := tables_1_3) (i := 99) (by decide +kernel))))) rfl)) (fun _ h9 => h9) rfl (by decide +kernel) rfl rfl (Nat.le_of_ble_eq_true rfl) d (fun H1 locs1 hP1 hD1 hS1 => K H1 locs1 ls hl hK hP1 hD1 hS1)
theorem b_putF_sval (C : CB p l e R s m args below meth c own cc nL E A rt) (ho : own = RJ0) (hin : meth.name = "<init>") {x : Nat} {z : Nat} (i0 : Nat) {v0 v1 v2 v3 : Value} (ha : ws[i0]? = some (x, .inr (6, [v0, v1, v2, v3]))) (d : decode cc pc = .ok (.putfield 9, 3)) (hq : pc + 3 = q) (hw : ws.set i0 (x, .inr (6, [.ref z, v1, v2, v3])) = ws2) (K : GB p l e R s m args below meth c Q E A nL tb ws2 k n q L sk) : GB p l e R s m args below meth c Q E A nL tb ws k n pc L (.ref z :: .ref x :: sk) := by
  subst hq; subst ho; subst hw; intro H locs ls hl hK hP hD hS
  exact va_putF (D := E.1) (cl := gcl) (ci := 6) (v := .ref z) (ty := .array .byte) (C := RJ0) (T := TJ0) (N := 4) C.exec C.code C.hts uw_J0 tyJ0 tyJ0_ok nmJ0 C.hown C.K.1 hP hD hS i0 ha rfl 0 (by decide) (C.hts _ (WA_in (List.mem_append_right _ (List.mem_append_right _ (List.mem_append_right _ (List.mem_append_left _ (List.mem_of_getElem? (l := tables_1_4) (i := 71) (by decide +kernel)))))) rfl)) (fun _ h9 => h9) rfl hin rfl (by decide +kernel) rfl rfl (Nat.le_of_ble_eq_true rfl) d (fun H1 locs1 hP1 hD1 hS1 => K H1 locs1 ls hl hK hP1 hD1 hS1)
theorem b_putF_scod (C : CB p l e R s m args below meth c own cc nL E A rt) (ho : own = RJ0) (hin : meth.name = "<init>") {x : Nat}  (i0 : Nat) {v0 v1 v2 v3 : Value} (ha : ws[i0]? = some (x, .inr (6, [v0, v1, v2, v3]))) (d : decode cc pc = .ok (.putfield 15, 3)) (hq : pc + 3 = q) (hw : ws.set i0 (x, .inr (6, [v0, .int (iI 0), v2, v3])) = ws2) (K : GB p l e R s m args below meth c Q E A nL tb ws2 k n q L sk) : GB p l e R s m args below meth c Q E A nL tb ws k n pc L (.int (iI 0) :: .ref x :: sk) := by
  subst hq; subst ho; subst hw; intro H locs ls hl hK hP hD hS
  exact va_putF (D := E.1) (cl := gcl) (ci := 6) (v := .int (iI 0)) (ty := .byte) (C := RJ0) (T := TJ0) (N := 4) C.exec C.code C.hts uw_J0 tyJ0 tyJ0_ok nmJ0 C.hown C.K.1 hP hD hS i0 ha rfl 1 (by decide) (C.hts _ (WA_in (List.mem_append_right _ (List.mem_append_right _ (List.mem_append_right _ (List.mem_append_left _ (List.mem_of_getElem? (l := tables_1_4) (i := 72) (by decide +kernel)))))) rfl)) (fun _ h9 => h9) rfl hin rfl (by decide +kernel) (by decide) (by decide) (Nat.le_of_ble_eq_true rfl) d (fun H1 locs1 hP1 hD1 hS1 => K H1 locs1 ls hl hK hP1 hD1 hS1)
theorem b_dval (C : CB p l e R s m args below meth c own cc nL E A rt) (ho : own = "java/lang/String") {qy v ln : Nat} {f : Nat → Int32} (hy : ey E = some (qy, v, ln, f)) (d : decode cc pc = .ok (.getfield 9, 3)) (hq : pc + 3 = q) (K : GB p l e R s m args below meth c Q E A nL tb ws k n q L (.ref v :: sk)) : GB p l e R s m args below meth c Q E A nL tb ws k n pc L (.ref qy :: sk) := by
  subst hq; subst ho; intro H locs ls hl hK hP hD hS
  exact vk_getf C.exec C.code (C.EH.2.2.2.2.2.2.2.2 qy v ln f hy).2.2.1 hS C.hown (C.hts _ flj_9) (fun x h => h) d (K H locs ls hl hK hP hD hS)
theorem b_dcod (C : CB p l e R s m args below meth c own cc nL E A rt) (ho : own = "java/lang/String") {qy v ln : Nat} {f : Nat → Int32} (hy : ey E = some (qy, v, ln, f)) (d : decode cc pc = .ok (.getfield 15, 3)) (hq : pc + 3 = q) (K : GB p l e R s m args below meth c Q E A nL tb ws k n q L (.int (iI 0) :: sk)) : GB p l e R s m args below meth c Q E A nL tb ws k n pc L (.ref qy :: sk) := by
  subst hq; subst ho; intro H locs ls hl hK hP hD hS
  exact vk_getf C.exec C.code (C.EH.2.2.2.2.2.2.2.2 qy v ln f hy).2.1 hS C.hown (C.hts _ flj_15) (fun x h => h) d (K H locs ls hl hK hP hD hS)
theorem b_dlen (C : CB p l e R s m args below meth c own cc nL E A rt) {qy v ln : Nat} {f : Nat → Int32} (hy : ey E = some (qy, v, ln, f)) (d : decode cc pc = .ok (.arraylength, 1)) (hq : pc + 1 = q) (K : GB p l e R s m args below meth c Q E A nL tb ws k n q L (.int (iI ln) :: sk)) : GB p l e R s m args below meth c Q E A nL tb ws k n pc L (.ref v :: sk) := by
  subst hq; intro H locs ls hl hK hP hD hS
  exact va_tlen C.exec C.code (C.EH.2.2.2.2.2.2.2.2 qy v ln f hy).2.2.2 hS (nI_iI _) d (K H locs ls hl hK hP hD hS)
theorem b_obj5 (C : CB p l e R s m args below meth c own cc nL E A rt) (ho : own = RJ5) {x : Nat} (d : decode cc pc = .ok (.invokespecial 3, 3)) (hR : 1 ≤ R.frames ∧ 13 ≤ R.locals) (hq : pc + 3 = q) (hs : sk = []) (K : GB p l e R s m args below meth c Q E A nL tb ws k n q L []) : GB p l e R s m args below meth c Q E A nL tb ws k n pc L (.ref x :: sk) := by
  subst hq; subst ho; subst hs; intro H locs ls hl hK hP hD hS
  exact W.objInit C.exec C.code C.hown (C.hts _ (WA_in (List.mem_append_right _ (List.mem_append_right _ (List.mem_append_left _ (List.mem_of_getElem? (l := tables_1_3) (i := 86) (by decide +kernel))))) rfl)) (C.hts _ (WA_in (List.mem_append_left _ (List.mem_of_getElem? (l := tables_1_1) (i := 33) (by decide +kernel))) rfl)) (C.hts _ (WA_in (List.mem_append_left _ (List.mem_of_getElem? (l := tables_1_1) (i := 34) (by decide +kernel))) rfl)) rfl (by rw [C.ml]; exact hl.1) rfl d (by omega) (by simp; omega) (W.eq (g2 := F0 m (pc + 3) ls []) rfl (K H locs ls hl hK hP hD hS))
theorem b_obj0 (C : CB p l e R s m args below meth c own cc nL E A rt) (ho : own = RJ0) {x : Nat} (d : decode cc pc = .ok (.invokespecial 1, 3)) (hR : 1 ≤ R.frames ∧ 13 ≤ R.locals) (hq : pc + 3 = q) (hs : sk = []) (K : GB p l e R s m args below meth c Q E A nL tb ws k n q L []) : GB p l e R s m args below meth c Q E A nL tb ws k n pc L (.ref x :: sk) := by
  subst hq; subst ho; subst hs; intro H locs ls hl hK hP hD hS
  exact W.objInit C.exec C.code C.hown (C.hts _ (WA_in (List.mem_append_right _ (List.mem_append_right _ (List.mem_append_right _ (List.mem_append_left _ (List.mem_of_getElem? (l := tables_1_4) (i := 26) (by decide +kernel)))))) rfl)) (C.hts _ (WA_in (List.mem_append_left _ (List.mem_of_getElem? (l := tables_1_1) (i := 33) (by decide +kernel))) rfl)) (C.hts _ (WA_in (List.mem_append_left _ (List.mem_of_getElem? (l := tables_1_1) (i := 34) (by decide +kernel))) rfl)) rfl (by rw [C.ml]; exact hl.1) rfl d (by omega) (by simp; omega) (W.eq (g2 := F0 m (pc + 3) ls []) rfl (K H locs ls hl hK hP hD hS))
theorem b_ldci (C : CB p l e R s m args below meth c own cc nL E A rt) {v : Int} {i : Nat} (hc : Cond.constant own i (iI v) ∈ WA) (d : decode cc pc = .ok (.ldc i, 2))  (hq : pc + 2 = q) (K : GB p l e R s m args below meth c Q E A nL tb ws k n q L (.int (iI v) :: sk)) : GB p l e R s m args below meth c Q E A nL tb ws k n pc L (sk) := by
  subst hq; intro H locs ls hl hK hP hD hS
  exact lv_ldc C.exec C.code C.hown (C.hts _ hc) d (K H locs ls hl hK hP hD hS)
theorem b_newS (C : CB p l e R s m args below meth c own cc nL E A rt) (ho : own = "java/lang/StringBuilder") (hR : k + 1 ≤ R.cells ∧ n + 4 ≤ R.slots) (d : decode cc pc = .ok (.new 18, 3)) (hq : pc + 3 = q) (K : ∀ x : Nat, GB p l e R s m args below meth c Q E A nL tb (ws ++ [(x, .inr (6, [.null, .int (iI 0), .int (iI 0), .int (iI 0)]))]) (k + 1) (n + 4) q L (.ref x :: sk)) : GB p l e R s m args below meth c Q E A nL tb ws k n pc L sk := by
  subst hq; subst ho; intro H locs ls hl hK hP hD hS
  exact va_new (ci := 6) (fs := [.null, .int (iI 0), .int (iI 0), .int (iI 0)]) (C := RJ0) (T := TJ0) (N := 4) C.exec C.code C.hts uw_J0 tyJ0 tyJ0_ok C.hown (C.hts _ (WA_in (List.mem_append_right _ (List.mem_append_right _ (List.mem_append_right _ (List.mem_append_left _ (List.mem_of_getElem? (l := tables_1_4) (i := 19) (by decide +kernel)))))) rfl)) (C.hts _ (WA_in (List.mem_append_right _ (List.mem_append_left _ (List.mem_of_getElem? (l := tables_1_2) (i := 19) (by decide +kernel)))) rfl)) (C.hts _ (WA_in (List.mem_append_left _ (List.mem_of_getElem? (l := tables_1_1) (i := 11) (by decide +kernel))) rfl)) hK hP hD hS C.big rfl (fun j hj => by rcases (show j = 0 ∨ j = 1 ∨ j = 2 ∨ j = 3 by omega) with rfl | rfl | rfl | rfl <;> rfl) hR.1 hR.2 d (fun x H1 hP1 hD1 hS1 => K x H1 locs ls hl hK hP1 hD1 hS1)
theorem b_newB (C : CB p l e R s m args below meth c own cc nL E A rt) (ho : own = RL) (hR : k + 1 ≤ R.cells ∧ n + 4 ≤ R.slots) (d : decode cc pc = .ok (.new 241, 3)) (hq : pc + 3 = q) (K : ∀ x : Nat, GB p l e R s m args below meth c Q E A nL tb (ws ++ [(x, .inr (5, [.null, .int (iI 0), .int (iI 0), .int (iI 0)]))]) (k + 1) (n + 4) q L (.ref x :: sk)) : GB p l e R s m args below meth c Q E A nL tb ws k n pc L sk := by
  subst hq; subst ho; intro H locs ls hl hK hP hD hS
  exact va_new (ci := 5) (fs := [.null, .int (iI 0), .int (iI 0), .int (iI 0)]) (C := RJ4) (T := TJ4) (N := 4) C.exec C.code C.hts uw_J4 tyJ4 tyJ4_ok C.hown (C.hts _ (WA_in (List.mem_append_right _ (List.mem_append_right _ (List.mem_append_left _ (List.mem_of_getElem? (l := tables_1_3) (i := 78) (by decide +kernel))))) rfl)) (C.hts _ (WA_in (List.mem_append_right _ (List.mem_append_right _ (List.mem_append_left _ (List.mem_of_getElem? (l := tables_1_3) (i := 79) (by decide +kernel))))) rfl)) (C.hts _ (WA_in (List.mem_append_left _ (List.mem_of_getElem? (l := tables_1_1) (i := 17) (by decide +kernel))) rfl)) hK hP hD hS C.big rfl (fun j hj => by rcases (show j = 0 ∨ j = 1 ∨ j = 2 ∨ j = 3 by omega) with rfl | rfl | rfl | rfl <;> rfl) hR.1 hR.2 d (fun x H1 hP1 hD1 hS1 => K x H1 locs ls hl hK hP1 hD1 hS1)
end BROWS
/-- what a method of the JDK's builders finds at its start -/
def PB (E : EV) (sz : Nat) (wc : va_W) (tb : List (ClassId × FieldType)) (U : State) : Prop := U.heap.size = sz ∧ va_P E.1 gcl wc U.heap ∧ va_D (fun _ => True) wc ∧ va_K E.1 gcl tb U ∧ EK E U ∧ EH E (va_A wc sz) U U.heap
theorem PB_blind {av : List Value} {E : EV} {sz : Nat} {wc : va_W} {tb : List (ClassId × FieldType)} : FrameBlind (va_Pc av (PB E sz wc tb)) := fun a U g mk h => by
  obtain ⟨h0, h1, h2, h3, h4, h5, h6⟩ := h
  exact ⟨h0, h1, h2, h3, va_K.moved (u := U) (U := U.calling g mk a) (Vm.Alike.refl U.vm) h4, EK.same (s := U) (U := U.calling g mk a) rfl h5, EH.moved (u := U) (U := U.calling g mk a) (Vm.Alike.refl U.vm) h6⟩
def Bi (l : Launch) (y : MethodName) (ws : List Cond) (rm : Room) (E : EV) (av : List Value) (wc : va_W) (tb : List (ClassId × FieldType)) (REL : Int32 → va_W → List (ClassId × FieldType) → Prop) (mc ms : Nat) : Prop := ∀ sz : Nat, Met l y ws rm (va_Pc av (PB E sz wc tb)) (va_Qi (fun x (u : va_W × List (ClassId × FieldType)) => REL x u.1 u.2) (fun u t => va_P E.1 gcl u.1 t.heap ∧ va_D (va_A wc sz) u.1 ∧ va_K E.1 gcl u.2 t) (va_A wc sz)) mc ms (va_A wc sz)
def Br (l : Launch) (y : MethodName) (ws : List Cond) (rm : Room) (E : EV) (av : List Value) (wc : va_W) (tb : List (ClassId × FieldType)) (REL : Nat → va_W → List (ClassId × FieldType) → Prop) (mc ms : Nat) : Prop := ∀ sz : Nat, Met l y ws rm (va_Pc av (PB E sz wc tb)) (va_Qr (fun (_ : va_W × List (ClassId × FieldType)) => True) (fun u a9 t => REL a9 u.1 u.2 ∧ va_P E.1 gcl u.1 t.heap ∧ va_D (va_A wc sz) u.1 ∧ va_K E.1 gcl u.2 t) (va_A wc sz)) mc ms (va_A wc sz)
def Bv (l : Launch) (y : MethodName) (ws : List Cond) (rm : Room) (E : EV) (av : List Value) (wc : va_W) (tb : List (ClassId × FieldType)) (REL : va_W → List (ClassId × FieldType) → Prop) (mc ms : Nat) : Prop := ∀ sz : Nat, Met l y ws rm (va_Pc av (PB E sz wc tb)) (va_Qv (fun (u : va_W × List (ClassId × FieldType)) => REL u.1 u.2) (fun u t => va_P E.1 gcl u.1 t.heap ∧ va_D (va_A wc sz) u.1 ∧ va_K E.1 gcl u.2 t) (va_A wc sz)) mc ms (va_A wc sz)
theorem Bi_of {l : Launch} {y : MethodName} {b : ByteArray} {mL mc ms : Nat} {rm : Room} {E : EV} {av : List Value} {wc : va_W} {tb : List (ClassId × FieldType)} {REL : Int32 → va_W → List (ClassId × FieldType) → Prop} (own : String) (hown : y.cls = own) (hy : plainName y.cls = true) (L0 : List (Nat × Value)) (hL : lv_args 0 av = L0) (hsl : (lg_sl av).length ≤ mL)
    (body : ∀ (p : Program) (e : Env) (s : State) (m : MethodId) (args : Array Value) (below : List Frame) (meth : Method) (c : Code) (Q : State → Prop) (A : Nat → Prop), CB p l e rm s m args below meth c own b mL E A (some .int) → meth.name = y.name → (∀ (k n pc : Nat) (L : List (Nat × Value)) (v : Int) (w1 : va_W) (tb1 : List (ClassId × FieldType)), k ≤ mc → n ≤ ms → decode b pc = .ok (.ireturn, 1) → REL (iI v) w1 tb1 → GB p l e rm s m args below meth c Q E A mL tb1 w1 k n pc L [.int (iI v)]) → GB p l e rm s m args below meth c Q E A mL tb wc 0 0 0 L0 []) : Bi l y (cw y b mL (some .int)) rm E av wc tb REL mc ms := by
  intro sz
  refine Met.ofW (cc := b) (maxL := mL) (ret := (some .int)) hy rfl ?_
  intro p e s m args below meth c s₁ B hml hv
  obtain ⟨rfl, hsz, hP, hD, hKb, hK, hE⟩ := hv
  subst hsz; subst hown; subst hL
  have hts0 := atoms_spec (ws := cw y b mL (some .int)) B.pre
  have hts := fun (w : Cond) (h : w ∈ WB) => hts0 w (List.mem_cons_of_mem _ h)
  have C : CB p l e rm s m av.toArray below meth c y.cls b mL E (va_A wc s.heap.size) (some .int) := ⟨B.exec, B.bytes, hml, findClass_of_methodNamed B.named, hts, B.notSynchronized, hK, hE, fun q h => Or.inr h, B.returns⟩
  have hl := lv_entry av (n := mL) hsl
  rw [lg_entry_eq]
  refine body p e s m av.toArray below meth c _ _ C (name_of_methodNamed B.named B.method).1 (fun k n pc L v w1 tb1 hk hn d hr => ?_) s.heap [] _ hl hKb hP hD.self va_S.rf
  intro H locs ls hl hK1 hP1 hD1 hS1
  refine W.widen hk hn ?_
  exact W.iret (v := iI v) C.exec C.code C.ret (fun t ht hW => ⟨⟨iI v, (w1, tb1), rfl, hr, by rw [ht]; exact hP1, hD1, va_K.moved hW.alike hK1⟩, hS1.F ht⟩) hS1.2.2 d C.locks
theorem Bz_of {l : Launch} {y : MethodName} {b : ByteArray} {mL mc ms : Nat} {rm : Room} {E : EV} {av : List Value} {wc : va_W} {tb : List (ClassId × FieldType)} {REL : Int32 → va_W → List (ClassId × FieldType) → Prop} (own : String) (hown : y.cls = own) (hy : plainName y.cls = true) (L0 : List (Nat × Value)) (hL : lv_args 0 av = L0) (hsl : (lg_sl av).length ≤ mL)
    (body : ∀ (p : Program) (e : Env) (s : State) (m : MethodId) (args : Array Value) (below : List Frame) (meth : Method) (c : Code) (Q : State → Prop) (A : Nat → Prop), CB p l e rm s m args below meth c own b mL E A (some .boolean) → meth.name = y.name → (∀ (k n pc : Nat) (L : List (Nat × Value)) (v : Int) (w1 : va_W) (tb1 : List (ClassId × FieldType)), k ≤ mc → n ≤ ms → decode b pc = .ok (.ireturn, 1) → (v = 0 ∨ v = 1) → REL (iI v) w1 tb1 → GB p l e rm s m args below meth c Q E A mL tb1 w1 k n pc L [.int (iI v)]) → GB p l e rm s m args below meth c Q E A mL tb wc 0 0 0 L0 []) : Bi l y (cw y b mL (some .boolean)) rm E av wc tb REL mc ms := by
  intro sz
  refine Met.ofW (cc := b) (maxL := mL) (ret := (some .boolean)) hy rfl ?_
  intro p e s m args below meth c s₁ B hml hv
  obtain ⟨rfl, hsz, hP, hD, hKb, hK, hE⟩ := hv
  subst hsz; subst hown; subst hL
  have hts0 := atoms_spec (ws := cw y b mL (some .boolean)) B.pre
  have hts := fun (w : Cond) (h : w ∈ WB) => hts0 w (List.mem_cons_of_mem _ h)
  have C : CB p l e rm s m av.toArray below meth c y.cls b mL E (va_A wc s.heap.size) (some .boolean) := ⟨B.exec, B.bytes, hml, findClass_of_methodNamed B.named, hts, B.notSynchronized, hK, hE, fun q h => Or.inr h, B.returns⟩
  have hl := lv_entry av (n := mL) hsl
  rw [lg_entry_eq]
  refine body p e s m av.toArray below meth c _ _ C (name_of_methodNamed B.named B.method).1 (fun k n pc L v w1 tb1 hk hn d hz hr => ?_) s.heap [] _ hl hKb hP hD.self va_S.rf
  intro H locs ls hl hK1 hP1 hD1 hS1
  refine W.widen hk hn ?_
  exact W.zret (v := iI v) C.exec C.code C.ret (by rcases hz with rfl | rfl <;> decide) (fun t ht hW => ⟨⟨iI v, (w1, tb1), rfl, hr, by rw [ht]; exact hP1, hD1, va_K.moved hW.alike hK1⟩, hS1.F ht⟩) hS1.2.2 d C.locks
theorem Bb_of {l : Launch} {y : MethodName} {b : ByteArray} {mL mc ms : Nat} {rm : Room} {E : EV} {av : List Value} {wc : va_W} {tb : List (ClassId × FieldType)} {REL : Int32 → va_W → List (ClassId × FieldType) → Prop} (own : String) (hown : y.cls = own) (hy : plainName y.cls = true) (L0 : List (Nat × Value)) (hL : lv_args 0 av = L0) (hsl : (lg_sl av).length ≤ mL)
    (body : ∀ (p : Program) (e : Env) (s : State) (m : MethodId) (args : Array Value) (below : List Frame) (meth : Method) (c : Code) (Q : State → Prop) (A : Nat → Prop), CB p l e rm s m args below meth c own b mL E A (some .byte) → meth.name = y.name → (∀ (k n pc : Nat) (L : List (Nat × Value)) (v : Int) (w1 : va_W) (tb1 : List (ClassId × FieldType)), k ≤ mc → n ≤ ms → decode b pc = .ok (.ireturn, 1) → (v = 0 ∨ v = 1) → REL (iI v) w1 tb1 → GB p l e rm s m args below meth c Q E A mL tb1 w1 k n pc L [.int (iI v)]) → GB p l e rm s m args below meth c Q E A mL tb wc 0 0 0 L0 []) : Bi l y (cw y b mL (some .byte)) rm E av wc tb REL mc ms := by
  intro sz
  refine Met.ofW (cc := b) (maxL := mL) (ret := (some .byte)) hy rfl ?_
  intro p e s m args below meth c s₁ B hml hv
  obtain ⟨rfl, hsz, hP, hD, hKb, hK, hE⟩ := hv
  subst hsz; subst hown; subst hL
  have hts0 := atoms_spec (ws := cw y b mL (some .byte)) B.pre
  have hts := fun (w : Cond) (h : w ∈ WB) => hts0 w (List.mem_cons_of_mem _ h)
  have C : CB p l e rm s m av.toArray below meth c y.cls b mL E (va_A wc s.heap.size) (some .byte) := ⟨B.exec, B.bytes, hml, findClass_of_methodNamed B.named, hts, B.notSynchronized, hK, hE, fun q h => Or.inr h, B.returns⟩
  have hl := lv_entry av (n := mL) hsl
  rw [lg_entry_eq]
  refine body p e s m av.toArray below meth c _ _ C (name_of_methodNamed B.named B.method).1 (fun k n pc L v w1 tb1 hk hn d hz hr => ?_) s.heap [] _ hl hKb hP hD.self va_S.rf
  intro H locs ls hl hK1 hP1 hD1 hS1
  refine W.widen hk hn ?_
  exact W.zret (v := iI v) C.exec C.code C.ret (by rcases hz with rfl | rfl <;> decide) (fun t ht hW => ⟨⟨iI v, (w1, tb1), rfl, hr, by rw [ht]; exact hP1, hD1, va_K.moved hW.alike hK1⟩, hS1.F ht⟩) hS1.2.2 d C.locks
theorem Bv_of {l : Launch} {y : MethodName} {b : ByteArray} {mL mc ms : Nat} {rm : Room} {E : EV} {av : List Value} {wc : va_W} {tb : List (ClassId × FieldType)} {REL : va_W → List (ClassId × FieldType) → Prop} (own : String) (hown : y.cls = own) (hy : plainName y.cls = true) (L0 : List (Nat × Value)) (hL : lv_args 0 av = L0) (hsl : (lg_sl av).length ≤ mL)
    (body : ∀ (p : Program) (e : Env) (s : State) (m : MethodId) (args : Array Value) (below : List Frame) (meth : Method) (c : Code) (Q : State → Prop) (A : Nat → Prop), CB p l e rm s m args below meth c own b mL E A none → meth.name = y.name → (∀ (k n pc : Nat) (L : List (Nat × Value)) (w1 : va_W) (tb1 : List (ClassId × FieldType)), k ≤ mc → n ≤ ms → decode b pc = .ok (.return_, 1) → REL w1 tb1 → GB p l e rm s m args below meth c Q E A mL tb1 w1 k n pc L []) → GB p l e rm s m args below meth c Q E A mL tb wc 0 0 0 L0 []) : Bv l y (cw y b mL none) rm E av wc tb REL mc ms := by
  intro sz
  refine Met.ofW (cc := b) (maxL := mL) (ret := none) hy rfl ?_
  intro p e s m args below meth c s₁ B hml hv
  obtain ⟨rfl, hsz, hP, hD, hKb, hK, hE⟩ := hv
  subst hsz; subst hown; subst hL
  have hts0 := atoms_spec (ws := cw y b mL none) B.pre
  have hts := fun (w : Cond) (h : w ∈ WB) => hts0 w (List.mem_cons_of_mem _ h)
  have C : CB p l e rm s m av.toArray below meth c y.cls b mL E (va_A wc s.heap.size) none := ⟨B.exec, B.bytes, hml, findClass_of_methodNamed B.named, hts, B.notSynchronized, hK, hE, fun q h => Or.inr h, B.returns⟩
  have hl := lv_entry av (n := mL) hsl
  rw [lg_entry_eq]
  refine body p e s m av.toArray below meth c _ _ C (name_of_methodNamed B.named B.method).1 (fun k n pc L w1 tb1 hk hn d hr => ?_) s.heap [] _ hl hKb hP hD.self va_S.rf
  intro H locs ls hl hK1 hP1 hD1 hS1
  refine W.widen hk hn ?_
  exact W.vret C.exec C.code C.ret (fun t ht hW => ⟨⟨(w1, tb1), rfl, hr, by rw [ht]; exact hP1, hD1, va_K.moved hW.alike hK1⟩, hS1.F ht⟩) hS1.2.2 d
theorem Br_of {l : Launch} {y : MethodName} {b : ByteArray} {mL mc ms : Nat} {rm : Room} {E : EV} {av : List Value} {wc : va_W} {tb : List (ClassId × FieldType)} {REL : Nat → va_W → List (ClassId × FieldType) → Prop} {rty : FieldType} (hrk : (∃ n, rty = .object n) ∨ ∃ t, rty = .array t) (own : String) (hown : y.cls = own) (hy : plainName y.cls = true) (L0 : List (Nat × Value)) (hL : lv_args 0 av = L0) (hsl : (lg_sl av).length ≤ mL)
    (body : ∀ (p : Program) (e : Env) (s : State) (m : MethodId) (args : Array Value) (below : List Frame) (meth : Method) (c : Code) (Q : State → Prop) (A : Nat → Prop), CB p l e rm s m args below meth c own b mL E A (some rty) → meth.name = y.name → (∀ (k n pc : Nat) (L : List (Nat × Value)) (v : Nat) (w1 : va_W) (tb1 : List (ClassId × FieldType)), k ≤ mc → n ≤ ms → decode b pc = .ok (.areturn, 1) → REL v w1 tb1 → GB p l e rm s m args below meth c Q E A mL tb1 w1 k n pc L [.ref v]) → GB p l e rm s m args below meth c Q E A mL tb wc 0 0 0 L0 []) : Br l y (cw y b mL (some rty)) rm E av wc tb REL mc ms := by
  intro sz
  refine Met.ofW (cc := b) (maxL := mL) (ret := (some rty)) hy rfl ?_
  intro p e s m args below meth c s₁ B hml hv
  obtain ⟨rfl, hsz, hP, hD, hKb, hK, hE⟩ := hv
  subst hsz; subst hown; subst hL
  have hts0 := atoms_spec (ws := cw y b mL (some rty)) B.pre
  have hts := fun (w : Cond) (h : w ∈ WB) => hts0 w (List.mem_cons_of_mem _ h)
  have C : CB p l e rm s m av.toArray below meth c y.cls b mL E (va_A wc s.heap.size) (some rty) := ⟨B.exec, B.bytes, hml, findClass_of_methodNamed B.named, hts, B.notSynchronized, hK, hE, fun q h => Or.inr h, B.returns⟩
  have hl := lv_entry av (n := mL) hsl
  rw [lg_entry_eq]
  refine body p e s m av.toArray below meth c _ _ C (name_of_methodNamed B.named B.method).1 (fun k n pc L v w1 tb1 hk hn d hr => ?_) s.heap [] _ hl hKb hP hD.self va_S.rf
  intro H locs ls hl hK1 hP1 hD1 hS1
  refine W.widen hk hn ?_
  exact W.aret (v := .ref v) C.exec C.code C.ret hrk (Or.inr ⟨v, rfl⟩) (fun t ht hW => ⟨⟨(w1, tb1), v, rfl, trivial, hr, by rw [ht]; exact hP1, hD1, va_K.moved hW.alike hK1⟩, hS1.F ht⟩) hS1.2.2 d C.locks
section BCALLS
variable {p : Program} {l : Launch} {e : Env} {R : Room} {s : State} {m : MethodId} {args : Array Value} {below : List Frame} {meth : Method} {c : Code} {own : String} {cc : ByteArray} {nL : Nat} {E : EV} {A : Nat → Prop} {Q : State → Prop} {rt : Option FieldType}
variable {tb tbc : List (ClassId × FieldType)} {ws wc wr : va_W} {k n pc q mc ms : Nat} {L L' : List (Nat × Value)} {sk sk0 : List Value} {y : MethodName} {b : ByteArray} {mL nA idx : Nat} {ret : Option FieldType} {rm : Room} {As : List Value} {x : Nat}
theorem b_cS_i (C : CB p l e R s m args below meth c own cc nL E A rt) {REL : Int32 → va_W → List (ClassId × FieldType) → Prop} (hM : Bi l y (cw y b mL ret) rm E (As) wc tbc REL mc ms) (hl : Cond.methodLink own idx y ∈ WA) (hy : mfS y b mL ret nA) (hn : As.length = nA) (hR : rm.frames + 1 ≤ R.frames ∧ 8 + (mL + 11) + rm.locals ≤ R.locals) (hrc : rm.cells = mc) (hrs : rm.slots = ms) (hst : sk0 = As.reverse ++ sk) (hcat : (sk.map fun v => v.category).sum ≤ 8) (hkn : k + mc ≤ R.cells ∧ n + ms ≤ R.slots) (d : decode cc pc = .ok (.invokestatic idx, 3)) (hq : pc + 3 = q) (isC isR isT : List Nat) (hC9 : isC.map (fun i => ws[i]?) = wc.map some) (hR9 : isR.map (fun i => ws[i]?) = wr.map some) (hnC : va_nd isC = true) (hnR : va_nd isR = true) (hdis : ∀ i ∈ isR, i ∉ isC) (hT9 : isT.filterMap (fun i => tb[i]?) = tbc) (K : ∀ (r1 : Int32) (w1 : va_W) (tb1 : List (ClassId × FieldType)), REL r1 w1 tb1 → GB p l e R s m args below meth c Q E A nL (tb ++ tb1) (wr ++ w1) (k + mc) (n + ms) q L (.int r1 :: sk)) : GB p l e R s m args below meth c Q E A nL tb ws k n pc L sk0 := by
  subst hq; subst hst; intro H locs ls hl2 hK hP hD hS
  have hPc : va_P E.1 gcl wc H := hP.sub isC (fm_of hC9)
  have hDc := hD.sub isC hnC hC9
  have hKc := hK.sub isT hT9
  have hFc := va_free hD hS C.big isC hC9
  refine va_calli (va_runS (As := As) (rest := sk) C.fix (hM H.size) (va_cwS nA C.hts (hy.gSo hl) rfl hrc hrs hy.2.2.2 hR) ⟨PB_blind, fun U hU hW => ⟨rfl, by rw [hU], by rw [hU]; exact hPc, ⟨hDc.1, fun _ _ _ => trivial⟩, va_K.moved hW.alike hKc, EK.warm hW C.K, by rw [hU]; exact EH.moved hW.alike ((C.EH.kept hS.2.1).narrow hFc)⟩⟩ rfl hn hl2.1 rfl (lv_room hcat) d hkn) hS (fun q _ h => hFc q h) hFc (fun r2 u t H1 locs1 ht hvm hw hB hz hk hS1 => ?_)
  obtain ⟨hB1, hB2, hB3⟩ := hB
  rw [ht] at hB1
  obtain ⟨hP9, hD9⟩ := va_join hP hD isC isR hC9 hR9 hnR hdis hk hFc hB1 hB2
  exact K r2 u.1 u.2 hw H1 locs1 ls hl2 (hK.app (va_K.moved hvm.symm hB3)) hP9 hD9 hS1
theorem b_cS_r (C : CB p l e R s m args below meth c own cc nL E A rt) {REL : Nat → va_W → List (ClassId × FieldType) → Prop} (hM : Br l y (cw y b mL ret) rm E (As) wc tbc REL mc ms) (hl : Cond.methodLink own idx y ∈ WA) (hy : mfS y b mL ret nA) (hn : As.length = nA) (hR : rm.frames + 1 ≤ R.frames ∧ 8 + (mL + 11) + rm.locals ≤ R.locals) (hrc : rm.cells = mc) (hrs : rm.slots = ms) (hst : sk0 = As.reverse ++ sk) (hcat : (sk.map fun v => v.category).sum ≤ 8) (hkn : k + mc ≤ R.cells ∧ n + ms ≤ R.slots) (d : decode cc pc = .ok (.invokestatic idx, 3)) (hq : pc + 3 = q) (isC isR isT : List Nat) (hC9 : isC.map (fun i => ws[i]?) = wc.map some) (hR9 : isR.map (fun i => ws[i]?) = wr.map some) (hnC : va_nd isC = true) (hnR : va_nd isR = true) (hdis : ∀ i ∈ isR, i ∉ isC) (hT9 : isT.filterMap (fun i => tb[i]?) = tbc) (K : ∀ (r1 : Nat) (w1 : va_W) (tb1 : List (ClassId × FieldType)), REL r1 w1 tb1 → GB p l e R s m args below meth c Q E A nL (tb ++ tb1) (wr ++ w1) (k + mc) (n + ms) q L (.ref r1 :: sk)) : GB p l e R s m args below meth c Q E A nL tb ws k n pc L sk0 := by
  subst hq; subst hst; intro H locs ls hl2 hK hP hD hS
  have hPc : va_P E.1 gcl wc H := hP.sub isC (fm_of hC9)
  have hDc := hD.sub isC hnC hC9
  have hKc := hK.sub isT hT9
  have hFc := va_free hD hS C.big isC hC9
  refine va_callr (va_runS (As := As) (rest := sk) C.fix (hM H.size) (va_cwS nA C.hts (hy.gSo hl) rfl hrc hrs hy.2.2.2 hR) ⟨PB_blind, fun U hU hW => ⟨rfl, by rw [hU], by rw [hU]; exact hPc, ⟨hDc.1, fun _ _ _ => trivial⟩, va_K.moved hW.alike hKc, EK.warm hW C.K, by rw [hU]; exact EH.moved hW.alike ((C.EH.kept hS.2.1).narrow hFc)⟩⟩ rfl hn hl2.1 rfl (lv_room hcat) d hkn) hS (fun q _ h => hFc q h) hFc (fun u ra t H1 locs1 ht hvm hw hB hz hk hS1 => ?_)
  obtain ⟨hB0, hB1, hB2, hB3⟩ := hB
  rw [ht] at hB1
  obtain ⟨hP9, hD9⟩ := va_join hP hD isC isR hC9 hR9 hnR hdis hk hFc hB1 hB2
  exact K ra u.1 u.2 hB0 H1 locs1 ls hl2 (hK.app (va_K.moved hvm.symm hB3)) hP9 hD9 hS1
theorem b_cS_v (C : CB p l e R s m args below meth c own cc nL E A rt) {REL : va_W → List (ClassId × FieldType) → Prop} (hM : Bv l y (cw y b mL ret) rm E (As) wc tbc REL mc ms) (hl : Cond.methodLink own idx y ∈ WA) (hy : mfS y b mL ret nA) (hn : As.length = nA) (hR : rm.frames + 1 ≤ R.frames ∧ 8 + (mL + 11) + rm.locals ≤ R.locals) (hrc : rm.cells = mc) (hrs : rm.slots = ms) (hst : sk0 = As.reverse ++ sk) (hcat : (sk.map fun v => v.category).sum ≤ 8) (hkn : k + mc ≤ R.cells ∧ n + ms ≤ R.slots) (d : decode cc pc = .ok (.invokestatic idx, 3)) (hq : pc + 3 = q) (isC isR isT : List Nat) (hC9 : isC.map (fun i => ws[i]?) = wc.map some) (hR9 : isR.map (fun i => ws[i]?) = wr.map some) (hnC : va_nd isC = true) (hnR : va_nd isR = true) (hdis : ∀ i ∈ isR, i ∉ isC) (hT9 : isT.filterMap (fun i => tb[i]?) = tbc) (K : ∀ (w1 : va_W) (tb1 : List (ClassId × FieldType)), REL w1 tb1 → GB p l e R s m args below meth c Q E A nL (tb ++ tb1) (wr ++ w1) (k + mc) (n + ms) q L (sk)) : GB p l e R s m args below meth c Q E A nL tb ws k n pc L sk0 := by
  subst hq; subst hst; intro H locs ls hl2 hK hP hD hS
  have hPc : va_P E.1 gcl wc H := hP.sub isC (fm_of hC9)
  have hDc := hD.sub isC hnC hC9
  have hKc := hK.sub isT hT9
  have hFc := va_free hD hS C.big isC hC9
  refine va_callv (va_runS (As := As) (rest := sk) C.fix (hM H.size) (va_cwS nA C.hts (hy.gSo hl) rfl hrc hrs hy.2.2.2 hR) ⟨PB_blind, fun U hU hW => ⟨rfl, by rw [hU], by rw [hU]; exact hPc, ⟨hDc.1, fun _ _ _ => trivial⟩, va_K.moved hW.alike hKc, EK.warm hW C.K, by rw [hU]; exact EH.moved hW.alike ((C.EH.kept hS.2.1).narrow hFc)⟩⟩ rfl hn hl2.1 rfl (lv_room hcat) d hkn) hS (fun q _ h => hFc q h) hFc (fun u t H1 locs1 ht hvm hw hB hz hk hS1 => ?_)
  obtain ⟨hB1, hB2, hB3⟩ := hB
  rw [ht] at hB1
  obtain ⟨hP9, hD9⟩ := va_join hP hD isC isR hC9 hR9 hnR hdis hk hFc hB1 hB2
  exact K u.1 u.2 hw H1 locs1 ls hl2 (hK.app (va_K.moved hvm.symm hB3)) hP9 hD9 hS1
theorem b_cV_i (C : CB p l e R s m args below meth c own cc nL E A rt) {REL : Int32 → va_W → List (ClassId × FieldType) → Prop} (hM : Bi l y (cw y b mL ret) rm E (.ref x :: As) wc tbc REL mc ms) (i0 ci : Nat) {vc : vw_C} {fs : List Value} (hl : Cond.methodLink own idx y ∈ WA) (hy : mfV y b mL ret nA) (ho : ws[i0]? = some (x, .inr (ci, fs))) (hc : gcl[ci]? = some vc) (hv : vc.1 = y.cls) (hn : As.length = nA) (hR : rm.frames + 1 ≤ R.frames ∧ 8 + (mL + 11) + rm.locals ≤ R.locals) (hrc : rm.cells = mc) (hrs : rm.slots = ms) (hst : sk0 = As.reverse ++ .ref x :: sk) (hcat : (sk.map fun v => v.category).sum ≤ 8) (hkn : k + mc ≤ R.cells ∧ n + ms ≤ R.slots) (d : decode cc pc = .ok (.invokevirtual idx, 3)) (hq : pc + 3 = q) (isC isR isT : List Nat) (hC9 : isC.map (fun i => ws[i]?) = wc.map some) (hR9 : isR.map (fun i => ws[i]?) = wr.map some) (hnC : va_nd isC = true) (hnR : va_nd isR = true) (hdis : ∀ i ∈ isR, i ∉ isC) (hT9 : isT.filterMap (fun i => tb[i]?) = tbc) (K : ∀ (r1 : Int32) (w1 : va_W) (tb1 : List (ClassId × FieldType)), REL r1 w1 tb1 → GB p l e R s m args below meth c Q E A nL (tb ++ tb1) (wr ++ w1) (k + mc) (n + ms) q L (.int r1 :: sk)) : GB p l e R s m args below meth c Q E A nL tb ws k n pc L sk0 := by
  subst hq; subst hst; intro H locs ls hl2 hK hP hD hS
  have hPc : va_P E.1 gcl wc H := hP.sub isC (fm_of hC9)
  have hDc := hD.sub isC hnC hC9
  have hKc := hK.sub isT hT9
  have hFc := va_free hD hS C.big isC hC9
  refine va_calli (va_runV (As := As) (rest := sk) C.fix (hM H.size) (cwV nA C.hts (hy.gV hl) rfl hrc hrs ⟨rfl, hy.2.2.2.2⟩ hR) ⟨PB_blind, by rw [← hv]; exact va_recv C.K.1 hP (ci := ci) (q0 := i0) hc ho, fun U hU hW => ⟨rfl, by rw [hU], by rw [hU]; exact hPc, ⟨hDc.1, fun _ _ _ => trivial⟩, va_K.moved hW.alike hKc, EK.warm hW C.K, by rw [hU]; exact EH.moved hW.alike ((C.EH.kept hS.2.1).narrow hFc)⟩⟩ rfl hn hl2.1 rfl (lv_room hcat) d hkn) hS (fun q _ h => hFc q h) hFc (fun r2 u t H1 locs1 ht hvm hw hB hz hk hS1 => ?_)
  obtain ⟨hB1, hB2, hB3⟩ := hB
  rw [ht] at hB1
  obtain ⟨hP9, hD9⟩ := va_join hP hD isC isR hC9 hR9 hnR hdis hk hFc hB1 hB2
  exact K r2 u.1 u.2 hw H1 locs1 ls hl2 (hK.app (va_K.moved hvm.symm hB3)) hP9 hD9 hS1
theorem b_cV_r (C : CB p l e R s m args below meth c own cc nL E A rt) {REL : Nat → va_W → List (ClassId × FieldType) → Prop} (hM : Br l y (cw y b mL ret) rm E (.ref x :: As) wc tbc REL mc ms) (i0 ci : Nat) {vc : vw_C} {fs : List Value} (hl : Cond.methodLink own idx y ∈ WA) (hy : mfV y b mL ret nA) (ho : ws[i0]? = some (x, .inr (ci, fs))) (hc : gcl[ci]? = some vc) (hv : vc.1 = y.cls) (hn : As.length = nA) (hR : rm.frames + 1 ≤ R.frames ∧ 8 + (mL + 11) + rm.locals ≤ R.locals) (hrc : rm.cells = mc) (hrs : rm.slots = ms) (hst : sk0 = As.reverse ++ .ref x :: sk) (hcat : (sk.map fun v => v.category).sum ≤ 8) (hkn : k + mc ≤ R.cells ∧ n + ms ≤ R.slots) (d : decode cc pc = .ok (.invokevirtual idx, 3)) (hq : pc + 3 = q) (isC isR isT : List Nat) (hC9 : isC.map (fun i => ws[i]?) = wc.map some) (hR9 : isR.map (fun i => ws[i]?) = wr.map some) (hnC : va_nd isC = true) (hnR : va_nd isR = true) (hdis : ∀ i ∈ isR, i ∉ isC) (hT9 : isT.filterMap (fun i => tb[i]?) = tbc) (K : ∀ (r1 : Nat) (w1 : va_W) (tb1 : List (ClassId × FieldType)), REL r1 w1 tb1 → GB p l e R s m args below meth c Q E A nL (tb ++ tb1) (wr ++ w1) (k + mc) (n + ms) q L (.ref r1 :: sk)) : GB p l e R s m args below meth c Q E A nL tb ws k n pc L sk0 := by
  subst hq; subst hst; intro H locs ls hl2 hK hP hD hS
  have hPc : va_P E.1 gcl wc H := hP.sub isC (fm_of hC9)
  have hDc := hD.sub isC hnC hC9
  have hKc := hK.sub isT hT9
  have hFc := va_free hD hS C.big isC hC9
  refine va_callr (va_runV (As := As) (rest := sk) C.fix (hM H.size) (cwV nA C.hts (hy.gV hl) rfl hrc hrs ⟨rfl, hy.2.2.2.2⟩ hR) ⟨PB_blind, by rw [← hv]; exact va_recv C.K.1 hP (ci := ci) (q0 := i0) hc ho, fun U hU hW => ⟨rfl, by rw [hU], by rw [hU]; exact hPc, ⟨hDc.1, fun _ _ _ => trivial⟩, va_K.moved hW.alike hKc, EK.warm hW C.K, by rw [hU]; exact EH.moved hW.alike ((C.EH.kept hS.2.1).narrow hFc)⟩⟩ rfl hn hl2.1 rfl (lv_room hcat) d hkn) hS (fun q _ h => hFc q h) hFc (fun u ra t H1 locs1 ht hvm hw hB hz hk hS1 => ?_)
  obtain ⟨hB0, hB1, hB2, hB3⟩ := hB
  rw [ht] at hB1
  obtain ⟨hP9, hD9⟩ := va_join hP hD isC isR hC9 hR9 hnR hdis hk hFc hB1 hB2
  exact K ra u.1 u.2 hB0 H1 locs1 ls hl2 (hK.app (va_K.moved hvm.symm hB3)) hP9 hD9 hS1
theorem b_cD_i (C : CB p l e R s m args below meth c own cc nL E A rt) {REL : Int32 → va_W → List (ClassId × FieldType) → Prop} (hM : Bi l y (cw y b mL ret) rm E (.ref x :: As) wc tbc REL mc ms) {ln9 v9 : Nat} {f9 : Nat → Int32} (hy9 : ey E = some (x, v9, ln9, f9)) (hl : Cond.methodLink own idx y ∈ WA) (hy : mfV y b mL ret nA) (hv : y.cls = "java/lang/String") (hn : As.length = nA) (hR : rm.frames + 1 ≤ R.frames ∧ 8 + (mL + 11) + rm.locals ≤ R.locals) (hrc : rm.cells = mc) (hrs : rm.slots = ms) (hst : sk0 = As.reverse ++ .ref x :: sk) (hcat : (sk.map fun v => v.category).sum ≤ 8) (hkn : k + mc ≤ R.cells ∧ n + ms ≤ R.slots) (d : decode cc pc = .ok (.invokevirtual idx, 3)) (hq : pc + 3 = q) (isC isR isT : List Nat) (hC9 : isC.map (fun i => ws[i]?) = wc.map some) (hR9 : isR.map (fun i => ws[i]?) = wr.map some) (hnC : va_nd isC = true) (hnR : va_nd isR = true) (hdis : ∀ i ∈ isR, i ∉ isC) (hT9 : isT.filterMap (fun i => tb[i]?) = tbc) (K : ∀ (r1 : Int32) (w1 : va_W) (tb1 : List (ClassId × FieldType)), REL r1 w1 tb1 → GB p l e R s m args below meth c Q E A nL (tb ++ tb1) (wr ++ w1) (k + mc) (n + ms) q L (.int r1 :: sk)) : GB p l e R s m args below meth c Q E A nL tb ws k n pc L sk0 := by
  subst hq; subst hst; intro H locs ls hl2 hK hP hD hS
  have hPc : va_P E.1 gcl wc H := hP.sub isC (fm_of hC9)
  have hDc := hD.sub isC hnC hC9
  have hKc := hK.sub isT hT9
  have hFc := va_free hD hS C.big isC hC9
  refine va_calli (va_runV (As := As) (rest := sk) C.fix (hM H.size) (cwV nA C.hts (hy.gV hl) rfl hrc hrs ⟨rfl, hy.2.2.2.2⟩ hR) ⟨PB_blind, by rw [hv]; exact (by obtain ⟨cell, h1, h2, h3, -⟩ := (C.EH.2.2.2.2.2.2.2.2 x v9 ln9 f9 hy9).1.kept hS.2.1; exact ⟨cell, h1, h2, h3⟩), fun U hU hW => ⟨rfl, by rw [hU], by rw [hU]; exact hPc, ⟨hDc.1, fun _ _ _ => trivial⟩, va_K.moved hW.alike hKc, EK.warm hW C.K, by rw [hU]; exact EH.moved hW.alike ((C.EH.kept hS.2.1).narrow hFc)⟩⟩ rfl hn hl2.1 rfl (lv_room hcat) d hkn) hS (fun q _ h => hFc q h) hFc (fun r2 u t H1 locs1 ht hvm hw hB hz hk hS1 => ?_)
  obtain ⟨hB1, hB2, hB3⟩ := hB
  rw [ht] at hB1
  obtain ⟨hP9, hD9⟩ := va_join hP hD isC isR hC9 hR9 hnR hdis hk hFc hB1 hB2
  exact K r2 u.1 u.2 hw H1 locs1 ls hl2 (hK.app (va_K.moved hvm.symm hB3)) hP9 hD9 hS1
theorem b_cD_v (C : CB p l e R s m args below meth c own cc nL E A rt) {REL : va_W → List (ClassId × FieldType) → Prop} (hM : Bv l y (cw y b mL ret) rm E (.ref x :: As) wc tbc REL mc ms) {ln9 v9 : Nat} {f9 : Nat → Int32} (hy9 : ey E = some (x, v9, ln9, f9)) (hl : Cond.methodLink own idx y ∈ WA) (hy : mfV y b mL ret nA) (hv : y.cls = "java/lang/String") (hn : As.length = nA) (hR : rm.frames + 1 ≤ R.frames ∧ 8 + (mL + 11) + rm.locals ≤ R.locals) (hrc : rm.cells = mc) (hrs : rm.slots = ms) (hst : sk0 = As.reverse ++ .ref x :: sk) (hcat : (sk.map fun v => v.category).sum ≤ 8) (hkn : k + mc ≤ R.cells ∧ n + ms ≤ R.slots) (d : decode cc pc = .ok (.invokevirtual idx, 3)) (hq : pc + 3 = q) (isC isR isT : List Nat) (hC9 : isC.map (fun i => ws[i]?) = wc.map some) (hR9 : isR.map (fun i => ws[i]?) = wr.map some) (hnC : va_nd isC = true) (hnR : va_nd isR = true) (hdis : ∀ i ∈ isR, i ∉ isC) (hT9 : isT.filterMap (fun i => tb[i]?) = tbc) (K : ∀ (w1 : va_W) (tb1 : List (ClassId × FieldType)), REL w1 tb1 → GB p l e R s m args below meth c Q E A nL (tb ++ tb1) (wr ++ w1) (k + mc) (n + ms) q L (sk)) : GB p l e R s m args below meth c Q E A nL tb ws k n pc L sk0 := by
  subst hq; subst hst; intro H locs ls hl2 hK hP hD hS
  have hPc : va_P E.1 gcl wc H := hP.sub isC (fm_of hC9)
  have hDc := hD.sub isC hnC hC9
  have hKc := hK.sub isT hT9
  have hFc := va_free hD hS C.big isC hC9
  refine va_callv (va_runV (As := As) (rest := sk) C.fix (hM H.size) (cwV nA C.hts (hy.gV hl) rfl hrc hrs ⟨rfl, hy.2.2.2.2⟩ hR) ⟨PB_blind, by rw [hv]; exact (by obtain ⟨cell, h1, h2, h3, -⟩ := (C.EH.2.2.2.2.2.2.2.2 x v9 ln9 f9 hy9).1.kept hS.2.1; exact ⟨cell, h1, h2, h3⟩), fun U hU hW => ⟨rfl, by rw [hU], by rw [hU]; exact hPc, ⟨hDc.1, fun _ _ _ => trivial⟩, va_K.moved hW.alike hKc, EK.warm hW C.K, by rw [hU]; exact EH.moved hW.alike ((C.EH.kept hS.2.1).narrow hFc)⟩⟩ rfl hn hl2.1 rfl (lv_room hcat) d hkn) hS (fun q _ h => hFc q h) hFc (fun u t H1 locs1 ht hvm hw hB hz hk hS1 => ?_)
  obtain ⟨hB1, hB2, hB3⟩ := hB
  rw [ht] at hB1
  obtain ⟨hP9, hD9⟩ := va_join hP hD isC isR hC9 hR9 hnR hdis hk hFc hB1 hB2
  exact K u.1 u.2 hw H1 locs1 ls hl2 (hK.app (va_K.moved hvm.symm hB3)) hP9 hD9 hS1
theorem b_cU_i (C : CB p l e R s m args below meth c own cc nL E A rt) {REL : Int32 → va_W → List (ClassId × FieldType) → Prop} (hM : Bi l y (cw y b mL ret) rm E (.ref x :: As) wc tbc REL mc ms) {z : MethodName} (i0 : Nat) {fs : List Value} (hG : GoodIn WB (va_wsU own idx RJ4 RJ5 z y (cw y b mL ret))) (hyx : y = ⟨RJ5, z.name, z.desc⟩) (hd9 : (parseMethodDescriptor z.desc).map (fun d => d.parameters.length) = some nA) (ho : ws[i0]? = some (x, .inr (5, fs))) (hn : As.length = nA) (hR : rm.frames + 1 ≤ R.frames ∧ 8 + (mL + 11) + rm.locals ≤ R.locals) (hrc : rm.cells = mc) (hrs : rm.slots = ms) (hst : sk0 = As.reverse ++ .ref x :: sk) (hcat : (sk.map fun v => v.category).sum ≤ 8) (hkn : k + mc ≤ R.cells ∧ n + ms ≤ R.slots) (d : decode cc pc = .ok (.invokevirtual idx, 3)) (hq : pc + 3 = q) (isC isR isT : List Nat) (hC9 : isC.map (fun i => ws[i]?) = wc.map some) (hR9 : isR.map (fun i => ws[i]?) = wr.map some) (hnC : va_nd isC = true) (hnR : va_nd isR = true) (hdis : ∀ i ∈ isR, i ∉ isC) (hT9 : isT.filterMap (fun i => tb[i]?) = tbc) (K : ∀ (r1 : Int32) (w1 : va_W) (tb1 : List (ClassId × FieldType)), REL r1 w1 tb1 → GB p l e R s m args below meth c Q E A nL (tb ++ tb1) (wr ++ w1) (k + mc) (n + ms) q L (.int r1 :: sk)) : GB p l e R s m args below meth c Q E A nL tb ws k n pc L sk0 := by
  subst hq; subst hst; intro H locs ls hl2 hK hP hD hS
  have hPc : va_P E.1 gcl wc H := hP.sub isC (fm_of hC9)
  have hDc := hD.sub isC hnC hC9
  have hKc := hK.sub isT hT9
  have hFc := va_free hD hS C.big isC hC9
  refine va_calli (va_runU (As := As) (rest := sk) C.fixb (hM H.size) (va_cwU nA C.htb hG rfl hrc hrs hyx ⟨by decide +kernel, by decide +kernel, hd9⟩ hR) ⟨PB_blind, va_recv C.K.1 hP (ci := 5) (q0 := i0) rfl ho, fun U hU hW => ⟨rfl, by rw [hU], by rw [hU]; exact hPc, ⟨hDc.1, fun _ _ _ => trivial⟩, va_K.moved hW.alike hKc, EK.warm hW C.K, by rw [hU]; exact EH.moved hW.alike ((C.EH.kept hS.2.1).narrow hFc)⟩⟩ rfl hn hl2.1 rfl (lv_room hcat) d hkn) hS (fun q _ h => hFc q h) hFc (fun r2 u t H1 locs1 ht hvm hw hB hz hk hS1 => ?_)
  obtain ⟨hB1, hB2, hB3⟩ := hB
  rw [ht] at hB1
  obtain ⟨hP9, hD9⟩ := va_join hP hD isC isR hC9 hR9 hnR hdis hk hFc hB1 hB2
  exact K r2 u.1 u.2 hw H1 locs1 ls hl2 (hK.app (va_K.moved hvm.symm hB3)) hP9 hD9 hS1
theorem b_cU_r (C : CB p l e R s m args below meth c own cc nL E A rt) {REL : Nat → va_W → List (ClassId × FieldType) → Prop} (hM : Br l y (cw y b mL ret) rm E (.ref x :: As) wc tbc REL mc ms) {z : MethodName} (i0 : Nat) {fs : List Value} (hG : GoodIn WB (va_wsU own idx RJ4 RJ5 z y (cw y b mL ret))) (hyx : y = ⟨RJ5, z.name, z.desc⟩) (hd9 : (parseMethodDescriptor z.desc).map (fun d => d.parameters.length) = some nA) (ho : ws[i0]? = some (x, .inr (5, fs))) (hn : As.length = nA) (hR : rm.frames + 1 ≤ R.frames ∧ 8 + (mL + 11) + rm.locals ≤ R.locals) (hrc : rm.cells = mc) (hrs : rm.slots = ms) (hst : sk0 = As.reverse ++ .ref x :: sk) (hcat : (sk.map fun v => v.category).sum ≤ 8) (hkn : k + mc ≤ R.cells ∧ n + ms ≤ R.slots) (d : decode cc pc = .ok (.invokevirtual idx, 3)) (hq : pc + 3 = q) (isC isR isT : List Nat) (hC9 : isC.map (fun i => ws[i]?) = wc.map some) (hR9 : isR.map (fun i => ws[i]?) = wr.map some) (hnC : va_nd isC = true) (hnR : va_nd isR = true) (hdis : ∀ i ∈ isR, i ∉ isC) (hT9 : isT.filterMap (fun i => tb[i]?) = tbc) (K : ∀ (r1 : Nat) (w1 : va_W) (tb1 : List (ClassId × FieldType)), REL r1 w1 tb1 → GB p l e R s m args below meth c Q E A nL (tb ++ tb1) (wr ++ w1) (k + mc) (n + ms) q L (.ref r1 :: sk)) : GB p l e R s m args below meth c Q E A nL tb ws k n pc L sk0 := by
  subst hq; subst hst; intro H locs ls hl2 hK hP hD hS
  have hPc : va_P E.1 gcl wc H := hP.sub isC (fm_of hC9)
  have hDc := hD.sub isC hnC hC9
  have hKc := hK.sub isT hT9
  have hFc := va_free hD hS C.big isC hC9
  refine va_callr (va_runU (As := As) (rest := sk) C.fixb (hM H.size) (va_cwU nA C.htb hG rfl hrc hrs hyx ⟨by decide +kernel, by decide +kernel, hd9⟩ hR) ⟨PB_blind, va_recv C.K.1 hP (ci := 5) (q0 := i0) rfl ho, fun U hU hW => ⟨rfl, by rw [hU], by rw [hU]; exact hPc, ⟨hDc.1, fun _ _ _ => trivial⟩, va_K.moved hW.alike hKc, EK.warm hW C.K, by rw [hU]; exact EH.moved hW.alike ((C.EH.kept hS.2.1).narrow hFc)⟩⟩ rfl hn hl2.1 rfl (lv_room hcat) d hkn) hS (fun q _ h => hFc q h) hFc (fun u ra t H1 locs1 ht hvm hw hB hz hk hS1 => ?_)
  obtain ⟨hB0, hB1, hB2, hB3⟩ := hB
  rw [ht] at hB1
  obtain ⟨hP9, hD9⟩ := va_join hP hD isC isR hC9 hR9 hnR hdis hk hFc hB1 hB2
  exact K ra u.1 u.2 hB0 H1 locs1 ls hl2 (hK.app (va_K.moved hvm.symm hB3)) hP9 hD9 hS1
theorem b_cU_v (C : CB p l e R s m args below meth c own cc nL E A rt) {REL : va_W → List (ClassId × FieldType) → Prop} (hM : Bv l y (cw y b mL ret) rm E (.ref x :: As) wc tbc REL mc ms) {z : MethodName} (i0 : Nat) {fs : List Value} (hG : GoodIn WB (va_wsU own idx RJ4 RJ5 z y (cw y b mL ret))) (hyx : y = ⟨RJ5, z.name, z.desc⟩) (hd9 : (parseMethodDescriptor z.desc).map (fun d => d.parameters.length) = some nA) (ho : ws[i0]? = some (x, .inr (5, fs))) (hn : As.length = nA) (hR : rm.frames + 1 ≤ R.frames ∧ 8 + (mL + 11) + rm.locals ≤ R.locals) (hrc : rm.cells = mc) (hrs : rm.slots = ms) (hst : sk0 = As.reverse ++ .ref x :: sk) (hcat : (sk.map fun v => v.category).sum ≤ 8) (hkn : k + mc ≤ R.cells ∧ n + ms ≤ R.slots) (d : decode cc pc = .ok (.invokevirtual idx, 3)) (hq : pc + 3 = q) (isC isR isT : List Nat) (hC9 : isC.map (fun i => ws[i]?) = wc.map some) (hR9 : isR.map (fun i => ws[i]?) = wr.map some) (hnC : va_nd isC = true) (hnR : va_nd isR = true) (hdis : ∀ i ∈ isR, i ∉ isC) (hT9 : isT.filterMap (fun i => tb[i]?) = tbc) (K : ∀ (w1 : va_W) (tb1 : List (ClassId × FieldType)), REL w1 tb1 → GB p l e R s m args below meth c Q E A nL (tb ++ tb1) (wr ++ w1) (k + mc) (n + ms) q L (sk)) : GB p l e R s m args below meth c Q E A nL tb ws k n pc L sk0 := by
  subst hq; subst hst; intro H locs ls hl2 hK hP hD hS
  have hPc : va_P E.1 gcl wc H := hP.sub isC (fm_of hC9)
  have hDc := hD.sub isC hnC hC9
  have hKc := hK.sub isT hT9
  have hFc := va_free hD hS C.big isC hC9
  refine va_callv (va_runU (As := As) (rest := sk) C.fixb (hM H.size) (va_cwU nA C.htb hG rfl hrc hrs hyx ⟨by decide +kernel, by decide +kernel, hd9⟩ hR) ⟨PB_blind, va_recv C.K.1 hP (ci := 5) (q0 := i0) rfl ho, fun U hU hW => ⟨rfl, by rw [hU], by rw [hU]; exact hPc, ⟨hDc.1, fun _ _ _ => trivial⟩, va_K.moved hW.alike hKc, EK.warm hW C.K, by rw [hU]; exact EH.moved hW.alike ((C.EH.kept hS.2.1).narrow hFc)⟩⟩ rfl hn hl2.1 rfl (lv_room hcat) d hkn) hS (fun q _ h => hFc q h) hFc (fun u t H1 locs1 ht hvm hw hB hz hk hS1 => ?_)
  obtain ⟨hB1, hB2, hB3⟩ := hB
  rw [ht] at hB1
  obtain ⟨hP9, hD9⟩ := va_join hP hD isC isR hC9 hR9 hnR hdis hk hFc hB1 hB2
  exact K u.1 u.2 hw H1 locs1 ls hl2 (hK.app (va_K.moved hvm.symm hB3)) hP9 hD9 hS1
theorem b_cO_i (C : CB p l e R s m args below meth c own cc nL E A rt) {REL : Int32 → va_W → List (ClassId × FieldType) → Prop} (hM : Bi l y (cw y b mL ret) rm E (.ref x :: As) wc tbc REL mc ms) {z : MethodName} (i0 : Nat) {fs : List Value} (hG : GoodIn WB (va_wsO own idx RJ4 RJ5 z y (cw y b mL ret))) {b0 : ByteArray} {m0 : Nat} {r0 : Option FieldType} (h0 : Cond.code ⟨RJ5, z.name, z.desc⟩ b0 m0 r0 ∈ WB) (hd9 : (parseMethodDescriptor z.desc).map (fun d => d.parameters.length) = some nA) (ho : ws[i0]? = some (x, .inr (5, fs))) (hn : As.length = nA) (hR : rm.frames + 1 ≤ R.frames ∧ 8 + (mL + 11) + rm.locals ≤ R.locals) (hrc : rm.cells = mc) (hrs : rm.slots = ms) (hst : sk0 = As.reverse ++ .ref x :: sk) (hcat : (sk.map fun v => v.category).sum ≤ 8) (hkn : k + mc ≤ R.cells ∧ n + ms ≤ R.slots) (d : decode cc pc = .ok (.invokevirtual idx, 3)) (hq : pc + 3 = q) (isC isR isT : List Nat) (hC9 : isC.map (fun i => ws[i]?) = wc.map some) (hR9 : isR.map (fun i => ws[i]?) = wr.map some) (hnC : va_nd isC = true) (hnR : va_nd isR = true) (hdis : ∀ i ∈ isR, i ∉ isC) (hT9 : isT.filterMap (fun i => tb[i]?) = tbc) (K : ∀ (r1 : Int32) (w1 : va_W) (tb1 : List (ClassId × FieldType)), REL r1 w1 tb1 → GB p l e R s m args below meth c Q E A nL (tb ++ tb1) (wr ++ w1) (k + mc) (n + ms) q L (.int r1 :: sk)) : GB p l e R s m args below meth c Q E A nL tb ws k n pc L sk0 := by
  subst hq; subst hst; intro H locs ls hl2 hK hP hD hS
  have hPc : va_P E.1 gcl wc H := hP.sub isC (fm_of hC9)
  have hDc := hD.sub isC hnC hC9
  have hKc := hK.sub isT hT9
  have hFc := va_free hD hS C.big isC hC9
  refine va_calli (va_runU (As := As) (rest := sk) C.fixb (hM H.size) (va_cwO nA C.htb hG rfl hrc hrs h0 ⟨by decide +kernel, by decide +kernel, hd9⟩ hR) ⟨PB_blind, va_recv C.K.1 hP (ci := 5) (q0 := i0) rfl ho, fun U hU hW => ⟨rfl, by rw [hU], by rw [hU]; exact hPc, ⟨hDc.1, fun _ _ _ => trivial⟩, va_K.moved hW.alike hKc, EK.warm hW C.K, by rw [hU]; exact EH.moved hW.alike ((C.EH.kept hS.2.1).narrow hFc)⟩⟩ rfl hn hl2.1 rfl (lv_room hcat) d hkn) hS (fun q _ h => hFc q h) hFc (fun r2 u t H1 locs1 ht hvm hw hB hz hk hS1 => ?_)
  obtain ⟨hB1, hB2, hB3⟩ := hB
  rw [ht] at hB1
  obtain ⟨hP9, hD9⟩ := va_join hP hD isC isR hC9 hR9 hnR hdis hk hFc hB1 hB2
  exact K r2 u.1 u.2 hw H1 locs1 ls hl2 (hK.app (va_K.moved hvm.symm hB3)) hP9 hD9 hS1
theorem b_cP_i (C : CB p l e R s m args below meth c own cc nL E A rt) {REL : Int32 → va_W → List (ClassId × FieldType) → Prop} (hM : Bi l y (cw y b mL ret) rm E (.ref x :: As) wc tbc REL mc ms) (i0 : Nat) {fs : List Value} (hG : GoodIn WB (va_wsSU own idx y (cw y b mL ret))) (hd9 : (y.cls ≠ "java/lang/invoke/MethodHandle" ∧ y.cls ≠ "java/lang/invoke/VarHandle") ∧ (parseMethodDescriptor y.desc).map (fun d => d.parameters.length) = some nA) (hn9 : y.name ≠ "<init>") (ho : ws[i0]? = some (x, .inr (5, fs))) (hn : As.length = nA) (hR : rm.frames + 1 ≤ R.frames ∧ 8 + (mL + 11) + rm.locals ≤ R.locals) (hrc : rm.cells = mc) (hrs : rm.slots = ms) (hst : sk0 = As.reverse ++ .ref x :: sk) (hcat : (sk.map fun v => v.category).sum ≤ 8) (hkn : k + mc ≤ R.cells ∧ n + ms ≤ R.slots) (d : decode cc pc = .ok (.invokespecial idx, 3)) (hq : pc + 3 = q) (isC isR isT : List Nat) (hC9 : isC.map (fun i => ws[i]?) = wc.map some) (hR9 : isR.map (fun i => ws[i]?) = wr.map some) (hnC : va_nd isC = true) (hnR : va_nd isR = true) (hdis : ∀ i ∈ isR, i ∉ isC) (hT9 : isT.filterMap (fun i => tb[i]?) = tbc) (K : ∀ (r1 : Int32) (w1 : va_W) (tb1 : List (ClassId × FieldType)), REL r1 w1 tb1 → GB p l e R s m args below meth c Q E A nL (tb ++ tb1) (wr ++ w1) (k + mc) (n + ms) q L (.int r1 :: sk)) : GB p l e R s m args below meth c Q E A nL tb ws k n pc L sk0 := by
  subst hq; subst hst; intro H locs ls hl2 hK hP hD hS
  have hPc : va_P E.1 gcl wc H := hP.sub isC (fm_of hC9)
  have hDc := hD.sub isC hnC hC9
  have hKc := hK.sub isT hT9
  have hFc := va_free hD hS C.big isC hC9
  refine va_calli (va_runSU (As := As) (rest := sk) (C.K.1.1 5 _ rfl).2 C.fixb (hM H.size) (va_cwSU nA C.htb hG rfl hrc hrs ⟨hn9, hd9.2⟩ hR) ⟨PB_blind, va_recv C.K.1 hP (ci := 5) (q0 := i0) rfl ho, fun U hU hW => ⟨rfl, by rw [hU], by rw [hU]; exact hPc, ⟨hDc.1, fun _ _ _ => trivial⟩, va_K.moved hW.alike hKc, EK.warm hW C.K, by rw [hU]; exact EH.moved hW.alike ((C.EH.kept hS.2.1).narrow hFc)⟩⟩ rfl hn hl2.1 rfl (lv_room hcat) d hkn) hS (fun q _ h => hFc q h) hFc (fun r2 u t H1 locs1 ht hvm hw hB hz hk hS1 => ?_)
  obtain ⟨hB1, hB2, hB3⟩ := hB
  rw [ht] at hB1
  obtain ⟨hP9, hD9⟩ := va_join hP hD isC isR hC9 hR9 hnR hdis hk hFc hB1 hB2
  exact K r2 u.1 u.2 hw H1 locs1 ls hl2 (hK.app (va_K.moved hvm.symm hB3)) hP9 hD9 hS1
theorem b_cP_r (C : CB p l e R s m args below meth c own cc nL E A rt) {REL : Nat → va_W → List (ClassId × FieldType) → Prop} (hM : Br l y (cw y b mL ret) rm E (.ref x :: As) wc tbc REL mc ms) (i0 : Nat) {fs : List Value} (hG : GoodIn WB (va_wsSU own idx y (cw y b mL ret))) (hd9 : (y.cls ≠ "java/lang/invoke/MethodHandle" ∧ y.cls ≠ "java/lang/invoke/VarHandle") ∧ (parseMethodDescriptor y.desc).map (fun d => d.parameters.length) = some nA) (hn9 : y.name ≠ "<init>") (ho : ws[i0]? = some (x, .inr (5, fs))) (hn : As.length = nA) (hR : rm.frames + 1 ≤ R.frames ∧ 8 + (mL + 11) + rm.locals ≤ R.locals) (hrc : rm.cells = mc) (hrs : rm.slots = ms) (hst : sk0 = As.reverse ++ .ref x :: sk) (hcat : (sk.map fun v => v.category).sum ≤ 8) (hkn : k + mc ≤ R.cells ∧ n + ms ≤ R.slots) (d : decode cc pc = .ok (.invokespecial idx, 3)) (hq : pc + 3 = q) (isC isR isT : List Nat) (hC9 : isC.map (fun i => ws[i]?) = wc.map some) (hR9 : isR.map (fun i => ws[i]?) = wr.map some) (hnC : va_nd isC = true) (hnR : va_nd isR = true) (hdis : ∀ i ∈ isR, i ∉ isC) (hT9 : isT.filterMap (fun i => tb[i]?) = tbc) (K : ∀ (r1 : Nat) (w1 : va_W) (tb1 : List (ClassId × FieldType)), REL r1 w1 tb1 → GB p l e R s m args below meth c Q E A nL (tb ++ tb1) (wr ++ w1) (k + mc) (n + ms) q L (.ref r1 :: sk)) : GB p l e R s m args below meth c Q E A nL tb ws k n pc L sk0 := by
  subst hq; subst hst; intro H locs ls hl2 hK hP hD hS
  have hPc : va_P E.1 gcl wc H := hP.sub isC (fm_of hC9)
  have hDc := hD.sub isC hnC hC9
  have hKc := hK.sub isT hT9
  have hFc := va_free hD hS C.big isC hC9
  refine va_callr (va_runSU (As := As) (rest := sk) (C.K.1.1 5 _ rfl).2 C.fixb (hM H.size) (va_cwSU nA C.htb hG rfl hrc hrs ⟨hn9, hd9.2⟩ hR) ⟨PB_blind, va_recv C.K.1 hP (ci := 5) (q0 := i0) rfl ho, fun U hU hW => ⟨rfl, by rw [hU], by rw [hU]; exact hPc, ⟨hDc.1, fun _ _ _ => trivial⟩, va_K.moved hW.alike hKc, EK.warm hW C.K, by rw [hU]; exact EH.moved hW.alike ((C.EH.kept hS.2.1).narrow hFc)⟩⟩ rfl hn hl2.1 rfl (lv_room hcat) d hkn) hS (fun q _ h => hFc q h) hFc (fun u ra t H1 locs1 ht hvm hw hB hz hk hS1 => ?_)
  obtain ⟨hB0, hB1, hB2, hB3⟩ := hB
  rw [ht] at hB1
  obtain ⟨hP9, hD9⟩ := va_join hP hD isC isR hC9 hR9 hnR hdis hk hFc hB1 hB2
  exact K ra u.1 u.2 hB0 H1 locs1 ls hl2 (hK.app (va_K.moved hvm.symm hB3)) hP9 hD9 hS1
theorem b_cI_v (C : CB p l e R s m args below meth c own cc nL E A rt) {REL : va_W → List (ClassId × FieldType) → Prop} (hM : Bv l y (cw y b mL none) rm E (.ref x :: As) wc tbc REL mc ms) (hl : Cond.methodLink own idx y ∈ WA) (hy : Cond.code y b mL none ∈ WA ∧ Cond.instanceMethod y ∈ WA ∧ Cond.initialized y.cls ∈ WA ∧ (y.cls ≠ "java/lang/invoke/MethodHandle" ∧ y.cls ≠ "java/lang/invoke/VarHandle" ∧ (parseMethodDescriptor y.desc).map (fun d => d.parameters.length) = some nA)) (hy1 : y.name = "<init>") (hn : As.length = nA) (hR : rm.frames + 1 ≤ R.frames ∧ 8 + (mL + 11) + rm.locals ≤ R.locals) (hrc : rm.cells = mc) (hrs : rm.slots = ms) (hst : sk0 = As.reverse ++ .ref x :: sk) (hcat : (sk.map fun v => v.category).sum ≤ 8) (hkn : k + mc ≤ R.cells ∧ n + ms ≤ R.slots) (d : decode cc pc = .ok (.invokespecial idx, 3)) (hq : pc + 3 = q) (isC isR isT : List Nat) (hC9 : isC.map (fun i => ws[i]?) = wc.map some) (hR9 : isR.map (fun i => ws[i]?) = wr.map some) (hnC : va_nd isC = true) (hnR : va_nd isR = true) (hdis : ∀ i ∈ isR, i ∉ isC) (hT9 : isT.filterMap (fun i => tb[i]?) = tbc) (K : ∀ (w1 : va_W) (tb1 : List (ClassId × FieldType)), REL w1 tb1 → GB p l e R s m args below meth c Q E A nL (tb ++ tb1) (wr ++ w1) (k + mc) (n + ms) q L (sk)) : GB p l e R s m args below meth c Q E A nL tb ws k n pc L sk0 := by
  subst hq; subst hst; intro H locs ls hl2 hK hP hD hS
  have hPc : va_P E.1 gcl wc H := hP.sub isC (fm_of hC9)
  have hDc := hD.sub isC hnC hC9
  have hKc := hK.sub isT hT9
  have hFc := va_free hD hS C.big isC hC9
  refine va_callv (va_runI (As := As) (rest := sk) C.fix (hM H.size) (cwI nA C.hts (cw_good hy.1) rfl hrc hrs (C.hts _ hy.2.2.1) (C.hts _ hl) (C.hts _ hy.2.1) hy1 hy.2.2.2 hR) ⟨PB_blind, fun U hU hW => ⟨rfl, by rw [hU], by rw [hU]; exact hPc, ⟨hDc.1, fun _ _ _ => trivial⟩, va_K.moved hW.alike hKc, EK.warm hW C.K, by rw [hU]; exact EH.moved hW.alike ((C.EH.kept hS.2.1).narrow hFc)⟩⟩ rfl hn hl2.1 rfl (lv_room hcat) d hkn) hS (fun q _ h => hFc q h) hFc (fun u t H1 locs1 ht hvm hw hB hz hk hS1 => ?_)
  obtain ⟨hB1, hB2, hB3⟩ := hB
  rw [ht] at hB1
  obtain ⟨hP9, hD9⟩ := va_join hP hD isC isR hC9 hR9 hnR hdis hk hFc hB1 hB2
  exact K u.1 u.2 hw H1 locs1 ls hl2 (hK.app (va_K.moved hvm.symm hB3)) hP9 hD9 hS1
end BCALLS
