theorem lc_ldci_7 : Cond.constant RL 7 (iI 40503) ∈ WA := WA_in (List.mem_append_left _ (List.mem_of_getElem? (l := tables_1_1) (i := 182) (by decide +kernel))) rfl
theorem lc_ldcf_153 : Cond.constantFloat RL 153 (3265003520 : UInt32) ∈ WA := WA_in (List.mem_append_right _ (List.mem_append_right _ (List.mem_append_right _ (List.mem_append_right _ (List.mem_append_left _ (List.mem_of_getElem? (l := tables_1_5) (i := 129) (by decide +kernel))))))) rfl
theorem lc_ldcf_152 : Cond.constantFloat RL 152 (3264872448 : UInt32) ∈ WA := WA_in (List.mem_append_right _ (List.mem_append_right _ (List.mem_append_right _ (List.mem_append_right _ (List.mem_append_left _ (List.mem_of_getElem? (l := tables_1_5) (i := 128) (by decide +kernel))))))) rfl
theorem lc_ldcf_154 : Cond.constantFloat RL 154 (3264479232 : UInt32) ∈ WA := WA_in (List.mem_append_right _ (List.mem_append_right _ (List.mem_append_right _ (List.mem_append_right _ (List.mem_append_left _ (List.mem_of_getElem? (l := tables_1_5) (i := 103) (by decide +kernel))))))) rfl
theorem lc_ldc2d_146 : Cond.constantDouble RL 146 (13858279740860792832 : UInt64) ∈ WA := WA_in (List.mem_append_right _ (List.mem_append_right _ (List.mem_append_right _ (List.mem_append_right _ (List.mem_append_left _ (List.mem_of_getElem? (l := tables_1_5) (i := 172) (by decide +kernel))))))) rfl
theorem lc_ldc2d_142 : Cond.constantDouble RL 142 (13858490847093325824 : UInt64) ∈ WA := WA_in (List.mem_append_right _ (List.mem_append_right _ (List.mem_append_right _ (List.mem_append_right _ (List.mem_append_left _ (List.mem_of_getElem? (l := tables_1_5) (i := 171) (by decide +kernel))))))) rfl
theorem lc_ldc2_278 : Cond.constantLong RL 278 (iL 8) ∈ WA := WA_in (List.mem_append_right _ (List.mem_append_right _ (List.mem_append_right _ (List.mem_append_left _ (List.mem_of_getElem? (l := tables_1_4) (i := 227) (by decide +kernel)))))) rfl
theorem lc_ldc2_276 : Cond.constantLong RL 276 (iL 31) ∈ WA := WA_in (List.mem_append_right _ (List.mem_append_right _ (List.mem_append_right _ (List.mem_append_left _ (List.mem_of_getElem? (l := tables_1_4) (i := 226) (by decide +kernel)))))) rfl
theorem iL_mul (a b : Int) : iL a * iL b = iL (a * b) := (Int64.ofInt_mul a b).symm
theorem iL_sub (a b : Int) : iL a - iL b = iL (a - b) := (Int64.ofInt_sub a b).symm
theorem fcmp_self {v : Nat} (h : v ≤ 2139095040) : FP.fcmp (UInt32.ofNat v) (UInt32.ofNat v) = some .eq := by
  have hd := dec32 h
  show FP.Core.order (FP.Core.decode FP.Core.b32 (UInt32.ofNat v).toNat) (FP.Core.decode FP.Core.b32 (UInt32.ofNat v).toNat) = some .eq
  rw [UInt32.toNat_ofNat', Nat.mod_eq_of_lt (by omega)]
  revert hd
  cases FP.Core.decode FP.Core.b32 v with
  | nan => intro hd; exact hd.elim
  | inf s => intro hd; have hs : s = false := hd; subst hs; decide
  | fin s c q => intro _; simp [FP.Core.order, compare, compareOfLessAndEq]
theorem iushr1 (a : Int) : ((iI a).toUInt32 >>> ((iI 1).toUInt32 &&& Int32.toUInt32 31)).toInt32 = iI (a % 4294967296 / 2) := by
  have h1 := iI_tn a
  have h0 : (0 : Int) ≤ a % 4294967296 := by omega
  have h2 : iI a = nI (a % 4294967296).toNat := by
    apply Int32.toBitVec_inj.mp
    apply BitVec.eq_of_toNat_eq
    rw [pk_tn (by omega)]
    omega
  rw [h2, pk_ushrN (by omega) (iI 1) 1 (by decide), nI_iI]
  congr 1
  omega
theorem iI_and01 {a b : Int} (ha : a = 0 ∨ a = 1) (hb : b = 0 ∨ b = 1) : iI a &&& iI b = iI (a * b) := by
  rcases ha with rfl | rfl <;> rcases hb with rfl | rfl <;> decide
section GLAW9
variable {p : Program} {l : Launch} {e : Env} {R : Room} {s : State} {m : MethodId} {args : Array Value} {below : List Frame} {meth : Method} {c : Code} {own : String} {cc : ByteArray} {nL : Nat} {E : EV} {A : Nat → Prop} {Q : State → Prop} {rt : Option FieldType}
variable {σ σ' : SS} {k n pc q mc ms : Nat} {L L' : List (Nat × Value)} {sk sk0 : List Value}
theorem g_lload (C : CX p l e R s m args below meth c own cc nL E A rt) {x : Int64} {i : Nat} (d : decode cc pc = .ok (.lload i, 2)) (j : Nat) (hj : L[j]? = some (i, .long x)) (hq : pc + 2 = q) (K : GG p l e R s m args below meth c Q E A nL σ k n q L (.long x :: sk)) : GG p l e R s m args below meth c Q E A nL σ k n pc L (sk) := by
  subst hq; intro H locs ls hl hP hS
  exact lv_lload C.exec C.code d (lv_at hl j hj) (K H locs ls hl hP hS)
theorem g_lstore (C : CX p l e R s m args below meth c own cc nL E A rt) {x : Int64} {i : Nat} (d : decode cc pc = .ok (.lstore i, 2)) (hn : i + 1 < nL) (hj : (i, Value.long x) :: L.filter (fun q => !(q.1 == i) && (!(q.1 == i + 1) && !(q.1 + 1 == i && q.2.category == 2))) = L') (hq : pc + 2 = q) (K : GG p l e R s m args below meth c Q E A nL σ k n q L' (sk)) : GG p l e R s m args below meth c Q E A nL σ k n pc L (.long x :: sk) := by
  subst hq; intro H locs ls hl hP hS
  exact lv_lstore C.exec C.code d hl hn hj (fun ls2 h2 => K H locs ls2 h2 hP hS)
theorem g_lmul (C : CX p l e R s m args below meth c own cc nL E A rt) {a b : Int} (d : decode cc pc = .ok (.lmul, 1))  (hq : pc + 1 = q) (K : GG p l e R s m args below meth c Q E A nL σ k n q L (.long (iL (a * b)) :: sk)) : GG p l e R s m args below meth c Q E A nL σ k n pc L (.long (iL b) :: .long (iL a) :: sk) := by
  subst hq; intro H locs ls hl hP hS
  refine lv_lmul C.exec C.code d ?_
  rw [iL_mul]
  exact K H locs ls hl hP hS
theorem g_lsub (C : CX p l e R s m args below meth c own cc nL E A rt) {a b : Int} (d : decode cc pc = .ok (.lsub, 1))  (hq : pc + 1 = q) (K : GG p l e R s m args below meth c Q E A nL σ k n q L (.long (iL (a - b)) :: sk)) : GG p l e R s m args below meth c Q E A nL σ k n pc L (.long (iL b) :: .long (iL a) :: sk) := by
  subst hq; intro H locs ls hl hP hS
  refine lv_lsub C.exec C.code d ?_
  rw [iL_sub]
  exact K H locs ls hl hP hS
theorem g_iushr1 (C : CX p l e R s m args below meth c own cc nL E A rt) {a : Int} (d : decode cc pc = .ok (.iushr, 1))  (hq : pc + 1 = q) (K : GG p l e R s m args below meth c Q E A nL σ k n q L (.int (iI (a % 4294967296 / 2)) :: sk)) : GG p l e R s m args below meth c Q E A nL σ k n pc L (.int (iI 1) :: .int (iI a) :: sk) := by
  subst hq; intro H locs ls hl hP hS
  exact lv_iushr C.exec C.code d (iushr1 a) (K H locs ls hl hP hS)
theorem g_iand01 (C : CX p l e R s m args below meth c own cc nL E A rt) {a b : Int} (ha : a = 0 ∨ a = 1) (hb : b = 0 ∨ b = 1) (d : decode cc pc = .ok (.iand, 1))  (hq : pc + 1 = q) (K : GG p l e R s m args below meth c Q E A nL σ k n q L (.int (iI (a * b)) :: sk)) : GG p l e R s m args below meth c Q E A nL σ k n pc L (.int (iI b) :: .int (iI a) :: sk) := by
  subst hq; intro H locs ls hl hP hS
  refine lv_iand C.exec C.code d ?_
  rw [iI_and01 ha hb]
  exact K H locs ls hl hP hS
theorem g_fcmpE (C : CX p l e R s m args below meth c own cc nL E A rt) {x y : UInt32} {op : CmpOp} (hc : FP.fcmp x y = some .eq) (d : decode cc pc = .ok (.fcmp op, 1))  (hq : pc + 1 = q) (K : GG p l e R s m args below meth c Q E A nL σ k n q L (.int (iI 0) :: sk)) : GG p l e R s m args below meth c Q E A nL σ k n pc L (.float y :: .float x :: sk) := by
  subst hq; intro H locs ls hl hP hS
  refine lv_fcmp C.exec C.code d ?_
  rw [hc]
  exact K H locs ls hl hP hS
theorem g_dcmpX (C : CX p l e R s m args below meth c own cc nL E A rt) {x y : UInt64} {op : CmpOp} (hc : FP.dcmp x y = some .eq) (d : decode cc pc = .ok (.dcmp op, 1))  (hq : pc + 1 = q) (K : GG p l e R s m args below meth c Q E A nL σ k n q L (.int (iI 0) :: sk)) : GG p l e R s m args below meth c Q E A nL σ k n pc L (.double y :: .double x :: sk) := by
  subst hq; intro H locs ls hl hP hS
  refine lv_dcmp C.exec C.code d ?_
  rw [hc]
  exact K H locs ls hl hP hS
theorem g_ldc2 (C : CX p l e R s m args below meth c own cc nL E A rt) {v : Int} {i : Nat} (hc : Cond.constantLong own i (iL v) ∈ WA) (d : decode cc pc = .ok (.ldc2_w i, 3))  (hq : pc + 3 = q) (K : GG p l e R s m args below meth c Q E A nL σ k n q L (.long (iL v) :: sk)) : GG p l e R s m args below meth c Q E A nL σ k n pc L (sk) := by
  subst hq; intro H locs ls hl hP hS
  exact lv_ldc2 C.exec C.code C.hown (C.hts _ hc) d (K H locs ls hl hP hS)
theorem g_ldc2d (C : CX p l e R s m args below meth c own cc nL E A rt) {v : UInt64} {i : Nat} (hc : Cond.constantDouble own i v ∈ WA) (d : decode cc pc = .ok (.ldc2_w i, 3))  (hq : pc + 3 = q) (K : GG p l e R s m args below meth c Q E A nL σ k n q L (.double v :: sk)) : GG p l e R s m args below meth c Q E A nL σ k n pc L (sk) := by
  subst hq; intro H locs ls hl hP hS
  exact lv_ldc2d C.exec C.code C.hown (C.hts _ hc) d (K H locs ls hl hP hS)
theorem g_ldcf (C : CX p l e R s m args below meth c own cc nL E A rt) {v : UInt32} {i : Nat} (hc : Cond.constantFloat own i v ∈ WA) (d : decode cc pc = .ok (.ldc i, 2))  (hq : pc + 2 = q) (K : GG p l e R s m args below meth c Q E A nL σ k n q L (.float v :: sk)) : GG p l e R s m args below meth c Q E A nL σ k n pc L (sk) := by
  subst hq; intro H locs ls hl hP hS
  exact lv_ldcf C.exec C.code C.hown (C.hts _ hc) d (K H locs ls hl hP hS)
theorem g_ldci (C : CX p l e R s m args below meth c own cc nL E A rt) {v : Int} {i : Nat} (hc : Cond.constant own i (iI v) ∈ WA) (d : decode cc pc = .ok (.ldc i, 2))  (hq : pc + 2 = q) (K : GG p l e R s m args below meth c Q E A nL σ k n q L (.int (iI v) :: sk)) : GG p l e R s m args below meth c Q E A nL σ k n pc L (sk) := by
  subst hq; intro H locs ls hl hP hS
  exact lv_ldc C.exec C.code C.hown (C.hts _ hc) d (K H locs ls hl hP hS)
theorem g_scrN (C : CX p l e R s m args below meth c own cc nL E A rt)  (d : decode cc pc = .ok (.arraylength, 1))  (hq : pc + 1 = q) (K : GG p l e R s m args below meth c Q E A nL σ k n q L (.int (iI (eN E)) :: sk)) : GG p l e R s m args below meth c Q E A nL σ k n pc L (.ref (eb E) :: sk) := by
  subst hq; intro H locs ls hl hP hS
  have hX := C.EH.2.2.2.2.2.2.2.1
  exact va_slen C.exec C.code hX.1 hX.2.1 hX.2.2 hS d (K H locs ls hl hP hS)
theorem g_scr (C : CX p l e R s m args below meth c own cc nL E A rt) {j : Int} (hj : 0 ≤ j ∧ j < eN E ∧ j < 1000000) (d : decode cc pc = .ok (.iaload, 1))  (hq : pc + 1 = q) (K : GG p l e R s m args below meth c Q E A nL σ k n q L (.int (iI (eX E j.toNat).toInt) :: sk)) : GG p l e R s m args below meth c Q E A nL σ k n pc L (.int (iI j) :: .ref (eb E) :: sk) := by
  subst hq; intro H locs ls hl hP hS
  have hX := C.EH.2.2.2.2.2.2.2.1
  refine va_sld C.exec C.code hX.1 hX.2.1 hX.2.2 hS (vp_in_iff.mpr (by rw [iI_toInt (by omega)]; omega)) d ?_
  rw [iI_cl (by omega), ← iI_of (eX E j.toNat)]
  exact K H locs ls hl hP hS
theorem g_icmp_eqR (C : CX p l e R s m args below meth c own cc nL E A rt) {a b off : Int} {q2 : Nat} (h : a = b) (d : decode cc pc = .ok (.if_icmp .eq off, 3)) (ht : (pc : Int) + off = (q2 : Int)) (kt : GG p l e R s m args below meth c Q E A nL σ k n q2 L sk) : GG p l e R s m args below meth c Q E A nL σ k n pc L (.int (iI b) :: .int (iI a) :: sk) := by
  subst h; intro H locs ls hl hP hS
  exact lv_icmp_eq C.exec C.code d ht (fun _ => kt H locs ls hl hP hS) (fun z => absurd rfl z)
theorem g_k {k2 n2 : Nat} (h1 : k = k2) (h2 : n = n2) (K : GG p l e R s m args below meth c Q E A nL σ k2 n2 pc L sk) : GG p l e R s m args below meth c Q E A nL σ k n pc L sk := by subst h1; subst h2; exact K
theorem g_toplc {a b : Int} (h : a = b) (K : GG p l e R s m args below meth c Q E A nL σ k n pc L (.long (iL b) :: sk)) : GG p l e R s m args below meth c Q E A nL σ k n pc L (.long (iL a) :: sk) := by subst h; exact K
theorem g_topdc {a b : UInt64} (h : a = b) (K : GG p l e R s m args below meth c Q E A nL σ k n pc L (.double b :: sk)) : GG p l e R s m args below meth c Q E A nL σ k n pc L (.double a :: sk) := by subst h; exact K
theorem g_topfc {a b : UInt32} (h : a = b) (K : GG p l e R s m args below meth c Q E A nL σ k n pc L (.float b :: sk)) : GG p l e R s m args below meth c Q E A nL σ k n pc L (.float a :: sk) := by subst h; exact K
end GLAW9
/-- a contract whose answer and world behind it are told by a relation -/
def NX9 (l : Launch) (y : MethodName) (ws : List Cond) (rm : Room) (E : EV) (av : List Value) (σ : SS) (REL : Int → SS → Prop) (mc ms : Nat) : Prop := ∀ sz : Nat, Met l y ws rm (va_Pc av (PE E sz σ)) (va_Qi (fun x (u : Int × SS) => x = iI u.1 ∧ REL u.1 u.2) (fun u t => va_P E.1 gcl (Wd E u.2) t.heap) (aA E sz)) mc ms (aA E sz)
theorem NX9_of {l : Launch} {y : MethodName} {b : ByteArray} {mL mc ms : Nat} {rm : Room} {E : EV} {av : List Value} {σ : SS} {REL : Int → SS → Prop} (own : String) (hown : y.cls = own) (hy : plainName y.cls = true) (L0 : List (Nat × Value)) (hL : lv_args 0 av = L0) (hsl : (lg_sl av).length ≤ mL)
    (body : ∀ (p : Program) (e : Env) (s : State) (m : MethodId) (args : Array Value) (below : List Frame) (meth : Method) (c : Code) (Q : State → Prop) (A : Nat → Prop), CX p l e rm s m args below meth c own b mL E A (some .int) → (∀ (k n pc : Nat) (L : List (Nat × Value)) (v : Int) (σ' : SS), k ≤ mc → n ≤ ms → decode b pc = .ok (.ireturn, 1) → REL v σ' → GG p l e rm s m args below meth c Q E A mL σ' k n pc L [.int (iI v)]) → GG p l e rm s m args below meth c Q E A mL σ 0 0 0 L0 []) : NX9 l y (cw y b mL (some .int)) rm E av σ REL mc ms := by
  intro sz
  refine Met.ofW (cc := b) (maxL := mL) (ret := some .int) hy rfl ?_
  intro p e s m args below meth c s₁ B hml hv
  obtain ⟨rfl, hsz, hP, hK, hE, hap⟩ := hv
  subst hsz; subst hown; subst hL
  have hts := atoms_spec (ws := cw y b mL (some .int)) B.pre
  have C : CX p l e rm s m av.toArray below meth c y.cls b mL E (aA E s.heap.size) (some .int) := ⟨B.exec, B.bytes, hml, findClass_of_methodNamed B.named, fun w h => hts w (List.mem_cons_of_mem _ h), B.notSynchronized, hK, hE, hap, fun k hk => Or.inl ⟨k, hk, rfl⟩, fun q h => Or.inr h, B.returns⟩
  have hl := lv_entry av (n := mL) hsl
  rw [lg_entry_eq]
  refine body p e s m av.toArray below meth c _ _ C (fun pk pn pc L v σ' hk hn d hr => g_wide hk hn ?_) s.heap [] _ hl hP va_S.rf
  intro H locs ls hl hP hS
  exact W.iret (v := iI v) C.exec C.code C.ret (fun t ht hW => ⟨⟨iI v, (v, σ'), rfl, ⟨rfl, hr⟩, by show va_P _ _ _ t.heap; rw [ht]; exact hP⟩, hS.F ht⟩) hS.2.2 d C.locks
section GLAW9B
variable {p : Program} {l : Launch} {e : Env} {R : Room} {s : State} {m : MethodId} {args : Array Value} {below : List Frame} {meth : Method} {c : Code} {own : String} {cc : ByteArray} {nL : Nat} {E : EV} {A : Nat → Prop} {Q : State → Prop} {rt : Option FieldType}
variable {σ : SS} {k n pc q mc ms : Nat} {L : List (Nat × Value)} {sk sk0 : List Value}
variable {y : MethodName} {b : ByteArray} {mL nA idx : Nat} {ret : Option FieldType} {rm : Room} {As : List Value}
theorem g_cX_i (C : CX p l e R s m args below meth c own cc nL E A rt) {REL : Int → SS → Prop} (hM : NX9 l y (cw y b mL ret) rm E As σ REL mc ms) (hl : Cond.methodLink own idx y ∈ WA) (hy : mfS y b mL ret nA) (hv : y.cls = own) (hn : As.length = nA) (hR : rm.frames + 1 ≤ R.frames ∧ 8 + (mL + 11) + rm.locals ≤ R.locals) (hrc : rm.cells = mc) (hrs : rm.slots = ms) (hst : sk0 = As.reverse ++ sk) (hcat : (sk.map fun v => v.category).sum ≤ 8) (hkn : k + mc ≤ R.cells ∧ n + ms ≤ R.slots) (d : decode cc pc = .ok (.invokestatic idx, 3)) (hq : pc + 3 = q) (K : ∀ (r : Int) (σ' : SS), REL r σ' → GG p l e R s m args below meth c Q E A nL σ' (k + mc) (n + ms) q L (.int (iI r) :: sk)) : GG p l e R s m args below meth c Q E A nL σ k n pc L sk0 := by
  subst hq; subst hst; intro H locs ls hl2 hP hS
  refine va_calli (va_runS (As := As) (rest := sk) C.fix (hM H.size) (cwS nA C.hts (hy.gS hv hl) rfl hrc hrs ⟨hv, hy.2.2.2⟩ hR) ⟨PE_blind, fun U hU hW => ⟨rfl, C.pre hP hS U hU hW⟩⟩ rfl hn hl2.1 rfl (lv_room hcat) d hkn) hS (fun q _ h => C.sub hS q h) (C.sub hS) (fun r2 u t H1 locs1 ht hvm hw hB hz hk hS1 => ?_)
  obtain ⟨hw1, hw2⟩ := hw
  subst hw1; rw [ht] at hB; exact K u.1 u.2 hw2 H1 locs1 ls hl2 hB hS1
end GLAW9B
