/-! constructors: the objects and arrays that a new one brings -/
abbrev z0 : Int → Int := fun _ => 0
abbrev Zi (n : Nat) : vp_A := (n, .inl (af z0))
abbrev IA (ci : Nat) (fs : List Value) (h0 sz : Nat) : Nat → Prop := va_A [(h0, .inr (ci, fs))] sz
def IPre (D : va_G) (ci : Nat) (fs : List Value) (h0 sz : Nat) (U : State) : Prop := U.heap.size = sz ∧ va_P D gcl [(h0, .inr (ci, fs))] U.heap ∧ va_K D gcl [] U ∧ (∀ w ∈ tables_1, isNest w = true → va_Nw w U) ∧ va_D (fun _ => True) [(h0, .inr (ci, fs))]
theorem IPre_blind {D : va_G} {ci : Nat} {fs : List Value} {h0 sz : Nat} : FrameBlind (va_Pc [.ref h0] (IPre D ci fs h0 sz)) := fun a U g mk h => by
  obtain ⟨q0, q1, qP, qK, qN, qD⟩ := h
  exact ⟨q0, q1, qP, va_K.moved (u := U) (U := U.calling g mk a) (Vm.Alike.refl U.vm) qK, fun w hw hn => va_Nw.same (u := U) (U := U.calling g mk a) (isNest_tab hn) rfl (qN w hw hn), qD⟩
theorem ar_int : Cond.arrayClass .int ∈ WA := WA_in (List.mem_append_left _ (List.mem_of_getElem? (l := tables_1_1) (i := 45) (by decide +kernel))) rfl
theorem ar_char : Cond.arrayClass .char ∈ WA := WA_in (List.mem_append_left _ (List.mem_of_getElem? (l := tables_1_1) (i := 90) (by decide +kernel))) rfl
theorem ar_long : Cond.arrayClass .long ∈ WA := WA_in (List.mem_append_right _ (List.mem_append_right _ (List.mem_append_right _ (List.mem_append_right _ (List.mem_append_right _ (List.mem_of_getElem? (l := tables_1_6) (i := 82) (by decide +kernel))))))) rfl
theorem ob_code : Cond.code objectInit ⟨#[0xb1]⟩ 1 none ∈ WA := WA_in (List.mem_append_left _ (List.mem_of_getElem? (l := tables_1_1) (i := 34) (by decide +kernel))) rfl
theorem ob_inst : Cond.instanceMethod objectInit ∈ WA := WA_in (List.mem_append_left _ (List.mem_of_getElem? (l := tables_1_1) (i := 33) (by decide +kernel))) rfl
theorem mi_X0 : Cond.code yX0_init cX0_init 1 none ∈ WA ∧ Cond.instanceMethod yX0_init ∈ WA ∧ Cond.initialized yX0_init.cls ∈ WA ∧ yX0_init.cls ≠ "java/lang/invoke/MethodHandle" ∧ yX0_init.cls ≠ "java/lang/invoke/VarHandle" ∧ (parseMethodDescriptor yX0_init.desc).map (fun d => d.parameters.length) = some 0 := ⟨WA_in (List.mem_append_left _ (List.mem_of_getElem? (l := tables_1_1) (i := 66) (by decide +kernel))) rfl, WA_in (List.mem_append_left _ (List.mem_of_getElem? (l := tables_1_1) (i := 65) (by decide +kernel))) rfl, WA_in (List.mem_append_left _ (List.mem_of_getElem? (l := tables_1_1) (i := 4) (by decide +kernel))) rfl, by decide +kernel, by decide +kernel, by decide +kernel⟩
theorem in_X0 : Cond.instantiable RX0 7 ∈ WA := WA_in (List.mem_append_left _ (List.mem_of_getElem? (l := tables_1_1) (i := 63) (by decide +kernel))) rfl
theorem ii_X0 : Cond.initialized RX0 ∈ WA := WA_in (List.mem_append_left _ (List.mem_of_getElem? (l := tables_1_1) (i := 4) (by decide +kernel))) rfl
theorem ob_X0 : Cond.methodLink RX0 3 objectInit ∈ WA := WA_in (List.mem_append_left _ (List.mem_of_getElem? (l := tables_1_1) (i := 67) (by decide +kernel))) rfl
theorem mi_X1 : Cond.code yX1_init cX1_init 1 none ∈ WA ∧ Cond.instanceMethod yX1_init ∈ WA ∧ Cond.initialized yX1_init.cls ∈ WA ∧ yX1_init.cls ≠ "java/lang/invoke/MethodHandle" ∧ yX1_init.cls ≠ "java/lang/invoke/VarHandle" ∧ (parseMethodDescriptor yX1_init.desc).map (fun d => d.parameters.length) = some 0 := ⟨WA_in (List.mem_append_left _ (List.mem_of_getElem? (l := tables_1_1) (i := 50) (by decide +kernel))) rfl, WA_in (List.mem_append_left _ (List.mem_of_getElem? (l := tables_1_1) (i := 49) (by decide +kernel))) rfl, WA_in (List.mem_append_left _ (List.mem_of_getElem? (l := tables_1_1) (i := 3) (by decide +kernel))) rfl, by decide +kernel, by decide +kernel, by decide +kernel⟩
theorem in_X1 : Cond.instantiable RX1 3 ∈ WA := WA_in (List.mem_append_left _ (List.mem_of_getElem? (l := tables_1_1) (i := 47) (by decide +kernel))) rfl
theorem ii_X1 : Cond.initialized RX1 ∈ WA := WA_in (List.mem_append_left _ (List.mem_of_getElem? (l := tables_1_1) (i := 3) (by decide +kernel))) rfl
theorem ob_X1 : Cond.methodLink RX1 3 objectInit ∈ WA := WA_in (List.mem_append_left _ (List.mem_of_getElem? (l := tables_1_1) (i := 51) (by decide +kernel))) rfl
theorem mi_X2 : Cond.code yX2_init cX2_init 1 none ∈ WA ∧ Cond.instanceMethod yX2_init ∈ WA ∧ Cond.initialized yX2_init.cls ∈ WA ∧ yX2_init.cls ≠ "java/lang/invoke/MethodHandle" ∧ yX2_init.cls ≠ "java/lang/invoke/VarHandle" ∧ (parseMethodDescriptor yX2_init.desc).map (fun d => d.parameters.length) = some 0 := ⟨WA_in (List.mem_append_left _ (List.mem_of_getElem? (l := tables_1_1) (i := 95) (by decide +kernel))) rfl, WA_in (List.mem_append_left _ (List.mem_of_getElem? (l := tables_1_1) (i := 94) (by decide +kernel))) rfl, WA_in (List.mem_append_left _ (List.mem_of_getElem? (l := tables_1_1) (i := 5) (by decide +kernel))) rfl, by decide +kernel, by decide +kernel, by decide +kernel⟩
theorem in_X2 : Cond.instantiable RX2 2 ∈ WA := WA_in (List.mem_append_left _ (List.mem_of_getElem? (l := tables_1_1) (i := 92) (by decide +kernel))) rfl
theorem ii_X2 : Cond.initialized RX2 ∈ WA := WA_in (List.mem_append_left _ (List.mem_of_getElem? (l := tables_1_1) (i := 5) (by decide +kernel))) rfl
theorem ob_X2 : Cond.methodLink RX2 3 objectInit ∈ WA := WA_in (List.mem_append_left _ (List.mem_of_getElem? (l := tables_1_1) (i := 96) (by decide +kernel))) rfl
theorem mi_X3 : Cond.code yX3_init cX3_init 1 none ∈ WA ∧ Cond.instanceMethod yX3_init ∈ WA ∧ Cond.initialized yX3_init.cls ∈ WA ∧ yX3_init.cls ≠ "java/lang/invoke/MethodHandle" ∧ yX3_init.cls ≠ "java/lang/invoke/VarHandle" ∧ (parseMethodDescriptor yX3_init.desc).map (fun d => d.parameters.length) = some 0 := ⟨WA_in (List.mem_append_left _ (List.mem_of_getElem? (l := tables_1_1) (i := 39) (by decide +kernel))) rfl, WA_in (List.mem_append_left _ (List.mem_of_getElem? (l := tables_1_1) (i := 38) (by decide +kernel))) rfl, WA_in (List.mem_append_left _ (List.mem_of_getElem? (l := tables_1_1) (i := 2) (by decide +kernel))) rfl, by decide +kernel, by decide +kernel, by decide +kernel⟩
theorem in_X3 : Cond.instantiable RX3 1 ∈ WA := WA_in (List.mem_append_left _ (List.mem_of_getElem? (l := tables_1_1) (i := 36) (by decide +kernel))) rfl
theorem ii_X3 : Cond.initialized RX3 ∈ WA := WA_in (List.mem_append_left _ (List.mem_of_getElem? (l := tables_1_1) (i := 2) (by decide +kernel))) rfl
theorem ob_X3 : Cond.methodLink RX3 3 objectInit ∈ WA := WA_in (List.mem_append_left _ (List.mem_of_getElem? (l := tables_1_1) (i := 40) (by decide +kernel))) rfl
theorem mi_X4 : Cond.code yX4_init cX4_init 1 none ∈ WA ∧ Cond.instanceMethod yX4_init ∈ WA ∧ Cond.initialized yX4_init.cls ∈ WA ∧ yX4_init.cls ≠ "java/lang/invoke/MethodHandle" ∧ yX4_init.cls ≠ "java/lang/invoke/VarHandle" ∧ (parseMethodDescriptor yX4_init.desc).map (fun d => d.parameters.length) = some 0 := ⟨WA_in (List.mem_append_left _ (List.mem_of_getElem? (l := tables_1_1) (i := 31) (by decide +kernel))) rfl, WA_in (List.mem_append_left _ (List.mem_of_getElem? (l := tables_1_1) (i := 30) (by decide +kernel))) rfl, WA_in (List.mem_append_left _ (List.mem_of_getElem? (l := tables_1_1) (i := 1) (by decide +kernel))) rfl, by decide +kernel, by decide +kernel, by decide +kernel⟩
theorem in_X4 : Cond.instantiable RX4 9 ∈ WA := WA_in (List.mem_append_left _ (List.mem_of_getElem? (l := tables_1_1) (i := 28) (by decide +kernel))) rfl
theorem ii_X4 : Cond.initialized RX4 ∈ WA := WA_in (List.mem_append_left _ (List.mem_of_getElem? (l := tables_1_1) (i := 1) (by decide +kernel))) rfl
theorem ob_X4 : Cond.methodLink RX4 3 objectInit ∈ WA := WA_in (List.mem_append_left _ (List.mem_of_getElem? (l := tables_1_1) (i := 32) (by decide +kernel))) rfl
theorem ck_X4_9 : Cond.classLink RX4 9 RX3 ∈ WA := WA_in (List.mem_append_left _ (List.mem_of_getElem? (l := tables_1_1) (i := 35) (by decide +kernel))) rfl
theorem ck_X4_27 : Cond.classLink RX4 27 RX1 ∈ WA := WA_in (List.mem_append_left _ (List.mem_of_getElem? (l := tables_1_1) (i := 46) (by decide +kernel))) rfl
theorem ck_X4_34 : Cond.classLink RX4 34 RX0 ∈ WA := WA_in (List.mem_append_left _ (List.mem_of_getElem? (l := tables_1_1) (i := 62) (by decide +kernel))) rfl
theorem ck_X4_41 : Cond.classLink RX4 41 RX2 ∈ WA := WA_in (List.mem_append_left _ (List.mem_of_getElem? (l := tables_1_1) (i := 91) (by decide +kernel))) rfl
theorem ck_L_15 : Cond.classLink RL 15 RX4 ∈ WA := WA_in (List.mem_append_left _ (List.mem_of_getElem? (l := tables_1_1) (i := 27) (by decide +kernel))) rfl
theorem nk_X4_11 : Cond.methodLinkNest RX4 11 yX3_init "RibbonQuarry" ∈ tables_1 := (List.mem_append_left _ (List.mem_of_getElem? (l := tables_1_1) (i := 37) (by decide +kernel)))
theorem nk_X4_29 : Cond.methodLinkNest RX4 29 yX1_init "RibbonQuarry" ∈ tables_1 := (List.mem_append_left _ (List.mem_of_getElem? (l := tables_1_1) (i := 48) (by decide +kernel)))
theorem nk_X4_36 : Cond.methodLinkNest RX4 36 yX0_init "RibbonQuarry" ∈ tables_1 := (List.mem_append_left _ (List.mem_of_getElem? (l := tables_1_1) (i := 64) (by decide +kernel)))
theorem nk_X4_43 : Cond.methodLinkNest RX4 43 yX2_init "RibbonQuarry" ∈ tables_1 := (List.mem_append_left _ (List.mem_of_getElem? (l := tables_1_1) (i := 93) (by decide +kernel)))
theorem lk_L_177 : Cond.methodLink RL 177 yX4_init ∈ WA := WA_in (List.mem_append_left _ (List.mem_of_getElem? (l := tables_1_1) (i := 29) (by decide +kernel))) rfl
abbrev rm_X3_init : Room := { frames := 1, cells := 1, slots := 310, locals := 20 }
abbrev w_X3 (h0 : Nat) (q1 : Nat) (c1 : ClassId) : va_W := [(h0, .inr (3, [.ref q1])), (q1, .inl (c1, Zi 310))]
def at_X3 (D : va_G) (A : Nat → Prop) (h0 : Nat) (U : State) : Prop := ∃ (q1 : Nat) (c1 : ClassId), va_P D gcl (w_X3 h0 q1 c1) U.heap ∧ va_K D gcl [(c1, .int)] U ∧ va_D A (w_X3 h0 q1 c1)
set_option maxHeartbeats 4000000 in
set_option maxRecDepth 100000 in
theorem c_X3_init (l : Launch) (D : va_G) (h0 sz : Nat) : Met l yX3_init (cw yX3_init cX3_init 1 none) rm_X3_init (va_Pc [.ref h0] (IPre D 3 [.null] h0 sz)) (va_Qv (fun _ : Unit => True) (fun _ => at_X3 D (va_A [(h0, .inr (3, [.null]))] sz) h0) (va_A [(h0, .inr (3, [.null]))] sz)) 1 310 (va_A [(h0, .inr (3, [.null]))] sz) := by
  refine Met.ofW (cc := cX3_init) (maxL := 1) (ret := none) (by decide) rfl ?_
  intro p e s m args below meth c s₁ B hml hv
  obtain ⟨rfl, hsz, hP, hK, hNw, hD0⟩ := hv
  have hx := B.exec
  have hb := B.bytes
  have hr := B.returns
  have hts0 := atoms_spec (ws := cw yX3_init cX3_init 1 none) B.pre
  have hts : ∀ w ∈ WA, w.before _ s = true := fun w h => hts0 w (List.mem_cons_of_mem _ h)
  have hown : s.vm.findClass RX3 = some m.cls := findClass_of_methodNamed B.named
  have hlocks := B.notSynchronized
  have hin : meth.name = "<init>" := (name_of_methodNamed B.named B.method).1
  subst hsz
  have hD := hD0.self (sz := s.heap.size)
  generalize hAe : va_A [(h0, .inr (3, [.null]))] s.heap.size = A at hD ⊢
  have hA : ∀ q : Nat, s.heap.size ≤ q → A q := fun q h => by rw [← hAe]; exact Or.inr h
  have hS : va_S A s.heap s.heap [] := va_S.rf
  have hP : va_P D gcl [(h0, .inr (3, [.null]))] s.heap := hP
  have hl := lv_entry ([.ref h0]) (n := 1) (Nat.le_of_ble_eq_true rfl)
  rw [lg_entry_eq]
  generalize (lg_sl ([.ref h0]) ++ List.replicate (1 - (lg_sl ([.ref h0])).length) Slot.unset).toArray = ls at hl ⊢
  have hl : lv_has ls 1 [(0, .ref h0)] := hl
  refine lv_aload_n hx hb dX3_init_0 rfl (lv_at hl 0 rfl) ?_
  refine W.objInit hx hb hown (hts _ ob_X3) (hts _ ob_inst) (hts _ ob_code) rfl (by rw [hml]; exact hl.1) rfl dX3_init_1 (Nat.le_of_ble_eq_true rfl) (Nat.le_of_ble_eq_true rfl) ?_
  refine W.eq (g2 := F0 m 4 ls []) rfl ?_
  refine lv_aload_n hx hb dX3_init_4 rfl (lv_at hl 0 rfl) ?_
  refine lv_sipush (v := iI 310) hx hb dX3_init_5 (by decide) ?_
  refine va_newa (atype := .int) (ty := .int) (a0 := Zi 310) (N' := 310) hx hb (hts _ ar_int) rfl hK hP hD hS hA (fun _ => rfl) (by decide) (by decide) (by decide) (Nat.le_of_ble_eq_true rfl) (Nat.le_of_ble_eq_true rfl) dX3_init_8 (fun q1 c1 H hK hP hD hS => ?_)
  have hP : va_P D gcl [(h0, .inr (3, [.null])), (q1, .inl (c1, Zi 310))] H := hP
  have hD : va_D A [(h0, .inr (3, [.null])), (q1, .inl (c1, Zi 310))] := hD
  have hK : va_K D gcl [(c1, .int)] s := hK
  refine W.widen (k := 1) (n := 310) (Nat.le_of_ble_eq_true rfl) (Nat.le_of_ble_eq_true rfl) ?_
  refine va_putF (D := D) (ci := 3) (v := .ref q1) (ty := tyX3 0) (C := RX3) (T := TX3) (N := 1) hx hb hts uw_X3 tyX3 tyX3_ok nmX3 hown hK hP hD hS 0 rfl rfl 0 (by decide) (hts _ fl_X3_9) (fun _ h9 => h9) rfl hin rfl (tyX3_ok 0 (by decide)) rfl rfl (Nat.le_of_ble_eq_true rfl) dX3_init_10 (fun H locs hP hD hS => ?_)
  have hP : va_P D gcl [(h0, .inr (3, [.ref q1])), (q1, .inl (c1, Zi 310))] H := hP
  have hD : va_D A [(h0, .inr (3, [.ref q1])), (q1, .inl (c1, Zi 310))] := hD
  exact W.vret hx hb hr (fun t ht hW => ⟨⟨(), rfl, trivial, q1, c1, by rw [ht]; exact hP, va_K.moved hW.alike hK, hD⟩, hS.F ht⟩) hS.2.2 dX3_init_13
abbrev rm_X1_init : Room := { frames := 1, cells := 1, slots := 2480, locals := 20 }
abbrev w_X1 (h0 : Nat) (q1 : Nat) (c1 : ClassId) : va_W := [(h0, .inr (1, [.ref q1, .int (iI 0), .int (iI 0)])), (q1, .inl (c1, Zi 2480))]
def at_X1 (D : va_G) (A : Nat → Prop) (h0 : Nat) (U : State) : Prop := ∃ (q1 : Nat) (c1 : ClassId), va_P D gcl (w_X1 h0 q1 c1) U.heap ∧ va_K D gcl [(c1, .int)] U ∧ va_D A (w_X1 h0 q1 c1)
set_option maxHeartbeats 4000000 in
set_option maxRecDepth 100000 in
theorem c_X1_init (l : Launch) (D : va_G) (h0 sz : Nat) : Met l yX1_init (cw yX1_init cX1_init 1 none) rm_X1_init (va_Pc [.ref h0] (IPre D 1 [.null, .int (iI 0), .int (iI 0)] h0 sz)) (va_Qv (fun _ : Unit => True) (fun _ => at_X1 D (va_A [(h0, .inr (1, [.null, .int (iI 0), .int (iI 0)]))] sz) h0) (va_A [(h0, .inr (1, [.null, .int (iI 0), .int (iI 0)]))] sz)) 1 2480 (va_A [(h0, .inr (1, [.null, .int (iI 0), .int (iI 0)]))] sz) := by
  refine Met.ofW (cc := cX1_init) (maxL := 1) (ret := none) (by decide) rfl ?_
  intro p e s m args below meth c s₁ B hml hv
  obtain ⟨rfl, hsz, hP, hK, hNw, hD0⟩ := hv
  have hx := B.exec
  have hb := B.bytes
  have hr := B.returns
  have hts0 := atoms_spec (ws := cw yX1_init cX1_init 1 none) B.pre
  have hts : ∀ w ∈ WA, w.before _ s = true := fun w h => hts0 w (List.mem_cons_of_mem _ h)
  have hown : s.vm.findClass RX1 = some m.cls := findClass_of_methodNamed B.named
  have hlocks := B.notSynchronized
  have hin : meth.name = "<init>" := (name_of_methodNamed B.named B.method).1
  subst hsz
  have hD := hD0.self (sz := s.heap.size)
  generalize hAe : va_A [(h0, .inr (1, [.null, .int (iI 0), .int (iI 0)]))] s.heap.size = A at hD ⊢
  have hA : ∀ q : Nat, s.heap.size ≤ q → A q := fun q h => by rw [← hAe]; exact Or.inr h
  have hS : va_S A s.heap s.heap [] := va_S.rf
  have hP : va_P D gcl [(h0, .inr (1, [.null, .int (iI 0), .int (iI 0)]))] s.heap := hP
  have hl := lv_entry ([.ref h0]) (n := 1) (Nat.le_of_ble_eq_true rfl)
  rw [lg_entry_eq]
  generalize (lg_sl ([.ref h0]) ++ List.replicate (1 - (lg_sl ([.ref h0])).length) Slot.unset).toArray = ls at hl ⊢
  have hl : lv_has ls 1 [(0, .ref h0)] := hl
  refine lv_aload_n hx hb dX1_init_0 rfl (lv_at hl 0 rfl) ?_
  refine W.objInit hx hb hown (hts _ ob_X1) (hts _ ob_inst) (hts _ ob_code) rfl (by rw [hml]; exact hl.1) rfl dX1_init_1 (Nat.le_of_ble_eq_true rfl) (Nat.le_of_ble_eq_true rfl) ?_
  refine W.eq (g2 := F0 m 4 ls []) rfl ?_
  refine lv_aload_n hx hb dX1_init_4 rfl (lv_at hl 0 rfl) ?_
  refine lv_sipush (v := iI 2480) hx hb dX1_init_5 (by decide) ?_
  refine va_newa (atype := .int) (ty := .int) (a0 := Zi 2480) (N' := 2480) hx hb (hts _ ar_int) rfl hK hP hD hS hA (fun _ => rfl) (by decide) (by decide) (by decide) (Nat.le_of_ble_eq_true rfl) (Nat.le_of_ble_eq_true rfl) dX1_init_8 (fun q1 c1 H hK hP hD hS => ?_)
  have hP : va_P D gcl [(h0, .inr (1, [.null, .int (iI 0), .int (iI 0)])), (q1, .inl (c1, Zi 2480))] H := hP
  have hD : va_D A [(h0, .inr (1, [.null, .int (iI 0), .int (iI 0)])), (q1, .inl (c1, Zi 2480))] := hD
  have hK : va_K D gcl [(c1, .int)] s := hK
  refine W.widen (k := 1) (n := 2480) (Nat.le_of_ble_eq_true rfl) (Nat.le_of_ble_eq_true rfl) ?_
  refine va_putF (D := D) (ci := 1) (v := .ref q1) (ty := tyX1 0) (C := RX1) (T := TX1) (N := 3) hx hb hts uw_X1 tyX1 tyX1_ok nmX1 hown hK hP hD hS 0 rfl rfl 0 (by decide) (hts _ fl_X1_9) (fun _ h9 => h9) rfl hin rfl (tyX1_ok 0 (by decide)) rfl rfl (Nat.le_of_ble_eq_true rfl) dX1_init_10 (fun H locs hP hD hS => ?_)
  have hP : va_P D gcl [(h0, .inr (1, [.ref q1, .int (iI 0), .int (iI 0)])), (q1, .inl (c1, Zi 2480))] H := hP
  have hD : va_D A [(h0, .inr (1, [.ref q1, .int (iI 0), .int (iI 0)])), (q1, .inl (c1, Zi 2480))] := hD
  refine lv_aload_n hx hb dX1_init_13 rfl (lv_at hl 0 rfl) ?_
  refine lv_iconst (v := iI 0) hx hb dX1_init_14 (by decide) ?_
  refine va_put (D := D) (ci := 1) (v := .int (iI 0)) (ty := tyX1 1) (C := RX1) (T := TX1) (N := 3) hx hb hts uw_X1 tyX1 tyX1_ok nmX1 hown hK hP hD hS 0 rfl rfl 1 (by decide) (hts _ fl_X1_15) (fun _ h9 => h9) rfl (tyX1_ok 1 (by decide)) rfl rfl (Nat.le_of_ble_eq_true rfl) dX1_init_15 (fun H locs hP hD hS => ?_)
  have hP : va_P D gcl [(h0, .inr (1, [.ref q1, .int (iI 0), .int (iI 0)])), (q1, .inl (c1, Zi 2480))] H := hP
  have hD : va_D A [(h0, .inr (1, [.ref q1, .int (iI 0), .int (iI 0)])), (q1, .inl (c1, Zi 2480))] := hD
  refine lv_aload_n hx hb dX1_init_18 rfl (lv_at hl 0 rfl) ?_
  refine lv_iconst (v := iI 0) hx hb dX1_init_19 (by decide) ?_
  refine va_put (D := D) (ci := 1) (v := .int (iI 0)) (ty := tyX1 2) (C := RX1) (T := TX1) (N := 3) hx hb hts uw_X1 tyX1 tyX1_ok nmX1 hown hK hP hD hS 0 rfl rfl 2 (by decide) (hts _ fl_X1_19) (fun _ h9 => h9) rfl (tyX1_ok 2 (by decide)) rfl rfl (Nat.le_of_ble_eq_true rfl) dX1_init_20 (fun H locs hP hD hS => ?_)
  have hP : va_P D gcl [(h0, .inr (1, [.ref q1, .int (iI 0), .int (iI 0)])), (q1, .inl (c1, Zi 2480))] H := hP
  have hD : va_D A [(h0, .inr (1, [.ref q1, .int (iI 0), .int (iI 0)])), (q1, .inl (c1, Zi 2480))] := hD
  exact W.vret hx hb hr (fun t ht hW => ⟨⟨(), rfl, trivial, q1, c1, by rw [ht]; exact hP, va_K.moved hW.alike hK, hD⟩, hS.F ht⟩) hS.2.2 dX1_init_23
abbrev rm_X0_init : Room := { frames := 1, cells := 3, slots := 100, locals := 20 }
abbrev w_X0 (h0 : Nat) (q1 : Nat) (c1 : ClassId) (q2 : Nat) (c2 : ClassId) (q3 : Nat) (c3 : ClassId) : va_W := [(h0, .inr (0, [.ref q1, .int (iI 0), .int (iI 0), .ref q2, .ref q3, .int (iI 0), .int (iI 0)])), (q1, .inl (c1, Zi 60)), (q2, .inl (c2, Zi 8)), (q3, .inl (c3, Zi 32))]
def at_X0 (D : va_G) (A : Nat → Prop) (h0 : Nat) (U : State) : Prop := ∃ (q1 : Nat) (c1 : ClassId) (q2 : Nat) (c2 : ClassId) (q3 : Nat) (c3 : ClassId), va_P D gcl (w_X0 h0 q1 c1 q2 c2 q3 c3) U.heap ∧ va_K D gcl [(c1, .char), (c2, .int), (c3, .int)] U ∧ va_D A (w_X0 h0 q1 c1 q2 c2 q3 c3)
set_option maxHeartbeats 4000000 in
set_option maxRecDepth 100000 in
theorem c_X0_init (l : Launch) (D : va_G) (h0 sz : Nat) : Met l yX0_init (cw yX0_init cX0_init 1 none) rm_X0_init (va_Pc [.ref h0] (IPre D 0 [.null, .int (iI 0), .int (iI 0), .null, .null, .int (iI 0), .int (iI 0)] h0 sz)) (va_Qv (fun _ : Unit => True) (fun _ => at_X0 D (va_A [(h0, .inr (0, [.null, .int (iI 0), .int (iI 0), .null, .null, .int (iI 0), .int (iI 0)]))] sz) h0) (va_A [(h0, .inr (0, [.null, .int (iI 0), .int (iI 0), .null, .null, .int (iI 0), .int (iI 0)]))] sz)) 3 100 (va_A [(h0, .inr (0, [.null, .int (iI 0), .int (iI 0), .null, .null, .int (iI 0), .int (iI 0)]))] sz) := by
  refine Met.ofW (cc := cX0_init) (maxL := 1) (ret := none) (by decide) rfl ?_
  intro p e s m args below meth c s₁ B hml hv
  obtain ⟨rfl, hsz, hP, hK, hNw, hD0⟩ := hv
  have hx := B.exec
  have hb := B.bytes
  have hr := B.returns
  have hts0 := atoms_spec (ws := cw yX0_init cX0_init 1 none) B.pre
  have hts : ∀ w ∈ WA, w.before _ s = true := fun w h => hts0 w (List.mem_cons_of_mem _ h)
  have hown : s.vm.findClass RX0 = some m.cls := findClass_of_methodNamed B.named
  have hlocks := B.notSynchronized
  have hin : meth.name = "<init>" := (name_of_methodNamed B.named B.method).1
  subst hsz
  have hD := hD0.self (sz := s.heap.size)
  generalize hAe : va_A [(h0, .inr (0, [.null, .int (iI 0), .int (iI 0), .null, .null, .int (iI 0), .int (iI 0)]))] s.heap.size = A at hD ⊢
  have hA : ∀ q : Nat, s.heap.size ≤ q → A q := fun q h => by rw [← hAe]; exact Or.inr h
  have hS : va_S A s.heap s.heap [] := va_S.rf
  have hP : va_P D gcl [(h0, .inr (0, [.null, .int (iI 0), .int (iI 0), .null, .null, .int (iI 0), .int (iI 0)]))] s.heap := hP
  have hl := lv_entry ([.ref h0]) (n := 1) (Nat.le_of_ble_eq_true rfl)
  rw [lg_entry_eq]
  generalize (lg_sl ([.ref h0]) ++ List.replicate (1 - (lg_sl ([.ref h0])).length) Slot.unset).toArray = ls at hl ⊢
  have hl : lv_has ls 1 [(0, .ref h0)] := hl
  refine lv_aload_n hx hb dX0_init_0 rfl (lv_at hl 0 rfl) ?_
  refine W.objInit hx hb hown (hts _ ob_X0) (hts _ ob_inst) (hts _ ob_code) rfl (by rw [hml]; exact hl.1) rfl dX0_init_1 (Nat.le_of_ble_eq_true rfl) (Nat.le_of_ble_eq_true rfl) ?_
  refine W.eq (g2 := F0 m 4 ls []) rfl ?_
  refine lv_aload_n hx hb dX0_init_4 rfl (lv_at hl 0 rfl) ?_
  refine lv_bipush (v := iI 60) hx hb dX0_init_5 (by decide) ?_
  refine va_newa (atype := .char) (ty := .char) (a0 := Zi 60) (N' := 60) hx hb (hts _ ar_char) rfl hK hP hD hS hA (fun _ => rfl) (by decide) (by decide) (by decide) (Nat.le_of_ble_eq_true rfl) (Nat.le_of_ble_eq_true rfl) dX0_init_7 (fun q1 c1 H hK hP hD hS => ?_)
  have hP : va_P D gcl [(h0, .inr (0, [.null, .int (iI 0), .int (iI 0), .null, .null, .int (iI 0), .int (iI 0)])), (q1, .inl (c1, Zi 60))] H := hP
  have hD : va_D A [(h0, .inr (0, [.null, .int (iI 0), .int (iI 0), .null, .null, .int (iI 0), .int (iI 0)])), (q1, .inl (c1, Zi 60))] := hD
  have hK : va_K D gcl [(c1, .char)] s := hK
  refine W.widen (k := 1) (n := 60) (Nat.le_of_ble_eq_true rfl) (Nat.le_of_ble_eq_true rfl) ?_
  refine va_putF (D := D) (ci := 0) (v := .ref q1) (ty := tyX0 0) (C := RX0) (T := TX0) (N := 7) hx hb hts uw_X0 tyX0 tyX0_ok nmX0 hown hK hP hD hS 0 rfl rfl 0 (by decide) (hts _ fl_X0_9) (fun _ h9 => h9) rfl hin rfl (tyX0_ok 0 (by decide)) rfl rfl (Nat.le_of_ble_eq_true rfl) dX0_init_9 (fun H locs hP hD hS => ?_)
  have hP : va_P D gcl [(h0, .inr (0, [.ref q1, .int (iI 0), .int (iI 0), .null, .null, .int (iI 0), .int (iI 0)])), (q1, .inl (c1, Zi 60))] H := hP
  have hD : va_D A [(h0, .inr (0, [.ref q1, .int (iI 0), .int (iI 0), .null, .null, .int (iI 0), .int (iI 0)])), (q1, .inl (c1, Zi 60))] := hD
  refine lv_aload_n hx hb dX0_init_12 rfl (lv_at hl 0 rfl) ?_
  refine lv_iconst (v := iI 0) hx hb dX0_init_13 (by decide) ?_
  refine va_put (D := D) (ci := 0) (v := .int (iI 0)) (ty := tyX0 1) (C := RX0) (T := TX0) (N := 7) hx hb hts uw_X0 tyX0 tyX0_ok nmX0 hown hK hP hD hS 0 rfl rfl 1 (by decide) (hts _ fl_X0_15) (fun _ h9 => h9) rfl (tyX0_ok 1 (by decide)) rfl rfl (Nat.le_of_ble_eq_true rfl) dX0_init_14 (fun H locs hP hD hS => ?_)
  have hP : va_P D gcl [(h0, .inr (0, [.ref q1, .int (iI 0), .int (iI 0), .null, .null, .int (iI 0), .int (iI 0)])), (q1, .inl (c1, Zi 60))] H := hP
  have hD : va_D A [(h0, .inr (0, [.ref q1, .int (iI 0), .int (iI 0), .null, .null, .int (iI 0), .int (iI 0)])), (q1, .inl (c1, Zi 60))] := hD
  refine lv_aload_n hx hb dX0_init_17 rfl (lv_at hl 0 rfl) ?_
  refine lv_iconst (v := iI 0) hx hb dX0_init_18 (by decide) ?_
  refine va_put (D := D) (ci := 0) (v := .int (iI 0)) (ty := tyX0 2) (C := RX0) (T := TX0) (N := 7) hx hb hts uw_X0 tyX0 tyX0_ok nmX0 hown hK hP hD hS 0 rfl rfl 2 (by decide) (hts _ fl_X0_19) (fun _ h9 => h9) rfl (tyX0_ok 2 (by decide)) rfl rfl (Nat.le_of_ble_eq_true rfl) dX0_init_19 (fun H locs hP hD hS => ?_)
  have hP : va_P D gcl [(h0, .inr (0, [.ref q1, .int (iI 0), .int (iI 0), .null, .null, .int (iI 0), .int (iI 0)])), (q1, .inl (c1, Zi 60))] H := hP
  have hD : va_D A [(h0, .inr (0, [.ref q1, .int (iI 0), .int (iI 0), .null, .null, .int (iI 0), .int (iI 0)])), (q1, .inl (c1, Zi 60))] := hD
  refine lv_aload_n hx hb dX0_init_22 rfl (lv_at hl 0 rfl) ?_
  refine lv_bipush (v := iI 8) hx hb dX0_init_23 (by decide) ?_
  refine va_newa (atype := .int) (ty := .int) (a0 := Zi 8) (N' := 8) hx hb (hts _ ar_int) rfl hK hP hD hS hA (fun _ => rfl) (by decide) (by decide) (by decide) (Nat.le_of_ble_eq_true rfl) (Nat.le_of_ble_eq_true rfl) dX0_init_25 (fun q2 c2 H hK hP hD hS => ?_)
  have hP : va_P D gcl [(h0, .inr (0, [.ref q1, .int (iI 0), .int (iI 0), .null, .null, .int (iI 0), .int (iI 0)])), (q1, .inl (c1, Zi 60)), (q2, .inl (c2, Zi 8))] H := hP
  have hD : va_D A [(h0, .inr (0, [.ref q1, .int (iI 0), .int (iI 0), .null, .null, .int (iI 0), .int (iI 0)])), (q1, .inl (c1, Zi 60)), (q2, .inl (c2, Zi 8))] := hD
  have hK : va_K D gcl [(c1, .char), (c2, .int)] s := hK
  refine W.widen (k := 2) (n := 68) (Nat.le_of_ble_eq_true rfl) (Nat.le_of_ble_eq_true rfl) ?_
  refine va_putF (D := D) (ci := 0) (v := .ref q2) (ty := tyX0 3) (C := RX0) (T := TX0) (N := 7) hx hb hts uw_X0 tyX0 tyX0_ok nmX0 hown hK hP hD hS 0 rfl rfl 3 (by decide) (hts _ fl_X0_22) (fun _ h9 => h9) rfl hin rfl (tyX0_ok 3 (by decide)) rfl rfl (Nat.le_of_ble_eq_true rfl) dX0_init_27 (fun H locs hP hD hS => ?_)
  have hP : va_P D gcl [(h0, .inr (0, [.ref q1, .int (iI 0), .int (iI 0), .ref q2, .null, .int (iI 0), .int (iI 0)])), (q1, .inl (c1, Zi 60)), (q2, .inl (c2, Zi 8))] H := hP
  have hD : va_D A [(h0, .inr (0, [.ref q1, .int (iI 0), .int (iI 0), .ref q2, .null, .int (iI 0), .int (iI 0)])), (q1, .inl (c1, Zi 60)), (q2, .inl (c2, Zi 8))] := hD
  refine lv_aload_n hx hb dX0_init_30 rfl (lv_at hl 0 rfl) ?_
  refine lv_bipush (v := iI 32) hx hb dX0_init_31 (by decide) ?_
  refine va_newa (atype := .int) (ty := .int) (a0 := Zi 32) (N' := 32) hx hb (hts _ ar_int) rfl hK hP hD hS hA (fun _ => rfl) (by decide) (by decide) (by decide) (Nat.le_of_ble_eq_true rfl) (Nat.le_of_ble_eq_true rfl) dX0_init_33 (fun q3 c3 H hK hP hD hS => ?_)
  have hP : va_P D gcl [(h0, .inr (0, [.ref q1, .int (iI 0), .int (iI 0), .ref q2, .null, .int (iI 0), .int (iI 0)])), (q1, .inl (c1, Zi 60)), (q2, .inl (c2, Zi 8)), (q3, .inl (c3, Zi 32))] H := hP
  have hD : va_D A [(h0, .inr (0, [.ref q1, .int (iI 0), .int (iI 0), .ref q2, .null, .int (iI 0), .int (iI 0)])), (q1, .inl (c1, Zi 60)), (q2, .inl (c2, Zi 8)), (q3, .inl (c3, Zi 32))] := hD
  have hK : va_K D gcl [(c1, .char), (c2, .int), (c3, .int)] s := hK
  refine W.widen (k := 3) (n := 100) (Nat.le_of_ble_eq_true rfl) (Nat.le_of_ble_eq_true rfl) ?_
  refine va_putF (D := D) (ci := 0) (v := .ref q3) (ty := tyX0 4) (C := RX0) (T := TX0) (N := 7) hx hb hts uw_X0 tyX0 tyX0_ok nmX0 hown hK hP hD hS 0 rfl rfl 4 (by decide) (hts _ fl_X0_26) (fun _ h9 => h9) rfl hin rfl (tyX0_ok 4 (by decide)) rfl rfl (Nat.le_of_ble_eq_true rfl) dX0_init_35 (fun H locs hP hD hS => ?_)
  have hP : va_P D gcl [(h0, .inr (0, [.ref q1, .int (iI 0), .int (iI 0), .ref q2, .ref q3, .int (iI 0), .int (iI 0)])), (q1, .inl (c1, Zi 60)), (q2, .inl (c2, Zi 8)), (q3, .inl (c3, Zi 32))] H := hP
  have hD : va_D A [(h0, .inr (0, [.ref q1, .int (iI 0), .int (iI 0), .ref q2, .ref q3, .int (iI 0), .int (iI 0)])), (q1, .inl (c1, Zi 60)), (q2, .inl (c2, Zi 8)), (q3, .inl (c3, Zi 32))] := hD
  refine lv_aload_n hx hb dX0_init_38 rfl (lv_at hl 0 rfl) ?_
  refine lv_iconst (v := iI 0) hx hb dX0_init_39 (by decide) ?_
  refine va_put (D := D) (ci := 0) (v := .int (iI 0)) (ty := tyX0 5) (C := RX0) (T := TX0) (N := 7) hx hb hts uw_X0 tyX0 tyX0_ok nmX0 hown hK hP hD hS 0 rfl rfl 5 (by decide) (hts _ fl_X0_29) (fun _ h9 => h9) rfl (tyX0_ok 5 (by decide)) rfl rfl (Nat.le_of_ble_eq_true rfl) dX0_init_40 (fun H locs hP hD hS => ?_)
  have hP : va_P D gcl [(h0, .inr (0, [.ref q1, .int (iI 0), .int (iI 0), .ref q2, .ref q3, .int (iI 0), .int (iI 0)])), (q1, .inl (c1, Zi 60)), (q2, .inl (c2, Zi 8)), (q3, .inl (c3, Zi 32))] H := hP
  have hD : va_D A [(h0, .inr (0, [.ref q1, .int (iI 0), .int (iI 0), .ref q2, .ref q3, .int (iI 0), .int (iI 0)])), (q1, .inl (c1, Zi 60)), (q2, .inl (c2, Zi 8)), (q3, .inl (c3, Zi 32))] := hD
  refine lv_aload_n hx hb dX0_init_43 rfl (lv_at hl 0 rfl) ?_
  refine lv_iconst (v := iI 0) hx hb dX0_init_44 (by decide) ?_
  refine va_put (D := D) (ci := 0) (v := .int (iI 0)) (ty := tyX0 6) (C := RX0) (T := TX0) (N := 7) hx hb hts uw_X0 tyX0 tyX0_ok nmX0 hown hK hP hD hS 0 rfl rfl 6 (by decide) (hts _ fl_X0_32) (fun _ h9 => h9) rfl (tyX0_ok 6 (by decide)) rfl rfl (Nat.le_of_ble_eq_true rfl) dX0_init_45 (fun H locs hP hD hS => ?_)
  have hP : va_P D gcl [(h0, .inr (0, [.ref q1, .int (iI 0), .int (iI 0), .ref q2, .ref q3, .int (iI 0), .int (iI 0)])), (q1, .inl (c1, Zi 60)), (q2, .inl (c2, Zi 8)), (q3, .inl (c3, Zi 32))] H := hP
  have hD : va_D A [(h0, .inr (0, [.ref q1, .int (iI 0), .int (iI 0), .ref q2, .ref q3, .int (iI 0), .int (iI 0)])), (q1, .inl (c1, Zi 60)), (q2, .inl (c2, Zi 8)), (q3, .inl (c3, Zi 32))] := hD
  exact W.vret hx hb hr (fun t ht hW => ⟨⟨(), rfl, trivial, q1, c1, q2, c2, q3, c3, by rw [ht]; exact hP, va_K.moved hW.alike hK, hD⟩, hS.F ht⟩) hS.2.2 dX0_init_48
abbrev rm_X2_init : Room := { frames := 1, cells := 1, slots := 240, locals := 20 }
abbrev w_X2 (h0 : Nat) (q1 : Nat) (c1 : ClassId) : va_W := [(h0, .inr (2, [.ref q1, .int (iI 0)])), (q1, .inl (c1, Zi 240))]
def at_X2 (D : va_G) (A : Nat → Prop) (h0 : Nat) (U : State) : Prop := ∃ (q1 : Nat) (c1 : ClassId), va_P D gcl (w_X2 h0 q1 c1) U.heap ∧ va_K D gcl [(c1, .char)] U ∧ va_D A (w_X2 h0 q1 c1)
set_option maxHeartbeats 4000000 in
set_option maxRecDepth 100000 in
theorem c_X2_init (l : Launch) (D : va_G) (h0 sz : Nat) : Met l yX2_init (cw yX2_init cX2_init 1 none) rm_X2_init (va_Pc [.ref h0] (IPre D 2 [.null, .int (iI 0)] h0 sz)) (va_Qv (fun _ : Unit => True) (fun _ => at_X2 D (va_A [(h0, .inr (2, [.null, .int (iI 0)]))] sz) h0) (va_A [(h0, .inr (2, [.null, .int (iI 0)]))] sz)) 1 240 (va_A [(h0, .inr (2, [.null, .int (iI 0)]))] sz) := by
  refine Met.ofW (cc := cX2_init) (maxL := 1) (ret := none) (by decide) rfl ?_
  intro p e s m args below meth c s₁ B hml hv
  obtain ⟨rfl, hsz, hP, hK, hNw, hD0⟩ := hv
  have hx := B.exec
  have hb := B.bytes
  have hr := B.returns
  have hts0 := atoms_spec (ws := cw yX2_init cX2_init 1 none) B.pre
  have hts : ∀ w ∈ WA, w.before _ s = true := fun w h => hts0 w (List.mem_cons_of_mem _ h)
  have hown : s.vm.findClass RX2 = some m.cls := findClass_of_methodNamed B.named
  have hlocks := B.notSynchronized
  have hin : meth.name = "<init>" := (name_of_methodNamed B.named B.method).1
  subst hsz
  have hD := hD0.self (sz := s.heap.size)
  generalize hAe : va_A [(h0, .inr (2, [.null, .int (iI 0)]))] s.heap.size = A at hD ⊢
  have hA : ∀ q : Nat, s.heap.size ≤ q → A q := fun q h => by rw [← hAe]; exact Or.inr h
  have hS : va_S A s.heap s.heap [] := va_S.rf
  have hP : va_P D gcl [(h0, .inr (2, [.null, .int (iI 0)]))] s.heap := hP
  have hl := lv_entry ([.ref h0]) (n := 1) (Nat.le_of_ble_eq_true rfl)
  rw [lg_entry_eq]
  generalize (lg_sl ([.ref h0]) ++ List.replicate (1 - (lg_sl ([.ref h0])).length) Slot.unset).toArray = ls at hl ⊢
  have hl : lv_has ls 1 [(0, .ref h0)] := hl
  refine lv_aload_n hx hb dX2_init_0 rfl (lv_at hl 0 rfl) ?_
  refine W.objInit hx hb hown (hts _ ob_X2) (hts _ ob_inst) (hts _ ob_code) rfl (by rw [hml]; exact hl.1) rfl dX2_init_1 (Nat.le_of_ble_eq_true rfl) (Nat.le_of_ble_eq_true rfl) ?_
  refine W.eq (g2 := F0 m 4 ls []) rfl ?_
  refine lv_aload_n hx hb dX2_init_4 rfl (lv_at hl 0 rfl) ?_
  refine lv_sipush (v := iI 240) hx hb dX2_init_5 (by decide) ?_
  refine va_newa (atype := .char) (ty := .char) (a0 := Zi 240) (N' := 240) hx hb (hts _ ar_char) rfl hK hP hD hS hA (fun _ => rfl) (by decide) (by decide) (by decide) (Nat.le_of_ble_eq_true rfl) (Nat.le_of_ble_eq_true rfl) dX2_init_8 (fun q1 c1 H hK hP hD hS => ?_)
  have hP : va_P D gcl [(h0, .inr (2, [.null, .int (iI 0)])), (q1, .inl (c1, Zi 240))] H := hP
  have hD : va_D A [(h0, .inr (2, [.null, .int (iI 0)])), (q1, .inl (c1, Zi 240))] := hD
  have hK : va_K D gcl [(c1, .char)] s := hK
  refine W.widen (k := 1) (n := 240) (Nat.le_of_ble_eq_true rfl) (Nat.le_of_ble_eq_true rfl) ?_
  refine va_putF (D := D) (ci := 2) (v := .ref q1) (ty := tyX2 0) (C := RX2) (T := TX2) (N := 2) hx hb hts uw_X2 tyX2 tyX2_ok nmX2 hown hK hP hD hS 0 rfl rfl 0 (by decide) (hts _ fl_X2_9) (fun _ h9 => h9) rfl hin rfl (tyX2_ok 0 (by decide)) rfl rfl (Nat.le_of_ble_eq_true rfl) dX2_init_10 (fun H locs hP hD hS => ?_)
  have hP : va_P D gcl [(h0, .inr (2, [.ref q1, .int (iI 0)])), (q1, .inl (c1, Zi 240))] H := hP
  have hD : va_D A [(h0, .inr (2, [.ref q1, .int (iI 0)])), (q1, .inl (c1, Zi 240))] := hD
  refine lv_aload_n hx hb dX2_init_13 rfl (lv_at hl 0 rfl) ?_
  refine lv_iconst (v := iI 0) hx hb dX2_init_14 (by decide) ?_
  refine va_put (D := D) (ci := 2) (v := .int (iI 0)) (ty := tyX2 1) (C := RX2) (T := TX2) (N := 2) hx hb hts uw_X2 tyX2 tyX2_ok nmX2 hown hK hP hD hS 0 rfl rfl 1 (by decide) (hts _ fl_X2_15) (fun _ h9 => h9) rfl (tyX2_ok 1 (by decide)) rfl rfl (Nat.le_of_ble_eq_true rfl) dX2_init_15 (fun H locs hP hD hS => ?_)
  have hP : va_P D gcl [(h0, .inr (2, [.ref q1, .int (iI 0)])), (q1, .inl (c1, Zi 240))] H := hP
  have hD : va_D A [(h0, .inr (2, [.ref q1, .int (iI 0)])), (q1, .inl (c1, Zi 240))] := hD
  exact W.vret hx hb hr (fun t ht hW => ⟨⟨(), rfl, trivial, q1, c1, by rw [ht]; exact hP, va_K.moved hW.alike hK, hD⟩, hS.F ht⟩) hS.2.2 dX2_init_18
abbrev rm_X4_init : Room := { frames := 2, cells := 12, slots := 3763, locals := 40 }
abbrev w_X4 (h0 : Nat) (q1 : Nat) (q2 : Nat) (c3 : ClassId) (q4 : Nat) (c4 : ClassId) (q5 : Nat) (c5 : ClassId) (q6 : Nat) (q7 : Nat) (c8 : ClassId) (q9 : Nat) (q10 : Nat) (c11 : ClassId) (q12 : Nat) (c13 : ClassId) (q14 : Nat) (c15 : ClassId) (q16 : Nat) (q17 : Nat) (c18 : ClassId) : va_W := [(h0, .inr (4, [.ref q1, .ref q4, .ref q5, .int (iI 0), .ref q6, .ref q9, .ref q16, .int (iI (-1)), .int (iI (-1))])), (q1, .inr (3, [.ref q2])), (q2, .inl (c3, Zi 310)), (q4, .inl (c4, Zi 310)), (q5, .inl (c5, Zi 310)), (q6, .inr (1, [.ref q7, .int (iI 0), .int (iI 0)])), (q7, .inl (c8, Zi 2480)), (q9, .inr (0, [.ref q10, .int (iI 0), .int (iI 0), .ref q12, .ref q14, .int (iI 0), .int (iI 0)])), (q10, .inl (c11, Zi 60)), (q12, .inl (c13, Zi 8)), (q14, .inl (c15, Zi 32)), (q16, .inr (2, [.ref q17, .int (iI 0)])), (q17, .inl (c18, Zi 240))]
def at_X4 (D : va_G) (A : Nat → Prop) (h0 : Nat) (U : State) : Prop := ∃ (q1 : Nat) (q2 : Nat) (c3 : ClassId) (q4 : Nat) (c4 : ClassId) (q5 : Nat) (c5 : ClassId) (q6 : Nat) (q7 : Nat) (c8 : ClassId) (q9 : Nat) (q10 : Nat) (c11 : ClassId) (q12 : Nat) (c13 : ClassId) (q14 : Nat) (c15 : ClassId) (q16 : Nat) (q17 : Nat) (c18 : ClassId), va_P D gcl (w_X4 h0 q1 q2 c3 q4 c4 q5 c5 q6 q7 c8 q9 q10 c11 q12 c13 q14 c15 q16 q17 c18) U.heap ∧ va_K D gcl [(c3, .int), (c4, .int), (c5, .int), (c8, .int), (c11, .char), (c13, .int), (c15, .int), (c18, .char)] U ∧ va_D A (w_X4 h0 q1 q2 c3 q4 c4 q5 c5 q6 q7 c8 q9 q10 c11 q12 c13 q14 c15 q16 q17 c18)
set_option maxHeartbeats 4000000 in
set_option maxRecDepth 100000 in
theorem c_X4_init (l : Launch) (D : va_G) (h0 sz : Nat) : Met l yX4_init (cw yX4_init cX4_init 1 none) rm_X4_init (va_Pc [.ref h0] (IPre D 4 [.null, .null, .null, .int (iI 0), .null, .null, .null, .int (iI 0), .int (iI 0)] h0 sz)) (va_Qv (fun _ : Unit => True) (fun _ => at_X4 D (va_A [(h0, .inr (4, [.null, .null, .null, .int (iI 0), .null, .null, .null, .int (iI 0), .int (iI 0)]))] sz) h0) (va_A [(h0, .inr (4, [.null, .null, .null, .int (iI 0), .null, .null, .null, .int (iI 0), .int (iI 0)]))] sz)) 12 3763 (va_A [(h0, .inr (4, [.null, .null, .null, .int (iI 0), .null, .null, .null, .int (iI 0), .int (iI 0)]))] sz) := by
  refine Met.ofW (cc := cX4_init) (maxL := 1) (ret := none) (by decide) rfl ?_
  intro p e s m args below meth c s₁ B hml hv
  obtain ⟨rfl, hsz, hP, hK, hNw, hD0⟩ := hv
  have hx := B.exec
  have hb := B.bytes
  have hr := B.returns
  have hts0 := atoms_spec (ws := cw yX4_init cX4_init 1 none) B.pre
  have hts : ∀ w ∈ WA, w.before _ s = true := fun w h => hts0 w (List.mem_cons_of_mem _ h)
  have hown : s.vm.findClass RX4 = some m.cls := findClass_of_methodNamed B.named
  have hlocks := B.notSynchronized
  have hin : meth.name = "<init>" := (name_of_methodNamed B.named B.method).1
  subst hsz
  have hD := hD0.self (sz := s.heap.size)
  generalize hAe : va_A [(h0, .inr (4, [.null, .null, .null, .int (iI 0), .null, .null, .null, .int (iI 0), .int (iI 0)]))] s.heap.size = A at hD ⊢
  have hA : ∀ q : Nat, s.heap.size ≤ q → A q := fun q h => by rw [← hAe]; exact Or.inr h
  have hS : va_S A s.heap s.heap [] := va_S.rf
  have hP : va_P D gcl [(h0, .inr (4, [.null, .null, .null, .int (iI 0), .null, .null, .null, .int (iI 0), .int (iI 0)]))] s.heap := hP
  have hl := lv_entry ([.ref h0]) (n := 1) (Nat.le_of_ble_eq_true rfl)
  rw [lg_entry_eq]
  generalize (lg_sl ([.ref h0]) ++ List.replicate (1 - (lg_sl ([.ref h0])).length) Slot.unset).toArray = ls at hl ⊢
  have hl : lv_has ls 1 [(0, .ref h0)] := hl
  refine lv_aload_n hx hb dX4_init_0 rfl (lv_at hl 0 rfl) ?_
  refine W.objInit hx hb hown (hts _ ob_X4) (hts _ ob_inst) (hts _ ob_code) rfl (by rw [hml]; exact hl.1) rfl dX4_init_1 (Nat.le_of_ble_eq_true rfl) (Nat.le_of_ble_eq_true rfl) ?_
  refine W.eq (g2 := F0 m 4 ls []) rfl ?_
  refine lv_aload_n hx hb dX4_init_4 rfl (lv_at hl 0 rfl) ?_
  refine va_new (ci := 3) (fs := [.null]) (C := RX3) (T := TX3) (N := 1) hx hb hts uw_X3 tyX3 tyX3_ok hown (hts _ ck_X4_9) (hts _ in_X3) (hts _ ii_X3) hK hP hD hS hA rfl (fun j hj => by rcases (show j = 0 by omega) with rfl <;> rfl) (Nat.le_of_ble_eq_true rfl) (Nat.le_of_ble_eq_true rfl) dX4_init_5 (fun q1 H hP hD hS => ?_)
  have hP : va_P D gcl [(h0, .inr (4, [.null, .null, .null, .int (iI 0), .null, .null, .null, .int (iI 0), .int (iI 0)])), (q1, .inr (3, [.null]))] H := hP
  have hD : va_D A [(h0, .inr (4, [.null, .null, .null, .int (iI 0), .null, .null, .null, .int (iI 0), .int (iI 0)])), (q1, .inr (3, [.null]))] := hD
  refine W.widen (k := 1) (n := 1) (Nat.le_of_ble_eq_true rfl) (Nat.le_of_ble_eq_true rfl) ?_
  refine lv_dup hx hb dX4_init_8 rfl ?_
  have hPc := hP.sub (ws' := [(q1, .inr (3, [.null]))]) [1] rfl
  have hDc := hD.sub (ws' := [(q1, .inr (3, [.null]))]) [1] (by decide) rfl
  have hKc := hK.sub (tys' := []) [] rfl
  have hFc := va_free (wc := [(q1, .inr (3, [.null]))]) hD hS hA [1] rfl
  refine va_callv (va_runIN (As := []) (rest := [.ref q1, .ref h0]) ⟨hx, hb, hml, hown, hts⟩ (c_X3_init l D q1 H.size) ⟨va_cnB 0 hts (cw_good mi_X3.1) rfl rfl rfl (hNw _ nk_X4_11 rfl) (hts _ mi_X3.2.2.1) mi_X3.2.2.2 ⟨Nat.le_of_ble_eq_true rfl, Nat.le_of_ble_eq_true rfl⟩, rfl, hts _ mi_X3.2.1⟩ ⟨IPre_blind, fun U hU hW => ⟨rfl, by rw [hU], by rw [hU]; exact hPc, va_K.moved hW.alike hKc, fun w hw hn => isNest_warm hn hW (hNw w hw hn), hDc.weaken (fun _ _ _ _ => trivial)⟩⟩ rfl rfl hl.1 rfl (lv_room (Nat.le_of_ble_eq_true rfl)) dX4_init_9 ⟨Nat.le_of_ble_eq_true rfl, Nat.le_of_ble_eq_true rfl⟩) hS (fun q _ h => hFc q h) hFc (fun u t H1 locs ht hvm h5 hB hz1 hk1 hS => ?_)
  obtain ⟨q2, c3, hP1, hK1, hD1⟩ := hB
  rw [ht] at hP1
  have hK1 := va_K.moved hvm.symm hK1
  obtain ⟨hP, hD⟩ := va_join (wr := [(h0, .inr (4, [.null, .null, .null, .int (iI 0), .null, .null, .null, .int (iI 0), .int (iI 0)]))]) (w1 := [(q1, .inr (3, [.ref q2])), (q2, .inl (c3, Zi 310))]) hP hD [1] [0] rfl rfl (by decide) (by decide) hk1 hFc hP1 hD1
  have hK := hK.app hK1
  generalize H1 = H at hP hS ⊢
  have hP : va_P D gcl [(h0, .inr (4, [.null, .null, .null, .int (iI 0), .null, .null, .null, .int (iI 0), .int (iI 0)])), (q1, .inr (3, [.ref q2])), (q2, .inl (c3, Zi 310))] H := hP
  have hD : va_D A [(h0, .inr (4, [.null, .null, .null, .int (iI 0), .null, .null, .null, .int (iI 0), .int (iI 0)])), (q1, .inr (3, [.ref q2])), (q2, .inl (c3, Zi 310))] := hD
  have hK : va_K D gcl [(c3, .int)] s := hK
  refine W.widen (k := 2) (n := 311) (Nat.le_of_ble_eq_true rfl) (Nat.le_of_ble_eq_true rfl) ?_
  refine va_putF (D := D) (ci := 4) (v := .ref q1) (ty := tyX4 0) (C := RX4) (T := TX4) (N := 9) hx hb hts uw_X4 tyX4 tyX4_ok nmX4 hown hK hP hD hS 0 rfl rfl 0 (by decide) (hts _ fl_X4_12) (fun _ h9 => h9) rfl hin rfl (tyX4_ok 0 (by decide)) rfl rfl (Nat.le_of_ble_eq_true rfl) dX4_init_12 (fun H locs hP hD hS => ?_)
  have hP : va_P D gcl [(h0, .inr (4, [.ref q1, .null, .null, .int (iI 0), .null, .null, .null, .int (iI 0), .int (iI 0)])), (q1, .inr (3, [.ref q2])), (q2, .inl (c3, Zi 310))] H := hP
  have hD : va_D A [(h0, .inr (4, [.ref q1, .null, .null, .int (iI 0), .null, .null, .null, .int (iI 0), .int (iI 0)])), (q1, .inr (3, [.ref q2])), (q2, .inl (c3, Zi 310))] := hD
  refine lv_aload_n hx hb dX4_init_15 rfl (lv_at hl 0 rfl) ?_
  refine lv_sipush (v := iI 310) hx hb dX4_init_16 (by decide) ?_
  refine va_newa (atype := .int) (ty := .int) (a0 := Zi 310) (N' := 310) hx hb (hts _ ar_int) rfl hK hP hD hS hA (fun _ => rfl) (by decide) (by decide) (by decide) (Nat.le_of_ble_eq_true rfl) (Nat.le_of_ble_eq_true rfl) dX4_init_19 (fun q4 c4 H hK hP hD hS => ?_)
  have hP : va_P D gcl [(h0, .inr (4, [.ref q1, .null, .null, .int (iI 0), .null, .null, .null, .int (iI 0), .int (iI 0)])), (q1, .inr (3, [.ref q2])), (q2, .inl (c3, Zi 310)), (q4, .inl (c4, Zi 310))] H := hP
  have hD : va_D A [(h0, .inr (4, [.ref q1, .null, .null, .int (iI 0), .null, .null, .null, .int (iI 0), .int (iI 0)])), (q1, .inr (3, [.ref q2])), (q2, .inl (c3, Zi 310)), (q4, .inl (c4, Zi 310))] := hD
  have hK : va_K D gcl [(c3, .int), (c4, .int)] s := hK
  refine W.widen (k := 3) (n := 621) (Nat.le_of_ble_eq_true rfl) (Nat.le_of_ble_eq_true rfl) ?_
  refine va_putF (D := D) (ci := 4) (v := .ref q4) (ty := tyX4 1) (C := RX4) (T := TX4) (N := 9) hx hb hts uw_X4 tyX4 tyX4_ok nmX4 hown hK hP hD hS 0 rfl rfl 1 (by decide) (hts _ fl_X4_16) (fun _ h9 => h9) rfl hin rfl (tyX4_ok 1 (by decide)) rfl rfl (Nat.le_of_ble_eq_true rfl) dX4_init_21 (fun H locs hP hD hS => ?_)
  have hP : va_P D gcl [(h0, .inr (4, [.ref q1, .ref q4, .null, .int (iI 0), .null, .null, .null, .int (iI 0), .int (iI 0)])), (q1, .inr (3, [.ref q2])), (q2, .inl (c3, Zi 310)), (q4, .inl (c4, Zi 310))] H := hP
  have hD : va_D A [(h0, .inr (4, [.ref q1, .ref q4, .null, .int (iI 0), .null, .null, .null, .int (iI 0), .int (iI 0)])), (q1, .inr (3, [.ref q2])), (q2, .inl (c3, Zi 310)), (q4, .inl (c4, Zi 310))] := hD
  refine lv_aload_n hx hb dX4_init_24 rfl (lv_at hl 0 rfl) ?_
  refine lv_sipush (v := iI 310) hx hb dX4_init_25 (by decide) ?_
  refine va_newa (atype := .int) (ty := .int) (a0 := Zi 310) (N' := 310) hx hb (hts _ ar_int) rfl hK hP hD hS hA (fun _ => rfl) (by decide) (by decide) (by decide) (Nat.le_of_ble_eq_true rfl) (Nat.le_of_ble_eq_true rfl) dX4_init_28 (fun q5 c5 H hK hP hD hS => ?_)
  have hP : va_P D gcl [(h0, .inr (4, [.ref q1, .ref q4, .null, .int (iI 0), .null, .null, .null, .int (iI 0), .int (iI 0)])), (q1, .inr (3, [.ref q2])), (q2, .inl (c3, Zi 310)), (q4, .inl (c4, Zi 310)), (q5, .inl (c5, Zi 310))] H := hP
  have hD : va_D A [(h0, .inr (4, [.ref q1, .ref q4, .null, .int (iI 0), .null, .null, .null, .int (iI 0), .int (iI 0)])), (q1, .inr (3, [.ref q2])), (q2, .inl (c3, Zi 310)), (q4, .inl (c4, Zi 310)), (q5, .inl (c5, Zi 310))] := hD
  have hK : va_K D gcl [(c3, .int), (c4, .int), (c5, .int)] s := hK
  refine W.widen (k := 4) (n := 931) (Nat.le_of_ble_eq_true rfl) (Nat.le_of_ble_eq_true rfl) ?_
  refine va_putF (D := D) (ci := 4) (v := .ref q5) (ty := tyX4 2) (C := RX4) (T := TX4) (N := 9) hx hb hts uw_X4 tyX4 tyX4_ok nmX4 hown hK hP hD hS 0 rfl rfl 2 (by decide) (hts _ fl_X4_20) (fun _ h9 => h9) rfl hin rfl (tyX4_ok 2 (by decide)) rfl rfl (Nat.le_of_ble_eq_true rfl) dX4_init_30 (fun H locs hP hD hS => ?_)
  have hP : va_P D gcl [(h0, .inr (4, [.ref q1, .ref q4, .ref q5, .int (iI 0), .null, .null, .null, .int (iI 0), .int (iI 0)])), (q1, .inr (3, [.ref q2])), (q2, .inl (c3, Zi 310)), (q4, .inl (c4, Zi 310)), (q5, .inl (c5, Zi 310))] H := hP
  have hD : va_D A [(h0, .inr (4, [.ref q1, .ref q4, .ref q5, .int (iI 0), .null, .null, .null, .int (iI 0), .int (iI 0)])), (q1, .inr (3, [.ref q2])), (q2, .inl (c3, Zi 310)), (q4, .inl (c4, Zi 310)), (q5, .inl (c5, Zi 310))] := hD
  refine lv_aload_n hx hb dX4_init_33 rfl (lv_at hl 0 rfl) ?_
  refine lv_iconst (v := iI 0) hx hb dX4_init_34 (by decide) ?_
  refine va_put (D := D) (ci := 4) (v := .int (iI 0)) (ty := tyX4 3) (C := RX4) (T := TX4) (N := 9) hx hb hts uw_X4 tyX4 tyX4_ok nmX4 hown hK hP hD hS 0 rfl rfl 3 (by decide) (hts _ fl_X4_23) (fun _ h9 => h9) rfl (tyX4_ok 3 (by decide)) rfl rfl (Nat.le_of_ble_eq_true rfl) dX4_init_35 (fun H locs hP hD hS => ?_)
  have hP : va_P D gcl [(h0, .inr (4, [.ref q1, .ref q4, .ref q5, .int (iI 0), .null, .null, .null, .int (iI 0), .int (iI 0)])), (q1, .inr (3, [.ref q2])), (q2, .inl (c3, Zi 310)), (q4, .inl (c4, Zi 310)), (q5, .inl (c5, Zi 310))] H := hP
  have hD : va_D A [(h0, .inr (4, [.ref q1, .ref q4, .ref q5, .int (iI 0), .null, .null, .null, .int (iI 0), .int (iI 0)])), (q1, .inr (3, [.ref q2])), (q2, .inl (c3, Zi 310)), (q4, .inl (c4, Zi 310)), (q5, .inl (c5, Zi 310))] := hD
  refine lv_aload_n hx hb dX4_init_38 rfl (lv_at hl 0 rfl) ?_
  refine va_new (ci := 1) (fs := [.null, .int (iI 0), .int (iI 0)]) (C := RX1) (T := TX1) (N := 3) hx hb hts uw_X1 tyX1 tyX1_ok hown (hts _ ck_X4_27) (hts _ in_X1) (hts _ ii_X1) hK hP hD hS hA rfl (fun j hj => by rcases (show j = 0 ∨ j = 1 ∨ j = 2 by omega) with rfl | rfl | rfl <;> rfl) (Nat.le_of_ble_eq_true rfl) (Nat.le_of_ble_eq_true rfl) dX4_init_39 (fun q6 H hP hD hS => ?_)
  have hP : va_P D gcl [(h0, .inr (4, [.ref q1, .ref q4, .ref q5, .int (iI 0), .null, .null, .null, .int (iI 0), .int (iI 0)])), (q1, .inr (3, [.ref q2])), (q2, .inl (c3, Zi 310)), (q4, .inl (c4, Zi 310)), (q5, .inl (c5, Zi 310)), (q6, .inr (1, [.null, .int (iI 0), .int (iI 0)]))] H := hP
  have hD : va_D A [(h0, .inr (4, [.ref q1, .ref q4, .ref q5, .int (iI 0), .null, .null, .null, .int (iI 0), .int (iI 0)])), (q1, .inr (3, [.ref q2])), (q2, .inl (c3, Zi 310)), (q4, .inl (c4, Zi 310)), (q5, .inl (c5, Zi 310)), (q6, .inr (1, [.null, .int (iI 0), .int (iI 0)]))] := hD
  refine W.widen (k := 5) (n := 934) (Nat.le_of_ble_eq_true rfl) (Nat.le_of_ble_eq_true rfl) ?_
  refine lv_dup hx hb dX4_init_42 rfl ?_
  have hPc := hP.sub (ws' := [(q6, .inr (1, [.null, .int (iI 0), .int (iI 0)]))]) [5] rfl
  have hDc := hD.sub (ws' := [(q6, .inr (1, [.null, .int (iI 0), .int (iI 0)]))]) [5] (by decide) rfl
  have hKc := hK.sub (tys' := []) [] rfl
  have hFc := va_free (wc := [(q6, .inr (1, [.null, .int (iI 0), .int (iI 0)]))]) hD hS hA [5] rfl
  refine va_callv (va_runIN (As := []) (rest := [.ref q6, .ref h0]) ⟨hx, hb, hml, hown, hts⟩ (c_X1_init l D q6 H.size) ⟨va_cnB 0 hts (cw_good mi_X1.1) rfl rfl rfl (hNw _ nk_X4_29 rfl) (hts _ mi_X1.2.2.1) mi_X1.2.2.2 ⟨Nat.le_of_ble_eq_true rfl, Nat.le_of_ble_eq_true rfl⟩, rfl, hts _ mi_X1.2.1⟩ ⟨IPre_blind, fun U hU hW => ⟨rfl, by rw [hU], by rw [hU]; exact hPc, va_K.moved hW.alike hKc, fun w hw hn => isNest_warm hn hW (hNw w hw hn), hDc.weaken (fun _ _ _ _ => trivial)⟩⟩ rfl rfl hl.1 rfl (lv_room (Nat.le_of_ble_eq_true rfl)) dX4_init_43 ⟨Nat.le_of_ble_eq_true rfl, Nat.le_of_ble_eq_true rfl⟩) hS (fun q _ h => hFc q h) hFc (fun u t H1 locs ht hvm h5 hB hz1 hk1 hS => ?_)
  obtain ⟨q7, c8, hP1, hK1, hD1⟩ := hB
  rw [ht] at hP1
  have hK1 := va_K.moved hvm.symm hK1
  obtain ⟨hP, hD⟩ := va_join (wr := [(h0, .inr (4, [.ref q1, .ref q4, .ref q5, .int (iI 0), .null, .null, .null, .int (iI 0), .int (iI 0)])), (q1, .inr (3, [.ref q2])), (q2, .inl (c3, Zi 310)), (q4, .inl (c4, Zi 310)), (q5, .inl (c5, Zi 310))]) (w1 := [(q6, .inr (1, [.ref q7, .int (iI 0), .int (iI 0)])), (q7, .inl (c8, Zi 2480))]) hP hD [5] [0, 1, 2, 3, 4] rfl rfl (by decide) (by decide) hk1 hFc hP1 hD1
  have hK := hK.app hK1
  generalize H1 = H at hP hS ⊢
  have hP : va_P D gcl [(h0, .inr (4, [.ref q1, .ref q4, .ref q5, .int (iI 0), .null, .null, .null, .int (iI 0), .int (iI 0)])), (q1, .inr (3, [.ref q2])), (q2, .inl (c3, Zi 310)), (q4, .inl (c4, Zi 310)), (q5, .inl (c5, Zi 310)), (q6, .inr (1, [.ref q7, .int (iI 0), .int (iI 0)])), (q7, .inl (c8, Zi 2480))] H := hP
  have hD : va_D A [(h0, .inr (4, [.ref q1, .ref q4, .ref q5, .int (iI 0), .null, .null, .null, .int (iI 0), .int (iI 0)])), (q1, .inr (3, [.ref q2])), (q2, .inl (c3, Zi 310)), (q4, .inl (c4, Zi 310)), (q5, .inl (c5, Zi 310)), (q6, .inr (1, [.ref q7, .int (iI 0), .int (iI 0)])), (q7, .inl (c8, Zi 2480))] := hD
  have hK : va_K D gcl [(c3, .int), (c4, .int), (c5, .int), (c8, .int)] s := hK
  refine W.widen (k := 6) (n := 3414) (Nat.le_of_ble_eq_true rfl) (Nat.le_of_ble_eq_true rfl) ?_
  refine va_putF (D := D) (ci := 4) (v := .ref q6) (ty := tyX4 4) (C := RX4) (T := TX4) (N := 9) hx hb hts uw_X4 tyX4 tyX4_ok nmX4 hown hK hP hD hS 0 rfl rfl 4 (by decide) (hts _ fl_X4_30) (fun _ h9 => h9) rfl hin rfl (tyX4_ok 4 (by decide)) rfl rfl (Nat.le_of_ble_eq_true rfl) dX4_init_46 (fun H locs hP hD hS => ?_)
  have hP : va_P D gcl [(h0, .inr (4, [.ref q1, .ref q4, .ref q5, .int (iI 0), .ref q6, .null, .null, .int (iI 0), .int (iI 0)])), (q1, .inr (3, [.ref q2])), (q2, .inl (c3, Zi 310)), (q4, .inl (c4, Zi 310)), (q5, .inl (c5, Zi 310)), (q6, .inr (1, [.ref q7, .int (iI 0), .int (iI 0)])), (q7, .inl (c8, Zi 2480))] H := hP
  have hD : va_D A [(h0, .inr (4, [.ref q1, .ref q4, .ref q5, .int (iI 0), .ref q6, .null, .null, .int (iI 0), .int (iI 0)])), (q1, .inr (3, [.ref q2])), (q2, .inl (c3, Zi 310)), (q4, .inl (c4, Zi 310)), (q5, .inl (c5, Zi 310)), (q6, .inr (1, [.ref q7, .int (iI 0), .int (iI 0)])), (q7, .inl (c8, Zi 2480))] := hD
  refine lv_aload_n hx hb dX4_init_49 rfl (lv_at hl 0 rfl) ?_
  refine va_new (ci := 0) (fs := [.null, .int (iI 0), .int (iI 0), .null, .null, .int (iI 0), .int (iI 0)]) (C := RX0) (T := TX0) (N := 7) hx hb hts uw_X0 tyX0 tyX0_ok hown (hts _ ck_X4_34) (hts _ in_X0) (hts _ ii_X0) hK hP hD hS hA rfl (fun j hj => by rcases (show j = 0 ∨ j = 1 ∨ j = 2 ∨ j = 3 ∨ j = 4 ∨ j = 5 ∨ j = 6 by omega) with rfl | rfl | rfl | rfl | rfl | rfl | rfl <;> rfl) (Nat.le_of_ble_eq_true rfl) (Nat.le_of_ble_eq_true rfl) dX4_init_50 (fun q9 H hP hD hS => ?_)
  have hP : va_P D gcl [(h0, .inr (4, [.ref q1, .ref q4, .ref q5, .int (iI 0), .ref q6, .null, .null, .int (iI 0), .int (iI 0)])), (q1, .inr (3, [.ref q2])), (q2, .inl (c3, Zi 310)), (q4, .inl (c4, Zi 310)), (q5, .inl (c5, Zi 310)), (q6, .inr (1, [.ref q7, .int (iI 0), .int (iI 0)])), (q7, .inl (c8, Zi 2480)), (q9, .inr (0, [.null, .int (iI 0), .int (iI 0), .null, .null, .int (iI 0), .int (iI 0)]))] H := hP
  have hD : va_D A [(h0, .inr (4, [.ref q1, .ref q4, .ref q5, .int (iI 0), .ref q6, .null, .null, .int (iI 0), .int (iI 0)])), (q1, .inr (3, [.ref q2])), (q2, .inl (c3, Zi 310)), (q4, .inl (c4, Zi 310)), (q5, .inl (c5, Zi 310)), (q6, .inr (1, [.ref q7, .int (iI 0), .int (iI 0)])), (q7, .inl (c8, Zi 2480)), (q9, .inr (0, [.null, .int (iI 0), .int (iI 0), .null, .null, .int (iI 0), .int (iI 0)]))] := hD
  refine W.widen (k := 7) (n := 3421) (Nat.le_of_ble_eq_true rfl) (Nat.le_of_ble_eq_true rfl) ?_
  refine lv_dup hx hb dX4_init_53 rfl ?_
  have hPc := hP.sub (ws' := [(q9, .inr (0, [.null, .int (iI 0), .int (iI 0), .null, .null, .int (iI 0), .int (iI 0)]))]) [7] rfl
  have hDc := hD.sub (ws' := [(q9, .inr (0, [.null, .int (iI 0), .int (iI 0), .null, .null, .int (iI 0), .int (iI 0)]))]) [7] (by decide) rfl
  have hKc := hK.sub (tys' := []) [] rfl
  have hFc := va_free (wc := [(q9, .inr (0, [.null, .int (iI 0), .int (iI 0), .null, .null, .int (iI 0), .int (iI 0)]))]) hD hS hA [7] rfl
  refine va_callv (va_runIN (As := []) (rest := [.ref q9, .ref h0]) ⟨hx, hb, hml, hown, hts⟩ (c_X0_init l D q9 H.size) ⟨va_cnB 0 hts (cw_good mi_X0.1) rfl rfl rfl (hNw _ nk_X4_36 rfl) (hts _ mi_X0.2.2.1) mi_X0.2.2.2 ⟨Nat.le_of_ble_eq_true rfl, Nat.le_of_ble_eq_true rfl⟩, rfl, hts _ mi_X0.2.1⟩ ⟨IPre_blind, fun U hU hW => ⟨rfl, by rw [hU], by rw [hU]; exact hPc, va_K.moved hW.alike hKc, fun w hw hn => isNest_warm hn hW (hNw w hw hn), hDc.weaken (fun _ _ _ _ => trivial)⟩⟩ rfl rfl hl.1 rfl (lv_room (Nat.le_of_ble_eq_true rfl)) dX4_init_54 ⟨Nat.le_of_ble_eq_true rfl, Nat.le_of_ble_eq_true rfl⟩) hS (fun q _ h => hFc q h) hFc (fun u t H1 locs ht hvm h5 hB hz1 hk1 hS => ?_)
  obtain ⟨q10, c11, q12, c13, q14, c15, hP1, hK1, hD1⟩ := hB
  rw [ht] at hP1
  have hK1 := va_K.moved hvm.symm hK1
  obtain ⟨hP, hD⟩ := va_join (wr := [(h0, .inr (4, [.ref q1, .ref q4, .ref q5, .int (iI 0), .ref q6, .null, .null, .int (iI 0), .int (iI 0)])), (q1, .inr (3, [.ref q2])), (q2, .inl (c3, Zi 310)), (q4, .inl (c4, Zi 310)), (q5, .inl (c5, Zi 310)), (q6, .inr (1, [.ref q7, .int (iI 0), .int (iI 0)])), (q7, .inl (c8, Zi 2480))]) (w1 := [(q9, .inr (0, [.ref q10, .int (iI 0), .int (iI 0), .ref q12, .ref q14, .int (iI 0), .int (iI 0)])), (q10, .inl (c11, Zi 60)), (q12, .inl (c13, Zi 8)), (q14, .inl (c15, Zi 32))]) hP hD [7] [0, 1, 2, 3, 4, 5, 6] rfl rfl (by decide) (by decide) hk1 hFc hP1 hD1
  have hK := hK.app hK1
  generalize H1 = H at hP hS ⊢
  have hP : va_P D gcl [(h0, .inr (4, [.ref q1, .ref q4, .ref q5, .int (iI 0), .ref q6, .null, .null, .int (iI 0), .int (iI 0)])), (q1, .inr (3, [.ref q2])), (q2, .inl (c3, Zi 310)), (q4, .inl (c4, Zi 310)), (q5, .inl (c5, Zi 310)), (q6, .inr (1, [.ref q7, .int (iI 0), .int (iI 0)])), (q7, .inl (c8, Zi 2480)), (q9, .inr (0, [.ref q10, .int (iI 0), .int (iI 0), .ref q12, .ref q14, .int (iI 0), .int (iI 0)])), (q10, .inl (c11, Zi 60)), (q12, .inl (c13, Zi 8)), (q14, .inl (c15, Zi 32))] H := hP
  have hD : va_D A [(h0, .inr (4, [.ref q1, .ref q4, .ref q5, .int (iI 0), .ref q6, .null, .null, .int (iI 0), .int (iI 0)])), (q1, .inr (3, [.ref q2])), (q2, .inl (c3, Zi 310)), (q4, .inl (c4, Zi 310)), (q5, .inl (c5, Zi 310)), (q6, .inr (1, [.ref q7, .int (iI 0), .int (iI 0)])), (q7, .inl (c8, Zi 2480)), (q9, .inr (0, [.ref q10, .int (iI 0), .int (iI 0), .ref q12, .ref q14, .int (iI 0), .int (iI 0)])), (q10, .inl (c11, Zi 60)), (q12, .inl (c13, Zi 8)), (q14, .inl (c15, Zi 32))] := hD
  have hK : va_K D gcl [(c3, .int), (c4, .int), (c5, .int), (c8, .int), (c11, .char), (c13, .int), (c15, .int)] s := hK
  refine W.widen (k := 10) (n := 3521) (Nat.le_of_ble_eq_true rfl) (Nat.le_of_ble_eq_true rfl) ?_
  refine va_putF (D := D) (ci := 4) (v := .ref q9) (ty := tyX4 5) (C := RX4) (T := TX4) (N := 9) hx hb hts uw_X4 tyX4 tyX4_ok nmX4 hown hK hP hD hS 0 rfl rfl 5 (by decide) (hts _ fl_X4_37) (fun _ h9 => h9) rfl hin rfl (tyX4_ok 5 (by decide)) rfl rfl (Nat.le_of_ble_eq_true rfl) dX4_init_57 (fun H locs hP hD hS => ?_)
  have hP : va_P D gcl [(h0, .inr (4, [.ref q1, .ref q4, .ref q5, .int (iI 0), .ref q6, .ref q9, .null, .int (iI 0), .int (iI 0)])), (q1, .inr (3, [.ref q2])), (q2, .inl (c3, Zi 310)), (q4, .inl (c4, Zi 310)), (q5, .inl (c5, Zi 310)), (q6, .inr (1, [.ref q7, .int (iI 0), .int (iI 0)])), (q7, .inl (c8, Zi 2480)), (q9, .inr (0, [.ref q10, .int (iI 0), .int (iI 0), .ref q12, .ref q14, .int (iI 0), .int (iI 0)])), (q10, .inl (c11, Zi 60)), (q12, .inl (c13, Zi 8)), (q14, .inl (c15, Zi 32))] H := hP
  have hD : va_D A [(h0, .inr (4, [.ref q1, .ref q4, .ref q5, .int (iI 0), .ref q6, .ref q9, .null, .int (iI 0), .int (iI 0)])), (q1, .inr (3, [.ref q2])), (q2, .inl (c3, Zi 310)), (q4, .inl (c4, Zi 310)), (q5, .inl (c5, Zi 310)), (q6, .inr (1, [.ref q7, .int (iI 0), .int (iI 0)])), (q7, .inl (c8, Zi 2480)), (q9, .inr (0, [.ref q10, .int (iI 0), .int (iI 0), .ref q12, .ref q14, .int (iI 0), .int (iI 0)])), (q10, .inl (c11, Zi 60)), (q12, .inl (c13, Zi 8)), (q14, .inl (c15, Zi 32))] := hD
  refine lv_aload_n hx hb dX4_init_60 rfl (lv_at hl 0 rfl) ?_
  refine va_new (ci := 2) (fs := [.null, .int (iI 0)]) (C := RX2) (T := TX2) (N := 2) hx hb hts uw_X2 tyX2 tyX2_ok hown (hts _ ck_X4_41) (hts _ in_X2) (hts _ ii_X2) hK hP hD hS hA rfl (fun j hj => by rcases (show j = 0 ∨ j = 1 by omega) with rfl | rfl <;> rfl) (Nat.le_of_ble_eq_true rfl) (Nat.le_of_ble_eq_true rfl) dX4_init_61 (fun q16 H hP hD hS => ?_)
  have hP : va_P D gcl [(h0, .inr (4, [.ref q1, .ref q4, .ref q5, .int (iI 0), .ref q6, .ref q9, .null, .int (iI 0), .int (iI 0)])), (q1, .inr (3, [.ref q2])), (q2, .inl (c3, Zi 310)), (q4, .inl (c4, Zi 310)), (q5, .inl (c5, Zi 310)), (q6, .inr (1, [.ref q7, .int (iI 0), .int (iI 0)])), (q7, .inl (c8, Zi 2480)), (q9, .inr (0, [.ref q10, .int (iI 0), .int (iI 0), .ref q12, .ref q14, .int (iI 0), .int (iI 0)])), (q10, .inl (c11, Zi 60)), (q12, .inl (c13, Zi 8)), (q14, .inl (c15, Zi 32)), (q16, .inr (2, [.null, .int (iI 0)]))] H := hP
  have hD : va_D A [(h0, .inr (4, [.ref q1, .ref q4, .ref q5, .int (iI 0), .ref q6, .ref q9, .null, .int (iI 0), .int (iI 0)])), (q1, .inr (3, [.ref q2])), (q2, .inl (c3, Zi 310)), (q4, .inl (c4, Zi 310)), (q5, .inl (c5, Zi 310)), (q6, .inr (1, [.ref q7, .int (iI 0), .int (iI 0)])), (q7, .inl (c8, Zi 2480)), (q9, .inr (0, [.ref q10, .int (iI 0), .int (iI 0), .ref q12, .ref q14, .int (iI 0), .int (iI 0)])), (q10, .inl (c11, Zi 60)), (q12, .inl (c13, Zi 8)), (q14, .inl (c15, Zi 32)), (q16, .inr (2, [.null, .int (iI 0)]))] := hD
  refine W.widen (k := 11) (n := 3523) (Nat.le_of_ble_eq_true rfl) (Nat.le_of_ble_eq_true rfl) ?_
  refine lv_dup hx hb dX4_init_64 rfl ?_
  have hPc := hP.sub (ws' := [(q16, .inr (2, [.null, .int (iI 0)]))]) [11] rfl
  have hDc := hD.sub (ws' := [(q16, .inr (2, [.null, .int (iI 0)]))]) [11] (by decide) rfl
  have hKc := hK.sub (tys' := []) [] rfl
  have hFc := va_free (wc := [(q16, .inr (2, [.null, .int (iI 0)]))]) hD hS hA [11] rfl
  refine va_callv (va_runIN (As := []) (rest := [.ref q16, .ref h0]) ⟨hx, hb, hml, hown, hts⟩ (c_X2_init l D q16 H.size) ⟨va_cnB 0 hts (cw_good mi_X2.1) rfl rfl rfl (hNw _ nk_X4_43 rfl) (hts _ mi_X2.2.2.1) mi_X2.2.2.2 ⟨Nat.le_of_ble_eq_true rfl, Nat.le_of_ble_eq_true rfl⟩, rfl, hts _ mi_X2.2.1⟩ ⟨IPre_blind, fun U hU hW => ⟨rfl, by rw [hU], by rw [hU]; exact hPc, va_K.moved hW.alike hKc, fun w hw hn => isNest_warm hn hW (hNw w hw hn), hDc.weaken (fun _ _ _ _ => trivial)⟩⟩ rfl rfl hl.1 rfl (lv_room (Nat.le_of_ble_eq_true rfl)) dX4_init_65 ⟨Nat.le_of_ble_eq_true rfl, Nat.le_of_ble_eq_true rfl⟩) hS (fun q _ h => hFc q h) hFc (fun u t H1 locs ht hvm h5 hB hz1 hk1 hS => ?_)
  obtain ⟨q17, c18, hP1, hK1, hD1⟩ := hB
  rw [ht] at hP1
  have hK1 := va_K.moved hvm.symm hK1
  obtain ⟨hP, hD⟩ := va_join (wr := [(h0, .inr (4, [.ref q1, .ref q4, .ref q5, .int (iI 0), .ref q6, .ref q9, .null, .int (iI 0), .int (iI 0)])), (q1, .inr (3, [.ref q2])), (q2, .inl (c3, Zi 310)), (q4, .inl (c4, Zi 310)), (q5, .inl (c5, Zi 310)), (q6, .inr (1, [.ref q7, .int (iI 0), .int (iI 0)])), (q7, .inl (c8, Zi 2480)), (q9, .inr (0, [.ref q10, .int (iI 0), .int (iI 0), .ref q12, .ref q14, .int (iI 0), .int (iI 0)])), (q10, .inl (c11, Zi 60)), (q12, .inl (c13, Zi 8)), (q14, .inl (c15, Zi 32))]) (w1 := [(q16, .inr (2, [.ref q17, .int (iI 0)])), (q17, .inl (c18, Zi 240))]) hP hD [11] [0, 1, 2, 3, 4, 5, 6, 7, 8, 9, 10] rfl rfl (by decide) (by decide) hk1 hFc hP1 hD1
  have hK := hK.app hK1
  generalize H1 = H at hP hS ⊢
  have hP : va_P D gcl [(h0, .inr (4, [.ref q1, .ref q4, .ref q5, .int (iI 0), .ref q6, .ref q9, .null, .int (iI 0), .int (iI 0)])), (q1, .inr (3, [.ref q2])), (q2, .inl (c3, Zi 310)), (q4, .inl (c4, Zi 310)), (q5, .inl (c5, Zi 310)), (q6, .inr (1, [.ref q7, .int (iI 0), .int (iI 0)])), (q7, .inl (c8, Zi 2480)), (q9, .inr (0, [.ref q10, .int (iI 0), .int (iI 0), .ref q12, .ref q14, .int (iI 0), .int (iI 0)])), (q10, .inl (c11, Zi 60)), (q12, .inl (c13, Zi 8)), (q14, .inl (c15, Zi 32)), (q16, .inr (2, [.ref q17, .int (iI 0)])), (q17, .inl (c18, Zi 240))] H := hP
  have hD : va_D A [(h0, .inr (4, [.ref q1, .ref q4, .ref q5, .int (iI 0), .ref q6, .ref q9, .null, .int (iI 0), .int (iI 0)])), (q1, .inr (3, [.ref q2])), (q2, .inl (c3, Zi 310)), (q4, .inl (c4, Zi 310)), (q5, .inl (c5, Zi 310)), (q6, .inr (1, [.ref q7, .int (iI 0), .int (iI 0)])), (q7, .inl (c8, Zi 2480)), (q9, .inr (0, [.ref q10, .int (iI 0), .int (iI 0), .ref q12, .ref q14, .int (iI 0), .int (iI 0)])), (q10, .inl (c11, Zi 60)), (q12, .inl (c13, Zi 8)), (q14, .inl (c15, Zi 32)), (q16, .inr (2, [.ref q17, .int (iI 0)])), (q17, .inl (c18, Zi 240))] := hD
  have hK : va_K D gcl [(c3, .int), (c4, .int), (c5, .int), (c8, .int), (c11, .char), (c13, .int), (c15, .int), (c18, .char)] s := hK
  refine W.widen (k := 12) (n := 3763) (Nat.le_of_ble_eq_true rfl) (Nat.le_of_ble_eq_true rfl) ?_
  refine va_putF (D := D) (ci := 4) (v := .ref q16) (ty := tyX4 6) (C := RX4) (T := TX4) (N := 9) hx hb hts uw_X4 tyX4 tyX4_ok nmX4 hown hK hP hD hS 0 rfl rfl 6 (by decide) (hts _ fl_X4_44) (fun _ h9 => h9) rfl hin rfl (tyX4_ok 6 (by decide)) rfl rfl (Nat.le_of_ble_eq_true rfl) dX4_init_68 (fun H locs hP hD hS => ?_)
  have hP : va_P D gcl [(h0, .inr (4, [.ref q1, .ref q4, .ref q5, .int (iI 0), .ref q6, .ref q9, .ref q16, .int (iI 0), .int (iI 0)])), (q1, .inr (3, [.ref q2])), (q2, .inl (c3, Zi 310)), (q4, .inl (c4, Zi 310)), (q5, .inl (c5, Zi 310)), (q6, .inr (1, [.ref q7, .int (iI 0), .int (iI 0)])), (q7, .inl (c8, Zi 2480)), (q9, .inr (0, [.ref q10, .int (iI 0), .int (iI 0), .ref q12, .ref q14, .int (iI 0), .int (iI 0)])), (q10, .inl (c11, Zi 60)), (q12, .inl (c13, Zi 8)), (q14, .inl (c15, Zi 32)), (q16, .inr (2, [.ref q17, .int (iI 0)])), (q17, .inl (c18, Zi 240))] H := hP
  have hD : va_D A [(h0, .inr (4, [.ref q1, .ref q4, .ref q5, .int (iI 0), .ref q6, .ref q9, .ref q16, .int (iI 0), .int (iI 0)])), (q1, .inr (3, [.ref q2])), (q2, .inl (c3, Zi 310)), (q4, .inl (c4, Zi 310)), (q5, .inl (c5, Zi 310)), (q6, .inr (1, [.ref q7, .int (iI 0), .int (iI 0)])), (q7, .inl (c8, Zi 2480)), (q9, .inr (0, [.ref q10, .int (iI 0), .int (iI 0), .ref q12, .ref q14, .int (iI 0), .int (iI 0)])), (q10, .inl (c11, Zi 60)), (q12, .inl (c13, Zi 8)), (q14, .inl (c15, Zi 32)), (q16, .inr (2, [.ref q17, .int (iI 0)])), (q17, .inl (c18, Zi 240))] := hD
  refine lv_aload_n hx hb dX4_init_71 rfl (lv_at hl 0 rfl) ?_
  refine lv_iconst (v := iI (-1)) hx hb dX4_init_72 (by decide) ?_
  refine va_put (D := D) (ci := 4) (v := .int (iI (-1))) (ty := tyX4 7) (C := RX4) (T := TX4) (N := 9) hx hb hts uw_X4 tyX4 tyX4_ok nmX4 hown hK hP hD hS 0 rfl rfl 7 (by decide) (hts _ fl_X4_48) (fun _ h9 => h9) rfl (tyX4_ok 7 (by decide)) rfl rfl (Nat.le_of_ble_eq_true rfl) dX4_init_73 (fun H locs hP hD hS => ?_)
  have hP : va_P D gcl [(h0, .inr (4, [.ref q1, .ref q4, .ref q5, .int (iI 0), .ref q6, .ref q9, .ref q16, .int (iI (-1)), .int (iI 0)])), (q1, .inr (3, [.ref q2])), (q2, .inl (c3, Zi 310)), (q4, .inl (c4, Zi 310)), (q5, .inl (c5, Zi 310)), (q6, .inr (1, [.ref q7, .int (iI 0), .int (iI 0)])), (q7, .inl (c8, Zi 2480)), (q9, .inr (0, [.ref q10, .int (iI 0), .int (iI 0), .ref q12, .ref q14, .int (iI 0), .int (iI 0)])), (q10, .inl (c11, Zi 60)), (q12, .inl (c13, Zi 8)), (q14, .inl (c15, Zi 32)), (q16, .inr (2, [.ref q17, .int (iI 0)])), (q17, .inl (c18, Zi 240))] H := hP
  have hD : va_D A [(h0, .inr (4, [.ref q1, .ref q4, .ref q5, .int (iI 0), .ref q6, .ref q9, .ref q16, .int (iI (-1)), .int (iI 0)])), (q1, .inr (3, [.ref q2])), (q2, .inl (c3, Zi 310)), (q4, .inl (c4, Zi 310)), (q5, .inl (c5, Zi 310)), (q6, .inr (1, [.ref q7, .int (iI 0), .int (iI 0)])), (q7, .inl (c8, Zi 2480)), (q9, .inr (0, [.ref q10, .int (iI 0), .int (iI 0), .ref q12, .ref q14, .int (iI 0), .int (iI 0)])), (q10, .inl (c11, Zi 60)), (q12, .inl (c13, Zi 8)), (q14, .inl (c15, Zi 32)), (q16, .inr (2, [.ref q17, .int (iI 0)])), (q17, .inl (c18, Zi 240))] := hD
  refine lv_aload_n hx hb dX4_init_76 rfl (lv_at hl 0 rfl) ?_
  refine lv_iconst (v := iI (-1)) hx hb dX4_init_77 (by decide) ?_
  refine va_put (D := D) (ci := 4) (v := .int (iI (-1))) (ty := tyX4 8) (C := RX4) (T := TX4) (N := 9) hx hb hts uw_X4 tyX4 tyX4_ok nmX4 hown hK hP hD hS 0 rfl rfl 8 (by decide) (hts _ fl_X4_52) (fun _ h9 => h9) rfl (tyX4_ok 8 (by decide)) rfl rfl (Nat.le_of_ble_eq_true rfl) dX4_init_78 (fun H locs hP hD hS => ?_)
  have hP : va_P D gcl [(h0, .inr (4, [.ref q1, .ref q4, .ref q5, .int (iI 0), .ref q6, .ref q9, .ref q16, .int (iI (-1)), .int (iI (-1))])), (q1, .inr (3, [.ref q2])), (q2, .inl (c3, Zi 310)), (q4, .inl (c4, Zi 310)), (q5, .inl (c5, Zi 310)), (q6, .inr (1, [.ref q7, .int (iI 0), .int (iI 0)])), (q7, .inl (c8, Zi 2480)), (q9, .inr (0, [.ref q10, .int (iI 0), .int (iI 0), .ref q12, .ref q14, .int (iI 0), .int (iI 0)])), (q10, .inl (c11, Zi 60)), (q12, .inl (c13, Zi 8)), (q14, .inl (c15, Zi 32)), (q16, .inr (2, [.ref q17, .int (iI 0)])), (q17, .inl (c18, Zi 240))] H := hP
  have hD : va_D A [(h0, .inr (4, [.ref q1, .ref q4, .ref q5, .int (iI 0), .ref q6, .ref q9, .ref q16, .int (iI (-1)), .int (iI (-1))])), (q1, .inr (3, [.ref q2])), (q2, .inl (c3, Zi 310)), (q4, .inl (c4, Zi 310)), (q5, .inl (c5, Zi 310)), (q6, .inr (1, [.ref q7, .int (iI 0), .int (iI 0)])), (q7, .inl (c8, Zi 2480)), (q9, .inr (0, [.ref q10, .int (iI 0), .int (iI 0), .ref q12, .ref q14, .int (iI 0), .int (iI 0)])), (q10, .inl (c11, Zi 60)), (q12, .inl (c13, Zi 8)), (q14, .inl (c15, Zi 32)), (q16, .inr (2, [.ref q17, .int (iI 0)])), (q17, .inl (c18, Zi 240))] := hD
  exact W.vret hx hb hr (fun t ht hW => ⟨⟨(), rfl, trivial, q1, q2, c3, q4, c4, q5, c5, q6, q7, c8, q9, q10, c11, q12, c13, q14, c15, q16, q17, c18, by rw [ht]; exact hP, va_K.moved hW.alike hK, hD⟩, hS.F ht⟩) hS.2.2 dX4_init_81
