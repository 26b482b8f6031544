/-! THE CLAIM OUT OF ONE WALK OF THE LAW'S BODY. Your part is whole_start (and what it stands on); all else here is the same for every law, but numbers. -/
def R_law : String := "RibbonQuarryLaw"
def lw_P (b : Addr) (xs : List Int32) (args : Array Value) (s : State) : Prop := args = #[.ref b] ∧ s.IntsAt b xs ∧ xs.length ≤ 260 ∧ (Jvm.Cond.and given_1 narrow_1).before args s = true
/-- what a walk over the start with the record d0 says of its end, said of the start itself -/
theorem lw_closed {s t : State} {o : Outcome} {d0 : Drawn} {L : List Loc} {k n : Nat} (hd0 : s.drawn.sameBut d0 lw_cs) (hv : ∃ v, o = .returned v) (hW : (s.setDrawn d0).WarmedH t.vm) (hs : (s.setDrawn d0).sameButNew ({ t with vm := s.vm } : State) L k n) : State.butDraws s t lw_cs (fun t1 => Framed s o t1 L k n) := by
  have h2 : t.drawn = d0 := congrArg State.drawn hs.1
  refine ⟨⟨hv, hW, State.sameButNew.setDrawn hs s.drawn⟩, ?_, by decide⟩
  rw [h2]
  exact hd0
def lw_Q (_ : Array Value) (s : State) (o : Outcome) (t : State) : Prop := o = .returned (some (.int 1)) ∧ State.butDraws s t lw_cs (fun t1 => Framed s o t1 [] 600312 7292162)
def lw_Z (below : List Frame) (a : Array Value) (s : State) : State → Prop := fun t => ∃ o, t.status = .running ∧ Ended t below o ∧ lw_Q a s o t
/-- the law's own end, with 1 on the stack, nothing written that was there before, its room as the claim has it; d0: the record of draws at this point (at the entry s.drawn: begin with 'refine W.base ?_' and 'have hd0 := Drawn.sameBut.refl s.drawn lw_cs') -/
theorem lw_ret {p : Program} {l : Launch} {e : Env} {s : State} {m : MethodId} {below : List Frame} {meth : Method} {c : Code} {b : Nat} {d0 : Drawn} (hd0 : s.drawn.sameBut d0 lw_cs) (hx : p.tables.exec = Jvm.exec) (hb : c.code = code) (hr : meth.sig.returnType = ret) (hlocks : meth.locks = false) {pc : Nat} {H : Heap} {ls : Array Slot} (hdg : decode code pc = .ok (.ireturn, 1)) : W p l e room_1 (s.setDrawn d0) m #[Value.ref b] below meth c H [] 600312 7292162 (lw_Z below #[Value.ref b] s) (F0 m pc ls [.int 1]) := by
  intro T hT X
  obtain ⟨fs, hret, hrun, hended, hW, hframe⟩ := X.leave (v := some (.int 1)) (hlocks := hlocks) (fun h => by rw [hr] at h; cases h)
  have hmeth' : T.vm.method? m = some meth := X.method'
  refine ⟨T.setFrames fs, ?_, .returned (some (.int 1)), hrun, hended, rfl, lw_closed hd0 ⟨_, rfl⟩ hW hframe⟩
  jvm_step X.here [X.here.top, hx, hb, hdg, hmeth', hr, ret, narrow_b1]
  (try refine ⟨rfl, ?_⟩); (try refine ⟨rfl, ?_⟩)
  first | (intro acts; rw [hret _ acts rfl rfl rfl]) | rw [hret _ _ rfl rfl rfl]
  exact Steps.refl _
/-- what holds at the law's entry: the machine, the code, the tables' words (any of lw_tbl by 'hts w (by decide +kernel)'), the script of L ints xs at the cell b, what the Statement gives of the start (any of its parts by flat_of_before) -/
def lw_At (p : Program) (s : State) (m : MethodId) (meth : Method) (c : Code) (b L : Nat) (xs : Nat → Int32) : Prop :=
  p.tables.exec = Jvm.exec ∧ c.code = code ∧ meth.sig.returnType = ret ∧ c.maxLocals = 21 ∧ s.vm.findClass R_law = some m.cls ∧ (∀ w ∈ lw_tbl, w.before #[Value.ref b] s = true) ∧ va_X b L xs s s.heap ∧ b < s.heap.size ∧ meth.locks = false ∧ (Jvm.Cond.and given_1 narrow_1).before #[Value.ref b] s = true
/-- the state of all objects as they are made -/
def s0 : SS := st (fun _ => z0) 0 (pt (pt z0 7 (-1)) 8 (-1))
theorem CW_z0 : CW z0 := fun r _ => ⟨⟨by show (0 : Int) ≤ 0; omega, by show (0 : Int) ≤ 60; omega⟩, fun p hp => absurd hp (by show ¬ (0 ≤ p ∧ p < (0 : Int)); omega)⟩
theorem PW_z0 : PW z0 := fun u hu => by
  have h1 : psum z0 u = 0 := sI_nil (by show min (u % 8 * 8 + 8) (0 : Int) ≤ u % 8 * 8; omega)
  have h2 : ptan z0 u = 0 := sI_nil (by show min (u % 8 * 8 + 8) (0 : Int) - 1 ≤ u % 8 * 8; omega)
  exact ⟨by rw [h1], by rw [h2]⟩
theorem KPW_z0 : KPW z0 z0 := ⟨fun i _ => ⟨by show (0 : Int) ≤ 0; omega, by show (0 : Int) ≤ 8; omega⟩, fun z _ => ⟨by show (0 : Int) ≤ 0; omega, by show (0 : Int) ≤ 99; omega⟩⟩
set_option maxHeartbeats 8000000 in
set_option maxRecDepth 100000 in
theorem whole_start {p : Program} {e : Env} {s : State} {m : MethodId} {below : List Frame} {meth : Method} {c : Code} (l : Launch) (hflags : l.flags = flags0) {b L : Nat} {xs : Nat → Int32} (hL : L ≤ 260) (C0 : lw_At p s m meth c b L xs) : W p l e room_1 s m #[Value.ref b] below meth c s.heap [] 0 0 (lw_Z below #[Value.ref b] s) (entryFrame m ([Value.ref b] : List Value).toArray 21) := by
  obtain ⟨hx, hb, hr, hml, hown, hts, hX, hbl, hlocks, hgv⟩ := C0
  have hst : l.stackTraces = false := by unfold Launch.stackTraces; rw [hflags]; decide
  have htW : ∀ w ∈ WA, w.before #[Value.ref b] s = true := WA_hts hts
  obtain ⟨D, hK⟩ := start_D htW
  have hNw : ∀ w ∈ tables_1, isNest w = true → va_Nw w s := fun w hw hn => va_Nw.of (isNest_tab hn) (hts w (tab_lw hw))
  obtain ⟨A, hAe⟩ : ∃ A : Nat → Prop, A = fun q => s.heap.size ≤ q := ⟨_, rfl⟩
  have hA : ∀ q : Nat, s.heap.size ≤ q → A q := fun q h => by rw [hAe]; exact h
  have hA2 : ∀ q : Nat, A q → s.heap.size ≤ q := fun q h => by rw [hAe] at h; exact h
  have hS : va_S A s.heap s.heap [] := va_S.rf
  have hP : va_P D gcl [] s.heap := fun k q hk => by cases hk
  have hD : va_D A [] := ⟨fun i j p q h => (by cases h), fun k q h => (by cases h)⟩
  have hl := lv_entry ([.ref b]) (n := 21) (Nat.le_of_ble_eq_true rfl)
  rw [lg_entry_eq]
  generalize (lg_sl ([.ref b]) ++ List.replicate (21 - (lg_sl ([.ref b])).length) Slot.unset).toArray = ls at hl ⊢
  have hl : lv_has ls 21 [(0, .ref b)] := hl
  refine va_new (ci := 4) (fs := [.null, .null, .null, .int (iI 0), .null, .null, .null, .int (iI 0), .int (iI 0)]) (C := RX4) (T := TX4) (N := 9) hx hb htW uw_X4 tyX4 tyX4_ok hown (htW _ ck_L_15) (htW _ in_X4) (htW _ ii_X4) hK hP hD hS hA rfl (fun j hj => by rcases (show j = 0 ∨ j = 1 ∨ j = 2 ∨ j = 3 ∨ j = 4 ∨ j = 5 ∨ j = 6 ∨ j = 7 ∨ j = 8 by omega) with rfl | rfl | rfl | rfl | rfl | rfl | rfl | rfl | rfl <;> rfl) (Nat.le_of_ble_eq_true rfl) (Nat.le_of_ble_eq_true rfl) dL_law_0 (fun q1 H hP hD hS => ?_)
  have hP : va_P D gcl [(q1, .inr (4, [.null, .null, .null, .int (iI 0), .null, .null, .null, .int (iI 0), .int (iI 0)]))] H := hP
  have hD : va_D A [(q1, .inr (4, [.null, .null, .null, .int (iI 0), .null, .null, .null, .int (iI 0), .int (iI 0)]))] := hD
  refine W.widen (k := 1) (n := 9) (Nat.le_of_ble_eq_true rfl) (Nat.le_of_ble_eq_true rfl) ?_
  refine lv_dup hx hb dL_law_3 rfl ?_
  have hPc := hP.sub (ws' := [(q1, .inr (4, [.null, .null, .null, .int (iI 0), .null, .null, .null, .int (iI 0), .int (iI 0)]))]) [0] rfl
  have hDc := hD.sub (ws' := [(q1, .inr (4, [.null, .null, .null, .int (iI 0), .null, .null, .null, .int (iI 0), .int (iI 0)]))]) [0] (by decide) rfl
  have hKc := hK.sub (tys' := []) [] rfl
  have hFc := va_free (wc := [(q1, .inr (4, [.null, .null, .null, .int (iI 0), .null, .null, .null, .int (iI 0), .int (iI 0)]))]) hD hS hA [0] rfl
  refine va_callv (va_runI (As := []) (rest := [.ref q1]) ⟨hx, hb, hml, hown, htW⟩ (c_X4_init l D q1 H.size) (cwI 0 htW (cw_good mi_X4.1) rfl rfl rfl (htW _ mi_X4.2.2.1) (htW _ lk_L_177) (htW _ mi_X4.2.1) rfl mi_X4.2.2.2 ⟨Nat.le_of_ble_eq_true rfl, Nat.le_of_ble_eq_true rfl⟩) ⟨IPre_blind, fun U hU hW => ⟨rfl, by rw [hU], by rw [hU]; exact hPc, va_K.moved hW.alike hKc, fun w hw hn => isNest_warm hn hW (hNw w hw hn), hDc.weaken (fun _ _ _ _ => trivial)⟩⟩ rfl rfl hl.1 rfl (lv_room (Nat.le_of_ble_eq_true rfl)) dL_law_4 ⟨Nat.le_of_ble_eq_true rfl, Nat.le_of_ble_eq_true rfl⟩) hS (fun q _ h => hFc q h) hFc (fun u t H1 locs ht hvm h5 hB hz1 hk1 hS => ?_)
  obtain ⟨q2, q3, c4, q5, c6, q7, c8, q9, q10, c11, q12, q13, c14, q15, c16, q17, c18, q19, q20, c21, hP1, hK1, hD1⟩ := hB
  rw [ht] at hP1
  have hK1 := va_K.moved hvm.symm hK1
  obtain ⟨hP, hD⟩ := va_join (wr := []) (w1 := [(q1, .inr (4, [.ref q2, .ref q5, .ref q7, .int (iI 0), .ref q9, .ref q12, .ref q19, .int (iI (-1)), .int (iI (-1))])), (q2, .inr (3, [.ref q3])), (q3, .inl (c4, Zi 310)), (q5, .inl (c6, Zi 310)), (q7, .inl (c8, Zi 310)), (q9, .inr (1, [.ref q10, .int (iI 0), .int (iI 0)])), (q10, .inl (c11, Zi 2480)), (q12, .inr (0, [.ref q13, .int (iI 0), .int (iI 0), .ref q15, .ref q17, .int (iI 0), .int (iI 0)])), (q13, .inl (c14, Zi 60)), (q15, .inl (c16, Zi 8)), (q17, .inl (c18, Zi 32)), (q19, .inr (2, [.ref q20, .int (iI 0)])), (q20, .inl (c21, Zi 240))]) hP hD [0] [] rfl rfl (by decide) (by decide) hk1 hFc hP1 hD1
  have hK := hK.app hK1
  generalize H1 = H at hP hS ⊢
  have hP : va_P D gcl [(q1, .inr (4, [.ref q2, .ref q5, .ref q7, .int (iI 0), .ref q9, .ref q12, .ref q19, .int (iI (-1)), .int (iI (-1))])), (q2, .inr (3, [.ref q3])), (q3, .inl (c4, Zi 310)), (q5, .inl (c6, Zi 310)), (q7, .inl (c8, Zi 310)), (q9, .inr (1, [.ref q10, .int (iI 0), .int (iI 0)])), (q10, .inl (c11, Zi 2480)), (q12, .inr (0, [.ref q13, .int (iI 0), .int (iI 0), .ref q15, .ref q17, .int (iI 0), .int (iI 0)])), (q13, .inl (c14, Zi 60)), (q15, .inl (c16, Zi 8)), (q17, .inl (c18, Zi 32)), (q19, .inr (2, [.ref q20, .int (iI 0)])), (q20, .inl (c21, Zi 240))] H := hP
  have hD : va_D A [(q1, .inr (4, [.ref q2, .ref q5, .ref q7, .int (iI 0), .ref q9, .ref q12, .ref q19, .int (iI (-1)), .int (iI (-1))])), (q2, .inr (3, [.ref q3])), (q3, .inl (c4, Zi 310)), (q5, .inl (c6, Zi 310)), (q7, .inl (c8, Zi 310)), (q9, .inr (1, [.ref q10, .int (iI 0), .int (iI 0)])), (q10, .inl (c11, Zi 2480)), (q12, .inr (0, [.ref q13, .int (iI 0), .int (iI 0), .ref q15, .ref q17, .int (iI 0), .int (iI 0)])), (q13, .inl (c14, Zi 60)), (q15, .inl (c16, Zi 8)), (q17, .inl (c18, Zi 32)), (q19, .inr (2, [.ref q20, .int (iI 0)])), (q20, .inl (c21, Zi 240))] := hD
  have hK : va_K D gcl [(c4, .int), (c6, .int), (c8, .int), (c11, .int), (c14, .char), (c16, .int), (c18, .int), (c21, .char)] s := hK
  refine W.widen (k := 13) (n := 3772) (Nat.le_of_ble_eq_true rfl) (Nat.le_of_ble_eq_true rfl) ?_
  refine lv_astore_n (lv' := [(1, .ref q1), (0, .ref b)]) hx hb dL_law_7 rfl hl (by decide) rfl (fun ls hl => ?_)
  refine lv_bipush (v := iI 70) hx hb dL_law_8 (by decide) ?_
  refine va_newa (atype := .long) (ty := .long) (a0 := (70, .inr (.inl (afL z0)))) (N' := 70) hx hb (htW _ ar_long) rfl hK hP hD hS hA (fun _ => rfl) (by decide) (by decide) (by decide) (Nat.le_of_ble_eq_true rfl) (Nat.le_of_ble_eq_true rfl) dL_law_10 (fun q22 c22 H hK hP hD hS => ?_)
  have hP : va_P D gcl [(q1, .inr (4, [.ref q2, .ref q5, .ref q7, .int (iI 0), .ref q9, .ref q12, .ref q19, .int (iI (-1)), .int (iI (-1))])), (q2, .inr (3, [.ref q3])), (q3, .inl (c4, Zi 310)), (q5, .inl (c6, Zi 310)), (q7, .inl (c8, Zi 310)), (q9, .inr (1, [.ref q10, .int (iI 0), .int (iI 0)])), (q10, .inl (c11, Zi 2480)), (q12, .inr (0, [.ref q13, .int (iI 0), .int (iI 0), .ref q15, .ref q17, .int (iI 0), .int (iI 0)])), (q13, .inl (c14, Zi 60)), (q15, .inl (c16, Zi 8)), (q17, .inl (c18, Zi 32)), (q19, .inr (2, [.ref q20, .int (iI 0)])), (q20, .inl (c21, Zi 240)), (q22, .inl (c22, (70, .inr (.inl (afL z0)))))] H := hP
  have hD : va_D A [(q1, .inr (4, [.ref q2, .ref q5, .ref q7, .int (iI 0), .ref q9, .ref q12, .ref q19, .int (iI (-1)), .int (iI (-1))])), (q2, .inr (3, [.ref q3])), (q3, .inl (c4, Zi 310)), (q5, .inl (c6, Zi 310)), (q7, .inl (c8, Zi 310)), (q9, .inr (1, [.ref q10, .int (iI 0), .int (iI 0)])), (q10, .inl (c11, Zi 2480)), (q12, .inr (0, [.ref q13, .int (iI 0), .int (iI 0), .ref q15, .ref q17, .int (iI 0), .int (iI 0)])), (q13, .inl (c14, Zi 60)), (q15, .inl (c16, Zi 8)), (q17, .inl (c18, Zi 32)), (q19, .inr (2, [.ref q20, .int (iI 0)])), (q20, .inl (c21, Zi 240)), (q22, .inl (c22, (70, .inr (.inl (afL z0)))))] := hD
  have hK : va_K D gcl [(c4, .int), (c6, .int), (c8, .int), (c11, .int), (c14, .char), (c16, .int), (c18, .int), (c21, .char), (c22, .long)] s := hK
  refine W.widen (k := 14) (n := 3842) (Nat.le_of_ble_eq_true rfl) (Nat.le_of_ble_eq_true rfl) ?_
  refine lv_astore_n (lv' := [(2, .ref q22), (1, .ref q1), (0, .ref b)]) hx hb dL_law_12 rfl hl (by decide) rfl (fun ls hl => ?_)
  refine lv_iconst (v := iI 0) hx hb dL_law_13 (by decide) ?_
  refine lv_istore_n (lv' := [(3, .int (iI 0)), (2, .ref q22), (1, .ref q1), (0, .ref b)]) hx hb dL_law_14 rfl hl (by decide) rfl (fun ls hl => ?_)
  have e_c6 : c4 = c6 := Option.some.inj ((show s.vm.findClass _ = some c4 from (hK.2 0 _ rfl).2).symm.trans (show s.vm.findClass _ = some c6 from (hK.2 1 _ rfl).2))
  have e_c8 : c4 = c8 := Option.some.inj ((show s.vm.findClass _ = some c4 from (hK.2 0 _ rfl).2).symm.trans (show s.vm.findClass _ = some c8 from (hK.2 2 _ rfl).2))
  have e_c11 : c4 = c11 := Option.some.inj ((show s.vm.findClass _ = some c4 from (hK.2 0 _ rfl).2).symm.trans (show s.vm.findClass _ = some c11 from (hK.2 3 _ rfl).2))
  have e_c16 : c4 = c16 := Option.some.inj ((show s.vm.findClass _ = some c4 from (hK.2 0 _ rfl).2).symm.trans (show s.vm.findClass _ = some c16 from (hK.2 5 _ rfl).2))
  have e_c18 : c4 = c18 := Option.some.inj ((show s.vm.findClass _ = some c4 from (hK.2 0 _ rfl).2).symm.trans (show s.vm.findClass _ = some c18 from (hK.2 6 _ rfl).2))
  have e_c21 : c14 = c21 := Option.some.inj ((show s.vm.findClass _ = some c14 from (hK.2 4 _ rfl).2).symm.trans (show s.vm.findClass _ = some c21 from (hK.2 7 _ rfl).2))
  subst e_c6
  subst e_c8
  subst e_c11
  subst e_c16
  subst e_c18
  subst e_c21
  obtain ⟨ekf, evf, hE⟩ := start_env (A := A) hX hbl hts hgv (fun a h h2 => absurd (hA2 a h2) (by omega))
  obtain ⟨E, hEe⟩ : ∃ E : EV, E = (D, (fun k => [q1, q2, q3, q5, q7, q9, q10, q12, q13, q15, q17, q19, q20, q22].getD k 0), (fun k => [c4, c14, c22].getD k c4), ekf, evf, (b, L, xs), none) := ⟨_, rfl⟩
  have hEK : EK E s ∧ EH E A s s.heap := by rw [hEe]; exact hE D _ _ (hK.sub [0, 4, 8] rfl)
  have hPE : va_P E.1 gcl (Wd E s0) H := by rw [hEe]; exact hP.sub [0, 1, 2, 3, 4, 5, 6, 7, 8, 9, 10, 11, 12, 13] rfl
  have hDE : va_D A (Wd E s0) := by rw [hEe]; exact hD.sub [0, 1, 2, 3, 4, 5, 6, 7, 8, 9, 10, 11, 12, 13] (by decide) rfl
  have hap : apart E := fun i j hi hj h => by
    obtain ⟨e1, h1⟩ := Wd_get (E := E) (σ := s0) hi
    obtain ⟨e2, h2⟩ := Wd_get (E := E) (σ := s0) hj
    exact hDE.1 i j _ _ h1 h2 h
  have hin9 : ∀ k : Nat, k < 14 → A (ea E k) := fun k hk => by
    obtain ⟨e1, h1⟩ := Wd_get (E := E) (σ := s0) hk
    exact hDE.2 k _ h1
  have C : CX p l e room_1 s m #[Value.ref b] below meth c RL cL_law 21 E A (some .boolean) := ⟨hx, hb, hml, hown, htW, hlocks, hEK.1, hEK.2, hap, hin9, hA, hr⟩
  have hl : lv_has ls 21 [(0, .ref (eb E)), (1, .ref (ea E 0)), (2, .ref (ea E 13)), (3, .int (iI 0))] := by rw [hEe]; exact lv_sub hl [3, 2, 1, 0] rfl
  have hend : ∀ (σ : SS) (k n : Nat) (L0 : List (Nat × Value)), k ≤ 600312 → n ≤ 7292162 → GG p l e room_1 s m #[Value.ref b] below meth c (lw_Z below #[Value.ref b] s) E A 21 σ k n 709 L0 [.int (iI 1)] := by
    intro σ k n L0 hk hn H2 locs2 ls2 hl2 hP2 hS2
    refine va_forget (fun q hq => hA2 _ (hS2.2.2 q hq)) ?_
    refine W.widen hk hn ?_
    exact W.base (lw_ret (d0 := s.drawn) (Drawn.sameBut.refl s.drawn lw_cs) hx hb hr hlocks dL_law_709)
  have hN9 : (eN E : Int) ≤ 260 := by rw [hEe]; show (L : Int) ≤ 260; omega
  exact law_15 hst C hN9 s0 CW_z0 PW_z0 ⟨rfl, rfl, rfl, rfl, rfl⟩ KPW_z0 14 3842 (by decide) (by decide) hend H _ ls hl hPE hS
set_option maxHeartbeats 4000000 in
theorem lw_walk (l : Launch) (hflags : l.flags = flags0) (b : Addr) (xs : List Int32) : MetFree l x (headSpec (Jvm.Cond.code x code maxLocals ret :: tables_1) room_1) (lw_P b xs) (fun _ _ _ _ _ => True) lw_Q := by
  refine MetFree.of_bodyS (code := code) (maxLocals := maxLocals) (ret := ret) (by decide) ?_ ?_
  · intro args s m h hn
    obtain ⟨meth, c, h1, h2, h3, h4, h5, h6, -, -⟩ := Cond.code_spec hn (atoms_spec (ws := Jvm.Cond.code x code maxLocals ret :: tables_1) h _ List.mem_cons_self)
    exact ⟨meth, c, h1, h2, h3, h4, h5, h6⟩
  · intro p e s m args below meth c s₁ B hml0 hP _
    obtain ⟨rfl, hx, hbd, hgv⟩ := hP
    obtain ⟨scr, harrAt, hlist, hof, hsmall⟩ := hx
    obtain ⟨hcb, hkn, -, -⟩ := State.arrayAt?_spec harrAt
    have hown : s.vm.findClass R_law = some m.cls := findClass_of_methodNamed B.named
    have hts0 : ∀ c ∈ (Jvm.Cond.code x code maxLocals ret :: tables_1), c.before #[Value.ref b] s = true := atoms_spec (ws := Jvm.Cond.code x code maxLocals ret :: tables_1) B.pre
    have hts : ∀ w ∈ lw_tbl, w.before #[Value.ref b] s = true := k2_hts_sels lw_privs (fun w hw => hts0 w (List.mem_cons_of_mem _ hw)) lw_privs_ok
    have hml : c.maxLocals = 21 := B.maxLocals_eq (hts0 _ List.mem_cons_self)
    have X₀ : Stand p l e room_1 s m #[Value.ref b] below meth c s₁ [] 0 0 := Stand.of_body B
    have hh0 : s₁.heap = s.heap := by rw [B.state]; rfl
    have hsz : scr.slots.size = xs.length := by rw [← Array.length_toList, hlist, List.length_map]
    have hval : ∀ j : Nat, j < xs.length → scr.slots[j]? = some (.int (xs.getD j 0)) := fun j hj => by
      rw [← Array.getElem?_toList, hlist]
      simp [hj]
    have hbl : b < s.heap.size := (Array.getElem?_eq_some_iff.mp hcb).1
    have hX : va_X b xs.length (fun j => xs.getD j 0) s s.heap := ⟨scr, hcb, hof, hkn, hsz, hval⟩
    have K : W p l e room_1 s m #[Value.ref b] below meth c s₁.heap [] 0 0 (lw_Z below #[Value.ref b] s) (entryFrame m ([Value.ref b] : List Value).toArray 21) := by
      rw [hh0]
      exact whole_start l hflags hbd ⟨B.exec, B.bytes, B.returns, hml, hown, hts, hX, hbl, B.notSynchronized, hgv⟩
    obtain ⟨t, a1, o, b1, b2, b3⟩ := K s₁ rfl X₀
    exact ⟨t, o, a1, b1, b2, b3⟩
theorem lw_pre_spec {args : Array Value} {s : State} (h : (Jvm.Cond.and given_1 narrow_1).before args s = true) (hr : rest_1_c.before args s = true) : ∃ (b : Addr) (xs : List Int32), lw_P b xs args s := by
  have hs := flat_of_before _ h
  have hq := flat_of_before _ hr
  have hc : (Cond.count 1).before args s = true := hs _ (by decide +kernel)
  have harr : (Cond.arrayOf (.arg 0) .int).before args s = true := hs _ (by decide +kernel)
  have hle : (Cond.le (.length (.arg 0)) (.int 260)).before args s = true := hs _ (by decide +kernel)
  have hlen : (Cond.isInt (.length (.arg 0))).before args s = true := hq _ (by decide +kernel)
  have hall : (Cond.all (.arg 0) (.isInt (.elem (.arg 0) (.index 0)))).before args s = true := hq _ (by decide +kernel)
  obtain ⟨b, xs, hb, hx⟩ := State.ints_of_pre rfl harr hlen hall
  have hsm : xs.length < 2 ^ 31 := hx.choose_spec.2.2.2
  have hev : (Term.length (.arg 0)).eval args s none [] s = some (.int xs.length.toInt32) := hx.length_eval hb
  have hv := Cond.le_ints hev (show (Term.int 260).eval args s none [] s = some (.int 260) from rfl)
  have hd : xs.length.toInt32 ≤ 260 := by
    simpa [Cond.before, Cond.holds, hv] using hle
  have hN : xs.length ≤ 260 := (Int32.ofNat_le_ofNat hsm (by decide)).mp (show Int32.ofNat xs.length ≤ Int32.ofNat 260 from hd)
  exact ⟨b, xs, Cond.one_arg hc (show args[0]? = some (.ref b) from hb), hx, hN, h⟩
theorem lw_comes (l : Launch) (hflags : l.flags = flags0) : Comes l x (Jvm.Cond.code x code maxLocals ret :: tables_1) room_1 (fun tb e args s => Calls_1 tb e args s ∧ rest_1 tb e args s ∧ Pre_1 tb e args s)
    (fun _ _ args s o t => lw_Q args s o t) := by
  intro p e ha hc hk s m args below hf hfit hheap happ hpre
  obtain ⟨b, xs, hP⟩ := lw_pre_spec hpre.2.2 hpre.2.1
  obtain ⟨k, o, h1, h2, h3, hQ⟩ := lw_walk l hflags b xs p e ha hc hk s m args below hf ((Spec.applies_iff_loose hf).mp happ).1 hP trivial
  exact ⟨k, o, h1, h2, h3, hQ⟩
theorem lw_frame {s t : State} {o : Outcome} {args : Array Value} (h : State.butDraws s t lw_cs (fun t1 => Framed s o t1 [] 600312 7292162)) :
    State.butDraws s t [Jvm.Choice.named "NaN.bits"] (fun t1 => Framed s o t1 (fieldLocs frame_1_writes args s ++ arrayLocs frame_1_arrays args s ++ staticLocs frame_1_statics s) 600312 7292162) := h
theorem lw_limb (L : Cond) (hL : ∀ (args : Array Value) (s t : State), L.after args s (.returned (some (.int 1))) t = true) :
    ArmFor flags0 classFile x code maxLocals ret World_1 tables_1 room_1 Calls_1 rest_1 Pre_1
      (fun tb e a s o t => postC L tb e a s o t ∧ State.butDraws s t [Jvm.Choice.named "NaN.bits"] (fun t1 => Framed s o t1 (fieldLocs frame_1_writes a s ++ arrayLocs frame_1_arrays a s ++ staticLocs frame_1_statics s) 600312 7292162)) := by
  intro l hflags _ _ p e ha hc hk s m args below hf hfit hheap happ hpre
  obtain ⟨k, o, h1, h2, h3, rfl, hF⟩ := lw_comes l hflags p e ha hc hk s m args below hf hfit hheap happ hpre
  exact ⟨k, _, h1, h2, h3, hL args s _, lw_frame hF⟩
theorem i_vc : Claimed_1_1 ∧ Claimed_1_2 := ⟨lw_limb limb_1_1 (fun args s t => by simp [limb_1_1, Cond.after, Cond.holds, Cond.value]), lw_limb limb_1_2 (fun args s t => Cond.after_iff.mpr (by
  first | (rw [show limb_1_2 = Cond.eq .result (.int 1) from rfl, Cond.eq_ints (x := 1) (y := 1) rfl rfl]; simp; done) | (simp [limb_1_2, Cond.value, Term.eval]; done)))⟩
