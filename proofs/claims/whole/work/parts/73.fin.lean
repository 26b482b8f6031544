/-! THE CLAIM OUT OF ONE WALK OF THE LAW'S BODY. Your part is whole_start (and what it stands on); all else here is the same for every law, but numbers. -/
def R_law : String := "RibbonQuarryLaw"
def lw_P (b : Addr) (xs : List Int32) (args : Array Value) (s : State) : Prop := args = #[.ref b] ∧ s.IntsAt b xs ∧ xs.length ≤ 2560 ∧ (Jvm.Cond.and given_1 narrow_1).before args s = true
/-- what a walk over the start with the record d0 says of its end, said of the start itself -/
theorem lw_closed {s t : State} {o : Outcome} {d0 : Drawn} {L : List Loc} {k n : Nat} (hd0 : s.drawn.sameBut d0 lw_cs) (hv : ∃ v, o = .returned v) (hW : (s.setDrawn d0).WarmedH t.vm) (hs : (s.setDrawn d0).sameButNew ({ t with vm := s.vm } : State) L k n) : State.butDraws s t lw_cs (fun t1 => Framed s o t1 L k n) := by
  have h2 : t.drawn = d0 := congrArg State.drawn hs.1
  refine ⟨⟨hv, hW, State.sameButNew.setDrawn hs s.drawn⟩, ?_, by decide⟩
  rw [h2]
  exact hd0
def lw_Q (_ : Array Value) (s : State) (o : Outcome) (t : State) : Prop := o = .returned (some (.int 1)) ∧ State.butDraws s t lw_cs (fun t1 => Framed s o t1 [] 3108 128601)
def lw_Z (below : List Frame) (a : Array Value) (s : State) : State → Prop := fun t => ∃ o, t.status = .running ∧ Ended t below o ∧ lw_Q a s o t
/-- the law's own end, with 1 on the stack, nothing written that was there before, its room as the claim has it; d0: the record of draws at this point (at the entry s.drawn: begin with 'refine W.base ?_' and 'have hd0 := Drawn.sameBut.refl s.drawn lw_cs') -/
theorem lw_ret {p : Program} {l : Launch} {e : Env} {s : State} {m : MethodId} {below : List Frame} {meth : Method} {c : Code} {b : Nat} {d0 : Drawn} (hd0 : s.drawn.sameBut d0 lw_cs) (hx : p.tables.exec = Jvm.exec) (hb : c.code = code) (hr : meth.sig.returnType = ret) (hlocks : meth.locks = false) {pc : Nat} {H : Heap} {ls : Array Slot} (hdg : decode code pc = .ok (.ireturn, 1)) : W p l e room_1 (s.setDrawn d0) m #[Value.ref b] below meth c H [] 3108 128601 (lw_Z below #[Value.ref b] s) (F0 m pc ls [.int 1]) := by
  intro T hT X
  obtain ⟨fs, hret, hrun, hended, hW, hframe⟩ := X.leave (v := some (.int 1)) (hlocks := hlocks) (fun h => by rw [hr] at h; cases h)
  have hmeth' : T.vm.method? m = some meth := X.method'
  refine ⟨T.setFrames fs, ?_, .returned (some (.int 1)), hrun, hended, rfl, lw_closed hd0 ⟨_, rfl⟩ hW hframe⟩
  jvm_step X.here [X.here.top, hx, hb, hdg, hmeth', hr, ret, narrow_b1]
  (try refine ⟨rfl, ?_⟩); (try refine ⟨rfl, ?_⟩)
  first | (intro acts; rw [hret _ acts rfl rfl rfl]) | rw [hret _ _ rfl rfl rfl]
  exact Steps.refl _
/-- what holds at the law's entry: the machine, the code, the tables' words (any of lw_tbl by 'hts w (by decide +kernel)'), the script of L ints xs at the cell b, what the Statement gives of the start (any of its parts by flat_of_before) -/
def lw_At (p : Program) (s : State) (m : MethodId) (meth : Method) (c : Code) (b L : Nat) (xs : Nat → Int32) : Prop :=
  p.tables.exec = Jvm.exec ∧ c.code = code ∧ meth.sig.returnType = ret ∧ c.maxLocals = 9 ∧ s.vm.findClass R_law = some m.cls ∧ (∀ w ∈ lw_tbl, w.before #[Value.ref b] s = true) ∧ va_X b L xs s s.heap ∧ b < s.heap.size ∧ meth.locks = false ∧ (Jvm.Cond.and given_1 narrow_1).before #[Value.ref b] s = true
/-- the state of all objects as they are made -/
def s0 : SS := st (st (fun _ => z0) 0 (pt (pt z0 7 (-1)) 8 (-1))) 13 (pt (pt z0 12 (-1)) 13 (-1))
theorem CW_z0 : CW z0 := fun r _ => ⟨⟨by show (0 : Int) ≤ 0; omega, by show (0 : Int) ≤ 60; omega⟩, fun p hp => absurd hp (by show ¬ (0 ≤ p ∧ p < (0 : Int)); omega)⟩
theorem RW_z0 : RW z0 z0 := by
  refine ⟨fun u hu => ⟨?_, ?_⟩, CW_z0, fun r _ => ⟨rfl, fun p hp => absurd hp (by show ¬ (0 ≤ p ∧ p < (0 : Int)); omega)⟩, rfl, rfl⟩
  · have h : psum z0 u = 0 := sI_nil (by show min (u % 8 * 8 + 8) (0 : Int) ≤ u % 8 * 8; omega)
    rw [h]
  · have h : ptan z0 u = 0 := sI_nil (by show min (u % 8 * 8 + 8) (0 : Int) - 1 ≤ u % 8 * 8; omega)
    rw [h]
theorem INV_s0 : INV s0 := ⟨RW_z0, ⟨rfl, Or.inl rfl, fun h => absurd (show (0 : Int) = 1 from h) (by decide)⟩, ⟨rfl, ⟨⟨by decide, by decide, by decide, by decide⟩, fun j hj => absurd hj (by show ¬ (0 ≤ j ∧ j < (0 : Int)); omega)⟩⟩, TXW_0 _ _, ⟨⟨fun i _ => ⟨by show (0 : Int) ≤ 0; omega, by show (0 : Int) ≤ 8; omega⟩, fun z _ => ⟨by show (0 : Int) ≤ 0; omega, by show (0 : Int) ≤ 99; omega⟩⟩, fun z _ => ⟨by show (0 : Int) ≤ 0; omega, by show (0 : Int) ≤ 200; omega⟩⟩, ⟨rfl, rfl, ⟨by decide, by decide⟩, ⟨by decide, by decide⟩⟩, ⟨rfl, ⟨by decide, by decide⟩, fun i hi => absurd hi (by show ¬ (0 ≤ i ∧ i < (0 : Int)); omega)⟩⟩
set_option maxHeartbeats 8000000 in
set_option maxRecDepth 100000 in
theorem whole_start {p : Program} {e : Env} {s : State} {m : MethodId} {below : List Frame} {meth : Method} {c : Code} (l : Launch) (hflags : l.flags = flags0) {b L : Nat} {xs : Nat → Int32} (hL : L ≤ 2560) (C0 : lw_At p s m meth c b L xs) : W p l e room_1 s m #[Value.ref b] below meth c s.heap [] 0 0 (lw_Z below #[Value.ref b] s) (entryFrame m ([Value.ref b] : List Value).toArray 9) := by
  obtain ⟨hx, hb, hr, hml, hown, hts, hX, hbl, hlocks, hgv⟩ := C0
  have hst : l.stackTraces = false := by unfold Launch.stackTraces; rw [hflags]; decide
  have htW : ∀ w ∈ WA, w.before #[Value.ref b] s = true := fun w h => hts w (WA_lw h)
  obtain ⟨D, hK⟩ := start_D htW
  have hNw : ∀ w ∈ tables_1, isNest w = true → va_Nw w s := fun w hw hn => va_Nw.of (isNest_tab hn) (hts w (tab_lw hw))
  obtain ⟨A, hAe⟩ : ∃ A : Nat → Prop, A = fun q => s.heap.size ≤ q := ⟨_, rfl⟩
  have hA : ∀ q : Nat, s.heap.size ≤ q → A q := fun q h => by rw [hAe]; exact h
  have hA2 : ∀ q : Nat, A q → s.heap.size ≤ q := fun q h => by rw [hAe] at h; exact h
  have hS : va_S A s.heap s.heap [] := va_S.rf
  have hP : va_P D gcl [] s.heap := fun k q hk => by cases hk
  have hD : va_D A [] := ⟨fun i j p q h => (by cases h), fun k q h => (by cases h)⟩
  have hl := lv_entry ([.ref b]) (n := 9) (Nat.le_of_ble_eq_true rfl)
  rw [lg_entry_eq]
  generalize (lg_sl ([.ref b]) ++ List.replicate (9 - (lg_sl ([.ref b])).length) Slot.unset).toArray = ls at hl ⊢
  have hl : lv_has ls 9 [(0, .ref b)] := hl
  refine va_new (ci := 4) (fs := [.null, .null, .null, .int (iI 0), .null, .null, .null, .int (iI 0), .int (iI 0)]) (C := RX4) (T := TX4) (N := 9) hx hb htW uw_X4 tyX4 tyX4_ok hown (htW _ ck_L_8) (htW _ in_X4) (htW _ ii_X4) hK hP hD hS hA rfl (fun j hj => by rcases (show j = 0 ∨ j = 1 ∨ j = 2 ∨ j = 3 ∨ j = 4 ∨ j = 5 ∨ j = 6 ∨ j = 7 ∨ j = 8 by omega) with rfl | rfl | rfl | rfl | rfl | rfl | rfl | rfl | rfl <;> rfl) (Nat.le_of_ble_eq_true rfl) (Nat.le_of_ble_eq_true rfl) dL_law_0 (fun q1 H hP hD hS => ?_)
  have hP : va_P D gcl [(q1, .inr (4, [.null, .null, .null, .int (iI 0), .null, .null, .null, .int (iI 0), .int (iI 0)]))] H := hP
  have hD : va_D A [(q1, .inr (4, [.null, .null, .null, .int (iI 0), .null, .null, .null, .int (iI 0), .int (iI 0)]))] := hD
  refine W.widen (k := 1) (n := 9) (Nat.le_of_ble_eq_true rfl) (Nat.le_of_ble_eq_true rfl) ?_
  refine lv_dup hx hb dL_law_3 rfl ?_
  have hPc := hP.sub (ws' := [(q1, .inr (4, [.null, .null, .null, .int (iI 0), .null, .null, .null, .int (iI 0), .int (iI 0)]))]) [0] rfl
  have hDc := hD.sub (ws' := [(q1, .inr (4, [.null, .null, .null, .int (iI 0), .null, .null, .null, .int (iI 0), .int (iI 0)]))]) [0] (by decide) rfl
  have hKc := hK.sub (tys' := []) [] rfl
  have hFc := va_free (wc := [(q1, .inr (4, [.null, .null, .null, .int (iI 0), .null, .null, .null, .int (iI 0), .int (iI 0)]))]) hD hS hA [0] rfl
  refine va_callv (va_runI (As := []) (rest := [.ref q1]) ⟨hx, hb, hml, hown, htW⟩ (c_X4_init l D q1 H.size) (cwI 0 htW (cw_good mi_X4.1) rfl rfl rfl (htW _ mi_X4.2.2.1) (htW _ lk_L_147) (htW _ mi_X4.2.1) rfl mi_X4.2.2.2 ⟨Nat.le_of_ble_eq_true rfl, Nat.le_of_ble_eq_true rfl⟩) ⟨IPre_blind, fun U hU hW => ⟨rfl, by rw [hU], by rw [hU]; exact hPc, va_K.moved hW.alike hKc, fun w hw hn => isNest_warm hn hW (hNw w hw hn), hDc.weaken (fun _ _ _ _ => trivial)⟩⟩ rfl rfl hl.1 rfl (lv_room (Nat.le_of_ble_eq_true rfl)) dL_law_4 ⟨Nat.le_of_ble_eq_true rfl, Nat.le_of_ble_eq_true rfl⟩) hS (fun q _ h => hFc q h) hFc (fun u t H1 locs ht hvm h5 hB hz1 hk1 hS => ?_)
  obtain ⟨q2, q3, c4, q5, c6, q7, c8, q9, q10, c11, q12, q13, c14, q15, c16, q17, c18, q19, q20, c21, hP1, hK1, hD1⟩ := hB
  rw [ht] at hP1
  have hK1 := va_K.moved hvm.symm hK1
  obtain ⟨hP, hD⟩ := va_join (wr := []) (w1 := [(q1, .inr (4, [.ref q2, .ref q5, .ref q7, .int (iI 0), .ref q9, .ref q12, .ref q19, .int (iI (-1)), .int (iI (-1))])), (q2, .inr (3, [.ref q3])), (q3, .inl (c4, Zi 310)), (q5, .inl (c6, Zi 310)), (q7, .inl (c8, Zi 310)), (q9, .inr (1, [.ref q10, .int (iI 0), .int (iI 0)])), (q10, .inl (c11, Zi 2480)), (q12, .inr (0, [.ref q13, .int (iI 0), .int (iI 0), .ref q15, .ref q17, .int (iI 0), .int (iI 0)])), (q13, .inl (c14, Zi 60)), (q15, .inl (c16, Zi 8)), (q17, .inl (c18, Zi 32)), (q19, .inr (2, [.ref q20, .int (iI 0)])), (q20, .inl (c21, Zi 240))]) hP hD [0] [] rfl rfl (by decide) (by decide) hk1 hFc hP1 hD1
  have hK := hK.app hK1
  generalize H1 = H at hP hS ⊢
  have hP : va_P D gcl [(q1, .inr (4, [.ref q2, .ref q5, .ref q7, .int (iI 0), .ref q9, .ref q12, .ref q19, .int (iI (-1)), .int (iI (-1))])), (q2, .inr (3, [.ref q3])), (q3, .inl (c4, Zi 310)), (q5, .inl (c6, Zi 310)), (q7, .inl (c8, Zi 310)), (q9, .inr (1, [.ref q10, .int (iI 0), .int (iI 0)])), (q10, .inl (c11, Zi 2480)), (q12, .inr (0, [.ref q13, .int (iI 0), .int (iI 0), .ref q15, .ref q17, .int (iI 0), .int (iI 0)])), (q13, .inl (c14, Zi 60)), (q15, .inl (c16, Zi 8)), (q17, .inl (c18, Zi 32)), (q19, .inr (2, [.ref q20, .int (iI 0)])), (q20, .inl (c21, Zi 240))] H := hP
  have hD : va_D A [(q1, .inr (4, [.ref q2, .ref q5, .ref q7, .int (iI 0), .ref q9, .ref q12, .ref q19, .int (iI (-1)), .int (iI (-1))])), (q2, .inr (3, [.ref q3])), (q3, .inl (c4, Zi 310)), (q5, .inl (c6, Zi 310)), (q7, .inl (c8, Zi 310)), (q9, .inr (1, [.ref q10, .int (iI 0), .int (iI 0)])), (q10, .inl (c11, Zi 2480)), (q12, .inr (0, [.ref q13, .int (iI 0), .int (iI 0), .ref q15, .ref q17, .int (iI 0), .int (iI 0)])), (q13, .inl (c14, Zi 60)), (q15, .inl (c16, Zi 8)), (q17, .inl (c18, Zi 32)), (q19, .inr (2, [.ref q20, .int (iI 0)])), (q20, .inl (c21, Zi 240))] := hD
  have hK : va_K D gcl [(c4, .int), (c6, .int), (c8, .int), (c11, .int), (c14, .char), (c16, .int), (c18, .int), (c21, .char)] s := hK
  refine W.widen (k := 13) (n := 3772) (Nat.le_of_ble_eq_true rfl) (Nat.le_of_ble_eq_true rfl) ?_
  refine lv_astore_n (lv' := [(1, .ref q1), (0, .ref b)]) hx hb dL_law_7 rfl hl (by decide) rfl (fun ls hl => ?_)
  refine va_new (ci := 5) (fs := [.int (iI 0), .null, .null, .null, .null, .int (iI 0), .int (iI 0), .null, .null, .null, .int (iI 0), .int (iI 0), .int (iI 0), .int (iI 0), .int (iI 0), .int (iI 0), .int (iI 0), .int (iI 0), .int (iI 0)]) (C := RX5) (T := TX5) (N := 19) hx hb htW uw_X5 tyX5 tyX5_ok hown (htW _ ck_L_148) (htW _ in_X5) (htW _ ii_X5) hK hP hD hS hA rfl (fun j hj => by rcases (show j = 0 ∨ j = 1 ∨ j = 2 ∨ j = 3 ∨ j = 4 ∨ j = 5 ∨ j = 6 ∨ j = 7 ∨ j = 8 ∨ j = 9 ∨ j = 10 ∨ j = 11 ∨ j = 12 ∨ j = 13 ∨ j = 14 ∨ j = 15 ∨ j = 16 ∨ j = 17 ∨ j = 18 by omega) with rfl | rfl | rfl | rfl | rfl | rfl | rfl | rfl | rfl | rfl | rfl | rfl | rfl | rfl | rfl | rfl | rfl | rfl | rfl <;> rfl) (Nat.le_of_ble_eq_true rfl) (Nat.le_of_ble_eq_true rfl) dL_law_8 (fun q22 H hP hD hS => ?_)
  have hP : va_P D gcl [(q1, .inr (4, [.ref q2, .ref q5, .ref q7, .int (iI 0), .ref q9, .ref q12, .ref q19, .int (iI (-1)), .int (iI (-1))])), (q2, .inr (3, [.ref q3])), (q3, .inl (c4, Zi 310)), (q5, .inl (c6, Zi 310)), (q7, .inl (c8, Zi 310)), (q9, .inr (1, [.ref q10, .int (iI 0), .int (iI 0)])), (q10, .inl (c11, Zi 2480)), (q12, .inr (0, [.ref q13, .int (iI 0), .int (iI 0), .ref q15, .ref q17, .int (iI 0), .int (iI 0)])), (q13, .inl (c14, Zi 60)), (q15, .inl (c16, Zi 8)), (q17, .inl (c18, Zi 32)), (q19, .inr (2, [.ref q20, .int (iI 0)])), (q20, .inl (c21, Zi 240)), (q22, .inr (5, [.int (iI 0), .null, .null, .null, .null, .int (iI 0), .int (iI 0), .null, .null, .null, .int (iI 0), .int (iI 0), .int (iI 0), .int (iI 0), .int (iI 0), .int (iI 0), .int (iI 0), .int (iI 0), .int (iI 0)]))] H := hP
  have hD : va_D A [(q1, .inr (4, [.ref q2, .ref q5, .ref q7, .int (iI 0), .ref q9, .ref q12, .ref q19, .int (iI (-1)), .int (iI (-1))])), (q2, .inr (3, [.ref q3])), (q3, .inl (c4, Zi 310)), (q5, .inl (c6, Zi 310)), (q7, .inl (c8, Zi 310)), (q9, .inr (1, [.ref q10, .int (iI 0), .int (iI 0)])), (q10, .inl (c11, Zi 2480)), (q12, .inr (0, [.ref q13, .int (iI 0), .int (iI 0), .ref q15, .ref q17, .int (iI 0), .int (iI 0)])), (q13, .inl (c14, Zi 60)), (q15, .inl (c16, Zi 8)), (q17, .inl (c18, Zi 32)), (q19, .inr (2, [.ref q20, .int (iI 0)])), (q20, .inl (c21, Zi 240)), (q22, .inr (5, [.int (iI 0), .null, .null, .null, .null, .int (iI 0), .int (iI 0), .null, .null, .null, .int (iI 0), .int (iI 0), .int (iI 0), .int (iI 0), .int (iI 0), .int (iI 0), .int (iI 0), .int (iI 0), .int (iI 0)]))] := hD
  refine W.widen (k := 14) (n := 3791) (Nat.le_of_ble_eq_true rfl) (Nat.le_of_ble_eq_true rfl) ?_
  refine lv_dup hx hb dL_law_11 rfl ?_
  have hPc := hP.sub (ws' := [(q22, .inr (5, [.int (iI 0), .null, .null, .null, .null, .int (iI 0), .int (iI 0), .null, .null, .null, .int (iI 0), .int (iI 0), .int (iI 0), .int (iI 0), .int (iI 0), .int (iI 0), .int (iI 0), .int (iI 0), .int (iI 0)]))]) [13] rfl
  have hDc := hD.sub (ws' := [(q22, .inr (5, [.int (iI 0), .null, .null, .null, .null, .int (iI 0), .int (iI 0), .null, .null, .null, .int (iI 0), .int (iI 0), .int (iI 0), .int (iI 0), .int (iI 0), .int (iI 0), .int (iI 0), .int (iI 0), .int (iI 0)]))]) [13] (by decide) rfl
  have hKc := hK.sub (tys' := []) [] rfl
  have hFc := va_free (wc := [(q22, .inr (5, [.int (iI 0), .null, .null, .null, .null, .int (iI 0), .int (iI 0), .null, .null, .null, .int (iI 0), .int (iI 0), .int (iI 0), .int (iI 0), .int (iI 0), .int (iI 0), .int (iI 0), .int (iI 0), .int (iI 0)]))]) hD hS hA [13] rfl
  refine va_callv (va_runI (As := []) (rest := [.ref q22]) ⟨hx, hb, hml, hown, htW⟩ (c_X5_init l D q22 H.size) (cwI 0 htW (cw_good mi_X5.1) rfl rfl rfl (htW _ mi_X5.2.2.1) (htW _ lk_L_150) (htW _ mi_X5.2.1) rfl mi_X5.2.2.2 ⟨Nat.le_of_ble_eq_true rfl, Nat.le_of_ble_eq_true rfl⟩) ⟨IPre_blind, fun U hU hW => ⟨rfl, by rw [hU], by rw [hU]; exact hPc, va_K.moved hW.alike hKc, fun w hw hn => isNest_warm hn hW (hNw w hw hn), hDc.weaken (fun _ _ _ _ => trivial)⟩⟩ rfl rfl hl.1 rfl (lv_room (Nat.le_of_ble_eq_true rfl)) dL_law_12 ⟨Nat.le_of_ble_eq_true rfl, Nat.le_of_ble_eq_true rfl⟩) hS (fun q _ h => hFc q h) hFc (fun u t H1 locs ht hvm h5 hB hz1 hk1 hS => ?_)
  obtain ⟨q23, c24, q25, c26, q27, c28, q29, c30, q31, c32, q33, c34, q35, c36, hP1, hK1, hD1⟩ := hB
  rw [ht] at hP1
  have hK1 := va_K.moved hvm.symm hK1
  obtain ⟨hP, hD⟩ := va_join (wr := [(q1, .inr (4, [.ref q2, .ref q5, .ref q7, .int (iI 0), .ref q9, .ref q12, .ref q19, .int (iI (-1)), .int (iI (-1))])), (q2, .inr (3, [.ref q3])), (q3, .inl (c4, Zi 310)), (q5, .inl (c6, Zi 310)), (q7, .inl (c8, Zi 310)), (q9, .inr (1, [.ref q10, .int (iI 0), .int (iI 0)])), (q10, .inl (c11, Zi 2480)), (q12, .inr (0, [.ref q13, .int (iI 0), .int (iI 0), .ref q15, .ref q17, .int (iI 0), .int (iI 0)])), (q13, .inl (c14, Zi 60)), (q15, .inl (c16, Zi 8)), (q17, .inl (c18, Zi 32)), (q19, .inr (2, [.ref q20, .int (iI 0)])), (q20, .inl (c21, Zi 240))]) (w1 := [(q22, .inr (5, [.int (iI 0), .ref q23, .ref q25, .ref q27, .ref q29, .int (iI 0), .int (iI 0), .ref q31, .ref q33, .ref q35, .int (iI 0), .int (iI 0), .int (iI (-1)), .int (iI (-1)), .int (iI 0), .int (iI 0), .int (iI 0), .int (iI 0), .int (iI 0)])), (q23, .inl (c24, Zi 486)), (q25, .inl (c26, Zi 486)), (q27, .inl (c28, Zi 486)), (q29, .inl (c30, Zi 3888)), (q31, .inl (c32, Zi 60)), (q33, .inl (c34, Zi 300)), (q35, .inl (c36, Zi 240))]) hP hD [13] [0, 1, 2, 3, 4, 5, 6, 7, 8, 9, 10, 11, 12] rfl rfl (by decide) (by decide) hk1 hFc hP1 hD1
  have hK := hK.app hK1
  generalize H1 = H at hP hS ⊢
  have hP : va_P D gcl [(q1, .inr (4, [.ref q2, .ref q5, .ref q7, .int (iI 0), .ref q9, .ref q12, .ref q19, .int (iI (-1)), .int (iI (-1))])), (q2, .inr (3, [.ref q3])), (q3, .inl (c4, Zi 310)), (q5, .inl (c6, Zi 310)), (q7, .inl (c8, Zi 310)), (q9, .inr (1, [.ref q10, .int (iI 0), .int (iI 0)])), (q10, .inl (c11, Zi 2480)), (q12, .inr (0, [.ref q13, .int (iI 0), .int (iI 0), .ref q15, .ref q17, .int (iI 0), .int (iI 0)])), (q13, .inl (c14, Zi 60)), (q15, .inl (c16, Zi 8)), (q17, .inl (c18, Zi 32)), (q19, .inr (2, [.ref q20, .int (iI 0)])), (q20, .inl (c21, Zi 240)), (q22, .inr (5, [.int (iI 0), .ref q23, .ref q25, .ref q27, .ref q29, .int (iI 0), .int (iI 0), .ref q31, .ref q33, .ref q35, .int (iI 0), .int (iI 0), .int (iI (-1)), .int (iI (-1)), .int (iI 0), .int (iI 0), .int (iI 0), .int (iI 0), .int (iI 0)])), (q23, .inl (c24, Zi 486)), (q25, .inl (c26, Zi 486)), (q27, .inl (c28, Zi 486)), (q29, .inl (c30, Zi 3888)), (q31, .inl (c32, Zi 60)), (q33, .inl (c34, Zi 300)), (q35, .inl (c36, Zi 240))] H := hP
  have hD : va_D A [(q1, .inr (4, [.ref q2, .ref q5, .ref q7, .int (iI 0), .ref q9, .ref q12, .ref q19, .int (iI (-1)), .int (iI (-1))])), (q2, .inr (3, [.ref q3])), (q3, .inl (c4, Zi 310)), (q5, .inl (c6, Zi 310)), (q7, .inl (c8, Zi 310)), (q9, .inr (1, [.ref q10, .int (iI 0), .int (iI 0)])), (q10, .inl (c11, Zi 2480)), (q12, .inr (0, [.ref q13, .int (iI 0), .int (iI 0), .ref q15, .ref q17, .int (iI 0), .int (iI 0)])), (q13, .inl (c14, Zi 60)), (q15, .inl (c16, Zi 8)), (q17, .inl (c18, Zi 32)), (q19, .inr (2, [.ref q20, .int (iI 0)])), (q20, .inl (c21, Zi 240)), (q22, .inr (5, [.int (iI 0), .ref q23, .ref q25, .ref q27, .ref q29, .int (iI 0), .int (iI 0), .ref q31, .ref q33, .ref q35, .int (iI 0), .int (iI 0), .int (iI (-1)), .int (iI (-1)), .int (iI 0), .int (iI 0), .int (iI 0), .int (iI 0), .int (iI 0)])), (q23, .inl (c24, Zi 486)), (q25, .inl (c26, Zi 486)), (q27, .inl (c28, Zi 486)), (q29, .inl (c30, Zi 3888)), (q31, .inl (c32, Zi 60)), (q33, .inl (c34, Zi 300)), (q35, .inl (c36, Zi 240))] := hD
  have hK : va_K D gcl [(c4, .int), (c6, .int), (c8, .int), (c11, .int), (c14, .char), (c16, .int), (c18, .int), (c21, .char), (c24, .int), (c26, .int), (c28, .int), (c30, .int), (c32, .int), (c34, .int), (c36, .int)] s := hK
  refine W.widen (k := 21) (n := 9737) (Nat.le_of_ble_eq_true rfl) (Nat.le_of_ble_eq_true rfl) ?_
  refine lv_astore_n (lv' := [(2, .ref q22), (1, .ref q1), (0, .ref b)]) hx hb dL_law_15 rfl hl (by decide) rfl (fun ls hl => ?_)
  refine lv_iconst (v := iI 1) hx hb dL_law_16 (by decide) ?_
  refine va_newa (atype := .long) (ty := .long) (a0 := (1, .inr (.inl (afL z0)))) (N' := 1) hx hb (htW _ ar_long) rfl hK hP hD hS hA (fun _ => rfl) (by decide) (by decide) (by decide) (Nat.le_of_ble_eq_true rfl) (Nat.le_of_ble_eq_true rfl) dL_law_17 (fun q37 c37 H hK hP hD hS => ?_)
  have hP : va_P D gcl [(q1, .inr (4, [.ref q2, .ref q5, .ref q7, .int (iI 0), .ref q9, .ref q12, .ref q19, .int (iI (-1)), .int (iI (-1))])), (q2, .inr (3, [.ref q3])), (q3, .inl (c4, Zi 310)), (q5, .inl (c6, Zi 310)), (q7, .inl (c8, Zi 310)), (q9, .inr (1, [.ref q10, .int (iI 0), .int (iI 0)])), (q10, .inl (c11, Zi 2480)), (q12, .inr (0, [.ref q13, .int (iI 0), .int (iI 0), .ref q15, .ref q17, .int (iI 0), .int (iI 0)])), (q13, .inl (c14, Zi 60)), (q15, .inl (c16, Zi 8)), (q17, .inl (c18, Zi 32)), (q19, .inr (2, [.ref q20, .int (iI 0)])), (q20, .inl (c21, Zi 240)), (q22, .inr (5, [.int (iI 0), .ref q23, .ref q25, .ref q27, .ref q29, .int (iI 0), .int (iI 0), .ref q31, .ref q33, .ref q35, .int (iI 0), .int (iI 0), .int (iI (-1)), .int (iI (-1)), .int (iI 0), .int (iI 0), .int (iI 0), .int (iI 0), .int (iI 0)])), (q23, .inl (c24, Zi 486)), (q25, .inl (c26, Zi 486)), (q27, .inl (c28, Zi 486)), (q29, .inl (c30, Zi 3888)), (q31, .inl (c32, Zi 60)), (q33, .inl (c34, Zi 300)), (q35, .inl (c36, Zi 240)), (q37, .inl (c37, (1, .inr (.inl (afL z0)))))] H := hP
  have hD : va_D A [(q1, .inr (4, [.ref q2, .ref q5, .ref q7, .int (iI 0), .ref q9, .ref q12, .ref q19, .int (iI (-1)), .int (iI (-1))])), (q2, .inr (3, [.ref q3])), (q3, .inl (c4, Zi 310)), (q5, .inl (c6, Zi 310)), (q7, .inl (c8, Zi 310)), (q9, .inr (1, [.ref q10, .int (iI 0), .int (iI 0)])), (q10, .inl (c11, Zi 2480)), (q12, .inr (0, [.ref q13, .int (iI 0), .int (iI 0), .ref q15, .ref q17, .int (iI 0), .int (iI 0)])), (q13, .inl (c14, Zi 60)), (q15, .inl (c16, Zi 8)), (q17, .inl (c18, Zi 32)), (q19, .inr (2, [.ref q20, .int (iI 0)])), (q20, .inl (c21, Zi 240)), (q22, .inr (5, [.int (iI 0), .ref q23, .ref q25, .ref q27, .ref q29, .int (iI 0), .int (iI 0), .ref q31, .ref q33, .ref q35, .int (iI 0), .int (iI 0), .int (iI (-1)), .int (iI (-1)), .int (iI 0), .int (iI 0), .int (iI 0), .int (iI 0), .int (iI 0)])), (q23, .inl (c24, Zi 486)), (q25, .inl (c26, Zi 486)), (q27, .inl (c28, Zi 486)), (q29, .inl (c30, Zi 3888)), (q31, .inl (c32, Zi 60)), (q33, .inl (c34, Zi 300)), (q35, .inl (c36, Zi 240)), (q37, .inl (c37, (1, .inr (.inl (afL z0)))))] := hD
  have hK : va_K D gcl [(c4, .int), (c6, .int), (c8, .int), (c11, .int), (c14, .char), (c16, .int), (c18, .int), (c21, .char), (c24, .int), (c26, .int), (c28, .int), (c30, .int), (c32, .int), (c34, .int), (c36, .int), (c37, .long)] s := hK
  refine W.widen (k := 22) (n := 9738) (Nat.le_of_ble_eq_true rfl) (Nat.le_of_ble_eq_true rfl) ?_
  refine lv_astore_n (lv' := [(3, .ref q37), (2, .ref q22), (1, .ref q1), (0, .ref b)]) hx hb dL_law_19 rfl hl (by decide) rfl (fun ls hl => ?_)
  refine lv_iconst (v := iI 1) hx hb dL_law_20 (by decide) ?_
  refine va_newa (atype := .double) (ty := .double) (a0 := (1, .inr (.inr (.inr (.inl (afD z0)))))) (N' := 1) hx hb (htW _ ar_double) rfl hK hP hD hS hA (fun _ => rfl) (by decide) (by decide) (by decide) (Nat.le_of_ble_eq_true rfl) (Nat.le_of_ble_eq_true rfl) dL_law_21 (fun q38 c38 H hK hP hD hS => ?_)
  have hP : va_P D gcl [(q1, .inr (4, [.ref q2, .ref q5, .ref q7, .int (iI 0), .ref q9, .ref q12, .ref q19, .int (iI (-1)), .int (iI (-1))])), (q2, .inr (3, [.ref q3])), (q3, .inl (c4, Zi 310)), (q5, .inl (c6, Zi 310)), (q7, .inl (c8, Zi 310)), (q9, .inr (1, [.ref q10, .int (iI 0), .int (iI 0)])), (q10, .inl (c11, Zi 2480)), (q12, .inr (0, [.ref q13, .int (iI 0), .int (iI 0), .ref q15, .ref q17, .int (iI 0), .int (iI 0)])), (q13, .inl (c14, Zi 60)), (q15, .inl (c16, Zi 8)), (q17, .inl (c18, Zi 32)), (q19, .inr (2, [.ref q20, .int (iI 0)])), (q20, .inl (c21, Zi 240)), (q22, .inr (5, [.int (iI 0), .ref q23, .ref q25, .ref q27, .ref q29, .int (iI 0), .int (iI 0), .ref q31, .ref q33, .ref q35, .int (iI 0), .int (iI 0), .int (iI (-1)), .int (iI (-1)), .int (iI 0), .int (iI 0), .int (iI 0), .int (iI 0), .int (iI 0)])), (q23, .inl (c24, Zi 486)), (q25, .inl (c26, Zi 486)), (q27, .inl (c28, Zi 486)), (q29, .inl (c30, Zi 3888)), (q31, .inl (c32, Zi 60)), (q33, .inl (c34, Zi 300)), (q35, .inl (c36, Zi 240)), (q37, .inl (c37, (1, .inr (.inl (afL z0))))), (q38, .inl (c38, (1, .inr (.inr (.inr (.inl (afD z0)))))))] H := hP
  have hD : va_D A [(q1, .inr (4, [.ref q2, .ref q5, .ref q7, .int (iI 0), .ref q9, .ref q12, .ref q19, .int (iI (-1)), .int (iI (-1))])), (q2, .inr (3, [.ref q3])), (q3, .inl (c4, Zi 310)), (q5, .inl (c6, Zi 310)), (q7, .inl (c8, Zi 310)), (q9, .inr (1, [.ref q10, .int (iI 0), .int (iI 0)])), (q10, .inl (c11, Zi 2480)), (q12, .inr (0, [.ref q13, .int (iI 0), .int (iI 0), .ref q15, .ref q17, .int (iI 0), .int (iI 0)])), (q13, .inl (c14, Zi 60)), (q15, .inl (c16, Zi 8)), (q17, .inl (c18, Zi 32)), (q19, .inr (2, [.ref q20, .int (iI 0)])), (q20, .inl (c21, Zi 240)), (q22, .inr (5, [.int (iI 0), .ref q23, .ref q25, .ref q27, .ref q29, .int (iI 0), .int (iI 0), .ref q31, .ref q33, .ref q35, .int (iI 0), .int (iI 0), .int (iI (-1)), .int (iI (-1)), .int (iI 0), .int (iI 0), .int (iI 0), .int (iI 0), .int (iI 0)])), (q23, .inl (c24, Zi 486)), (q25, .inl (c26, Zi 486)), (q27, .inl (c28, Zi 486)), (q29, .inl (c30, Zi 3888)), (q31, .inl (c32, Zi 60)), (q33, .inl (c34, Zi 300)), (q35, .inl (c36, Zi 240)), (q37, .inl (c37, (1, .inr (.inl (afL z0))))), (q38, .inl (c38, (1, .inr (.inr (.inr (.inl (afD z0)))))))] := hD
  have hK : va_K D gcl [(c4, .int), (c6, .int), (c8, .int), (c11, .int), (c14, .char), (c16, .int), (c18, .int), (c21, .char), (c24, .int), (c26, .int), (c28, .int), (c30, .int), (c32, .int), (c34, .int), (c36, .int), (c37, .long), (c38, .double)] s := hK
  refine W.widen (k := 23) (n := 9739) (Nat.le_of_ble_eq_true rfl) (Nat.le_of_ble_eq_true rfl) ?_
  refine lv_astore (lv' := [(4, .ref q38), (3, .ref q37), (2, .ref q22), (1, .ref q1), (0, .ref b)]) hx hb dL_law_23 hl (by decide) rfl (fun ls hl => ?_)
  refine lv_iconst (v := iI 0) hx hb dL_law_25 (by decide) ?_
  refine lv_istore (lv' := [(5, .int (iI 0)), (4, .ref q38), (3, .ref q37), (2, .ref q22), (1, .ref q1), (0, .ref b)]) hx hb dL_law_26 hl (by decide) rfl (fun ls hl => ?_)
  have e_c6 : c4 = c6 := Option.some.inj ((show s.vm.findClass _ = some c4 from (hK.2 0 _ rfl).2).symm.trans (show s.vm.findClass _ = some c6 from (hK.2 1 _ rfl).2))
  have e_c8 : c4 = c8 := Option.some.inj ((show s.vm.findClass _ = some c4 from (hK.2 0 _ rfl).2).symm.trans (show s.vm.findClass _ = some c8 from (hK.2 2 _ rfl).2))
  have e_c11 : c4 = c11 := Option.some.inj ((show s.vm.findClass _ = some c4 from (hK.2 0 _ rfl).2).symm.trans (show s.vm.findClass _ = some c11 from (hK.2 3 _ rfl).2))
  have e_c16 : c4 = c16 := Option.some.inj ((show s.vm.findClass _ = some c4 from (hK.2 0 _ rfl).2).symm.trans (show s.vm.findClass _ = some c16 from (hK.2 5 _ rfl).2))
  have e_c18 : c4 = c18 := Option.some.inj ((show s.vm.findClass _ = some c4 from (hK.2 0 _ rfl).2).symm.trans (show s.vm.findClass _ = some c18 from (hK.2 6 _ rfl).2))
  have e_c24 : c4 = c24 := Option.some.inj ((show s.vm.findClass _ = some c4 from (hK.2 0 _ rfl).2).symm.trans (show s.vm.findClass _ = some c24 from (hK.2 8 _ rfl).2))
  have e_c26 : c4 = c26 := Option.some.inj ((show s.vm.findClass _ = some c4 from (hK.2 0 _ rfl).2).symm.trans (show s.vm.findClass _ = some c26 from (hK.2 9 _ rfl).2))
  have e_c28 : c4 = c28 := Option.some.inj ((show s.vm.findClass _ = some c4 from (hK.2 0 _ rfl).2).symm.trans (show s.vm.findClass _ = some c28 from (hK.2 10 _ rfl).2))
  have e_c30 : c4 = c30 := Option.some.inj ((show s.vm.findClass _ = some c4 from (hK.2 0 _ rfl).2).symm.trans (show s.vm.findClass _ = some c30 from (hK.2 11 _ rfl).2))
  have e_c32 : c4 = c32 := Option.some.inj ((show s.vm.findClass _ = some c4 from (hK.2 0 _ rfl).2).symm.trans (show s.vm.findClass _ = some c32 from (hK.2 12 _ rfl).2))
  have e_c34 : c4 = c34 := Option.some.inj ((show s.vm.findClass _ = some c4 from (hK.2 0 _ rfl).2).symm.trans (show s.vm.findClass _ = some c34 from (hK.2 13 _ rfl).2))
  have e_c36 : c4 = c36 := Option.some.inj ((show s.vm.findClass _ = some c4 from (hK.2 0 _ rfl).2).symm.trans (show s.vm.findClass _ = some c36 from (hK.2 14 _ rfl).2))
  have e_c21 : c14 = c21 := Option.some.inj ((show s.vm.findClass _ = some c14 from (hK.2 4 _ rfl).2).symm.trans (show s.vm.findClass _ = some c21 from (hK.2 7 _ rfl).2))
  subst e_c6
  subst e_c8
  subst e_c11
  subst e_c16
  subst e_c18
  subst e_c24
  subst e_c26
  subst e_c28
  subst e_c30
  subst e_c32
  subst e_c34
  subst e_c36
  subst e_c21
  obtain ⟨ekf, evf, hE⟩ := start_env (A := A) hts hgv (fun a h h2 => absurd (hA2 a h2) (by omega))
  obtain ⟨E, hEe⟩ : ∃ E : EV, E = (D, (fun k => [q1, q2, q3, q5, q7, q9, q10, q12, q13, q15, q17, q19, q20, q22, q23, q25, q27, q29, q31, q33, q35, q37, q38].getD k 0), (fun k => [c4, c14, c37, c38].getD k c4), ekf, evf) := ⟨_, rfl⟩
  have hEK : EK E s ∧ EH E A s s.heap := by rw [hEe]; exact hE D _ _ (hK.sub [0, 4, 15, 16] rfl)
  have hPE : va_P E.1 gcl (Wd E s0) H := by rw [hEe]; exact hP.sub [0, 1, 2, 3, 4, 5, 6, 7, 8, 9, 10, 11, 12, 13, 14, 15, 16, 17, 18, 19, 20, 21, 22] rfl
  have hDE : va_D A (Wd E s0) := by rw [hEe]; exact hD.sub [0, 1, 2, 3, 4, 5, 6, 7, 8, 9, 10, 11, 12, 13, 14, 15, 16, 17, 18, 19, 20, 21, 22] (by decide) rfl
  have hap : apart E := fun i j hi hj h => by
    obtain ⟨e1, h1⟩ := Wd_get (E := E) (σ := s0) hi
    obtain ⟨e2, h2⟩ := Wd_get (E := E) (σ := s0) hj
    exact hDE.1 i j _ _ h1 h2 h
  have hin9 : ∀ k : Nat, k < 23 → A (ea E k) := fun k hk => by
    obtain ⟨e1, h1⟩ := Wd_get (E := E) (σ := s0) hk
    exact hDE.2 k _ h1
  have C : CX p l e room_1 s m #[Value.ref b] below meth c RL cL_law 9 E A (some .boolean) := ⟨hx, hb, hml, hown, htW, hlocks, hEK.1, hEK.2, hap, hin9, hA, hr⟩
  have hSX : SX b L xs s A := ⟨hX, hbl, fun h => absurd (hA2 b h) (by omega), hL⟩
  have hl : lv_has ls 9 [(0, .ref b), (1, .ref (ea E 0)), (2, .ref (ea E 13)), (3, .ref (ea E 21)), (4, .ref (ea E 22)), (5, .int (iI 0))] := by rw [hEe]; exact lv_sub hl [5, 4, 3, 2, 1, 0] rfl
  have hend : ∀ (σ : SS) (k n : Nat) (L0 : List (Nat × Value)), k ≤ 3108 → n ≤ 128601 → GG p l e room_1 s m #[Value.ref b] below meth c (lw_Z below #[Value.ref b] s) E A 9 σ k n 2919 L0 [.int (iI 1)] := by
    intro σ k n L0 hk hn H2 locs2 ls2 hl2 hP2 hS2
    refine va_forget (fun q hq => hA2 _ (hS2.2.2 q hq)) ?_
    refine W.widen hk hn ?_
    exact W.base (lw_ret (d0 := s.drawn) (Drawn.sameBut.refl s.drawn lw_cs) hx hb hr hlocks dL_law_2919)
  exact law_loop hst C hSX hend (((L : Int) - 0).toNat + 1) 0 s0 23 9739 (Nat.lt_succ_self _) (by omega) (by omega) (by omega) (by omega) INV_s0 H _ ls hl hPE hS
set_option maxHeartbeats 4000000 in
theorem lw_walk (l : Launch) (hflags : l.flags = flags0) (b : Addr) (xs : List Int32) : MetFree l x (headSpec (Jvm.Cond.code x code maxLocals ret :: tables_1) room_1) (lw_P b xs) (fun _ _ _ _ _ => True) lw_Q := by
  refine MetFree.of_bodyS (code := code) (maxLocals := maxLocals) (ret := ret) (by decide) ?_ ?_
  · intro args s m h hn
    obtain ⟨meth, c, h1, h2, h3, h4, h5, h6, -, -⟩ := Cond.code_spec hn (atoms_spec (ws := Jvm.Cond.code x code maxLocals ret :: tables_1) h _ List.mem_cons_self)
    exact ⟨meth, c, h1, h2, h3, h4, h5, h6⟩
  · intro p e s m args below meth c s₁ B hml0 hP _
    obtain ⟨rfl, hx, hbd, hgv⟩ := hP
    obtain ⟨scr, harrAt, hlist, hof, hsmall⟩ := hx
    obtain ⟨hcb, hkn, -, -⟩ := State.arrayAt?_spec harrAt
    have hown : s.vm.findClass R_law = some m.cls := findClass_of_methodNamed B.named
    have hts0 : ∀ c ∈ (Jvm.Cond.code x code maxLocals ret :: tables_1), c.before #[Value.ref b] s = true := atoms_spec (ws := Jvm.Cond.code x code maxLocals ret :: tables_1) B.pre
    have hts : ∀ w ∈ lw_tbl, w.before #[Value.ref b] s = true := k2_hts_sels lw_privs (fun w hw => hts0 w (List.mem_cons_of_mem _ hw)) lw_privs_ok
    have hml : c.maxLocals = 9 := B.maxLocals_eq (hts0 _ List.mem_cons_self)
    have X₀ : Stand p l e room_1 s m #[Value.ref b] below meth c s₁ [] 0 0 := Stand.of_body B
    have hh0 : s₁.heap = s.heap := by rw [B.state]; rfl
    have hsz : scr.slots.size = xs.length := by rw [← Array.length_toList, hlist, List.length_map]
    have hval : ∀ j : Nat, j < xs.length → scr.slots[j]? = some (.int (xs.getD j 0)) := fun j hj => by
      rw [← Array.getElem?_toList, hlist]
      simp [hj]
    have hbl : b < s.heap.size := (Array.getElem?_eq_some_iff.mp hcb).1
    have hX : va_X b xs.length (fun j => xs.getD j 0) s s.heap := ⟨scr, hcb, hof, hkn, hsz, hval⟩
    have K : W p l e room_1 s m #[Value.ref b] below meth c s₁.heap [] 0 0 (lw_Z below #[Value.ref b] s) (entryFrame m ([Value.ref b] : List Value).toArray 9) := by
      rw [hh0]
      exact whole_start l hflags hbd ⟨B.exec, B.bytes, B.returns, hml, hown, hts, hX, hbl, B.notSynchronized, hgv⟩
    obtain ⟨t, a1, o, b1, b2, b3⟩ := K s₁ rfl X₀
    exact ⟨t, o, a1, b1, b2, b3⟩
theorem lw_pre_spec {args : Array Value} {s : State} (h : (Jvm.Cond.and given_1 narrow_1).before args s = true) (hr : rest_1_c.before args s = true) : ∃ (b : Addr) (xs : List Int32), lw_P b xs args s := by
  have hs := flat_of_before _ h
  have hq := flat_of_before _ hr
  have hc : (Cond.count 1).before args s = true := hs _ (by decide +kernel)
  have harr : (Cond.arrayOf (.arg 0) .int).before args s = true := hs _ (by decide +kernel)
  have hle : (Cond.le (.length (.arg 0)) (.int 2560)).before args s = true := hs _ (by decide +kernel)
  have hlen : (Cond.isInt (.length (.arg 0))).before args s = true := hq _ (by decide +kernel)
  have hall : (Cond.all (.arg 0) (.isInt (.elem (.arg 0) (.index 0)))).before args s = true := hq _ (by decide +kernel)
  obtain ⟨b, xs, hb, hx⟩ := State.ints_of_pre rfl harr hlen hall
  have hsm : xs.length < 2 ^ 31 := hx.choose_spec.2.2.2
  have hev : (Term.length (.arg 0)).eval args s none [] s = some (.int xs.length.toInt32) := hx.length_eval hb
  have hv := Cond.le_ints hev (show (Term.int 2560).eval args s none [] s = some (.int 2560) from rfl)
  have hd : xs.length.toInt32 ≤ 2560 := by
    simpa [Cond.before, Cond.holds, hv] using hle
  have hN : xs.length ≤ 2560 := (Int32.ofNat_le_ofNat hsm (by decide)).mp (show Int32.ofNat xs.length ≤ Int32.ofNat 2560 from hd)
  exact ⟨b, xs, Cond.one_arg hc (show args[0]? = some (.ref b) from hb), hx, hN, h⟩
theorem lw_comes (l : Launch) (hflags : l.flags = flags0) : Comes l x (Jvm.Cond.code x code maxLocals ret :: tables_1) room_1 (fun tb e args s => Calls_1 tb e args s ∧ rest_1 tb e args s ∧ Pre_1 tb e args s)
    (fun _ _ args s o t => lw_Q args s o t) := by
  intro p e ha hc hk s m args below hf hfit hheap happ hpre
  obtain ⟨b, xs, hP⟩ := lw_pre_spec hpre.2.2 hpre.2.1
  obtain ⟨k, o, h1, h2, h3, hQ⟩ := lw_walk l hflags b xs p e ha hc hk s m args below hf ((Spec.applies_iff_loose hf).mp happ).1 hP trivial
  exact ⟨k, o, h1, h2, h3, hQ⟩
theorem lw_frame {s t : State} {o : Outcome} {args : Array Value} (h : State.butDraws s t lw_cs (fun t1 => Framed s o t1 [] 3108 128601)) :
    State.butDraws s t [Jvm.Choice.named "NaN.bits"] (fun t1 => Framed s o t1 (fieldLocs frame_1_writes args s ++ arrayLocs frame_1_arrays args s ++ staticLocs frame_1_statics s) 3108 128601) := h
theorem lw_limb (L : Cond) (hL : ∀ (args : Array Value) (s t : State), L.after args s (.returned (some (.int 1))) t = true) :
    ArmFor flags0 classFile x code maxLocals ret World_1 tables_1 room_1 Calls_1 rest_1 Pre_1
      (fun tb e a s o t => postC L tb e a s o t ∧ State.butDraws s t [Jvm.Choice.named "NaN.bits"] (fun t1 => Framed s o t1 (fieldLocs frame_1_writes a s ++ arrayLocs frame_1_arrays a s ++ staticLocs frame_1_statics s) 3108 128601)) := by
  intro l hflags _ _ p e ha hc hk s m args below hf hfit hheap happ hpre
  obtain ⟨k, o, h1, h2, h3, rfl, hF⟩ := lw_comes l hflags p e ha hc hk s m args below hf hfit hheap happ hpre
  exact ⟨k, _, h1, h2, h3, hL args s _, lw_frame hF⟩
theorem i_vc : Claimed_1_1 ∧ Claimed_1_2 := ⟨lw_limb limb_1_1 (fun args s t => by simp [limb_1_1, Cond.after, Cond.holds, Cond.value]), lw_limb limb_1_2 (fun args s t => Cond.after_iff.mpr (by
  first | (rw [show limb_1_2 = Cond.eq .result (.int 1) from rfl, Cond.eq_ints (x := 1) (y := 1) rfl rfl]; simp; done) | (simp [limb_1_2, Cond.value, Term.eval]; done)))⟩
