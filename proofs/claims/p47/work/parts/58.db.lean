/-- the same, with a made string -/
def wY (E : EV) (d : DYN) : EV := (E.1, E.2.1, E.2.2.1, E.2.2.2.1, E.2.2.2.2.1, E.2.2.2.2.2.1, d)
theorem EK_wY {E : EV} {d : DYN} {U : State} (h : EK E U) : EK (wY E d) U := h
theorem EH_wY {E : EV} {d : DYN} {A : Nat → Prop} {U : State} {H : Heap} (h : EH E A U H) (hd : DY d A U H) : EH (wY E d) A U H := ⟨h.1, h.2.1, h.2.2.1, h.2.2.2.1, h.2.2.2.2.1, h.2.2.2.2.2.1, h.2.2.2.2.2.2.1, h.2.2.2.2.2.2.2.1, hd⟩
theorem DY_of {q v n : Nat} {f : Nat → Int32} {A : Nat → Prop} {U : State} {H : Heap} (h : SQ q v n f A U H) : DY (some (q, v, n, f)) A U H := fun _ _ _ _ he => by cases he; exact h
theorem SQ_of {args : Array Value} {s : State} {D : va_G} {ws : va_W} {tb : List (ClassId × FieldType)} {H : Heap} {B : Nat → Prop} {q v N i0 i1 t0 : Nat} {cB : ClassId} {f : Nat → Int32} {x2 x3 : Value} (hts : ∀ w ∈ WA, w.before args s = true) (hK : va_K D gcl tb s) (hP : va_P D gcl ws H) (h0 : ws[i0]? = some (q, .inr (6, [.ref v, .int (iI 0), x2, x3]))) (h1 : ws[i1]? = some (v, .inl (cB, N, .inl f))) (ht : tb[t0]? = some (cB, .byte)) (hN : N ≤ 1000) (hq : ¬ B q) (hv : ¬ B v) : SQ q v N f B s H := by
  obtain ⟨r, hr, cell, g1, g2, g3, g4⟩ := hP i0 _ h0
  cases hr
  have hKn := hK.1 6 _ rfl
  obtain ⟨hfc, kC, hkC, -⟩ := hKn.2
  have e0 : iI 0 = 0 := by decide
  refine ⟨⟨cell, g1, by rw [g3]; rfl, by rw [g2]; exact hfc, hq⟩, ?_, ?_, ?_⟩
  · obtain ⟨cf, kf, fi, fd, hi, hs⟩ := hKn.1 1 (by decide)
    have hf := u_facts hfc hkC (u_lays hts uw_J0 (k := 1) (by decide)) hi
    refine ⟨cf, kf, fi, fd, cell, hi, hf.1, g1, (by rw [g3]; intro h; cases h), ?_, hq⟩
    have h4 := g4 1 (by decide)
    rw [hs, h4]
    show some (Value.int (iI 0)) = _
    rw [e0]
  · obtain ⟨cf, kf, fi, fd, hi, hs⟩ := hKn.1 0 (by decide)
    have hf := u_facts hfc hkC (u_lays hts uw_J0 (k := 0) (by decide)) hi
    refine ⟨cf, kf, fi, fd, cell, hi, hf.1, g1, (by rw [g3]; intro h; cases h), ?_, hq⟩
    have h4 := g4 0 (by decide)
    rw [hs, h4]; rfl
  · have h5 : H[v]? = some (arrV cB N (fun j => .int (f j))) := hP i1 _ h1
    refine ⟨_, h5, (hK.2 t0 _ ht).1 N _, (by intro h; cases h), (by rw [arrV_size]; exact Nat.le_refl _), ?_, fun j hj => arrV_read cB _ hj, hv⟩
    rw [arrV_size]
theorem nA_of {ws wc : va_W} {A : Nat → Prop} {sz i0 q : Nat} {e : va_E} {isC : List Nat} (hD : va_D A ws) (hC : isC.map (fun i => ws[i]?) = wc.map some) (h0 : ws[i0]? = some (q, e)) (hni : i0 ∉ isC) (hlt : q < sz) : ¬ va_A wc sz q := by
  rintro (⟨k, e2, h⟩ | h)
  · have h1 : (isC.map (fun i => ws[i]?))[k]? = some (some (q, e2)) := by rw [hC, List.getElem?_map, h]; rfl
    rw [List.getElem?_map] at h1
    cases hi : isC[k]? with
    | none => rw [hi] at h1; cases h1
    | some j =>
      rw [hi] at h1
      have h2 : ws[j]? = some (q, e2) := Option.some.inj h1
      have h3 := hD.1 j i0 _ _ h2 h0 rfl
      subst h3
      exact hni (List.mem_of_getElem? hi)
  · omega
theorem nW_of {E : EV} {σ : SS} {wx : va_W} {A : Nat → Prop} {sz i0 q : Nat} {e : va_E} (hD : va_D A (Wd E σ ++ wx)) (h0 : (Wd E σ ++ wx)[i0]? = some (q, e)) (hi : 14 ≤ i0) (hlt : q < sz) : ¬ aA E sz q := by
  rintro (⟨k, hk, he⟩ | h)
  · have h1 := Wd_ad E σ k hk
    cases hz : (Wd E σ)[k]? with
    | none => rw [hz] at h1; cases h1
    | some z =>
      rw [hz] at h1
      have h2 : (Wd E σ ++ wx)[k]? = some z := by rw [List.getElem?_append_left (by rw [Wd_len]; exact hk)]; exact hz
      have h3 := hD.1 k i0 _ _ h2 h0 (by rw [he]; exact Option.some.inj h1)
      omega
  · omega
theorem Wd_pre {E : EV} {σ : SS} {wx : va_W} {D : va_G} {H : Heap} (hP : va_P D gcl (Wd E σ ++ wx) H) : va_P D gcl (Wd E σ) H := fun k q h => hP k q (by
  have hk : k < (Wd E σ).length := (List.getElem?_eq_some_iff.mp h).1
  rw [List.getElem?_append_left hk]; exact h)
/-- the constant strings, as strings of one's own -/
abbrev kf (i : Nat) : Nat → Int32 := fun j => (sB.getD i []).getD j 0
abbrev kg (i : Nat) : Int → Int := fun j => ((sB.getD i []).getD j.toNat 0).toInt
theorem kf_ok (i ny : Nat) (h : ∀ j : Nat, j < ny → 32 ≤ ((sB.getD i []).getD j 0).toInt ∧ ((sB.getD i []).getD j 0).toInt ≤ 126 ∧ ((sB.getD i []).getD j 0).toInt ≠ 117) : (∀ j : Int, 0 ≤ j → j < ny → kf i j.toNat = iI (kg i j) ∧ 0 ≤ kg i j ∧ kg i j < 128) ∧ ∀ j : Int, 0 ≤ j → j < ny → 32 ≤ kg i j ∧ kg i j ≤ 126 ∧ kg i j ≠ 117 := by
  refine ⟨fun j h0 h1 => ?_, fun j h0 h1 => h j.toNat (by omega)⟩
  have h2 := h j.toNat (by omega)
  refine ⟨(Int32.ofInt_toInt _).symm, ?_, ?_⟩
  · show 0 ≤ ((sB.getD i []).getD j.toNat 0).toInt; omega
  · show ((sB.getD i []).getD j.toNat 0).toInt < 128; omega
theorem kc_3 : (∀ j : Int, 0 ≤ j → j < ((4 : Nat) : Int) → kf 3 j.toNat = iI (kg 3 j) ∧ 0 ≤ kg 3 j ∧ kg 3 j < 128) ∧ ∀ j : Int, 0 ≤ j → j < ((4 : Nat) : Int) → 32 ≤ kg 3 j ∧ kg 3 j ≤ 126 ∧ kg 3 j ≠ 117 := kf_ok 3 4 (by decide +kernel)
theorem kc_4 : (∀ j : Int, 0 ≤ j → j < ((1 : Nat) : Int) → kf 4 j.toNat = iI (kg 4 j) ∧ 0 ≤ kg 4 j ∧ kg 4 j < 128) ∧ ∀ j : Int, 0 ≤ j → j < ((1 : Nat) : Int) → 32 ≤ kg 4 j ∧ kg 4 j ≤ 126 ∧ kg 4 j ≠ 117 := kf_ok 4 1 (by decide +kernel)
theorem kc_5 : (∀ j : Int, 0 ≤ j → j < ((1 : Nat) : Int) → kf 5 j.toNat = iI (kg 5 j) ∧ 0 ≤ kg 5 j ∧ kg 5 j < 128) ∧ ∀ j : Int, 0 ≤ j → j < ((1 : Nat) : Int) → 32 ≤ kg 5 j ∧ kg 5 j ≤ 126 ∧ kg 5 j ≠ 117 := kf_ok 5 1 (by decide +kernel)
theorem kc_6 : (∀ j : Int, 0 ≤ j → j < ((6 : Nat) : Int) → kf 6 j.toNat = iI (kg 6 j) ∧ 0 ≤ kg 6 j ∧ kg 6 j < 128) ∧ ∀ j : Int, 0 ≤ j → j < ((6 : Nat) : Int) → 32 ≤ kg 6 j ∧ kg 6 j ≤ 126 ∧ kg 6 j ≠ 117 := kf_ok 6 6 (by decide +kernel)
theorem kc_7 : (∀ j : Int, 0 ≤ j → j < ((1 : Nat) : Int) → kf 7 j.toNat = iI (kg 7 j) ∧ 0 ≤ kg 7 j ∧ kg 7 j < 128) ∧ ∀ j : Int, 0 ≤ j → j < ((1 : Nat) : Int) → 32 ≤ kg 7 j ∧ kg 7 j ≤ 126 ∧ kg 7 j ≠ 117 := kf_ok 7 1 (by decide +kernel)
theorem kc_9 : (∀ j : Int, 0 ≤ j → j < ((6 : Nat) : Int) → kf 9 j.toNat = iI (kg 9 j) ∧ 0 ≤ kg 9 j ∧ kg 9 j < 128) ∧ ∀ j : Int, 0 ≤ j → j < ((6 : Nat) : Int) → 32 ≤ kg 9 j ∧ kg 9 j ≤ 126 ∧ kg 9 j ≠ 117 := kf_ok 9 6 (by decide +kernel)
theorem kc_10 : (∀ j : Int, 0 ≤ j → j < ((6 : Nat) : Int) → kf 10 j.toNat = iI (kg 10 j) ∧ 0 ≤ kg 10 j ∧ kg 10 j < 128) ∧ ∀ j : Int, 0 ≤ j → j < ((6 : Nat) : Int) → 32 ≤ kg 10 j ∧ kg 10 j ≤ 126 ∧ kg 10 j ≠ 117 := kf_ok 10 6 (by decide +kernel)
theorem kc_11 : (∀ j : Int, 0 ≤ j → j < ((3 : Nat) : Int) → kf 11 j.toNat = iI (kg 11 j) ∧ 0 ≤ kg 11 j ∧ kg 11 j < 128) ∧ ∀ j : Int, 0 ≤ j → j < ((3 : Nat) : Int) → 32 ≤ kg 11 j ∧ kg 11 j ≤ 126 ∧ kg 11 j ≠ 117 := kf_ok 11 3 (by decide +kernel)
theorem kc_12 : (∀ j : Int, 0 ≤ j → j < ((1 : Nat) : Int) → kf 12 j.toNat = iI (kg 12 j) ∧ 0 ≤ kg 12 j ∧ kg 12 j < 128) ∧ ∀ j : Int, 0 ≤ j → j < ((1 : Nat) : Int) → 32 ≤ kg 12 j ∧ kg 12 j ≤ 126 ∧ kg 12 j ≠ 117 := kf_ok 12 1 (by decide +kernel)
section TABS
variable {p : Program} {l : Launch} {e : Env} {R : Room} {s : State} {m : MethodId} {args : Array Value} {below : List Frame} {meth : Method} {c : Code} {own : String} {cc : ByteArray} {nL : Nat} {E : EV} {A : Nat → Prop} {Q : State → Prop} {rt : Option FieldType} {σ : SS} {k n pc q : Nat} {L : List (Nat × Value)} {sk : List Value}
theorem CX.toCB (C : CX p l e R s m args below meth c own cc nL E A rt) : CB p l e R s m args below meth c own cc nL E A rt := ⟨C.exec, C.code, C.ml, C.hown, C.hts, C.locks, C.K, C.EH, C.big, C.ret⟩
theorem g_toB (C : CX p l e R s m args below meth c own cc nL E A rt) (K : GB p l e R s m args below meth c Q E A nL (tys E ++ []) (Wd E σ ++ []) k n pc L sk) : GG p l e R s m args below meth c Q E A nL σ k n pc L sk := fun H locs ls hl hP hS => K H locs ls hl (by rw [List.append_nil]; exact C.K.1) (by rw [List.append_nil]; exact hP) (by rw [List.append_nil]; exact C.D σ) hS
theorem b_lds (C : CB p l e R s m args below meth c own cc nL E A rt) {tb : List (ClassId × FieldType)} {ws : va_W} {is i : Nat} {tx : String} (hz : (own, is, tx, i) ∈ sT) (d : decode cc pc = .ok (.ldc is, 2)) (hq : pc + 2 = q) (K : GB p l e R s m args below meth c Q E A nL tb ws k n q L (.ref (ek E i) :: sk)) : GB p l e R s m args below meth c Q E A nL tb ws k n pc L sk := by
  subst hq; intro H locs ls hl hK hP hD hS
  exact va_ldcS C.exec C.code C.hown (C.K.2.2.1 _ hz) d (K H locs ls hl hK hP hD hS)
theorem b_ldsw (C : CB p l e R s m args below meth c own cc nL E A rt) {tb : List (ClassId × FieldType)} {ws : va_W} {is i : Nat} {tx : String} (hz : (own, is, tx, i) ∈ sT) (d : decode cc pc = .ok (.ldc_w is, 3)) (hq : pc + 3 = q) (K : GB p l e R s m args below meth c Q E A nL tb ws k n q L (.ref (ek E i) :: sk)) : GB p l e R s m args below meth c Q E A nL tb ws k n pc L sk := by
  subst hq; intro H locs ls hl hK hP hD hS
  intro T hT X
  obtain ⟨t, a1, b1⟩ := K H locs ls hl hK hP hD hS T hT X
  have hZ := C.K.2.2.1 _ hz
  exact ⟨t, X.ldcStringW C.exec C.hown (text := tx) (a := ek E i) hZ.1 hZ.2 (g := F0 m pc ls sk) rfl (by rw [C.code]; exact d) t a1, b1⟩
end TABS
section BCALLY
variable {p : Program} {l : Launch} {e : Env} {R : Room} {s : State} {m : MethodId} {args : Array Value} {below : List Frame} {meth : Method} {c : Code} {own : String} {cc : ByteArray} {nL : Nat} {E : EV} {A : Nat → Prop} {Q : State → Prop} {rt : Option FieldType}
variable {tb tbc : List (ClassId × FieldType)} {ws wc wr : va_W} {k n pc q mc ms : Nat} {L L' : List (Nat × Value)} {sk sk0 : List Value} {y : MethodName} {b : ByteArray} {mL nA idx : Nat} {ret : Option FieldType} {rm : Room} {As : List Value} {x : Nat}
theorem b_cY_r (C : CB p l e R s m args below meth c own cc nL E A rt) {REL : Nat → va_W → List (ClassId × FieldType) → Prop} {qy vy ny : Nat} {f9 : Nat → Int32} (hq9 : ∀ (H : Heap) (locs : List Loc), va_K E.1 gcl tb s → va_P E.1 gcl ws H → va_D A ws → va_S A s.heap H locs → SQ qy vy ny f9 (va_A wc H.size) s H) (hM : Br l y (cw y b mL ret) rm (wY E (some (qy, vy, ny, f9))) (.ref x :: As) wc tbc REL mc ms) (i0 ci : Nat) {vc : vw_C} {fs : List Value} (hl : Cond.methodLink own idx y ∈ WA) (hy : mfV y b mL ret nA) (ho : ws[i0]? = some (x, .inr (ci, fs))) (hc : gcl[ci]? = some vc) (hv : vc.1 = y.cls) (hn : As.length = nA) (hR : rm.frames + 1 ≤ R.frames ∧ 8 + (mL + 11) + rm.locals ≤ R.locals) (hrc : rm.cells = mc) (hrs : rm.slots = ms) (hst : sk0 = As.reverse ++ .ref x :: sk) (hcat : (sk.map fun v => v.category).sum ≤ 8) (hkn : k + mc ≤ R.cells ∧ n + ms ≤ R.slots) (d : decode cc pc = .ok (.invokevirtual idx, 3)) (hq : pc + 3 = q) (isC isR isT : List Nat) (hC9 : isC.map (fun i => ws[i]?) = wc.map some) (hR9 : isR.map (fun i => ws[i]?) = wr.map some) (hnC : va_nd isC = true) (hnR : va_nd isR = true) (hdis : ∀ i ∈ isR, i ∉ isC) (hT9 : isT.filterMap (fun i => tb[i]?) = tbc) (K : ∀ (r1 : Nat) (w1 : va_W) (tb1 : List (ClassId × FieldType)), REL r1 w1 tb1 → GB p l e R s m args below meth c Q E A nL (tb ++ tb1) (wr ++ w1) (k + mc) (n + ms) q L (.ref r1 :: sk)) : GB p l e R s m args below meth c Q E A nL tb ws k n pc L sk0 := by
  subst hq; subst hst; intro H locs ls hl2 hK hP hD hS
  have hPc : va_P E.1 gcl wc H := hP.sub isC (fm_of hC9)
  have hDc := hD.sub isC hnC hC9
  have hKc := hK.sub isT hT9
  have hFc := va_free hD hS C.big isC hC9
  refine va_callr (va_runV (As := As) (rest := sk) C.fix (hM H.size) (cwV nA C.hts (hy.gV hl) rfl hrc hrs ⟨rfl, hy.2.2.2.2⟩ hR) ⟨PB_blind, by rw [← hv]; exact va_recv C.K.1 hP (ci := ci) (q0 := i0) hc ho, fun U hU hW => ⟨rfl, by rw [hU], by rw [hU]; exact hPc, ⟨hDc.1, fun _ _ _ => trivial⟩, va_K.moved hW.alike hKc, EK_wY (EK.warm hW C.K), by rw [hU]; exact EH.moved hW.alike (EH_wY ((C.EH.kept hS.2.1).narrow hFc) (DY_of (hq9 H locs hK hP hD hS)))⟩⟩ rfl hn hl2.1 rfl (lv_room hcat) d hkn) hS (fun q _ h => hFc q h) hFc (fun u ra t H1 locs1 ht hvm hw hB hz hk hS1 => ?_)
  obtain ⟨hB0, hB1, hB2, hB3⟩ := hB
  rw [ht] at hB1
  obtain ⟨hP9, hD9⟩ := va_join hP hD isC isR hC9 hR9 hnR hdis hk hFc hB1 hB2
  exact K ra u.1 u.2 hB0 H1 locs1 ls hl2 (hK.app (va_K.moved hvm.symm hB3)) hP9 hD9 hS1
theorem b_runs {σ : SS} (C : CX p l e R s m args below meth c own cc nL E A rt) {REL : Int → SS → Prop} {wx : va_W} {qy vy ny : Nat} {f9 : Nat → Int32} (hq9 : ∀ (H : Heap) (locs : List Loc), va_K E.1 gcl tb s → va_P E.1 gcl (Wd E σ ++ wx) H → va_D A (Wd E σ ++ wx) → va_S A s.heap H locs → SQ qy vy ny f9 (aA E H.size) s H) (hM : NX9 l y (cw y b mL ret) rm (wY E (some (qy, vy, ny, f9))) As σ REL mc ms) (hl : Cond.methodLink own idx y ∈ WA) (hy : mfS y b mL ret nA) (hv : y.cls = own) (hn : As.length = nA) (hR : rm.frames + 1 ≤ R.frames ∧ 8 + (mL + 11) + rm.locals ≤ R.locals) (hrc : rm.cells = mc) (hrs : rm.slots = ms) (hst : sk0 = As.reverse ++ sk) (hcat : (sk.map fun v => v.category).sum ≤ 8) (hkn : k + mc ≤ R.cells ∧ n + ms ≤ R.slots) (d : decode cc pc = .ok (.invokestatic idx, 3)) (hq : pc + 3 = q) (K : ∀ (r : Int) (σ' : SS), REL r σ' → GG p l e R s m args below meth c Q E A nL σ' (k + mc) (n + ms) q L (.int (iI r) :: sk)) : GB p l e R s m args below meth c Q E A nL tb (Wd E σ ++ wx) k n pc L sk0 := by
  subst hq; subst hst; intro H locs ls hl2 hK hP hD hS
  have hSQ := hq9 H locs hK hP hD hS
  refine va_calli (va_runS (As := As) (rest := sk) C.fix (hM H.size) (cwS nA C.hts (hy.gS hv hl) rfl hrc hrs ⟨hv, hy.2.2.2⟩ hR) ⟨PE_blind, fun U hU hW => ⟨rfl, by rw [hU], by rw [hU]; exact Wd_pre hP, EK_wY (EK.warm hW C.K), by rw [hU]; exact EH.moved hW.alike (EH_wY ((C.EH.kept hS.2.1).narrow (C.sub hS)) (DY_of hSQ)), C.ap⟩⟩ rfl hn hl2.1 rfl (lv_room hcat) d hkn) hS (fun q _ h => C.sub hS q h) (C.sub hS) (fun r2 u t H1 locs1 ht hvm hw hB hz hk hS1 => ?_)
  obtain ⟨hw1, hw2⟩ := hw
  subst hw1; rw [ht] at hB; exact K u.1 u.2 hw2 H1 locs1 ls hl2 hB hS1
theorem SQ_k (C : CB p l e R s m args below meth c own cc nL E A rt) {i : Nat} (hi : i < sN) (isC : List Nat) (hC : isC.map (fun i => ws[i]?) = wc.map some) : ∀ (H : Heap) (locs : List Loc), va_K E.1 gcl tb s → va_P E.1 gcl ws H → va_D A ws → va_S A s.heap H locs → SQ (ek E i) (E.2.2.2.2.1 i) (sL.getD i 0) (kf i) (va_A wc H.size) s H :=
  fun H locs _ _ hD hS => ((C.EH.kept hS.2.1).narrow (va_free hD hS C.big isC hC)).2.2.1 i hi
theorem SQ_f (C : CB p l e R s m args below meth c own cc nL E A rt) (i0 i1 t0 : Nat) {q v N : Nat} {cB : ClassId} {f : Nat → Int32} {x2 x3 : Value} (h0 : ws[i0]? = some (q, .inr (6, [.ref v, .int (iI 0), x2, x3]))) (h1 : ws[i1]? = some (v, .inl (cB, N, .inl f))) (ht : tb[t0]? = some (cB, .byte)) (hN : N ≤ 1000) (isC : List Nat) (hC : isC.map (fun i => ws[i]?) = wc.map some) (hn0 : i0 ∉ isC) (hn1 : i1 ∉ isC) : ∀ (H : Heap) (locs : List Loc), va_K E.1 gcl tb s → va_P E.1 gcl ws H → va_D A ws → va_S A s.heap H locs → SQ q v N f (va_A wc H.size) s H :=
  fun H locs hK hP hD hS => SQ_of C.hts hK hP h0 h1 ht hN (nA_of hD hC h0 hn0 (hP i0 _ h0).lt) (nA_of hD hC h1 hn1 (hP i1 _ h1).lt)
theorem SQ_w {σ : SS} {wx : va_W} (C : CB p l e R s m args below meth c own cc nL E A rt) (i0 i1 t0 : Nat) {q v N : Nat} {cB : ClassId} {f : Nat → Int32} {x2 x3 : Value} (h0 : (Wd E σ ++ wx)[i0]? = some (q, .inr (6, [.ref v, .int (iI 0), x2, x3]))) (h1 : (Wd E σ ++ wx)[i1]? = some (v, .inl (cB, N, .inl f))) (ht : tb[t0]? = some (cB, .byte)) (hN : N ≤ 1000) (hi0 : 14 ≤ i0) (hi1 : 14 ≤ i1) : ∀ (H : Heap) (locs : List Loc), va_K E.1 gcl tb s → va_P E.1 gcl (Wd E σ ++ wx) H → va_D A (Wd E σ ++ wx) → va_S A s.heap H locs → SQ q v N f (aA E H.size) s H :=
  fun H locs hK hP hD hS => SQ_of C.hts hK hP h0 h1 ht hN (nW_of hD h0 hi0 (hP i0 _ h0).lt) (nW_of hD h1 hi1 (hP i1 _ h1).lt)
end BCALLY
