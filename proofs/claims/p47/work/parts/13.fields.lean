section GFLD
variable {p : Program} {l : Launch} {e : Env} {R : Room} {s : State} {m : MethodId} {args : Array Value} {below : List Frame} {meth : Method} {c : Code} {cc : ByteArray} {nL : Nat} {E : EV} {A : Nat → Prop} {Q : State → Prop} {rt : Option FieldType} {own : String}
variable {σ : SS} {k n pc q : Nat} {L : List (Nat × Value)} {sk : List Value}
theorem gf_X4_12 (C : CX p l e R s m args below meth c RX4 cc nL E A rt) (d : decode cc pc = .ok (.getfield 12, 3)) (hq : pc + 3 = q) (K : GG p l e R s m args below meth c Q E A nL σ k n q L (.ref (ea E 1) :: sk)) : GG p l e R s m args below meth c Q E A nL σ k n pc L (.ref (ea E 0) :: sk) := by
  subst hq; intro H locs ls hl hP hS
  exact va_get (D := E.1) (cl := gcl) (ci := 4) (v := .ref (ea E 1)) (C := RX4) (T := TX4) (N := 9) C.exec C.code C.hts uw_X4 C.hown C.K.1 hP 0 rfl rfl 0 (by decide) (C.hts _ fl_X4_12) (fun _ h9 => h9) rfl d (K H locs ls hl hP hS)
theorem gf_X4_16 (C : CX p l e R s m args below meth c RX4 cc nL E A rt) (d : decode cc pc = .ok (.getfield 16, 3)) (hq : pc + 3 = q) (K : GG p l e R s m args below meth c Q E A nL σ k n q L (.ref (ea E 3) :: sk)) : GG p l e R s m args below meth c Q E A nL σ k n pc L (.ref (ea E 0) :: sk) := by
  subst hq; intro H locs ls hl hP hS
  exact va_get (D := E.1) (cl := gcl) (ci := 4) (v := .ref (ea E 3)) (C := RX4) (T := TX4) (N := 9) C.exec C.code C.hts uw_X4 C.hown C.K.1 hP 0 rfl rfl 1 (by decide) (C.hts _ fl_X4_16) (fun _ h9 => h9) rfl d (K H locs ls hl hP hS)
theorem gf_X4_20 (C : CX p l e R s m args below meth c RX4 cc nL E A rt) (d : decode cc pc = .ok (.getfield 20, 3)) (hq : pc + 3 = q) (K : GG p l e R s m args below meth c Q E A nL σ k n q L (.ref (ea E 4) :: sk)) : GG p l e R s m args below meth c Q E A nL σ k n pc L (.ref (ea E 0) :: sk) := by
  subst hq; intro H locs ls hl hP hS
  exact va_get (D := E.1) (cl := gcl) (ci := 4) (v := .ref (ea E 4)) (C := RX4) (T := TX4) (N := 9) C.exec C.code C.hts uw_X4 C.hown C.K.1 hP 0 rfl rfl 2 (by decide) (C.hts _ fl_X4_20) (fun _ h9 => h9) rfl d (K H locs ls hl hP hS)
theorem gf_X4_23 (C : CX p l e R s m args below meth c RX4 cc nL E A rt) (d : decode cc pc = .ok (.getfield 23, 3)) (hq : pc + 3 = q) (K : GG p l e R s m args below meth c Q E A nL σ k n q L (.int (iI (σ 0 3)) :: sk)) : GG p l e R s m args below meth c Q E A nL σ k n pc L (.ref (ea E 0) :: sk) := by
  subst hq; intro H locs ls hl hP hS
  exact va_get (D := E.1) (cl := gcl) (ci := 4) (v := .int (iI (σ 0 3))) (C := RX4) (T := TX4) (N := 9) C.exec C.code C.hts uw_X4 C.hown C.K.1 hP 0 rfl rfl 3 (by decide) (C.hts _ fl_X4_23) (fun _ h9 => h9) rfl d (K H locs ls hl hP hS)
theorem ps_X4_23 (E : EV) (σ : SS) (z : Int) : (Wd E σ).set 0 (ea E 0, .inr (4, [.ref (ea E 1), .ref (ea E 3), .ref (ea E 4), .int (iI z), .ref (ea E 5), .ref (ea E 7), .ref (ea E 11), .int (iI (σ 0 7)), .int (iI (σ 0 8))])) = Wd E (st σ 0 (pt (σ 0) 3 z)) := rfl
theorem gp_X4_23 (C : CX p l e R s m args below meth c RX4 cc nL E A rt) {z : Int} (hz : z = 0 ∨ z = 1) (d : decode cc pc = .ok (.putfield 23, 3)) (hq : pc + 3 = q) (K : GG p l e R s m args below meth c Q E A nL (st σ 0 (pt (σ 0) 3 z)) k n q L sk) : GG p l e R s m args below meth c Q E A nL σ k n pc L (.int (iI z) :: .ref (ea E 0) :: sk) := by
  subst hq; intro H locs ls hl hP hS
  exact va_put (D := E.1) (cl := gcl) (ci := 4) (v := .int (iI z)) (ty := .boolean) (C := RX4) (T := TX4) (N := 9) C.exec C.code C.hts uw_X4 tyX4 tyX4_ok nmX4 C.hown C.K.1 hP (C.D σ) hS 0 rfl rfl 3 (by decide) (C.hts _ fl_X4_23) (fun _ h9 => h9) rfl (by decide +kernel) (by rcases hz with rfl | rfl <;> decide) (by rcases hz with rfl | rfl <;> decide) (Nat.le_of_ble_eq_true rfl) d (fun H1 locs1 hP1 hD1 hS1 => K H1 locs1 ls hl (by rw [← ps_X4_23]; exact hP1) hS1)
theorem gf_X4_30 (C : CX p l e R s m args below meth c RX4 cc nL E A rt) (d : decode cc pc = .ok (.getfield 30, 3)) (hq : pc + 3 = q) (K : GG p l e R s m args below meth c Q E A nL σ k n q L (.ref (ea E 5) :: sk)) : GG p l e R s m args below meth c Q E A nL σ k n pc L (.ref (ea E 0) :: sk) := by
  subst hq; intro H locs ls hl hP hS
  exact va_get (D := E.1) (cl := gcl) (ci := 4) (v := .ref (ea E 5)) (C := RX4) (T := TX4) (N := 9) C.exec C.code C.hts uw_X4 C.hown C.K.1 hP 0 rfl rfl 4 (by decide) (C.hts _ fl_X4_30) (fun _ h9 => h9) rfl d (K H locs ls hl hP hS)
theorem gf_X4_37 (C : CX p l e R s m args below meth c RX4 cc nL E A rt) (d : decode cc pc = .ok (.getfield 37, 3)) (hq : pc + 3 = q) (K : GG p l e R s m args below meth c Q E A nL σ k n q L (.ref (ea E 7) :: sk)) : GG p l e R s m args below meth c Q E A nL σ k n pc L (.ref (ea E 0) :: sk) := by
  subst hq; intro H locs ls hl hP hS
  exact va_get (D := E.1) (cl := gcl) (ci := 4) (v := .ref (ea E 7)) (C := RX4) (T := TX4) (N := 9) C.exec C.code C.hts uw_X4 C.hown C.K.1 hP 0 rfl rfl 5 (by decide) (C.hts _ fl_X4_37) (fun _ h9 => h9) rfl d (K H locs ls hl hP hS)
theorem gf_X4_44 (C : CX p l e R s m args below meth c RX4 cc nL E A rt) (d : decode cc pc = .ok (.getfield 44, 3)) (hq : pc + 3 = q) (K : GG p l e R s m args below meth c Q E A nL σ k n q L (.ref (ea E 11) :: sk)) : GG p l e R s m args below meth c Q E A nL σ k n pc L (.ref (ea E 0) :: sk) := by
  subst hq; intro H locs ls hl hP hS
  exact va_get (D := E.1) (cl := gcl) (ci := 4) (v := .ref (ea E 11)) (C := RX4) (T := TX4) (N := 9) C.exec C.code C.hts uw_X4 C.hown C.K.1 hP 0 rfl rfl 6 (by decide) (C.hts _ fl_X4_44) (fun _ h9 => h9) rfl d (K H locs ls hl hP hS)
theorem gf_X4_48 (C : CX p l e R s m args below meth c RX4 cc nL E A rt) (d : decode cc pc = .ok (.getfield 48, 3)) (hq : pc + 3 = q) (K : GG p l e R s m args below meth c Q E A nL σ k n q L (.int (iI (σ 0 7)) :: sk)) : GG p l e R s m args below meth c Q E A nL σ k n pc L (.ref (ea E 0) :: sk) := by
  subst hq; intro H locs ls hl hP hS
  exact va_get (D := E.1) (cl := gcl) (ci := 4) (v := .int (iI (σ 0 7))) (C := RX4) (T := TX4) (N := 9) C.exec C.code C.hts uw_X4 C.hown C.K.1 hP 0 rfl rfl 7 (by decide) (C.hts _ fl_X4_48) (fun _ h9 => h9) rfl d (K H locs ls hl hP hS)
theorem ps_X4_48 (E : EV) (σ : SS) (z : Int) : (Wd E σ).set 0 (ea E 0, .inr (4, [.ref (ea E 1), .ref (ea E 3), .ref (ea E 4), .int (iI (σ 0 3)), .ref (ea E 5), .ref (ea E 7), .ref (ea E 11), .int (iI z), .int (iI (σ 0 8))])) = Wd E (st σ 0 (pt (σ 0) 7 z)) := rfl
theorem gp_X4_48 (C : CX p l e R s m args below meth c RX4 cc nL E A rt) {z : Int} (d : decode cc pc = .ok (.putfield 48, 3)) (hq : pc + 3 = q) (K : GG p l e R s m args below meth c Q E A nL (st σ 0 (pt (σ 0) 7 z)) k n q L sk) : GG p l e R s m args below meth c Q E A nL σ k n pc L (.int (iI z) :: .ref (ea E 0) :: sk) := by
  subst hq; intro H locs ls hl hP hS
  exact va_put (D := E.1) (cl := gcl) (ci := 4) (v := .int (iI z)) (ty := .int) (C := RX4) (T := TX4) (N := 9) C.exec C.code C.hts uw_X4 tyX4 tyX4_ok nmX4 C.hown C.K.1 hP (C.D σ) hS 0 rfl rfl 7 (by decide) (C.hts _ fl_X4_48) (fun _ h9 => h9) rfl (by decide +kernel) rfl rfl (Nat.le_of_ble_eq_true rfl) d (fun H1 locs1 hP1 hD1 hS1 => K H1 locs1 ls hl (by rw [← ps_X4_48]; exact hP1) hS1)
theorem gf_X4_52 (C : CX p l e R s m args below meth c RX4 cc nL E A rt) (d : decode cc pc = .ok (.getfield 52, 3)) (hq : pc + 3 = q) (K : GG p l e R s m args below meth c Q E A nL σ k n q L (.int (iI (σ 0 8)) :: sk)) : GG p l e R s m args below meth c Q E A nL σ k n pc L (.ref (ea E 0) :: sk) := by
  subst hq; intro H locs ls hl hP hS
  exact va_get (D := E.1) (cl := gcl) (ci := 4) (v := .int (iI (σ 0 8))) (C := RX4) (T := TX4) (N := 9) C.exec C.code C.hts uw_X4 C.hown C.K.1 hP 0 rfl rfl 8 (by decide) (C.hts _ fl_X4_52) (fun _ h9 => h9) rfl d (K H locs ls hl hP hS)
theorem ps_X4_52 (E : EV) (σ : SS) (z : Int) : (Wd E σ).set 0 (ea E 0, .inr (4, [.ref (ea E 1), .ref (ea E 3), .ref (ea E 4), .int (iI (σ 0 3)), .ref (ea E 5), .ref (ea E 7), .ref (ea E 11), .int (iI (σ 0 7)), .int (iI z)])) = Wd E (st σ 0 (pt (σ 0) 8 z)) := rfl
theorem gp_X4_52 (C : CX p l e R s m args below meth c RX4 cc nL E A rt) {z : Int} (d : decode cc pc = .ok (.putfield 52, 3)) (hq : pc + 3 = q) (K : GG p l e R s m args below meth c Q E A nL (st σ 0 (pt (σ 0) 8 z)) k n q L sk) : GG p l e R s m args below meth c Q E A nL σ k n pc L (.int (iI z) :: .ref (ea E 0) :: sk) := by
  subst hq; intro H locs ls hl hP hS
  exact va_put (D := E.1) (cl := gcl) (ci := 4) (v := .int (iI z)) (ty := .int) (C := RX4) (T := TX4) (N := 9) C.exec C.code C.hts uw_X4 tyX4 tyX4_ok nmX4 C.hown C.K.1 hP (C.D σ) hS 0 rfl rfl 8 (by decide) (C.hts _ fl_X4_52) (fun _ h9 => h9) rfl (by decide +kernel) rfl rfl (Nat.le_of_ble_eq_true rfl) d (fun H1 locs1 hP1 hD1 hS1 => K H1 locs1 ls hl (by rw [← ps_X4_52]; exact hP1) hS1)
theorem gf_X0_9 (C : CX p l e R s m args below meth c RX0 cc nL E A rt) (d : decode cc pc = .ok (.getfield 9, 3)) (hq : pc + 3 = q) (K : GG p l e R s m args below meth c Q E A nL σ k n q L (.ref (ea E 8) :: sk)) : GG p l e R s m args below meth c Q E A nL σ k n pc L (.ref (ea E 7) :: sk) := by
  subst hq; intro H locs ls hl hP hS
  exact va_get (D := E.1) (cl := gcl) (ci := 0) (v := .ref (ea E 8)) (C := RX0) (T := TX0) (N := 7) C.exec C.code C.hts uw_X0 C.hown C.K.1 hP 7 rfl rfl 0 (by decide) (C.hts _ fl_X0_9) (fun _ h9 => h9) rfl d (K H locs ls hl hP hS)
theorem gf_X0_15 (C : CX p l e R s m args below meth c RX0 cc nL E A rt) (d : decode cc pc = .ok (.getfield 15, 3)) (hq : pc + 3 = q) (K : GG p l e R s m args below meth c Q E A nL σ k n q L (.int (iI (σ 7 1)) :: sk)) : GG p l e R s m args below meth c Q E A nL σ k n pc L (.ref (ea E 7) :: sk) := by
  subst hq; intro H locs ls hl hP hS
  exact va_get (D := E.1) (cl := gcl) (ci := 0) (v := .int (iI (σ 7 1))) (C := RX0) (T := TX0) (N := 7) C.exec C.code C.hts uw_X0 C.hown C.K.1 hP 7 rfl rfl 1 (by decide) (C.hts _ fl_X0_15) (fun _ h9 => h9) rfl d (K H locs ls hl hP hS)
theorem ps_X0_15 (E : EV) (σ : SS) (z : Int) : (Wd E σ).set 7 (ea E 7, .inr (0, [.ref (ea E 8), .int (iI z), .int (iI (σ 7 2)), .ref (ea E 9), .ref (ea E 10), .int (iI (σ 7 5)), .int (iI (σ 7 6))])) = Wd E (st σ 7 (pt (σ 7) 1 z)) := rfl
theorem gp_X0_15 (C : CX p l e R s m args below meth c RX0 cc nL E A rt) {z : Int} (d : decode cc pc = .ok (.putfield 15, 3)) (hq : pc + 3 = q) (K : GG p l e R s m args below meth c Q E A nL (st σ 7 (pt (σ 7) 1 z)) k n q L sk) : GG p l e R s m args below meth c Q E A nL σ k n pc L (.int (iI z) :: .ref (ea E 7) :: sk) := by
  subst hq; intro H locs ls hl hP hS
  exact va_put (D := E.1) (cl := gcl) (ci := 0) (v := .int (iI z)) (ty := .int) (C := RX0) (T := TX0) (N := 7) C.exec C.code C.hts uw_X0 tyX0 tyX0_ok nmX0 C.hown C.K.1 hP (C.D σ) hS 7 rfl rfl 1 (by decide) (C.hts _ fl_X0_15) (fun _ h9 => h9) rfl (by decide +kernel) rfl rfl (Nat.le_of_ble_eq_true rfl) d (fun H1 locs1 hP1 hD1 hS1 => K H1 locs1 ls hl (by rw [← ps_X0_15]; exact hP1) hS1)
theorem gf_X0_19 (C : CX p l e R s m args below meth c RX0 cc nL E A rt) (d : decode cc pc = .ok (.getfield 19, 3)) (hq : pc + 3 = q) (K : GG p l e R s m args below meth c Q E A nL σ k n q L (.int (iI (σ 7 2)) :: sk)) : GG p l e R s m args below meth c Q E A nL σ k n pc L (.ref (ea E 7) :: sk) := by
  subst hq; intro H locs ls hl hP hS
  exact va_get (D := E.1) (cl := gcl) (ci := 0) (v := .int (iI (σ 7 2))) (C := RX0) (T := TX0) (N := 7) C.exec C.code C.hts uw_X0 C.hown C.K.1 hP 7 rfl rfl 2 (by decide) (C.hts _ fl_X0_19) (fun _ h9 => h9) rfl d (K H locs ls hl hP hS)
theorem ps_X0_19 (E : EV) (σ : SS) (z : Int) : (Wd E σ).set 7 (ea E 7, .inr (0, [.ref (ea E 8), .int (iI (σ 7 1)), .int (iI z), .ref (ea E 9), .ref (ea E 10), .int (iI (σ 7 5)), .int (iI (σ 7 6))])) = Wd E (st σ 7 (pt (σ 7) 2 z)) := rfl
theorem gp_X0_19 (C : CX p l e R s m args below meth c RX0 cc nL E A rt) {z : Int} (d : decode cc pc = .ok (.putfield 19, 3)) (hq : pc + 3 = q) (K : GG p l e R s m args below meth c Q E A nL (st σ 7 (pt (σ 7) 2 z)) k n q L sk) : GG p l e R s m args below meth c Q E A nL σ k n pc L (.int (iI z) :: .ref (ea E 7) :: sk) := by
  subst hq; intro H locs ls hl hP hS
  exact va_put (D := E.1) (cl := gcl) (ci := 0) (v := .int (iI z)) (ty := .int) (C := RX0) (T := TX0) (N := 7) C.exec C.code C.hts uw_X0 tyX0 tyX0_ok nmX0 C.hown C.K.1 hP (C.D σ) hS 7 rfl rfl 2 (by decide) (C.hts _ fl_X0_19) (fun _ h9 => h9) rfl (by decide +kernel) rfl rfl (Nat.le_of_ble_eq_true rfl) d (fun H1 locs1 hP1 hD1 hS1 => K H1 locs1 ls hl (by rw [← ps_X0_19]; exact hP1) hS1)
theorem gf_X0_22 (C : CX p l e R s m args below meth c RX0 cc nL E A rt) (d : decode cc pc = .ok (.getfield 22, 3)) (hq : pc + 3 = q) (K : GG p l e R s m args below meth c Q E A nL σ k n q L (.ref (ea E 9) :: sk)) : GG p l e R s m args below meth c Q E A nL σ k n pc L (.ref (ea E 7) :: sk) := by
  subst hq; intro H locs ls hl hP hS
  exact va_get (D := E.1) (cl := gcl) (ci := 0) (v := .ref (ea E 9)) (C := RX0) (T := TX0) (N := 7) C.exec C.code C.hts uw_X0 C.hown C.K.1 hP 7 rfl rfl 3 (by decide) (C.hts _ fl_X0_22) (fun _ h9 => h9) rfl d (K H locs ls hl hP hS)
theorem gf_X0_26 (C : CX p l e R s m args below meth c RX0 cc nL E A rt) (d : decode cc pc = .ok (.getfield 26, 3)) (hq : pc + 3 = q) (K : GG p l e R s m args below meth c Q E A nL σ k n q L (.ref (ea E 10) :: sk)) : GG p l e R s m args below meth c Q E A nL σ k n pc L (.ref (ea E 7) :: sk) := by
  subst hq; intro H locs ls hl hP hS
  exact va_get (D := E.1) (cl := gcl) (ci := 0) (v := .ref (ea E 10)) (C := RX0) (T := TX0) (N := 7) C.exec C.code C.hts uw_X0 C.hown C.K.1 hP 7 rfl rfl 4 (by decide) (C.hts _ fl_X0_26) (fun _ h9 => h9) rfl d (K H locs ls hl hP hS)
theorem gf_X0_29 (C : CX p l e R s m args below meth c RX0 cc nL E A rt) (d : decode cc pc = .ok (.getfield 29, 3)) (hq : pc + 3 = q) (K : GG p l e R s m args below meth c Q E A nL σ k n q L (.int (iI (σ 7 5)) :: sk)) : GG p l e R s m args below meth c Q E A nL σ k n pc L (.ref (ea E 7) :: sk) := by
  subst hq; intro H locs ls hl hP hS
  exact va_get (D := E.1) (cl := gcl) (ci := 0) (v := .int (iI (σ 7 5))) (C := RX0) (T := TX0) (N := 7) C.exec C.code C.hts uw_X0 C.hown C.K.1 hP 7 rfl rfl 5 (by decide) (C.hts _ fl_X0_29) (fun _ h9 => h9) rfl d (K H locs ls hl hP hS)
theorem ps_X0_29 (E : EV) (σ : SS) (z : Int) : (Wd E σ).set 7 (ea E 7, .inr (0, [.ref (ea E 8), .int (iI (σ 7 1)), .int (iI (σ 7 2)), .ref (ea E 9), .ref (ea E 10), .int (iI z), .int (iI (σ 7 6))])) = Wd E (st σ 7 (pt (σ 7) 5 z)) := rfl
theorem gp_X0_29 (C : CX p l e R s m args below meth c RX0 cc nL E A rt) {z : Int} (d : decode cc pc = .ok (.putfield 29, 3)) (hq : pc + 3 = q) (K : GG p l e R s m args below meth c Q E A nL (st σ 7 (pt (σ 7) 5 z)) k n q L sk) : GG p l e R s m args below meth c Q E A nL σ k n pc L (.int (iI z) :: .ref (ea E 7) :: sk) := by
  subst hq; intro H locs ls hl hP hS
  exact va_put (D := E.1) (cl := gcl) (ci := 0) (v := .int (iI z)) (ty := .int) (C := RX0) (T := TX0) (N := 7) C.exec C.code C.hts uw_X0 tyX0 tyX0_ok nmX0 C.hown C.K.1 hP (C.D σ) hS 7 rfl rfl 5 (by decide) (C.hts _ fl_X0_29) (fun _ h9 => h9) rfl (by decide +kernel) rfl rfl (Nat.le_of_ble_eq_true rfl) d (fun H1 locs1 hP1 hD1 hS1 => K H1 locs1 ls hl (by rw [← ps_X0_29]; exact hP1) hS1)
theorem gf_X0_32 (C : CX p l e R s m args below meth c RX0 cc nL E A rt) (d : decode cc pc = .ok (.getfield 32, 3)) (hq : pc + 3 = q) (K : GG p l e R s m args below meth c Q E A nL σ k n q L (.int (iI (σ 7 6)) :: sk)) : GG p l e R s m args below meth c Q E A nL σ k n pc L (.ref (ea E 7) :: sk) := by
  subst hq; intro H locs ls hl hP hS
  exact va_get (D := E.1) (cl := gcl) (ci := 0) (v := .int (iI (σ 7 6))) (C := RX0) (T := TX0) (N := 7) C.exec C.code C.hts uw_X0 C.hown C.K.1 hP 7 rfl rfl 6 (by decide) (C.hts _ fl_X0_32) (fun _ h9 => h9) rfl d (K H locs ls hl hP hS)
theorem ps_X0_32 (E : EV) (σ : SS) (z : Int) : (Wd E σ).set 7 (ea E 7, .inr (0, [.ref (ea E 8), .int (iI (σ 7 1)), .int (iI (σ 7 2)), .ref (ea E 9), .ref (ea E 10), .int (iI (σ 7 5)), .int (iI z)])) = Wd E (st σ 7 (pt (σ 7) 6 z)) := rfl
theorem gp_X0_32 (C : CX p l e R s m args below meth c RX0 cc nL E A rt) {z : Int} (d : decode cc pc = .ok (.putfield 32, 3)) (hq : pc + 3 = q) (K : GG p l e R s m args below meth c Q E A nL (st σ 7 (pt (σ 7) 6 z)) k n q L sk) : GG p l e R s m args below meth c Q E A nL σ k n pc L (.int (iI z) :: .ref (ea E 7) :: sk) := by
  subst hq; intro H locs ls hl hP hS
  exact va_put (D := E.1) (cl := gcl) (ci := 0) (v := .int (iI z)) (ty := .int) (C := RX0) (T := TX0) (N := 7) C.exec C.code C.hts uw_X0 tyX0 tyX0_ok nmX0 C.hown C.K.1 hP (C.D σ) hS 7 rfl rfl 6 (by decide) (C.hts _ fl_X0_32) (fun _ h9 => h9) rfl (by decide +kernel) rfl rfl (Nat.le_of_ble_eq_true rfl) d (fun H1 locs1 hP1 hD1 hS1 => K H1 locs1 ls hl (by rw [← ps_X0_32]; exact hP1) hS1)
theorem gf_X1_9 (C : CX p l e R s m args below meth c RX1 cc nL E A rt) (d : decode cc pc = .ok (.getfield 9, 3)) (hq : pc + 3 = q) (K : GG p l e R s m args below meth c Q E A nL σ k n q L (.ref (ea E 6) :: sk)) : GG p l e R s m args below meth c Q E A nL σ k n pc L (.ref (ea E 5) :: sk) := by
  subst hq; intro H locs ls hl hP hS
  exact va_get (D := E.1) (cl := gcl) (ci := 1) (v := .ref (ea E 6)) (C := RX1) (T := TX1) (N := 3) C.exec C.code C.hts uw_X1 C.hown C.K.1 hP 5 rfl rfl 0 (by decide) (C.hts _ fl_X1_9) (fun _ h9 => h9) rfl d (K H locs ls hl hP hS)
theorem gf_X1_15 (C : CX p l e R s m args below meth c RX1 cc nL E A rt) (d : decode cc pc = .ok (.getfield 15, 3)) (hq : pc + 3 = q) (K : GG p l e R s m args below meth c Q E A nL σ k n q L (.int (iI (σ 5 1)) :: sk)) : GG p l e R s m args below meth c Q E A nL σ k n pc L (.ref (ea E 5) :: sk) := by
  subst hq; intro H locs ls hl hP hS
  exact va_get (D := E.1) (cl := gcl) (ci := 1) (v := .int (iI (σ 5 1))) (C := RX1) (T := TX1) (N := 3) C.exec C.code C.hts uw_X1 C.hown C.K.1 hP 5 rfl rfl 1 (by decide) (C.hts _ fl_X1_15) (fun _ h9 => h9) rfl d (K H locs ls hl hP hS)
theorem ps_X1_15 (E : EV) (σ : SS) (z : Int) : (Wd E σ).set 5 (ea E 5, .inr (1, [.ref (ea E 6), .int (iI z), .int (iI (σ 5 2))])) = Wd E (st σ 5 (pt (σ 5) 1 z)) := rfl
theorem gp_X1_15 (C : CX p l e R s m args below meth c RX1 cc nL E A rt) {z : Int} (d : decode cc pc = .ok (.putfield 15, 3)) (hq : pc + 3 = q) (K : GG p l e R s m args below meth c Q E A nL (st σ 5 (pt (σ 5) 1 z)) k n q L sk) : GG p l e R s m args below meth c Q E A nL σ k n pc L (.int (iI z) :: .ref (ea E 5) :: sk) := by
  subst hq; intro H locs ls hl hP hS
  exact va_put (D := E.1) (cl := gcl) (ci := 1) (v := .int (iI z)) (ty := .int) (C := RX1) (T := TX1) (N := 3) C.exec C.code C.hts uw_X1 tyX1 tyX1_ok nmX1 C.hown C.K.1 hP (C.D σ) hS 5 rfl rfl 1 (by decide) (C.hts _ fl_X1_15) (fun _ h9 => h9) rfl (by decide +kernel) rfl rfl (Nat.le_of_ble_eq_true rfl) d (fun H1 locs1 hP1 hD1 hS1 => K H1 locs1 ls hl (by rw [← ps_X1_15]; exact hP1) hS1)
theorem gf_X1_19 (C : CX p l e R s m args below meth c RX1 cc nL E A rt) (d : decode cc pc = .ok (.getfield 19, 3)) (hq : pc + 3 = q) (K : GG p l e R s m args below meth c Q E A nL σ k n q L (.int (iI (σ 5 2)) :: sk)) : GG p l e R s m args below meth c Q E A nL σ k n pc L (.ref (ea E 5) :: sk) := by
  subst hq; intro H locs ls hl hP hS
  exact va_get (D := E.1) (cl := gcl) (ci := 1) (v := .int (iI (σ 5 2))) (C := RX1) (T := TX1) (N := 3) C.exec C.code C.hts uw_X1 C.hown C.K.1 hP 5 rfl rfl 2 (by decide) (C.hts _ fl_X1_19) (fun _ h9 => h9) rfl d (K H locs ls hl hP hS)
theorem ps_X1_19 (E : EV) (σ : SS) (z : Int) : (Wd E σ).set 5 (ea E 5, .inr (1, [.ref (ea E 6), .int (iI (σ 5 1)), .int (iI z)])) = Wd E (st σ 5 (pt (σ 5) 2 z)) := rfl
theorem gp_X1_19 (C : CX p l e R s m args below meth c RX1 cc nL E A rt) {z : Int} (d : decode cc pc = .ok (.putfield 19, 3)) (hq : pc + 3 = q) (K : GG p l e R s m args below meth c Q E A nL (st σ 5 (pt (σ 5) 2 z)) k n q L sk) : GG p l e R s m args below meth c Q E A nL σ k n pc L (.int (iI z) :: .ref (ea E 5) :: sk) := by
  subst hq; intro H locs ls hl hP hS
  exact va_put (D := E.1) (cl := gcl) (ci := 1) (v := .int (iI z)) (ty := .int) (C := RX1) (T := TX1) (N := 3) C.exec C.code C.hts uw_X1 tyX1 tyX1_ok nmX1 C.hown C.K.1 hP (C.D σ) hS 5 rfl rfl 2 (by decide) (C.hts _ fl_X1_19) (fun _ h9 => h9) rfl (by decide +kernel) rfl rfl (Nat.le_of_ble_eq_true rfl) d (fun H1 locs1 hP1 hD1 hS1 => K H1 locs1 ls hl (by rw [← ps_X1_19]; exact hP1) hS1)
theorem gf_X2_9 (C : CX p l e R s m args below meth c RX2 cc nL E A rt) (d : decode cc pc = .ok (.getfield 9, 3)) (hq : pc + 3 = q) (K : GG p l e R s m args below meth c Q E A nL σ k n q L (.ref (ea E 12) :: sk)) : GG p l e R s m args below meth c Q E A nL σ k n pc L (.ref (ea E 11) :: sk) := by
  subst hq; intro H locs ls hl hP hS
  exact va_get (D := E.1) (cl := gcl) (ci := 2) (v := .ref (ea E 12)) (C := RX2) (T := TX2) (N := 2) C.exec C.code C.hts uw_X2 C.hown C.K.1 hP 11 rfl rfl 0 (by decide) (C.hts _ fl_X2_9) (fun _ h9 => h9) rfl d (K H locs ls hl hP hS)
theorem gf_X2_15 (C : CX p l e R s m args below meth c RX2 cc nL E A rt) (d : decode cc pc = .ok (.getfield 15, 3)) (hq : pc + 3 = q) (K : GG p l e R s m args below meth c Q E A nL σ k n q L (.int (iI (σ 11 1)) :: sk)) : GG p l e R s m args below meth c Q E A nL σ k n pc L (.ref (ea E 11) :: sk) := by
  subst hq; intro H locs ls hl hP hS
  exact va_get (D := E.1) (cl := gcl) (ci := 2) (v := .int (iI (σ 11 1))) (C := RX2) (T := TX2) (N := 2) C.exec C.code C.hts uw_X2 C.hown C.K.1 hP 11 rfl rfl 1 (by decide) (C.hts _ fl_X2_15) (fun _ h9 => h9) rfl d (K H locs ls hl hP hS)
theorem ps_X2_15 (E : EV) (σ : SS) (z : Int) : (Wd E σ).set 11 (ea E 11, .inr (2, [.ref (ea E 12), .int (iI z)])) = Wd E (st σ 11 (pt (σ 11) 1 z)) := rfl
theorem gp_X2_15 (C : CX p l e R s m args below meth c RX2 cc nL E A rt) {z : Int} (d : decode cc pc = .ok (.putfield 15, 3)) (hq : pc + 3 = q) (K : GG p l e R s m args below meth c Q E A nL (st σ 11 (pt (σ 11) 1 z)) k n q L sk) : GG p l e R s m args below meth c Q E A nL σ k n pc L (.int (iI z) :: .ref (ea E 11) :: sk) := by
  subst hq; intro H locs ls hl hP hS
  exact va_put (D := E.1) (cl := gcl) (ci := 2) (v := .int (iI z)) (ty := .int) (C := RX2) (T := TX2) (N := 2) C.exec C.code C.hts uw_X2 tyX2 tyX2_ok nmX2 C.hown C.K.1 hP (C.D σ) hS 11 rfl rfl 1 (by decide) (C.hts _ fl_X2_15) (fun _ h9 => h9) rfl (by decide +kernel) rfl rfl (Nat.le_of_ble_eq_true rfl) d (fun H1 locs1 hP1 hD1 hS1 => K H1 locs1 ls hl (by rw [← ps_X2_15]; exact hP1) hS1)
theorem gf_X3_9 (C : CX p l e R s m args below meth c RX3 cc nL E A rt) (d : decode cc pc = .ok (.getfield 9, 3)) (hq : pc + 3 = q) (K : GG p l e R s m args below meth c Q E A nL σ k n q L (.ref (ea E 2) :: sk)) : GG p l e R s m args below meth c Q E A nL σ k n pc L (.ref (ea E 1) :: sk) := by
  subst hq; intro H locs ls hl hP hS
  exact va_get (D := E.1) (cl := gcl) (ci := 3) (v := .ref (ea E 2)) (C := RX3) (T := TX3) (N := 1) C.exec C.code C.hts uw_X3 C.hown C.K.1 hP 1 rfl rfl 0 (by decide) (C.hts _ fl_X3_9) (fun _ h9 => h9) rfl d (K H locs ls hl hP hS)
theorem af_ld {f : Int → Int} {i : Int} (h : 0 ≤ i ∧ i < 1000000) : af f (iI i).toNatClampNeg = iI (f i) := by
  rw [iI_cl (by omega)]; unfold af; rw [Int.toNat_of_nonneg h.1]
theorem af_st {f : Int → Int} {i z : Int} (h : 0 ≤ i ∧ i < 1000000) : upd (af f) (iI i).toNatClampNeg (iI z) = af (pt f i z) := by
  rw [iI_cl (by omega)]; funext j; unfold upd af pt
  by_cases hj : j = i.toNat
  · rw [if_pos hj, if_pos (by omega)]
  · rw [if_neg hj, if_neg (by omega)]
theorem afL_st {f : Int → Int} {i z : Int} (h : 0 ≤ i ∧ i < 1000000) : vp_updL (afL f) (iI i).toNatClampNeg (iL z) = afL (pt f i z) := by
  rw [iI_cl (by omega)]; funext j; unfold vp_updL afL pt
  by_cases hj : j = i.toNat
  · rw [if_pos hj, if_pos (by omega)]
  · rw [if_neg hj, if_neg (by omega)]
theorem afD_st {f : Int → Int} {i z : Int} (h : 0 ≤ i ∧ i < 1000000) : vf_upd (afD f) (iI i).toNatClampNeg (iD z) = afD (pt f i z) := by
  rw [iI_cl (by omega)]; funext j; unfold vf_upd afD pt
  by_cases hj : j = i.toNat
  · rw [if_pos hj, if_pos (by omega)]
  · rw [if_neg hj, if_neg (by omega)]
theorem gn_2 (C : CX p l e R s m args below meth c own cc nL E A rt) (d : decode cc pc = .ok (.arraylength, 1)) (hq : pc + 1 = q) (K : GG p l e R s m args below meth c Q E A nL σ k n q L (.int (iI 310) :: sk)) : GG p l e R s m args below meth c Q E A nL σ k n pc L (.ref (ea E 2) :: sk) := by
  subst hq; intro H locs ls hl hP hS
  exact va_alen (x := (310, .inl (af (σ 2)))) (ty := .int) (v := iI 310) C.exec C.code C.K.1 hP 2 0 rfl rfl rfl d (K H locs ls hl hP hS)
theorem gl_2 (C : CX p l e R s m args below meth c own cc nL E A rt) {i : Int} (h : 0 ≤ i ∧ i < 310) (d : decode cc pc = .ok (.iaload, 1)) (hq : pc + 1 = q) (K : GG p l e R s m args below meth c Q E A nL σ k n q L (.int (iI (σ 2 i)) :: sk)) : GG p l e R s m args below meth c Q E A nL σ k n pc L (.int (iI i) :: .ref (ea E 2) :: sk) := by
  subst hq; intro H locs ls hl hP hS
  refine va_iald (n := 310) (f := af (σ 2)) C.exec C.code C.K.1 hP 2 0 rfl rfl (iI_in (by omega) (by decide)) d ?_
  rw [af_ld (by omega)]
  exact K H locs ls hl hP hS
theorem ss_2 (E : EV) (σ : SS) (g : Int → Int) : (Wd E σ).set 2 (ea E 2, .inl (ec E 0, 310, .inl (af g))) = Wd E (st σ 2 g) := rfl
theorem gs_2 (C : CX p l e R s m args below meth c own cc nL E A rt) {i z : Int} (h : 0 ≤ i ∧ i < 310) (d : decode cc pc = .ok (.iastore, 1)) (hq : pc + 1 = q) (K : GG p l e R s m args below meth c Q E A nL (st σ 2 (pt (σ 2) i z)) k n q L sk) : GG p l e R s m args below meth c Q E A nL σ k n pc L (.int (iI z) :: .int (iI i) :: .ref (ea E 2) :: sk) := by
  subst hq; intro H locs ls hl hP hS
  refine va_iast (n := 310) (f := af (σ 2)) C.exec C.code C.K.1 hP (C.D σ) hS 2 0 rfl rfl (iI_in (by omega) (by decide)) d (fun H1 locs1 hP1 hD1 hS1 => ?_)
  rw [af_st (by omega), ss_2] at hP1
  exact K H1 locs1 ls hl hP1 hS1
theorem gn_3 (C : CX p l e R s m args below meth c own cc nL E A rt) (d : decode cc pc = .ok (.arraylength, 1)) (hq : pc + 1 = q) (K : GG p l e R s m args below meth c Q E A nL σ k n q L (.int (iI 310) :: sk)) : GG p l e R s m args below meth c Q E A nL σ k n pc L (.ref (ea E 3) :: sk) := by
  subst hq; intro H locs ls hl hP hS
  exact va_alen (x := (310, .inl (af (σ 3)))) (ty := .int) (v := iI 310) C.exec C.code C.K.1 hP 3 0 rfl rfl rfl d (K H locs ls hl hP hS)
theorem gl_3 (C : CX p l e R s m args below meth c own cc nL E A rt) {i : Int} (h : 0 ≤ i ∧ i < 310) (d : decode cc pc = .ok (.iaload, 1)) (hq : pc + 1 = q) (K : GG p l e R s m args below meth c Q E A nL σ k n q L (.int (iI (σ 3 i)) :: sk)) : GG p l e R s m args below meth c Q E A nL σ k n pc L (.int (iI i) :: .ref (ea E 3) :: sk) := by
  subst hq; intro H locs ls hl hP hS
  refine va_iald (n := 310) (f := af (σ 3)) C.exec C.code C.K.1 hP 3 0 rfl rfl (iI_in (by omega) (by decide)) d ?_
  rw [af_ld (by omega)]
  exact K H locs ls hl hP hS
theorem ss_3 (E : EV) (σ : SS) (g : Int → Int) : (Wd E σ).set 3 (ea E 3, .inl (ec E 0, 310, .inl (af g))) = Wd E (st σ 3 g) := rfl
theorem gs_3 (C : CX p l e R s m args below meth c own cc nL E A rt) {i z : Int} (h : 0 ≤ i ∧ i < 310) (d : decode cc pc = .ok (.iastore, 1)) (hq : pc + 1 = q) (K : GG p l e R s m args below meth c Q E A nL (st σ 3 (pt (σ 3) i z)) k n q L sk) : GG p l e R s m args below meth c Q E A nL σ k n pc L (.int (iI z) :: .int (iI i) :: .ref (ea E 3) :: sk) := by
  subst hq; intro H locs ls hl hP hS
  refine va_iast (n := 310) (f := af (σ 3)) C.exec C.code C.K.1 hP (C.D σ) hS 3 0 rfl rfl (iI_in (by omega) (by decide)) d (fun H1 locs1 hP1 hD1 hS1 => ?_)
  rw [af_st (by omega), ss_3] at hP1
  exact K H1 locs1 ls hl hP1 hS1
theorem gn_4 (C : CX p l e R s m args below meth c own cc nL E A rt) (d : decode cc pc = .ok (.arraylength, 1)) (hq : pc + 1 = q) (K : GG p l e R s m args below meth c Q E A nL σ k n q L (.int (iI 310) :: sk)) : GG p l e R s m args below meth c Q E A nL σ k n pc L (.ref (ea E 4) :: sk) := by
  subst hq; intro H locs ls hl hP hS
  exact va_alen (x := (310, .inl (af (σ 4)))) (ty := .int) (v := iI 310) C.exec C.code C.K.1 hP 4 0 rfl rfl rfl d (K H locs ls hl hP hS)
theorem gl_4 (C : CX p l e R s m args below meth c own cc nL E A rt) {i : Int} (h : 0 ≤ i ∧ i < 310) (d : decode cc pc = .ok (.iaload, 1)) (hq : pc + 1 = q) (K : GG p l e R s m args below meth c Q E A nL σ k n q L (.int (iI (σ 4 i)) :: sk)) : GG p l e R s m args below meth c Q E A nL σ k n pc L (.int (iI i) :: .ref (ea E 4) :: sk) := by
  subst hq; intro H locs ls hl hP hS
  refine va_iald (n := 310) (f := af (σ 4)) C.exec C.code C.K.1 hP 4 0 rfl rfl (iI_in (by omega) (by decide)) d ?_
  rw [af_ld (by omega)]
  exact K H locs ls hl hP hS
theorem ss_4 (E : EV) (σ : SS) (g : Int → Int) : (Wd E σ).set 4 (ea E 4, .inl (ec E 0, 310, .inl (af g))) = Wd E (st σ 4 g) := rfl
theorem gs_4 (C : CX p l e R s m args below meth c own cc nL E A rt) {i z : Int} (h : 0 ≤ i ∧ i < 310) (d : decode cc pc = .ok (.iastore, 1)) (hq : pc + 1 = q) (K : GG p l e R s m args below meth c Q E A nL (st σ 4 (pt (σ 4) i z)) k n q L sk) : GG p l e R s m args below meth c Q E A nL σ k n pc L (.int (iI z) :: .int (iI i) :: .ref (ea E 4) :: sk) := by
  subst hq; intro H locs ls hl hP hS
  refine va_iast (n := 310) (f := af (σ 4)) C.exec C.code C.K.1 hP (C.D σ) hS 4 0 rfl rfl (iI_in (by omega) (by decide)) d (fun H1 locs1 hP1 hD1 hS1 => ?_)
  rw [af_st (by omega), ss_4] at hP1
  exact K H1 locs1 ls hl hP1 hS1
theorem gn_6 (C : CX p l e R s m args below meth c own cc nL E A rt) (d : decode cc pc = .ok (.arraylength, 1)) (hq : pc + 1 = q) (K : GG p l e R s m args below meth c Q E A nL σ k n q L (.int (iI 2480) :: sk)) : GG p l e R s m args below meth c Q E A nL σ k n pc L (.ref (ea E 6) :: sk) := by
  subst hq; intro H locs ls hl hP hS
  exact va_alen (x := (2480, .inl (af (σ 6)))) (ty := .int) (v := iI 2480) C.exec C.code C.K.1 hP 6 0 rfl rfl rfl d (K H locs ls hl hP hS)
theorem gl_6 (C : CX p l e R s m args below meth c own cc nL E A rt) {i : Int} (h : 0 ≤ i ∧ i < 2480) (d : decode cc pc = .ok (.iaload, 1)) (hq : pc + 1 = q) (K : GG p l e R s m args below meth c Q E A nL σ k n q L (.int (iI (σ 6 i)) :: sk)) : GG p l e R s m args below meth c Q E A nL σ k n pc L (.int (iI i) :: .ref (ea E 6) :: sk) := by
  subst hq; intro H locs ls hl hP hS
  refine va_iald (n := 2480) (f := af (σ 6)) C.exec C.code C.K.1 hP 6 0 rfl rfl (iI_in (by omega) (by decide)) d ?_
  rw [af_ld (by omega)]
  exact K H locs ls hl hP hS
theorem ss_6 (E : EV) (σ : SS) (g : Int → Int) : (Wd E σ).set 6 (ea E 6, .inl (ec E 0, 2480, .inl (af g))) = Wd E (st σ 6 g) := rfl
theorem gs_6 (C : CX p l e R s m args below meth c own cc nL E A rt) {i z : Int} (h : 0 ≤ i ∧ i < 2480) (d : decode cc pc = .ok (.iastore, 1)) (hq : pc + 1 = q) (K : GG p l e R s m args below meth c Q E A nL (st σ 6 (pt (σ 6) i z)) k n q L sk) : GG p l e R s m args below meth c Q E A nL σ k n pc L (.int (iI z) :: .int (iI i) :: .ref (ea E 6) :: sk) := by
  subst hq; intro H locs ls hl hP hS
  refine va_iast (n := 2480) (f := af (σ 6)) C.exec C.code C.K.1 hP (C.D σ) hS 6 0 rfl rfl (iI_in (by omega) (by decide)) d (fun H1 locs1 hP1 hD1 hS1 => ?_)
  rw [af_st (by omega), ss_6] at hP1
  exact K H1 locs1 ls hl hP1 hS1
theorem gn_8 (C : CX p l e R s m args below meth c own cc nL E A rt) (d : decode cc pc = .ok (.arraylength, 1)) (hq : pc + 1 = q) (K : GG p l e R s m args below meth c Q E A nL σ k n q L (.int (iI 60) :: sk)) : GG p l e R s m args below meth c Q E A nL σ k n pc L (.ref (ea E 8) :: sk) := by
  subst hq; intro H locs ls hl hP hS
  exact va_alen (x := (60, .inl (af (σ 8)))) (ty := .char) (v := iI 60) C.exec C.code C.K.1 hP 8 1 rfl rfl rfl d (K H locs ls hl hP hS)
theorem gl_8 (C : CX p l e R s m args below meth c own cc nL E A rt) {i : Int} (h : 0 ≤ i ∧ i < 60) (d : decode cc pc = .ok (.caload, 1)) (hq : pc + 1 = q) (K : GG p l e R s m args below meth c Q E A nL σ k n q L (.int (iI (σ 8 i)) :: sk)) : GG p l e R s m args below meth c Q E A nL σ k n pc L (.int (iI i) :: .ref (ea E 8) :: sk) := by
  subst hq; intro H locs ls hl hP hS
  refine va_cald (n := 60) (f := af (σ 8)) C.exec C.code C.K.1 hP 8 1 rfl rfl (iI_in (by omega) (by decide)) d ?_
  rw [af_ld (by omega)]
  exact K H locs ls hl hP hS
theorem ss_8 (E : EV) (σ : SS) (g : Int → Int) : (Wd E σ).set 8 (ea E 8, .inl (ec E 1, 60, .inl (af g))) = Wd E (st σ 8 g) := rfl
theorem gs_8 (C : CX p l e R s m args below meth c own cc nL E A rt) {i z : Int} (h : 0 ≤ i ∧ i < 60) (hz : 0 ≤ z ∧ z < 65536) (d : decode cc pc = .ok (.castore, 1)) (hq : pc + 1 = q) (K : GG p l e R s m args below meth c Q E A nL (st σ 8 (pt (σ 8) i z)) k n q L sk) : GG p l e R s m args below meth c Q E A nL σ k n pc L (.int (iI z) :: .int (iI i) :: .ref (ea E 8) :: sk) := by
  subst hq; intro H locs ls hl hP hS
  refine va_cast (n := 60) (f := af (σ 8)) C.exec C.code C.K.1 hP (C.D σ) hS 8 1 rfl rfl (iI_in (by omega) (by decide)) d (fun H1 locs1 hP1 hD1 hS1 => ?_)
  rw [iI_nar hz, af_st (by omega), ss_8] at hP1
  exact K H1 locs1 ls hl hP1 hS1
theorem gn_9 (C : CX p l e R s m args below meth c own cc nL E A rt) (d : decode cc pc = .ok (.arraylength, 1)) (hq : pc + 1 = q) (K : GG p l e R s m args below meth c Q E A nL σ k n q L (.int (iI 8) :: sk)) : GG p l e R s m args below meth c Q E A nL σ k n pc L (.ref (ea E 9) :: sk) := by
  subst hq; intro H locs ls hl hP hS
  exact va_alen (x := (8, .inl (af (σ 9)))) (ty := .int) (v := iI 8) C.exec C.code C.K.1 hP 9 0 rfl rfl rfl d (K H locs ls hl hP hS)
theorem gl_9 (C : CX p l e R s m args below meth c own cc nL E A rt) {i : Int} (h : 0 ≤ i ∧ i < 8) (d : decode cc pc = .ok (.iaload, 1)) (hq : pc + 1 = q) (K : GG p l e R s m args below meth c Q E A nL σ k n q L (.int (iI (σ 9 i)) :: sk)) : GG p l e R s m args below meth c Q E A nL σ k n pc L (.int (iI i) :: .ref (ea E 9) :: sk) := by
  subst hq; intro H locs ls hl hP hS
  refine va_iald (n := 8) (f := af (σ 9)) C.exec C.code C.K.1 hP 9 0 rfl rfl (iI_in (by omega) (by decide)) d ?_
  rw [af_ld (by omega)]
  exact K H locs ls hl hP hS
theorem ss_9 (E : EV) (σ : SS) (g : Int → Int) : (Wd E σ).set 9 (ea E 9, .inl (ec E 0, 8, .inl (af g))) = Wd E (st σ 9 g) := rfl
theorem gs_9 (C : CX p l e R s m args below meth c own cc nL E A rt) {i z : Int} (h : 0 ≤ i ∧ i < 8) (d : decode cc pc = .ok (.iastore, 1)) (hq : pc + 1 = q) (K : GG p l e R s m args below meth c Q E A nL (st σ 9 (pt (σ 9) i z)) k n q L sk) : GG p l e R s m args below meth c Q E A nL σ k n pc L (.int (iI z) :: .int (iI i) :: .ref (ea E 9) :: sk) := by
  subst hq; intro H locs ls hl hP hS
  refine va_iast (n := 8) (f := af (σ 9)) C.exec C.code C.K.1 hP (C.D σ) hS 9 0 rfl rfl (iI_in (by omega) (by decide)) d (fun H1 locs1 hP1 hD1 hS1 => ?_)
  rw [af_st (by omega), ss_9] at hP1
  exact K H1 locs1 ls hl hP1 hS1
theorem gn_10 (C : CX p l e R s m args below meth c own cc nL E A rt) (d : decode cc pc = .ok (.arraylength, 1)) (hq : pc + 1 = q) (K : GG p l e R s m args below meth c Q E A nL σ k n q L (.int (iI 32) :: sk)) : GG p l e R s m args below meth c Q E A nL σ k n pc L (.ref (ea E 10) :: sk) := by
  subst hq; intro H locs ls hl hP hS
  exact va_alen (x := (32, .inl (af (σ 10)))) (ty := .int) (v := iI 32) C.exec C.code C.K.1 hP 10 0 rfl rfl rfl d (K H locs ls hl hP hS)
theorem gl_10 (C : CX p l e R s m args below meth c own cc nL E A rt) {i : Int} (h : 0 ≤ i ∧ i < 32) (d : decode cc pc = .ok (.iaload, 1)) (hq : pc + 1 = q) (K : GG p l e R s m args below meth c Q E A nL σ k n q L (.int (iI (σ 10 i)) :: sk)) : GG p l e R s m args below meth c Q E A nL σ k n pc L (.int (iI i) :: .ref (ea E 10) :: sk) := by
  subst hq; intro H locs ls hl hP hS
  refine va_iald (n := 32) (f := af (σ 10)) C.exec C.code C.K.1 hP 10 0 rfl rfl (iI_in (by omega) (by decide)) d ?_
  rw [af_ld (by omega)]
  exact K H locs ls hl hP hS
theorem ss_10 (E : EV) (σ : SS) (g : Int → Int) : (Wd E σ).set 10 (ea E 10, .inl (ec E 0, 32, .inl (af g))) = Wd E (st σ 10 g) := rfl
theorem gs_10 (C : CX p l e R s m args below meth c own cc nL E A rt) {i z : Int} (h : 0 ≤ i ∧ i < 32) (d : decode cc pc = .ok (.iastore, 1)) (hq : pc + 1 = q) (K : GG p l e R s m args below meth c Q E A nL (st σ 10 (pt (σ 10) i z)) k n q L sk) : GG p l e R s m args below meth c Q E A nL σ k n pc L (.int (iI z) :: .int (iI i) :: .ref (ea E 10) :: sk) := by
  subst hq; intro H locs ls hl hP hS
  refine va_iast (n := 32) (f := af (σ 10)) C.exec C.code C.K.1 hP (C.D σ) hS 10 0 rfl rfl (iI_in (by omega) (by decide)) d (fun H1 locs1 hP1 hD1 hS1 => ?_)
  rw [af_st (by omega), ss_10] at hP1
  exact K H1 locs1 ls hl hP1 hS1
theorem gn_12 (C : CX p l e R s m args below meth c own cc nL E A rt) (d : decode cc pc = .ok (.arraylength, 1)) (hq : pc + 1 = q) (K : GG p l e R s m args below meth c Q E A nL σ k n q L (.int (iI 240) :: sk)) : GG p l e R s m args below meth c Q E A nL σ k n pc L (.ref (ea E 12) :: sk) := by
  subst hq; intro H locs ls hl hP hS
  exact va_alen (x := (240, .inl (af (σ 12)))) (ty := .char) (v := iI 240) C.exec C.code C.K.1 hP 12 1 rfl rfl rfl d (K H locs ls hl hP hS)
theorem gl_12 (C : CX p l e R s m args below meth c own cc nL E A rt) {i : Int} (h : 0 ≤ i ∧ i < 240) (d : decode cc pc = .ok (.caload, 1)) (hq : pc + 1 = q) (K : GG p l e R s m args below meth c Q E A nL σ k n q L (.int (iI (σ 12 i)) :: sk)) : GG p l e R s m args below meth c Q E A nL σ k n pc L (.int (iI i) :: .ref (ea E 12) :: sk) := by
  subst hq; intro H locs ls hl hP hS
  refine va_cald (n := 240) (f := af (σ 12)) C.exec C.code C.K.1 hP 12 1 rfl rfl (iI_in (by omega) (by decide)) d ?_
  rw [af_ld (by omega)]
  exact K H locs ls hl hP hS
theorem ss_12 (E : EV) (σ : SS) (g : Int → Int) : (Wd E σ).set 12 (ea E 12, .inl (ec E 1, 240, .inl (af g))) = Wd E (st σ 12 g) := rfl
theorem gs_12 (C : CX p l e R s m args below meth c own cc nL E A rt) {i z : Int} (h : 0 ≤ i ∧ i < 240) (hz : 0 ≤ z ∧ z < 65536) (d : decode cc pc = .ok (.castore, 1)) (hq : pc + 1 = q) (K : GG p l e R s m args below meth c Q E A nL (st σ 12 (pt (σ 12) i z)) k n q L sk) : GG p l e R s m args below meth c Q E A nL σ k n pc L (.int (iI z) :: .int (iI i) :: .ref (ea E 12) :: sk) := by
  subst hq; intro H locs ls hl hP hS
  refine va_cast (n := 240) (f := af (σ 12)) C.exec C.code C.K.1 hP (C.D σ) hS 12 1 rfl rfl (iI_in (by omega) (by decide)) d (fun H1 locs1 hP1 hD1 hS1 => ?_)
  rw [iI_nar hz, af_st (by omega), ss_12] at hP1
  exact K H1 locs1 ls hl hP1 hS1
theorem ss_13 (E : EV) (σ : SS) (g : Int → Int) : (Wd E σ).set 13 (ea E 13, .inl (ec E 2, 70, .inr (.inl (afL g)))) = Wd E (st σ 13 g) := rfl
theorem afL_ld {f : Int → Int} {i : Int} (h : 0 ≤ i ∧ i < 1000000) : afL f (iI i).toNatClampNeg = iL (f i) := by
  rw [iI_cl (by omega)]; unfold afL; rw [Int.toNat_of_nonneg h.1]
theorem gl_13 (C : CX p l e R s m args below meth c own cc nL E A rt) {i : Int} (h : 0 ≤ i ∧ i < 70) (d : decode cc pc = .ok (.laload, 1)) (hq : pc + 1 = q) (K : GG p l e R s m args below meth c Q E A nL σ k n q L (.long (iL (σ 13 i)) :: sk)) : GG p l e R s m args below meth c Q E A nL σ k n pc L (.int (iI i) :: .ref (ea E 13) :: sk) := by
  subst hq; intro H locs ls hl hP hS
  refine va_lald (n := 70) (f := afL (σ 13)) C.exec C.code C.K.1 hP 13 2 rfl rfl (iI_in (by omega) (by decide)) d ?_
  rw [afL_ld (by omega)]
  exact K H locs ls hl hP hS
theorem gs_13 (C : CX p l e R s m args below meth c own cc nL E A rt) {i z : Int} (h : 0 ≤ i ∧ i < 70) (d : decode cc pc = .ok (.lastore, 1)) (hq : pc + 1 = q) (K : GG p l e R s m args below meth c Q E A nL (st σ 13 (pt (σ 13) i z)) k n q L sk) : GG p l e R s m args below meth c Q E A nL σ k n pc L (.long (iL z) :: .int (iI i) :: .ref (ea E 13) :: sk) := by
  subst hq; intro H locs ls hl hP hS
  refine va_last (n := 70) (f := afL (σ 13)) C.exec C.code C.K.1 hP (C.D σ) hS 13 2 rfl rfl (iI_in (by omega) (by decide)) d (fun H1 locs1 hP1 hD1 hS1 => ?_)
  rw [afL_st (by omega), ss_13] at hP1
  exact K H1 locs1 ls hl hP1 hS1
end GFLD
