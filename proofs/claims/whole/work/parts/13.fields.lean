section GFLD
variable {p : Program} {l : Launch} {e : Env} {R : Room} {s : State} {m : MethodId} {args : Array Value} {below : List Frame} {meth : Method} {c : Code} {cc : ByteArray} {nL : Nat} {E : EV} {A : Nat → Prop} {Q : State → Prop} {rt : Option FieldType} {own : String}
variable {σ : SS} {k n pc q : Nat} {L : List (Nat × Value)} {sk : List Value}
theorem gf_X4_12 (C : CX p l e R s m args below meth c RX4 cc nL E A rt) (d : decode cc pc = .ok (.getfield 12, 3)) (hq : pc + 3 = q) (K : GG p l e R s m args below meth c Q E A nL σ k n q L (.ref (ea E 1) :: sk)) : GG p l e R s m args below meth c Q E A nL σ k n pc L (.ref (ea E 0) :: sk) := by
  subst hq; intro H locs ls hl hP hS
  exact va_get (D := E.1) (cl := gcl) (ci := 4) (v := .ref (ea E 1)) (C := RX4) (T := TX4) (N := 9) C.exec C.code C.hts uw_X4 C.hown C.K.1 hP 0 rfl rfl 0 (by decide) (C.hts _ fl_X4_12) (fun _ h9 => h9) rfl d (K H locs ls hl hP hS)
theorem gf_X4_16 (C : CX p l e R s m args below meth c RX4 cc nL E A rt) (d : decode cc pc = .ok (.getfield 16, 3)) (hq : pc + 3 = q) (K : GG p l e R s m args below meth c Q E A nL σ k n q L (.ref (ea E 3) :: sk)) : GG p l e R s m args below meth c Q E A nL σ k n pc L (.ref (ea E 0) :: sk) := by
  subst hq; intro H locs ls hl hP hS
  exact va_get (D := E.1) (cl := gcl) (ci := 4) (v := .ref (ea E 3)) (C := RX4) (T := TX4) (N := 9) C.exec C.code C.hts uw_X4 C.hown C.K.1 hP 0 rfl rfl 1 (by decide) (C.hts _ fl_X4_16) (fun _ h9 => h9) rfl d (K H locs ls hl hP hS)
theorem gf_X4_20 (C : CX p l e R s m args below meth c RX4 cc nL E A rt) (d : decode cc pc = .ok (.getfield 20, 3)) (hq : pc + 3 = q) (K : GG p l e R s m args below meth c Q E A nL σ k n q L (.ref (ea E 4) :: sk)) : GG p l e R s m args below meth c Q E A nL σ k n pc L (.ref (ea E 0) :: sk) := by
  subst hq; intro H locs ls hl hP hS
  exact va_get (D := E.1) (cl := gcl) (ci := 4) (v := .ref (ea E 4)) (C := RX4) (T := TX4) (N := 9) C.exec C.code C.hts uw_X4 C.hown C.K.1 hP 0 rfl rfl 2 (by decide) (C.hts _ fl_X4_20) (fun _ h9 => h9) rfl d (K H locs ls hl hP hS)
theorem gf_X4_23 (C : CX p l e R s m args below meth c RX4 cc nL E A rt) (d : decode cc pc = .ok (.getfield 23, 3)) (hq : pc + 3 = q) (K : GG p l e R s m args below meth c Q E A nL σ k n q L (.int (iI (σ 0 3)) :: sk)) : GG p l e R s m args below meth c Q E A nL σ k n pc L (.ref (ea E 0) :: sk) := by
  subst hq; intro H locs ls hl hP hS
  exact va_get (D := E.1) (cl := gcl) (ci := 4) (v := .int (iI (σ 0 3))) (C := RX4) (T := TX4) (N := 9) C.exec C.code C.hts uw_X4 C.hown C.K.1 hP 0 rfl rfl 3 (by decide) (C.hts _ fl_X4_23) (fun _ h9 => h9) rfl d (K H locs ls hl hP hS)
theorem ps_X4_23 (E : EV) (σ : SS) (z : Int) : (Wd E σ).set 0 (ea E 0, .inr (4, [.ref (ea E 1), .ref (ea E 3), .ref (ea E 4), .int (iI z), .ref (ea E 5), .ref (ea E 7), .ref (ea E 11), .int (iI (σ 0 7)), .int (iI (σ 0 8))])) = Wd E (st σ 0 (pt (σ 0) 3 z)) := rfl
theorem gp_X4_23 (C : CX p l e R s m args below meth c RX4 cc nL E A rt) {z : Int} (hz : z = 0 ∨ z = 1) (d : decode cc pc = .ok (.putfield 23, 3)) (hq : pc + 3 = q) (K : GG p l e R s m args below meth c Q E A nL (st σ 0 (pt (σ 0) 3 z)) k n q L sk) : GG p l e R s m args below meth c Q E A nL σ k n pc L (.int (iI z) :: .ref (ea E 0) :: sk) := by
  subst hq; intro H locs ls hl hP hS
  exact va_put (D := E.1) (cl := gcl) (ci := 4) (v := .int (iI z)) (ty := .boolean) (C := RX4) (T := TX4) (N := 9) C.exec C.code C.hts uw_X4 tyX4 tyX4_ok nmX4 C.hown C.K.1 hP (C.D σ) hS 0 rfl rfl 3 (by decide) (C.hts _ fl_X4_23) (fun _ h9 => h9) rfl (by decide +kernel) (by rcases hz with rfl | rfl <;> decide) (by rcases hz with rfl | rfl <;> decide) (Nat.le_of_ble_eq_true rfl) d (fun H1 locs1 hP1 hD1 hS1 => K H1 locs1 ls hl (by rw [← ps_X4_23]; exact hP1) hS1)
theorem gf_X4_30 (C : CX p l e R s m args below meth c RX4 cc nL E A rt) (d : decode cc pc = .ok (.getfield 30, 3)) (hq : pc + 3 = q) (K : GG p l e R s m args below meth c Q E A nL σ k n q L (.ref (ea E 5) :: sk)) : GG p l e R s m args below meth c Q E A nL σ k n pc L (.ref (ea E 0) :: sk) := by
  subst hq; intro H locs ls hl hP hS
  exact va_get (D := E.1) (cl := gcl) (ci := 4) (v := .ref (ea E 5)) (C := RX4) (T := TX4) (N := 9) C.exec C.code C.hts uw_X4 C.hown C.K.1 hP 0 rfl rfl 4 (by decide) (C.hts _ fl_X4_30) (fun _ h9 => h9) rfl d (K H locs ls hl hP hS)
theorem gf_X4_37 (C : CX p l e R s m args below meth c RX4 cc nL E A rt) (d : decode cc pc = .ok (.getfield 37, 3)) (hq : pc + 3 = q) (K : GG p l e R s m args below meth c Q E A nL σ k n q L (.ref (ea E 7) :: sk)) : GG p l e R s m args below meth c Q E A nL σ k n pc L (.ref (ea E 0) :: sk) := by
  subst hq; intro H locs ls hl hP hS
  exact va_get (D := E.1) (cl := gcl) (ci := 4) (v := .ref (ea E 7)) (C := RX4) (T := TX4) (N := 9) C.exec C.code C.hts uw_X4 C.hown C.K.1 hP 0 rfl rfl 5 (by decide) (C.hts _ fl_X4_37) (fun _ h9 => h9) rfl d (K H locs ls hl hP hS)
theorem gf_X4_44 (C : CX p l e R s m args below meth c RX4 cc nL E A rt) (d : decode cc pc = .ok (.getfield 44, 3)) (hq : pc + 3 = q) (K : GG p l e R s m args below meth c Q E A nL σ k n q L (.ref (ea E 11) :: sk)) : GG p l e R s m args below meth c Q E A nL σ k n pc L (.ref (ea E 0) :: sk) := by
  subst hq; intro H locs ls hl hP hS
  exact va_get (D := E.1) (cl := gcl) (ci := 4) (v := .ref (ea E 11)) (C := RX4) (T := TX4) (N := 9) C.exec C.code C.hts uw_X4 C.hown C.K.1 hP 0 rfl rfl 6 (by decide) (C.hts _ fl_X4_44) (fun _ h9 => h9) rfl d (K H locs ls hl hP hS)
theorem gf_X4_48 (C : CX p l e R s m args below meth c RX4 cc nL E A rt) (d : decode cc pc = .ok (.getfield 48, 3)) (hq : pc + 3 = q) (K : GG p l e R s m args below meth c Q E A nL σ k n q L (.int (iI (σ 0 7)) :: sk)) : GG p l e R s m args below meth c Q E A nL σ k n pc L (.ref (ea E 0) :: sk) := by
  subst hq; intro H locs ls hl hP hS
  exact va_get (D := E.1) (cl := gcl) (ci := 4) (v := .int (iI (σ 0 7))) (C := RX4) (T := TX4) (N := 9) C.exec C.code C.hts uw_X4 C.hown C.K.1 hP 0 rfl rfl 7 (by decide) (C.hts _ fl_X4_48) (fun _ h9 => h9) rfl d (K H locs ls hl hP hS)
theorem ps_X4_48 (E : EV) (σ : SS) (z : Int) : (Wd E σ).set 0 (ea E 0, .inr (4, [.ref (ea E 1), .ref (ea E 3), .ref (ea E 4), .int (iI (σ 0 3)), .ref (ea E 5), .ref (ea E 7), .ref (ea E 11), .int (iI z), .int (iI (σ 0 8))])) = Wd E (st σ 0 (pt (σ 0) 7 z)) := rfl
theorem gp_X4_48 (C : CX p l e R s m args below meth c RX4 cc nL E A rt) {z : Int} (d : decode cc pc = .ok (.putfield 48, 3)) (hq : pc + 3 = q) (K : GG p l e R s m args below meth c Q E A nL (st σ 0 (pt (σ 0) 7 z)) k n q L sk) : GG p l e R s m args below meth c Q E A nL σ k n pc L (.int (iI z) :: .ref (ea E 0) :: sk) := by
  subst hq; intro H locs ls hl hP hS
  exact va_put (D := E.1) (cl := gcl) (ci := 4) (v := .int (iI z)) (ty := .int) (C := RX4) (T := TX4) (N := 9) C.exec C.code C.hts uw_X4 tyX4 tyX4_ok nmX4 C.hown C.K.1 hP (C.D σ) hS 0 rfl rfl 7 (by decide) (C.hts _ fl_X4_48) (fun _ h9 => h9) rfl (by decide +kernel) rfl rfl (Nat.le_of_ble_eq_true rfl) d (fun H1 locs1 hP1 hD1 hS1 => K H1 locs1 ls hl (by rw [← ps_X4_48]; exact hP1) hS1)
theorem gf_X4_52 (C : CX p l e R s m args below meth c RX4 cc nL E A rt) (d : decode cc pc = .ok (.getfield 52, 3)) (hq : pc + 3 = q) (K : GG p l e R s m args below meth c Q E A nL σ k n q L (.int (iI (σ 0 8)) :: sk)) : GG p l e R s m args below meth c Q E A nL σ k n pc L (.ref (ea E 0) :: sk) := by
  subst hq; intro H locs ls hl hP hS
  exact va_get (D := E.1) (cl := gcl) (ci := 4) (v := .int (iI (σ 0 8))) (C := RX4) (T := TX4) (N := 9) C.exec C.code C.hts uw_X4 C.hown C.K.1 hP 0 rfl rfl 8 (by decide) (C.hts _ fl_X4_52) (fun _ h9 => h9) rfl d (K H locs ls hl hP hS)
theorem ps_X4_52 (E : EV) (σ : SS) (z : Int) : (Wd E σ).set 0 (ea E 0, .inr (4, [.ref (ea E 1), .ref (ea E 3), .ref (ea E 4), .int (iI (σ 0 3)), .ref (ea E 5), .ref (ea E 7), .ref (ea E 11), .int (iI (σ 0 7)), .int (iI z)])) = Wd E (st σ 0 (pt (σ 0) 8 z)) := rfl
theorem gp_X4_52 (C : CX p l e R s m args below meth c RX4 cc nL E A rt) {z : Int} (d : decode cc pc = .ok (.putfield 52, 3)) (hq : pc + 3 = q) (K : GG p l e R s m args below meth c Q E A nL (st σ 0 (pt (σ 0) 8 z)) k n q L sk) : GG p l e R s m args below meth c Q E A nL σ k n pc L (.int (iI z) :: .ref (ea E 0) :: sk) := by
  subst hq; intro H locs ls hl hP hS
  exact va_put (D := E.1) (cl := gcl) (ci := 4) (v := .int (iI z)) (ty := .int) (C := RX4) (T := TX4) (N := 9) C.exec C.code C.hts uw_X4 tyX4 tyX4_ok nmX4 C.hown C.K.1 hP (C.D σ) hS 0 rfl rfl 8 (by decide) (C.hts _ fl_X4_52) (fun _ h9 => h9) rfl (by decide +kernel) rfl rfl (Nat.le_of_ble_eq_true rfl) d (fun H1 locs1 hP1 hD1 hS1 => K H1 locs1 ls hl (by rw [← ps_X4_52]; exact hP1) hS1)
theorem gf_X0_9 (C : CX p l e R s m args below meth c RX0 cc nL E A rt) (d : decode cc pc = .ok (.getfield 9, 3)) (hq : pc + 3 = q) (K : GG p l e R s m args below meth c Q E A nL σ k n q L (.ref (ea E 8) :: sk)) : GG p l e R s m args below meth c Q E A nL σ k n pc L (.ref (ea E 7) :: sk) := by
  subst hq; intro H locs ls hl hP hS
  exact va_get (D := E.1) (cl := gcl) (ci := 0) (v := .ref (ea E 8)) (C := RX0) (T := TX0) (N := 7) C.exec C.code C.hts uw_X0 C.hown C.K.1 hP 7 rfl rfl 0 (by decide) (C.hts _ fl_X0_9) (fun _ h9 => h9) rfl d (K H locs ls hl hP hS)
theorem gf_X0_15 (C : CX p l e R s m args below meth c RX0 cc nL E A rt) (d : decode cc pc = .ok (.getfield 15, 3)) (hq : pc + 3 = q) (K : GG p l e R s m args below meth c Q E A nL σ k n q L (.int (iI (σ 7 1)) :: sk)) : GG p l e R s m args below meth c Q E A nL σ k n pc L (.ref (ea E 7) :: sk) := by
  subst hq; intro H locs ls hl hP hS
  exact va_get (D := E.1) (cl := gcl) (ci := 0) (v := .int (iI (σ 7 1))) (C := RX0) (T := TX0) (N := 7) C.exec C.code C.hts uw_X0 C.hown C.K.1 hP 7 rfl rfl 1 (by decide) (C.hts _ fl_X0_15) (fun _ h9 => h9) rfl d (K H locs ls hl hP hS)
theorem ps_X0_15 (E : EV) (σ : SS) (z : Int) : (Wd E σ).set 7 (ea E 7, .inr (0, [.ref (ea E 8), .int (iI z), .int (iI (σ 7 2)), .ref (ea E 9), .ref (ea E 10), .int (iI (σ 7 5)), .int (iI (σ 7 6))])) = Wd E (st σ 7 (pt (σ 7) 1 z)) := rfl
theorem gp_X0_15 (C : CX p l e R s m args below meth c RX0 cc nL E A rt) {z : Int} (d : decode cc pc = .ok (.putfield 15, 3)) (hq : pc + 3 = q) (K : GG p l e R s m args below meth c Q E A nL (st σ 7 (pt (σ 7) 1 z)) k n q L sk) : GG p l e R s m args below meth c Q E A nL σ k n pc L (.int (iI z) :: .ref (ea E 7) :: sk) := by
  subst hq; intro H locs ls hl hP hS
  exact va_put (D := E.1) (cl := gcl) (ci := 0) (v := .int (iI z)) (ty := .int) (C := RX0) (T := TX0) (N := 7) C.exec C.code C.hts uw_X0 tyX0 tyX0_ok nmX0 C.hown C.K.1 hP (C.D σ) hS 7 rfl rfl 1 (by decide) (C.hts _ fl_X0_15) (fun _ h9 => h9) rfl (by decide +kernel) rfl rfl (Nat.le_of_ble_eq_true rfl) d (fun H1 locs1 hP1 hD1 hS1 => K H1 locs1 ls hl (by rw [← ps_X0_15]; exact hP1) hS1)
theorem gf_X0_19 (C : CX p l e R s m args below meth c RX0 cc nL E A rt) (d : decode cc pc = .ok (.getfield 19, 3)) (hq : pc + 3 = q) (K : GG p l e R s m args below meth c Q E A nL σ k n q L (.int (iI (σ 7 2)) :: sk)) : GG p l e R s m args below meth c Q E A nL σ k n pc L (.ref (ea E 7) :: sk) := by
  subst hq; intro H locs ls hl hP hS
  exact va_get (D := E.1) (cl := gcl) (ci := 0) (v := .int (iI (σ 7 2))) (C := RX0) (T := TX0) (N := 7) C.exec C.code C.hts uw_X0 C.hown C.K.1 hP 7 rfl rfl 2 (by decide) (C.hts _ fl_X0_19) (fun _ h9 => h9) rfl d (K H locs ls hl hP hS)
theorem ps_X0_19 (E : EV) (σ : SS) (z : Int) : (Wd E σ).set 7 (ea E 7, .inr (0, [.ref (ea E 8), .int (iI (σ 7 1)), .int (iI z), .ref (ea E 9), .ref (ea E 10), .int (iI (σ 7 5)), .int (iI (σ 7 6))])) = Wd E (st σ 7 (pt (σ 7) 2 z)) := rfl
theorem gp_X0_19 (C : CX p l e R s m args below meth c RX0 cc nL E A rt) {z : Int} (d : decode cc pc = .ok (.putfield 19, 3)) (hq : pc + 3 = q) (K : GG p l e R s m args below meth c Q E A nL (st σ 7 (pt (σ 7) 2 z)) k n q L sk) : GG p l e R s m args below meth c Q E A nL σ k n pc L (.int (iI z) :: .ref (ea E 7) :: sk) := by
  subst hq; intro H locs ls hl hP hS
  exact va_put (D := E.1) (cl := gcl) (ci := 0) (v := .int (iI z)) (ty := .int) (C := RX0) (T := TX0) (N := 7) C.exec C.code C.hts uw_X0 tyX0 tyX0_ok nmX0 C.hown C.K.1 hP (C.D σ) hS 7 rfl rfl 2 (by decide) (C.hts _ fl_X0_19) (fun _ h9 => h9) rfl (by decide +kernel) rfl rfl (Nat.le_of_ble_eq_true rfl) d (fun H1 locs1 hP1 hD1 hS1 => K H1 locs1 ls hl (by rw [← ps_X0_19]; exact hP1) hS1)
theorem gf_X0_22 (C : CX p l e R s m args below meth c RX0 cc nL E A rt) (d : decode cc pc = .ok (.getfield 22, 3)) (hq : pc + 3 = q) (K : GG p l e R s m args below meth c Q E A nL σ k n q L (.ref (ea E 9) :: sk)) : GG p l e R s m args below meth c Q E A nL σ k n pc L (.ref (ea E 7) :: sk) := by
  subst hq; intro H locs ls hl hP hS
  exact va_get (D := E.1) (cl := gcl) (ci := 0) (v := .ref (ea E 9)) (C := RX0) (T := TX0) (N := 7) C.exec C.code C.hts uw_X0 C.hown C.K.1 hP 7 rfl rfl 3 (by decide) (C.hts _ fl_X0_22) (fun _ h9 => h9) rfl d (K H locs ls hl hP hS)
theorem gf_X0_26 (C : CX p l e R s m args below meth c RX0 cc nL E A rt) (d : decode cc pc = .ok (.getfield 26, 3)) (hq : pc + 3 = q) (K : GG p l e R s m args below meth c Q E A nL σ k n q L (.ref (ea E 10) :: sk)) : GG p l e R s m args below meth c Q E A nL σ k n pc L (.ref (ea E 7) :: sk) := by
  subst hq; intro H locs ls hl hP hS
  exact va_get (D := E.1) (cl := gcl) (ci := 0) (v := .ref (ea E 10)) (C := RX0) (T := TX0) (N := 7) C.exec C.code C.hts uw_X0 C.hown C.K.1 hP 7 rfl rfl 4 (by decide) (C.hts _ fl_X0_26) (fun _ h9 => h9) rfl d (K H locs ls hl hP hS)
theorem gf_X0_29 (C : CX p l e R s m args below meth c RX0 cc nL E A rt) (d : decode cc pc = .ok (.getfield 29, 3)) (hq : pc + 3 = q) (K : GG p l e R s m args below meth c Q E A nL σ k n q L (.int (iI (σ 7 5)) :: sk)) : GG p l e R s m args below meth c Q E A nL σ k n pc L (.ref (ea E 7) :: sk) := by
  subst hq; intro H locs ls hl hP hS
  exact va_get (D := E.1) (cl := gcl) (ci := 0) (v := .int (iI (σ 7 5))) (C := RX0) (T := TX0) (N := 7) C.exec C.code C.hts uw_X0 C.hown C.K.1 hP 7 rfl rfl 5 (by decide) (C.hts _ fl_X0_29) (fun _ h9 => h9) rfl d (K H locs ls hl hP hS)
theorem ps_X0_29 (E : EV) (σ : SS) (z : Int) : (Wd E σ).set 7 (ea E 7, .inr (0, [.ref (ea E 8), .int (iI (σ 7 1)), .int (iI (σ 7 2)), .ref (ea E 9), .ref (ea E 10), .int (iI z), .int (iI (σ 7 6))])) = Wd E (st σ 7 (pt (σ 7) 5 z)) := rfl
theorem gp_X0_29 (C : CX p l e R s m args below meth c RX0 cc nL E A rt) {z : Int} (d : decode cc pc = .ok (.putfield 29, 3)) (hq : pc + 3 = q) (K : GG p l e R s m args below meth c Q E A nL (st σ 7 (pt (σ 7) 5 z)) k n q L sk) : GG p l e R s m args below meth c Q E A nL σ k n pc L (.int (iI z) :: .ref (ea E 7) :: sk) := by
  subst hq; intro H locs ls hl hP hS
  exact va_put (D := E.1) (cl := gcl) (ci := 0) (v := .int (iI z)) (ty := .int) (C := RX0) (T := TX0) (N := 7) C.exec C.code C.hts uw_X0 tyX0 tyX0_ok nmX0 C.hown C.K.1 hP (C.D σ) hS 7 rfl rfl 5 (by decide) (C.hts _ fl_X0_29) (fun _ h9 => h9) rfl (by decide +kernel) rfl rfl (Nat.le_of_ble_eq_true rfl) d (fun H1 locs1 hP1 hD1 hS1 => K H1 locs1 ls hl (by rw [← ps_X0_29]; exact hP1) hS1)
theorem gf_X0_32 (C : CX p l e R s m args below meth c RX0 cc nL E A rt) (d : decode cc pc = .ok (.getfield 32, 3)) (hq : pc + 3 = q) (K : GG p l e R s m args below meth c Q E A nL σ k n q L (.int (iI (σ 7 6)) :: sk)) : GG p l e R s m args below meth c Q E A nL σ k n pc L (.ref (ea E 7) :: sk) := by
  subst hq; intro H locs ls hl hP hS
  exact va_get (D := E.1) (cl := gcl) (ci := 0) (v := .int (iI (σ 7 6))) (C := RX0) (T := TX0) (N := 7) C.exec C.code C.hts uw_X0 C.hown C.K.1 hP 7 rfl rfl 6 (by decide) (C.hts _ fl_X0_32) (fun _ h9 => h9) rfl d (K H locs ls hl hP hS)
theorem ps_X0_32 (E : EV) (σ : SS) (z : Int) : (Wd E σ).set 7 (ea E 7, .inr (0, [.ref (ea E 8), .int (iI (σ 7 1)), .int (iI (σ 7 2)), .ref (ea E 9), .ref (ea E 10), .int (iI (σ 7 5)), .int (iI z)])) = Wd E (st σ 7 (pt (σ 7) 6 z)) := rfl
theorem gp_X0_32 (C : CX p l e R s m args below meth c RX0 cc nL E A rt) {z : Int} (d : decode cc pc = .ok (.putfield 32, 3)) (hq : pc + 3 = q) (K : GG p l e R s m args below meth c Q E A nL (st σ 7 (pt (σ 7) 6 z)) k n q L sk) : GG p l e R s m args below meth c Q E A nL σ k n pc L (.int (iI z) :: .ref (ea E 7) :: sk) := by
  subst hq; intro H locs ls hl hP hS
  exact va_put (D := E.1) (cl := gcl) (ci := 0) (v := .int (iI z)) (ty := .int) (C := RX0) (T := TX0) (N := 7) C.exec C.code C.hts uw_X0 tyX0 tyX0_ok nmX0 C.hown C.K.1 hP (C.D σ) hS 7 rfl rfl 6 (by decide) (C.hts _ fl_X0_32) (fun _ h9 => h9) rfl (by decide +kernel) rfl rfl (Nat.le_of_ble_eq_true rfl) d (fun H1 locs1 hP1 hD1 hS1 => K H1 locs1 ls hl (by rw [← ps_X0_32]; exact hP1) hS1)
theorem gf_X1_9 (C : CX p l e R s m args below meth c RX1 cc nL E A rt) (d : decode cc pc = .ok (.getfield 9, 3)) (hq : pc + 3 = q) (K : GG p l e R s m args below meth c Q E A nL σ k n q L (.ref (ea E 6) :: sk)) : GG p l e R s m args below meth c Q E A nL σ k n pc L (.ref (ea E 5) :: sk) := by
  subst hq; intro H locs ls hl hP hS
  exact va_get (D := E.1) (cl := gcl) (ci := 1) (v := .ref (ea E 6)) (C := RX1) (T := TX1) (N := 3) C.exec C.code C.hts uw_X1 C.hown C.K.1 hP 5 rfl rfl 0 (by decide) (C.hts _ fl_X1_9) (fun _ h9 => h9) rfl d (K H locs ls hl hP hS)
theorem gf_X1_15 (C : CX p l e R s m args below meth c RX1 cc nL E A rt) (d : decode cc pc = .ok (.getfield 15, 3)) (hq : pc + 3 = q) (K : GG p l e R s m args below meth c Q E A nL σ k n q L (.int (iI (σ 5 1)) :: sk)) : GG p l e R s m args below meth c Q E A nL σ k n pc L (.ref (ea E 5) :: sk) := by
  subst hq; intro H locs ls hl hP hS
  exact va_get (D := E.1) (cl := gcl) (ci := 1) (v := .int (iI (σ 5 1))) (C := RX1) (T := TX1) (N := 3) C.exec C.code C.hts uw_X1 C.hown C.K.1 hP 5 rfl rfl 1 (by decide) (C.hts _ fl_X1_15) (fun _ h9 => h9) rfl d (K H locs ls hl hP hS)
theorem ps_X1_15 (E : EV) (σ : SS) (z : Int) : (Wd E σ).set 5 (ea E 5, .inr (1, [.ref (ea E 6), .int (iI z), .int (iI (σ 5 2))])) = Wd E (st σ 5 (pt (σ 5) 1 z)) := rfl
theorem gp_X1_15 (C : CX p l e R s m args below meth c RX1 cc nL E A rt) {z : Int} (d : decode cc pc = .ok (.putfield 15, 3)) (hq : pc + 3 = q) (K : GG p l e R s m args below meth c Q E A nL (st σ 5 (pt (σ 5) 1 z)) k n q L sk) : GG p l e R s m args below meth c Q E A nL σ k n pc L (.int (iI z) :: .ref (ea E 5) :: sk) := by
  subst hq; intro H locs ls hl hP hS
  exact va_put (D := E.1) (cl := gcl) (ci := 1) (v := .int (iI z)) (ty := .int) (C := RX1) (T := TX1) (N := 3) C.exec C.code C.hts uw_X1 tyX1 tyX1_ok nmX1 C.hown C.K.1 hP (C.D σ) hS 5 rfl rfl 1 (by decide) (C.hts _ fl_X1_15) (fun _ h9 => h9) rfl (by decide +kernel) rfl rfl (Nat.le_of_ble_eq_true rfl) d (fun H1 locs1 hP1 hD1 hS1 => K H1 locs1 ls hl (by rw [← ps_X1_15]; exact hP1) hS1)
theorem gf_X1_19 (C : CX p l e R s m args below meth c RX1 cc nL E A rt) (d : decode cc pc = .ok (.getfield 19, 3)) (hq : pc + 3 = q) (K : GG p l e R s m args below meth c Q E A nL σ k n q L (.int (iI (σ 5 2)) :: sk)) : GG p l e R s m args below meth c Q E A nL σ k n pc L (.ref (ea E 5) :: sk) := by
  subst hq; intro H locs ls hl hP hS
  exact va_get (D := E.1) (cl := gcl) (ci := 1) (v := .int (iI (σ 5 2))) (C := RX1) (T := TX1) (N := 3) C.exec C.code C.hts uw_X1 C.hown C.K.1 hP 5 rfl rfl 2 (by decide) (C.hts _ fl_X1_19) (fun _ h9 => h9) rfl d (K H locs ls hl hP hS)
theorem ps_X1_19 (E : EV) (σ : SS) (z : Int) : (Wd E σ).set 5 (ea E 5, .inr (1, [.ref (ea E 6), .int (iI (σ 5 1)), .int (iI z)])) = Wd E (st σ 5 (pt (σ 5) 2 z)) := rfl
theorem gp_X1_19 (C : CX p l e R s m args below meth c RX1 cc nL E A rt) {z : Int} (d : decode cc pc = .ok (.putfield 19, 3)) (hq : pc + 3 = q) (K : GG p l e R s m args below meth c Q E A nL (st σ 5 (pt (σ 5) 2 z)) k n q L sk) : GG p l e R s m args below meth c Q E A nL σ k n pc L (.int (iI z) :: .ref (ea E 5) :: sk) := by
  subst hq; intro H locs ls hl hP hS
  exact va_put (D := E.1) (cl := gcl) (ci := 1) (v := .int (iI z)) (ty := .int) (C := RX1) (T := TX1) (N := 3) C.exec C.code C.hts uw_X1 tyX1 tyX1_ok nmX1 C.hown C.K.1 hP (C.D σ) hS 5 rfl rfl 2 (by decide) (C.hts _ fl_X1_19) (fun _ h9 => h9) rfl (by decide +kernel) rfl rfl (Nat.le_of_ble_eq_true rfl) d (fun H1 locs1 hP1 hD1 hS1 => K H1 locs1 ls hl (by rw [← ps_X1_19]; exact hP1) hS1)
theorem gf_X2_9 (C : CX p l e R s m args below meth c RX2 cc nL E A rt) (d : decode cc pc = .ok (.getfield 9, 3)) (hq : pc + 3 = q) (K : GG p l e R s m args below meth c Q E A nL σ k n q L (.ref (ea E 12) :: sk)) : GG p l e R s m args below meth c Q E A nL σ k n pc L (.ref (ea E 11) :: sk) := by
  subst hq; intro H locs ls hl hP hS
  exact va_get (D := E.1) (cl := gcl) (ci := 2) (v := .ref (ea E 12)) (C := RX2) (T := TX2) (N := 2) C.exec C.code C.hts uw_X2 C.hown C.K.1 hP 11 rfl rfl 0 (by decide) (C.hts _ fl_X2_9) (fun _ h9 => h9) rfl d (K H locs ls hl hP hS)
theorem gf_X2_15 (C : CX p l e R s m args below meth c RX2 cc nL E A rt) (d : decode cc pc = .ok (.getfield 15, 3)) (hq : pc + 3 = q) (K : GG p l e R s m args below meth c Q E A nL σ k n q L (.int (iI (σ 11 1)) :: sk)) : GG p l e R s m args below meth c Q E A nL σ k n pc L (.ref (ea E 11) :: sk) := by
  subst hq; intro H locs ls hl hP hS
  exact va_get (D := E.1) (cl := gcl) (ci := 2) (v := .int (iI (σ 11 1))) (C := RX2) (T := TX2) (N := 2) C.exec C.code C.hts uw_X2 C.hown C.K.1 hP 11 rfl rfl 1 (by decide) (C.hts _ fl_X2_15) (fun _ h9 => h9) rfl d (K H locs ls hl hP hS)
theorem ps_X2_15 (E : EV) (σ : SS) (z : Int) : (Wd E σ).set 11 (ea E 11, .inr (2, [.ref (ea E 12), .int (iI z)])) = Wd E (st σ 11 (pt (σ 11) 1 z)) := rfl
theorem gp_X2_15 (C : CX p l e R s m args below meth c RX2 cc nL E A rt) {z : Int} (d : decode cc pc = .ok (.putfield 15, 3)) (hq : pc + 3 = q) (K : GG p l e R s m args below meth c Q E A nL (st σ 11 (pt (σ 11) 1 z)) k n q L sk) : GG p l e R s m args below meth c Q E A nL σ k n pc L (.int (iI z) :: .ref (ea E 11) :: sk) := by
  subst hq; intro H locs ls hl hP hS
  exact va_put (D := E.1) (cl := gcl) (ci := 2) (v := .int (iI z)) (ty := .int) (C := RX2) (T := TX2) (N := 2) C.exec C.code C.hts uw_X2 tyX2 tyX2_ok nmX2 C.hown C.K.1 hP (C.D σ) hS 11 rfl rfl 1 (by decide) (C.hts _ fl_X2_15) (fun _ h9 => h9) rfl (by decide +kernel) rfl rfl (Nat.le_of_ble_eq_true rfl) d (fun H1 locs1 hP1 hD1 hS1 => K H1 locs1 ls hl (by rw [← ps_X2_15]; exact hP1) hS1)
theorem gf_X3_9 (C : CX p l e R s m args below meth c RX3 cc nL E A rt) (d : decode cc pc = .ok (.getfield 9, 3)) (hq : pc + 3 = q) (K : GG p l e R s m args below meth c Q E A nL σ k n q L (.ref (ea E 2) :: sk)) : GG p l e R s m args below meth c Q E A nL σ k n pc L (.ref (ea E 1) :: sk) := by
  subst hq; intro H locs ls hl hP hS
  exact va_get (D := E.1) (cl := gcl) (ci := 3) (v := .ref (ea E 2)) (C := RX3) (T := TX3) (N := 1) C.exec C.code C.hts uw_X3 C.hown C.K.1 hP 1 rfl rfl 0 (by decide) (C.hts _ fl_X3_9) (fun _ h9 => h9) rfl d (K H locs ls hl hP hS)
theorem gf_X5_7 (C : CX p l e R s m args below meth c RX5 cc nL E A rt) (d : decode cc pc = .ok (.getfield 7, 3)) (hq : pc + 3 = q) (K : GG p l e R s m args below meth c Q E A nL σ k n q L (.ref (ea E 14) :: sk)) : GG p l e R s m args below meth c Q E A nL σ k n pc L (.ref (ea E 13) :: sk) := by
  subst hq; intro H locs ls hl hP hS
  exact va_get (D := E.1) (cl := gcl) (ci := 5) (v := .ref (ea E 14)) (C := RX5) (T := TX5) (N := 19) C.exec C.code C.hts uw_X5 C.hown C.K.1 hP 13 rfl rfl 1 (by decide) (C.hts _ fl_X5_7) (fun _ h9 => h9) rfl d (K H locs ls hl hP hS)
theorem gf_X5_13 (C : CX p l e R s m args below meth c RX5 cc nL E A rt) (d : decode cc pc = .ok (.getfield 13, 3)) (hq : pc + 3 = q) (K : GG p l e R s m args below meth c Q E A nL σ k n q L (.ref (ea E 15) :: sk)) : GG p l e R s m args below meth c Q E A nL σ k n pc L (.ref (ea E 13) :: sk) := by
  subst hq; intro H locs ls hl hP hS
  exact va_get (D := E.1) (cl := gcl) (ci := 5) (v := .ref (ea E 15)) (C := RX5) (T := TX5) (N := 19) C.exec C.code C.hts uw_X5 C.hown C.K.1 hP 13 rfl rfl 2 (by decide) (C.hts _ fl_X5_13) (fun _ h9 => h9) rfl d (K H locs ls hl hP hS)
theorem gf_X5_16 (C : CX p l e R s m args below meth c RX5 cc nL E A rt) (d : decode cc pc = .ok (.getfield 16, 3)) (hq : pc + 3 = q) (K : GG p l e R s m args below meth c Q E A nL σ k n q L (.ref (ea E 16) :: sk)) : GG p l e R s m args below meth c Q E A nL σ k n pc L (.ref (ea E 13) :: sk) := by
  subst hq; intro H locs ls hl hP hS
  exact va_get (D := E.1) (cl := gcl) (ci := 5) (v := .ref (ea E 16)) (C := RX5) (T := TX5) (N := 19) C.exec C.code C.hts uw_X5 C.hown C.K.1 hP 13 rfl rfl 3 (by decide) (C.hts _ fl_X5_16) (fun _ h9 => h9) rfl d (K H locs ls hl hP hS)
theorem gf_X5_19 (C : CX p l e R s m args below meth c RX5 cc nL E A rt) (d : decode cc pc = .ok (.getfield 19, 3)) (hq : pc + 3 = q) (K : GG p l e R s m args below meth c Q E A nL σ k n q L (.ref (ea E 17) :: sk)) : GG p l e R s m args below meth c Q E A nL σ k n pc L (.ref (ea E 13) :: sk) := by
  subst hq; intro H locs ls hl hP hS
  exact va_get (D := E.1) (cl := gcl) (ci := 5) (v := .ref (ea E 17)) (C := RX5) (T := TX5) (N := 19) C.exec C.code C.hts uw_X5 C.hown C.K.1 hP 13 rfl rfl 4 (by decide) (C.hts _ fl_X5_19) (fun _ h9 => h9) rfl d (K H locs ls hl hP hS)
theorem gf_X5_22 (C : CX p l e R s m args below meth c RX5 cc nL E A rt) (d : decode cc pc = .ok (.getfield 22, 3)) (hq : pc + 3 = q) (K : GG p l e R s m args below meth c Q E A nL σ k n q L (.ref (ea E 18) :: sk)) : GG p l e R s m args below meth c Q E A nL σ k n pc L (.ref (ea E 13) :: sk) := by
  subst hq; intro H locs ls hl hP hS
  exact va_get (D := E.1) (cl := gcl) (ci := 5) (v := .ref (ea E 18)) (C := RX5) (T := TX5) (N := 19) C.exec C.code C.hts uw_X5 C.hown C.K.1 hP 13 rfl rfl 7 (by decide) (C.hts _ fl_X5_22) (fun _ h9 => h9) rfl d (K H locs ls hl hP hS)
theorem gf_X5_25 (C : CX p l e R s m args below meth c RX5 cc nL E A rt) (d : decode cc pc = .ok (.getfield 25, 3)) (hq : pc + 3 = q) (K : GG p l e R s m args below meth c Q E A nL σ k n q L (.ref (ea E 19) :: sk)) : GG p l e R s m args below meth c Q E A nL σ k n pc L (.ref (ea E 13) :: sk) := by
  subst hq; intro H locs ls hl hP hS
  exact va_get (D := E.1) (cl := gcl) (ci := 5) (v := .ref (ea E 19)) (C := RX5) (T := TX5) (N := 19) C.exec C.code C.hts uw_X5 C.hown C.K.1 hP 13 rfl rfl 8 (by decide) (C.hts _ fl_X5_25) (fun _ h9 => h9) rfl d (K H locs ls hl hP hS)
theorem gf_X5_28 (C : CX p l e R s m args below meth c RX5 cc nL E A rt) (d : decode cc pc = .ok (.getfield 28, 3)) (hq : pc + 3 = q) (K : GG p l e R s m args below meth c Q E A nL σ k n q L (.ref (ea E 20) :: sk)) : GG p l e R s m args below meth c Q E A nL σ k n pc L (.ref (ea E 13) :: sk) := by
  subst hq; intro H locs ls hl hP hS
  exact va_get (D := E.1) (cl := gcl) (ci := 5) (v := .ref (ea E 20)) (C := RX5) (T := TX5) (N := 19) C.exec C.code C.hts uw_X5 C.hown C.K.1 hP 13 rfl rfl 9 (by decide) (C.hts _ fl_X5_28) (fun _ h9 => h9) rfl d (K H locs ls hl hP hS)
theorem gf_X5_31 (C : CX p l e R s m args below meth c RX5 cc nL E A rt) (d : decode cc pc = .ok (.getfield 31, 3)) (hq : pc + 3 = q) (K : GG p l e R s m args below meth c Q E A nL σ k n q L (.int (iI (σ 13 12)) :: sk)) : GG p l e R s m args below meth c Q E A nL σ k n pc L (.ref (ea E 13) :: sk) := by
  subst hq; intro H locs ls hl hP hS
  exact va_get (D := E.1) (cl := gcl) (ci := 5) (v := .int (iI (σ 13 12))) (C := RX5) (T := TX5) (N := 19) C.exec C.code C.hts uw_X5 C.hown C.K.1 hP 13 rfl rfl 12 (by decide) (C.hts _ fl_X5_31) (fun _ h9 => h9) rfl d (K H locs ls hl hP hS)
theorem ps_X5_31 (E : EV) (σ : SS) (z : Int) : (Wd E σ).set 13 (ea E 13, .inr (5, [.int (iI (σ 13 0)), .ref (ea E 14), .ref (ea E 15), .ref (ea E 16), .ref (ea E 17), .int (iI (σ 13 5)), .int (iI (σ 13 6)), .ref (ea E 18), .ref (ea E 19), .ref (ea E 20), .int (iI (σ 13 10)), .int (iI (σ 13 11)), .int (iI z), .int (iI (σ 13 13)), .int (iI (σ 13 14)), .int (iI (σ 13 15)), .int (iI (σ 13 16)), .int (iI (σ 13 17)), .int (iI (σ 13 18))])) = Wd E (st σ 13 (pt (σ 13) 12 z)) := rfl
theorem gp_X5_31 (C : CX p l e R s m args below meth c RX5 cc nL E A rt) {z : Int} (d : decode cc pc = .ok (.putfield 31, 3)) (hq : pc + 3 = q) (K : GG p l e R s m args below meth c Q E A nL (st σ 13 (pt (σ 13) 12 z)) k n q L sk) : GG p l e R s m args below meth c Q E A nL σ k n pc L (.int (iI z) :: .ref (ea E 13) :: sk) := by
  subst hq; intro H locs ls hl hP hS
  exact va_put (D := E.1) (cl := gcl) (ci := 5) (v := .int (iI z)) (ty := .int) (C := RX5) (T := TX5) (N := 19) C.exec C.code C.hts uw_X5 tyX5 tyX5_ok nmX5 C.hown C.K.1 hP (C.D σ) hS 13 rfl rfl 12 (by decide) (C.hts _ fl_X5_31) (fun _ h9 => h9) rfl (by decide +kernel) rfl rfl (Nat.le_of_ble_eq_true rfl) d (fun H1 locs1 hP1 hD1 hS1 => K H1 locs1 ls hl (by rw [← ps_X5_31]; exact hP1) hS1)
theorem gf_X5_35 (C : CX p l e R s m args below meth c RX5 cc nL E A rt) (d : decode cc pc = .ok (.getfield 35, 3)) (hq : pc + 3 = q) (K : GG p l e R s m args below meth c Q E A nL σ k n q L (.int (iI (σ 13 13)) :: sk)) : GG p l e R s m args below meth c Q E A nL σ k n pc L (.ref (ea E 13) :: sk) := by
  subst hq; intro H locs ls hl hP hS
  exact va_get (D := E.1) (cl := gcl) (ci := 5) (v := .int (iI (σ 13 13))) (C := RX5) (T := TX5) (N := 19) C.exec C.code C.hts uw_X5 C.hown C.K.1 hP 13 rfl rfl 13 (by decide) (C.hts _ fl_X5_35) (fun _ h9 => h9) rfl d (K H locs ls hl hP hS)
theorem ps_X5_35 (E : EV) (σ : SS) (z : Int) : (Wd E σ).set 13 (ea E 13, .inr (5, [.int (iI (σ 13 0)), .ref (ea E 14), .ref (ea E 15), .ref (ea E 16), .ref (ea E 17), .int (iI (σ 13 5)), .int (iI (σ 13 6)), .ref (ea E 18), .ref (ea E 19), .ref (ea E 20), .int (iI (σ 13 10)), .int (iI (σ 13 11)), .int (iI (σ 13 12)), .int (iI z), .int (iI (σ 13 14)), .int (iI (σ 13 15)), .int (iI (σ 13 16)), .int (iI (σ 13 17)), .int (iI (σ 13 18))])) = Wd E (st σ 13 (pt (σ 13) 13 z)) := rfl
theorem gp_X5_35 (C : CX p l e R s m args below meth c RX5 cc nL E A rt) {z : Int} (d : decode cc pc = .ok (.putfield 35, 3)) (hq : pc + 3 = q) (K : GG p l e R s m args below meth c Q E A nL (st σ 13 (pt (σ 13) 13 z)) k n q L sk) : GG p l e R s m args below meth c Q E A nL σ k n pc L (.int (iI z) :: .ref (ea E 13) :: sk) := by
  subst hq; intro H locs ls hl hP hS
  exact va_put (D := E.1) (cl := gcl) (ci := 5) (v := .int (iI z)) (ty := .int) (C := RX5) (T := TX5) (N := 19) C.exec C.code C.hts uw_X5 tyX5 tyX5_ok nmX5 C.hown C.K.1 hP (C.D σ) hS 13 rfl rfl 13 (by decide) (C.hts _ fl_X5_35) (fun _ h9 => h9) rfl (by decide +kernel) rfl rfl (Nat.le_of_ble_eq_true rfl) d (fun H1 locs1 hP1 hD1 hS1 => K H1 locs1 ls hl (by rw [← ps_X5_35]; exact hP1) hS1)
theorem gf_X5_38 (C : CX p l e R s m args below meth c RX5 cc nL E A rt) (d : decode cc pc = .ok (.getfield 38, 3)) (hq : pc + 3 = q) (K : GG p l e R s m args below meth c Q E A nL σ k n q L (.int (iI (σ 13 0)) :: sk)) : GG p l e R s m args below meth c Q E A nL σ k n pc L (.ref (ea E 13) :: sk) := by
  subst hq; intro H locs ls hl hP hS
  exact va_get (D := E.1) (cl := gcl) (ci := 5) (v := .int (iI (σ 13 0))) (C := RX5) (T := TX5) (N := 19) C.exec C.code C.hts uw_X5 C.hown C.K.1 hP 13 rfl rfl 0 (by decide) (C.hts _ fl_X5_38) (fun _ h9 => h9) rfl d (K H locs ls hl hP hS)
theorem ps_X5_38 (E : EV) (σ : SS) (z : Int) : (Wd E σ).set 13 (ea E 13, .inr (5, [.int (iI z), .ref (ea E 14), .ref (ea E 15), .ref (ea E 16), .ref (ea E 17), .int (iI (σ 13 5)), .int (iI (σ 13 6)), .ref (ea E 18), .ref (ea E 19), .ref (ea E 20), .int (iI (σ 13 10)), .int (iI (σ 13 11)), .int (iI (σ 13 12)), .int (iI (σ 13 13)), .int (iI (σ 13 14)), .int (iI (σ 13 15)), .int (iI (σ 13 16)), .int (iI (σ 13 17)), .int (iI (σ 13 18))])) = Wd E (st σ 13 (pt (σ 13) 0 z)) := rfl
theorem gp_X5_38 (C : CX p l e R s m args below meth c RX5 cc nL E A rt) {z : Int} (d : decode cc pc = .ok (.putfield 38, 3)) (hq : pc + 3 = q) (K : GG p l e R s m args below meth c Q E A nL (st σ 13 (pt (σ 13) 0 z)) k n q L sk) : GG p l e R s m args below meth c Q E A nL σ k n pc L (.int (iI z) :: .ref (ea E 13) :: sk) := by
  subst hq; intro H locs ls hl hP hS
  exact va_put (D := E.1) (cl := gcl) (ci := 5) (v := .int (iI z)) (ty := .int) (C := RX5) (T := TX5) (N := 19) C.exec C.code C.hts uw_X5 tyX5 tyX5_ok nmX5 C.hown C.K.1 hP (C.D σ) hS 13 rfl rfl 0 (by decide) (C.hts _ fl_X5_38) (fun _ h9 => h9) rfl (by decide +kernel) rfl rfl (Nat.le_of_ble_eq_true rfl) d (fun H1 locs1 hP1 hD1 hS1 => K H1 locs1 ls hl (by rw [← ps_X5_38]; exact hP1) hS1)
theorem gf_X5_41 (C : CX p l e R s m args below meth c RX5 cc nL E A rt) (d : decode cc pc = .ok (.getfield 41, 3)) (hq : pc + 3 = q) (K : GG p l e R s m args below meth c Q E A nL σ k n q L (.int (iI (σ 13 5)) :: sk)) : GG p l e R s m args below meth c Q E A nL σ k n pc L (.ref (ea E 13) :: sk) := by
  subst hq; intro H locs ls hl hP hS
  exact va_get (D := E.1) (cl := gcl) (ci := 5) (v := .int (iI (σ 13 5))) (C := RX5) (T := TX5) (N := 19) C.exec C.code C.hts uw_X5 C.hown C.K.1 hP 13 rfl rfl 5 (by decide) (C.hts _ fl_X5_41) (fun _ h9 => h9) rfl d (K H locs ls hl hP hS)
theorem ps_X5_41 (E : EV) (σ : SS) (z : Int) : (Wd E σ).set 13 (ea E 13, .inr (5, [.int (iI (σ 13 0)), .ref (ea E 14), .ref (ea E 15), .ref (ea E 16), .ref (ea E 17), .int (iI z), .int (iI (σ 13 6)), .ref (ea E 18), .ref (ea E 19), .ref (ea E 20), .int (iI (σ 13 10)), .int (iI (σ 13 11)), .int (iI (σ 13 12)), .int (iI (σ 13 13)), .int (iI (σ 13 14)), .int (iI (σ 13 15)), .int (iI (σ 13 16)), .int (iI (σ 13 17)), .int (iI (σ 13 18))])) = Wd E (st σ 13 (pt (σ 13) 5 z)) := rfl
theorem gp_X5_41 (C : CX p l e R s m args below meth c RX5 cc nL E A rt) {z : Int} (d : decode cc pc = .ok (.putfield 41, 3)) (hq : pc + 3 = q) (K : GG p l e R s m args below meth c Q E A nL (st σ 13 (pt (σ 13) 5 z)) k n q L sk) : GG p l e R s m args below meth c Q E A nL σ k n pc L (.int (iI z) :: .ref (ea E 13) :: sk) := by
  subst hq; intro H locs ls hl hP hS
  exact va_put (D := E.1) (cl := gcl) (ci := 5) (v := .int (iI z)) (ty := .int) (C := RX5) (T := TX5) (N := 19) C.exec C.code C.hts uw_X5 tyX5 tyX5_ok nmX5 C.hown C.K.1 hP (C.D σ) hS 13 rfl rfl 5 (by decide) (C.hts _ fl_X5_41) (fun _ h9 => h9) rfl (by decide +kernel) rfl rfl (Nat.le_of_ble_eq_true rfl) d (fun H1 locs1 hP1 hD1 hS1 => K H1 locs1 ls hl (by rw [← ps_X5_41]; exact hP1) hS1)
theorem gf_X5_44 (C : CX p l e R s m args below meth c RX5 cc nL E A rt) (d : decode cc pc = .ok (.getfield 44, 3)) (hq : pc + 3 = q) (K : GG p l e R s m args below meth c Q E A nL σ k n q L (.int (iI (σ 13 14)) :: sk)) : GG p l e R s m args below meth c Q E A nL σ k n pc L (.ref (ea E 13) :: sk) := by
  subst hq; intro H locs ls hl hP hS
  exact va_get (D := E.1) (cl := gcl) (ci := 5) (v := .int (iI (σ 13 14))) (C := RX5) (T := TX5) (N := 19) C.exec C.code C.hts uw_X5 C.hown C.K.1 hP 13 rfl rfl 14 (by decide) (C.hts _ fl_X5_44) (fun _ h9 => h9) rfl d (K H locs ls hl hP hS)
theorem ps_X5_44 (E : EV) (σ : SS) (z : Int) : (Wd E σ).set 13 (ea E 13, .inr (5, [.int (iI (σ 13 0)), .ref (ea E 14), .ref (ea E 15), .ref (ea E 16), .ref (ea E 17), .int (iI (σ 13 5)), .int (iI (σ 13 6)), .ref (ea E 18), .ref (ea E 19), .ref (ea E 20), .int (iI (σ 13 10)), .int (iI (σ 13 11)), .int (iI (σ 13 12)), .int (iI (σ 13 13)), .int (iI z), .int (iI (σ 13 15)), .int (iI (σ 13 16)), .int (iI (σ 13 17)), .int (iI (σ 13 18))])) = Wd E (st σ 13 (pt (σ 13) 14 z)) := rfl
theorem gp_X5_44 (C : CX p l e R s m args below meth c RX5 cc nL E A rt) {z : Int} (d : decode cc pc = .ok (.putfield 44, 3)) (hq : pc + 3 = q) (K : GG p l e R s m args below meth c Q E A nL (st σ 13 (pt (σ 13) 14 z)) k n q L sk) : GG p l e R s m args below meth c Q E A nL σ k n pc L (.int (iI z) :: .ref (ea E 13) :: sk) := by
  subst hq; intro H locs ls hl hP hS
  exact va_put (D := E.1) (cl := gcl) (ci := 5) (v := .int (iI z)) (ty := .int) (C := RX5) (T := TX5) (N := 19) C.exec C.code C.hts uw_X5 tyX5 tyX5_ok nmX5 C.hown C.K.1 hP (C.D σ) hS 13 rfl rfl 14 (by decide) (C.hts _ fl_X5_44) (fun _ h9 => h9) rfl (by decide +kernel) rfl rfl (Nat.le_of_ble_eq_true rfl) d (fun H1 locs1 hP1 hD1 hS1 => K H1 locs1 ls hl (by rw [← ps_X5_44]; exact hP1) hS1)
theorem gf_X5_159 (C : CX p l e R s m args below meth c RX5 cc nL E A rt) (d : decode cc pc = .ok (.getfield 159, 3)) (hq : pc + 3 = q) (K : GG p l e R s m args below meth c Q E A nL σ k n q L (.int (iI (σ 13 10)) :: sk)) : GG p l e R s m args below meth c Q E A nL σ k n pc L (.ref (ea E 13) :: sk) := by
  subst hq; intro H locs ls hl hP hS
  exact va_get (D := E.1) (cl := gcl) (ci := 5) (v := .int (iI (σ 13 10))) (C := RX5) (T := TX5) (N := 19) C.exec C.code C.hts uw_X5 C.hown C.K.1 hP 13 rfl rfl 10 (by decide) (C.hts _ fl_X5_159) (fun _ h9 => h9) rfl d (K H locs ls hl hP hS)
theorem ps_X5_159 (E : EV) (σ : SS) (z : Int) : (Wd E σ).set 13 (ea E 13, .inr (5, [.int (iI (σ 13 0)), .ref (ea E 14), .ref (ea E 15), .ref (ea E 16), .ref (ea E 17), .int (iI (σ 13 5)), .int (iI (σ 13 6)), .ref (ea E 18), .ref (ea E 19), .ref (ea E 20), .int (iI z), .int (iI (σ 13 11)), .int (iI (σ 13 12)), .int (iI (σ 13 13)), .int (iI (σ 13 14)), .int (iI (σ 13 15)), .int (iI (σ 13 16)), .int (iI (σ 13 17)), .int (iI (σ 13 18))])) = Wd E (st σ 13 (pt (σ 13) 10 z)) := rfl
theorem gp_X5_159 (C : CX p l e R s m args below meth c RX5 cc nL E A rt) {z : Int} (d : decode cc pc = .ok (.putfield 159, 3)) (hq : pc + 3 = q) (K : GG p l e R s m args below meth c Q E A nL (st σ 13 (pt (σ 13) 10 z)) k n q L sk) : GG p l e R s m args below meth c Q E A nL σ k n pc L (.int (iI z) :: .ref (ea E 13) :: sk) := by
  subst hq; intro H locs ls hl hP hS
  exact va_put (D := E.1) (cl := gcl) (ci := 5) (v := .int (iI z)) (ty := .int) (C := RX5) (T := TX5) (N := 19) C.exec C.code C.hts uw_X5 tyX5 tyX5_ok nmX5 C.hown C.K.1 hP (C.D σ) hS 13 rfl rfl 10 (by decide) (C.hts _ fl_X5_159) (fun _ h9 => h9) rfl (by decide +kernel) rfl rfl (Nat.le_of_ble_eq_true rfl) d (fun H1 locs1 hP1 hD1 hS1 => K H1 locs1 ls hl (by rw [← ps_X5_159]; exact hP1) hS1)
theorem gf_X5_162 (C : CX p l e R s m args below meth c RX5 cc nL E A rt) (d : decode cc pc = .ok (.getfield 162, 3)) (hq : pc + 3 = q) (K : GG p l e R s m args below meth c Q E A nL σ k n q L (.int (iI (σ 13 15)) :: sk)) : GG p l e R s m args below meth c Q E A nL σ k n pc L (.ref (ea E 13) :: sk) := by
  subst hq; intro H locs ls hl hP hS
  exact va_get (D := E.1) (cl := gcl) (ci := 5) (v := .int (iI (σ 13 15))) (C := RX5) (T := TX5) (N := 19) C.exec C.code C.hts uw_X5 C.hown C.K.1 hP 13 rfl rfl 15 (by decide) (C.hts _ fl_X5_162) (fun _ h9 => h9) rfl d (K H locs ls hl hP hS)
theorem ps_X5_162 (E : EV) (σ : SS) (z : Int) : (Wd E σ).set 13 (ea E 13, .inr (5, [.int (iI (σ 13 0)), .ref (ea E 14), .ref (ea E 15), .ref (ea E 16), .ref (ea E 17), .int (iI (σ 13 5)), .int (iI (σ 13 6)), .ref (ea E 18), .ref (ea E 19), .ref (ea E 20), .int (iI (σ 13 10)), .int (iI (σ 13 11)), .int (iI (σ 13 12)), .int (iI (σ 13 13)), .int (iI (σ 13 14)), .int (iI z), .int (iI (σ 13 16)), .int (iI (σ 13 17)), .int (iI (σ 13 18))])) = Wd E (st σ 13 (pt (σ 13) 15 z)) := rfl
theorem gp_X5_162 (C : CX p l e R s m args below meth c RX5 cc nL E A rt) {z : Int} (d : decode cc pc = .ok (.putfield 162, 3)) (hq : pc + 3 = q) (K : GG p l e R s m args below meth c Q E A nL (st σ 13 (pt (σ 13) 15 z)) k n q L sk) : GG p l e R s m args below meth c Q E A nL σ k n pc L (.int (iI z) :: .ref (ea E 13) :: sk) := by
  subst hq; intro H locs ls hl hP hS
  exact va_put (D := E.1) (cl := gcl) (ci := 5) (v := .int (iI z)) (ty := .int) (C := RX5) (T := TX5) (N := 19) C.exec C.code C.hts uw_X5 tyX5 tyX5_ok nmX5 C.hown C.K.1 hP (C.D σ) hS 13 rfl rfl 15 (by decide) (C.hts _ fl_X5_162) (fun _ h9 => h9) rfl (by decide +kernel) rfl rfl (Nat.le_of_ble_eq_true rfl) d (fun H1 locs1 hP1 hD1 hS1 => K H1 locs1 ls hl (by rw [← ps_X5_162]; exact hP1) hS1)
theorem gf_X5_165 (C : CX p l e R s m args below meth c RX5 cc nL E A rt) (d : decode cc pc = .ok (.getfield 165, 3)) (hq : pc + 3 = q) (K : GG p l e R s m args below meth c Q E A nL σ k n q L (.int (iI (σ 13 16)) :: sk)) : GG p l e R s m args below meth c Q E A nL σ k n pc L (.ref (ea E 13) :: sk) := by
  subst hq; intro H locs ls hl hP hS
  exact va_get (D := E.1) (cl := gcl) (ci := 5) (v := .int (iI (σ 13 16))) (C := RX5) (T := TX5) (N := 19) C.exec C.code C.hts uw_X5 C.hown C.K.1 hP 13 rfl rfl 16 (by decide) (C.hts _ fl_X5_165) (fun _ h9 => h9) rfl d (K H locs ls hl hP hS)
theorem ps_X5_165 (E : EV) (σ : SS) (z : Int) : (Wd E σ).set 13 (ea E 13, .inr (5, [.int (iI (σ 13 0)), .ref (ea E 14), .ref (ea E 15), .ref (ea E 16), .ref (ea E 17), .int (iI (σ 13 5)), .int (iI (σ 13 6)), .ref (ea E 18), .ref (ea E 19), .ref (ea E 20), .int (iI (σ 13 10)), .int (iI (σ 13 11)), .int (iI (σ 13 12)), .int (iI (σ 13 13)), .int (iI (σ 13 14)), .int (iI (σ 13 15)), .int (iI z), .int (iI (σ 13 17)), .int (iI (σ 13 18))])) = Wd E (st σ 13 (pt (σ 13) 16 z)) := rfl
theorem gp_X5_165 (C : CX p l e R s m args below meth c RX5 cc nL E A rt) {z : Int} (d : decode cc pc = .ok (.putfield 165, 3)) (hq : pc + 3 = q) (K : GG p l e R s m args below meth c Q E A nL (st σ 13 (pt (σ 13) 16 z)) k n q L sk) : GG p l e R s m args below meth c Q E A nL σ k n pc L (.int (iI z) :: .ref (ea E 13) :: sk) := by
  subst hq; intro H locs ls hl hP hS
  exact va_put (D := E.1) (cl := gcl) (ci := 5) (v := .int (iI z)) (ty := .int) (C := RX5) (T := TX5) (N := 19) C.exec C.code C.hts uw_X5 tyX5 tyX5_ok nmX5 C.hown C.K.1 hP (C.D σ) hS 13 rfl rfl 16 (by decide) (C.hts _ fl_X5_165) (fun _ h9 => h9) rfl (by decide +kernel) rfl rfl (Nat.le_of_ble_eq_true rfl) d (fun H1 locs1 hP1 hD1 hS1 => K H1 locs1 ls hl (by rw [← ps_X5_165]; exact hP1) hS1)
theorem gf_X5_174 (C : CX p l e R s m args below meth c RX5 cc nL E A rt) (d : decode cc pc = .ok (.getfield 174, 3)) (hq : pc + 3 = q) (K : GG p l e R s m args below meth c Q E A nL σ k n q L (.int (iI (σ 13 18)) :: sk)) : GG p l e R s m args below meth c Q E A nL σ k n pc L (.ref (ea E 13) :: sk) := by
  subst hq; intro H locs ls hl hP hS
  exact va_get (D := E.1) (cl := gcl) (ci := 5) (v := .int (iI (σ 13 18))) (C := RX5) (T := TX5) (N := 19) C.exec C.code C.hts uw_X5 C.hown C.K.1 hP 13 rfl rfl 18 (by decide) (C.hts _ fl_X5_174) (fun _ h9 => h9) rfl d (K H locs ls hl hP hS)
theorem ps_X5_174 (E : EV) (σ : SS) (z : Int) : (Wd E σ).set 13 (ea E 13, .inr (5, [.int (iI (σ 13 0)), .ref (ea E 14), .ref (ea E 15), .ref (ea E 16), .ref (ea E 17), .int (iI (σ 13 5)), .int (iI (σ 13 6)), .ref (ea E 18), .ref (ea E 19), .ref (ea E 20), .int (iI (σ 13 10)), .int (iI (σ 13 11)), .int (iI (σ 13 12)), .int (iI (σ 13 13)), .int (iI (σ 13 14)), .int (iI (σ 13 15)), .int (iI (σ 13 16)), .int (iI (σ 13 17)), .int (iI z)])) = Wd E (st σ 13 (pt (σ 13) 18 z)) := rfl
theorem gp_X5_174 (C : CX p l e R s m args below meth c RX5 cc nL E A rt) {z : Int} (hz : z = 0 ∨ z = 1) (d : decode cc pc = .ok (.putfield 174, 3)) (hq : pc + 3 = q) (K : GG p l e R s m args below meth c Q E A nL (st σ 13 (pt (σ 13) 18 z)) k n q L sk) : GG p l e R s m args below meth c Q E A nL σ k n pc L (.int (iI z) :: .ref (ea E 13) :: sk) := by
  subst hq; intro H locs ls hl hP hS
  exact va_put (D := E.1) (cl := gcl) (ci := 5) (v := .int (iI z)) (ty := .boolean) (C := RX5) (T := TX5) (N := 19) C.exec C.code C.hts uw_X5 tyX5 tyX5_ok nmX5 C.hown C.K.1 hP (C.D σ) hS 13 rfl rfl 18 (by decide) (C.hts _ fl_X5_174) (fun _ h9 => h9) rfl (by decide +kernel) (by rcases hz with rfl | rfl <;> decide) (by rcases hz with rfl | rfl <;> decide) (Nat.le_of_ble_eq_true rfl) d (fun H1 locs1 hP1 hD1 hS1 => K H1 locs1 ls hl (by rw [← ps_X5_174]; exact hP1) hS1)
theorem gf_X5_185 (C : CX p l e R s m args below meth c RX5 cc nL E A rt) (d : decode cc pc = .ok (.getfield 185, 3)) (hq : pc + 3 = q) (K : GG p l e R s m args below meth c Q E A nL σ k n q L (.int (iI (σ 13 17)) :: sk)) : GG p l e R s m args below meth c Q E A nL σ k n pc L (.ref (ea E 13) :: sk) := by
  subst hq; intro H locs ls hl hP hS
  exact va_get (D := E.1) (cl := gcl) (ci := 5) (v := .int (iI (σ 13 17))) (C := RX5) (T := TX5) (N := 19) C.exec C.code C.hts uw_X5 C.hown C.K.1 hP 13 rfl rfl 17 (by decide) (C.hts _ fl_X5_185) (fun _ h9 => h9) rfl d (K H locs ls hl hP hS)
theorem ps_X5_185 (E : EV) (σ : SS) (z : Int) : (Wd E σ).set 13 (ea E 13, .inr (5, [.int (iI (σ 13 0)), .ref (ea E 14), .ref (ea E 15), .ref (ea E 16), .ref (ea E 17), .int (iI (σ 13 5)), .int (iI (σ 13 6)), .ref (ea E 18), .ref (ea E 19), .ref (ea E 20), .int (iI (σ 13 10)), .int (iI (σ 13 11)), .int (iI (σ 13 12)), .int (iI (σ 13 13)), .int (iI (σ 13 14)), .int (iI (σ 13 15)), .int (iI (σ 13 16)), .int (iI z), .int (iI (σ 13 18))])) = Wd E (st σ 13 (pt (σ 13) 17 z)) := rfl
theorem gp_X5_185 (C : CX p l e R s m args below meth c RX5 cc nL E A rt) {z : Int} (d : decode cc pc = .ok (.putfield 185, 3)) (hq : pc + 3 = q) (K : GG p l e R s m args below meth c Q E A nL (st σ 13 (pt (σ 13) 17 z)) k n q L sk) : GG p l e R s m args below meth c Q E A nL σ k n pc L (.int (iI z) :: .ref (ea E 13) :: sk) := by
  subst hq; intro H locs ls hl hP hS
  exact va_put (D := E.1) (cl := gcl) (ci := 5) (v := .int (iI z)) (ty := .int) (C := RX5) (T := TX5) (N := 19) C.exec C.code C.hts uw_X5 tyX5 tyX5_ok nmX5 C.hown C.K.1 hP (C.D σ) hS 13 rfl rfl 17 (by decide) (C.hts _ fl_X5_185) (fun _ h9 => h9) rfl (by decide +kernel) rfl rfl (Nat.le_of_ble_eq_true rfl) d (fun H1 locs1 hP1 hD1 hS1 => K H1 locs1 ls hl (by rw [← ps_X5_185]; exact hP1) hS1)
theorem gf_X5_248 (C : CX p l e R s m args below meth c RX5 cc nL E A rt) (d : decode cc pc = .ok (.getfield 248, 3)) (hq : pc + 3 = q) (K : GG p l e R s m args below meth c Q E A nL σ k n q L (.int (iI (σ 13 11)) :: sk)) : GG p l e R s m args below meth c Q E A nL σ k n pc L (.ref (ea E 13) :: sk) := by
  subst hq; intro H locs ls hl hP hS
  exact va_get (D := E.1) (cl := gcl) (ci := 5) (v := .int (iI (σ 13 11))) (C := RX5) (T := TX5) (N := 19) C.exec C.code C.hts uw_X5 C.hown C.K.1 hP 13 rfl rfl 11 (by decide) (C.hts _ fl_X5_248) (fun _ h9 => h9) rfl d (K H locs ls hl hP hS)
theorem ps_X5_248 (E : EV) (σ : SS) (z : Int) : (Wd E σ).set 13 (ea E 13, .inr (5, [.int (iI (σ 13 0)), .ref (ea E 14), .ref (ea E 15), .ref (ea E 16), .ref (ea E 17), .int (iI (σ 13 5)), .int (iI (σ 13 6)), .ref (ea E 18), .ref (ea E 19), .ref (ea E 20), .int (iI (σ 13 10)), .int (iI z), .int (iI (σ 13 12)), .int (iI (σ 13 13)), .int (iI (σ 13 14)), .int (iI (σ 13 15)), .int (iI (σ 13 16)), .int (iI (σ 13 17)), .int (iI (σ 13 18))])) = Wd E (st σ 13 (pt (σ 13) 11 z)) := rfl
theorem gp_X5_248 (C : CX p l e R s m args below meth c RX5 cc nL E A rt) {z : Int} (d : decode cc pc = .ok (.putfield 248, 3)) (hq : pc + 3 = q) (K : GG p l e R s m args below meth c Q E A nL (st σ 13 (pt (σ 13) 11 z)) k n q L sk) : GG p l e R s m args below meth c Q E A nL σ k n pc L (.int (iI z) :: .ref (ea E 13) :: sk) := by
  subst hq; intro H locs ls hl hP hS
  exact va_put (D := E.1) (cl := gcl) (ci := 5) (v := .int (iI z)) (ty := .int) (C := RX5) (T := TX5) (N := 19) C.exec C.code C.hts uw_X5 tyX5 tyX5_ok nmX5 C.hown C.K.1 hP (C.D σ) hS 13 rfl rfl 11 (by decide) (C.hts _ fl_X5_248) (fun _ h9 => h9) rfl (by decide +kernel) rfl rfl (Nat.le_of_ble_eq_true rfl) d (fun H1 locs1 hP1 hD1 hS1 => K H1 locs1 ls hl (by rw [← ps_X5_248]; exact hP1) hS1)
theorem gf_X5_254 (C : CX p l e R s m args below meth c RX5 cc nL E A rt) (d : decode cc pc = .ok (.getfield 254, 3)) (hq : pc + 3 = q) (K : GG p l e R s m args below meth c Q E A nL σ k n q L (.int (iI (σ 13 6)) :: sk)) : GG p l e R s m args below meth c Q E A nL σ k n pc L (.ref (ea E 13) :: sk) := by
  subst hq; intro H locs ls hl hP hS
  exact va_get (D := E.1) (cl := gcl) (ci := 5) (v := .int (iI (σ 13 6))) (C := RX5) (T := TX5) (N := 19) C.exec C.code C.hts uw_X5 C.hown C.K.1 hP 13 rfl rfl 6 (by decide) (C.hts _ fl_X5_254) (fun _ h9 => h9) rfl d (K H locs ls hl hP hS)
theorem ps_X5_254 (E : EV) (σ : SS) (z : Int) : (Wd E σ).set 13 (ea E 13, .inr (5, [.int (iI (σ 13 0)), .ref (ea E 14), .ref (ea E 15), .ref (ea E 16), .ref (ea E 17), .int (iI (σ 13 5)), .int (iI z), .ref (ea E 18), .ref (ea E 19), .ref (ea E 20), .int (iI (σ 13 10)), .int (iI (σ 13 11)), .int (iI (σ 13 12)), .int (iI (σ 13 13)), .int (iI (σ 13 14)), .int (iI (σ 13 15)), .int (iI (σ 13 16)), .int (iI (σ 13 17)), .int (iI (σ 13 18))])) = Wd E (st σ 13 (pt (σ 13) 6 z)) := rfl
theorem gp_X5_254 (C : CX p l e R s m args below meth c RX5 cc nL E A rt) {z : Int} (hz : z = 0 ∨ z = 1) (d : decode cc pc = .ok (.putfield 254, 3)) (hq : pc + 3 = q) (K : GG p l e R s m args below meth c Q E A nL (st σ 13 (pt (σ 13) 6 z)) k n q L sk) : GG p l e R s m args below meth c Q E A nL σ k n pc L (.int (iI z) :: .ref (ea E 13) :: sk) := by
  subst hq; intro H locs ls hl hP hS
  exact va_put (D := E.1) (cl := gcl) (ci := 5) (v := .int (iI z)) (ty := .boolean) (C := RX5) (T := TX5) (N := 19) C.exec C.code C.hts uw_X5 tyX5 tyX5_ok nmX5 C.hown C.K.1 hP (C.D σ) hS 13 rfl rfl 6 (by decide) (C.hts _ fl_X5_254) (fun _ h9 => h9) rfl (by decide +kernel) (by rcases hz with rfl | rfl <;> decide) (by rcases hz with rfl | rfl <;> decide) (Nat.le_of_ble_eq_true rfl) d (fun H1 locs1 hP1 hD1 hS1 => K H1 locs1 ls hl (by rw [← ps_X5_254]; exact hP1) hS1)
theorem af_ld {f : Int → Int} {i : Int} (h : 0 ≤ i ∧ i < 1000000) : af f (iI i).toNatClampNeg = iI (f i) := by
  rw [iI_cl (by omega)]; unfold af; rw [Int.toNat_of_nonneg h.1]
theorem af_st {f : Int → Int} {i z : Int} (h : 0 ≤ i ∧ i < 1000000) : upd (af f) (iI i).toNatClampNeg (iI z) = af (pt f i z) := by
  rw [iI_cl (by omega)]; funext j; unfold upd af pt
  by_cases hj : j = i.toNat
  · rw [if_pos hj, if_pos (by omega)]
  · rw [if_neg hj, if_neg (by omega)]
theorem afL_st {f : Int → Int} {i z : Int} (h : 0 ≤ i ∧ i < 1000000) : vp_updL (afL f) (iI i).toNatClampNeg (iL z) = afL (pt f i z) := by
  rw [iI_cl (by omega)]; funext j; unfold vp_updL afL pt
  by_cases hj : j = i.toNat
  · rw [if_pos hj, if_pos (by omega)]
  · rw [if_neg hj, if_neg (by omega)]
theorem afD_st {f : Int → Int} {i z : Int} (h : 0 ≤ i ∧ i < 1000000) : vf_upd (afD f) (iI i).toNatClampNeg (iD z) = afD (pt f i z) := by
  rw [iI_cl (by omega)]; funext j; unfold vf_upd afD pt
  by_cases hj : j = i.toNat
  · rw [if_pos hj, if_pos (by omega)]
  · rw [if_neg hj, if_neg (by omega)]
theorem gn_2 (C : CX p l e R s m args below meth c own cc nL E A rt) (d : decode cc pc = .ok (.arraylength, 1)) (hq : pc + 1 = q) (K : GG p l e R s m args below meth c Q E A nL σ k n q L (.int (iI 310) :: sk)) : GG p l e R s m args below meth c Q E A nL σ k n pc L (.ref (ea E 2) :: sk) := by
  subst hq; intro H locs ls hl hP hS
  exact va_alen (x := (310, .inl (af (σ 2)))) (ty := .int) (v := iI 310) C.exec C.code C.K.1 hP 2 0 rfl rfl rfl d (K H locs ls hl hP hS)
theorem gl_2 (C : CX p l e R s m args below meth c own cc nL E A rt) {i : Int} (h : 0 ≤ i ∧ i < 310) (d : decode cc pc = .ok (.iaload, 1)) (hq : pc + 1 = q) (K : GG p l e R s m args below meth c Q E A nL σ k n q L (.int (iI (σ 2 i)) :: sk)) : GG p l e R s m args below meth c Q E A nL σ k n pc L (.int (iI i) :: .ref (ea E 2) :: sk) := by
  subst hq; intro H locs ls hl hP hS
  refine va_iald (n := 310) (f := af (σ 2)) C.exec C.code C.K.1 hP 2 0 rfl rfl (iI_in (by omega) (by decide)) d ?_
  rw [af_ld (by omega)]
  exact K H locs ls hl hP hS
theorem ss_2 (E : EV) (σ : SS) (g : Int → Int) : (Wd E σ).set 2 (ea E 2, .inl (ec E 0, 310, .inl (af g))) = Wd E (st σ 2 g) := rfl
theorem gs_2 (C : CX p l e R s m args below meth c own cc nL E A rt) {i z : Int} (h : 0 ≤ i ∧ i < 310) (d : decode cc pc = .ok (.iastore, 1)) (hq : pc + 1 = q) (K : GG p l e R s m args below meth c Q E A nL (st σ 2 (pt (σ 2) i z)) k n q L sk) : GG p l e R s m args below meth c Q E A nL σ k n pc L (.int (iI z) :: .int (iI i) :: .ref (ea E 2) :: sk) := by
  subst hq; intro H locs ls hl hP hS
  refine va_iast (n := 310) (f := af (σ 2)) C.exec C.code C.K.1 hP (C.D σ) hS 2 0 rfl rfl (iI_in (by omega) (by decide)) d (fun H1 locs1 hP1 hD1 hS1 => ?_)
  rw [af_st (by omega), ss_2] at hP1
  exact K H1 locs1 ls hl hP1 hS1
theorem gn_3 (C : CX p l e R s m args below meth c own cc nL E A rt) (d : decode cc pc = .ok (.arraylength, 1)) (hq : pc + 1 = q) (K : GG p l e R s m args below meth c Q E A nL σ k n q L (.int (iI 310) :: sk)) : GG p l e R s m args below meth c Q E A nL σ k n pc L (.ref (ea E 3) :: sk) := by
  subst hq; intro H locs ls hl hP hS
  exact va_alen (x := (310, .inl (af (σ 3)))) (ty := .int) (v := iI 310) C.exec C.code C.K.1 hP 3 0 rfl rfl rfl d (K H locs ls hl hP hS)
theorem gl_3 (C : CX p l e R s m args below meth c own cc nL E A rt) {i : Int} (h : 0 ≤ i ∧ i < 310) (d : decode cc pc = .ok (.iaload, 1)) (hq : pc + 1 = q) (K : GG p l e R s m args below meth c Q E A nL σ k n q L (.int (iI (σ 3 i)) :: sk)) : GG p l e R s m args below meth c Q E A nL σ k n pc L (.int (iI i) :: .ref (ea E 3) :: sk) := by
  subst hq; intro H locs ls hl hP hS
  refine va_iald (n := 310) (f := af (σ 3)) C.exec C.code C.K.1 hP 3 0 rfl rfl (iI_in (by omega) (by decide)) d ?_
  rw [af_ld (by omega)]
  exact K H locs ls hl hP hS
theorem ss_3 (E : EV) (σ : SS) (g : Int → Int) : (Wd E σ).set 3 (ea E 3, .inl (ec E 0, 310, .inl (af g))) = Wd E (st σ 3 g) := rfl
theorem gs_3 (C : CX p l e R s m args below meth c own cc nL E A rt) {i z : Int} (h : 0 ≤ i ∧ i < 310) (d : decode cc pc = .ok (.iastore, 1)) (hq : pc + 1 = q) (K : GG p l e R s m args below meth c Q E A nL (st σ 3 (pt (σ 3) i z)) k n q L sk) : GG p l e R s m args below meth c Q E A nL σ k n pc L (.int (iI z) :: .int (iI i) :: .ref (ea E 3) :: sk) := by
  subst hq; intro H locs ls hl hP hS
  refine va_iast (n := 310) (f := af (σ 3)) C.exec C.code C.K.1 hP (C.D σ) hS 3 0 rfl rfl (iI_in (by omega) (by decide)) d (fun H1 locs1 hP1 hD1 hS1 => ?_)
  rw [af_st (by omega), ss_3] at hP1
  exact K H1 locs1 ls hl hP1 hS1
theorem gn_4 (C : CX p l e R s m args below meth c own cc nL E A rt) (d : decode cc pc = .ok (.arraylength, 1)) (hq : pc + 1 = q) (K : GG p l e R s m args below meth c Q E A nL σ k n q L (.int (iI 310) :: sk)) : GG p l e R s m args below meth c Q E A nL σ k n pc L (.ref (ea E 4) :: sk) := by
  subst hq; intro H locs ls hl hP hS
  exact va_alen (x := (310, .inl (af (σ 4)))) (ty := .int) (v := iI 310) C.exec C.code C.K.1 hP 4 0 rfl rfl rfl d (K H locs ls hl hP hS)
theorem gl_4 (C : CX p l e R s m args below meth c own cc nL E A rt) {i : Int} (h : 0 ≤ i ∧ i < 310) (d : decode cc pc = .ok (.iaload, 1)) (hq : pc + 1 = q) (K : GG p l e R s m args below meth c Q E A nL σ k n q L (.int (iI (σ 4 i)) :: sk)) : GG p l e R s m args below meth c Q E A nL σ k n pc L (.int (iI i) :: .ref (ea E 4) :: sk) := by
  subst hq; intro H locs ls hl hP hS
  refine va_iald (n := 310) (f := af (σ 4)) C.exec C.code C.K.1 hP 4 0 rfl rfl (iI_in (by omega) (by decide)) d ?_
  rw [af_ld (by omega)]
  exact K H locs ls hl hP hS
theorem ss_4 (E : EV) (σ : SS) (g : Int → Int) : (Wd E σ).set 4 (ea E 4, .inl (ec E 0, 310, .inl (af g))) = Wd E (st σ 4 g) := rfl
theorem gs_4 (C : CX p l e R s m args below meth c own cc nL E A rt) {i z : Int} (h : 0 ≤ i ∧ i < 310) (d : decode cc pc = .ok (.iastore, 1)) (hq : pc + 1 = q) (K : GG p l e R s m args below meth c Q E A nL (st σ 4 (pt (σ 4) i z)) k n q L sk) : GG p l e R s m args below meth c Q E A nL σ k n pc L (.int (iI z) :: .int (iI i) :: .ref (ea E 4) :: sk) := by
  subst hq; intro H locs ls hl hP hS
  refine va_iast (n := 310) (f := af (σ 4)) C.exec C.code C.K.1 hP (C.D σ) hS 4 0 rfl rfl (iI_in (by omega) (by decide)) d (fun H1 locs1 hP1 hD1 hS1 => ?_)
  rw [af_st (by omega), ss_4] at hP1
  exact K H1 locs1 ls hl hP1 hS1
theorem gn_6 (C : CX p l e R s m args below meth c own cc nL E A rt) (d : decode cc pc = .ok (.arraylength, 1)) (hq : pc + 1 = q) (K : GG p l e R s m args below meth c Q E A nL σ k n q L (.int (iI 2480) :: sk)) : GG p l e R s m args below meth c Q E A nL σ k n pc L (.ref (ea E 6) :: sk) := by
  subst hq; intro H locs ls hl hP hS
  exact va_alen (x := (2480, .inl (af (σ 6)))) (ty := .int) (v := iI 2480) C.exec C.code C.K.1 hP 6 0 rfl rfl rfl d (K H locs ls hl hP hS)
theorem gl_6 (C : CX p l e R s m args below meth c own cc nL E A rt) {i : Int} (h : 0 ≤ i ∧ i < 2480) (d : decode cc pc = .ok (.iaload, 1)) (hq : pc + 1 = q) (K : GG p l e R s m args below meth c Q E A nL σ k n q L (.int (iI (σ 6 i)) :: sk)) : GG p l e R s m args below meth c Q E A nL σ k n pc L (.int (iI i) :: .ref (ea E 6) :: sk) := by
  subst hq; intro H locs ls hl hP hS
  refine va_iald (n := 2480) (f := af (σ 6)) C.exec C.code C.K.1 hP 6 0 rfl rfl (iI_in (by omega) (by decide)) d ?_
  rw [af_ld (by omega)]
  exact K H locs ls hl hP hS
theorem ss_6 (E : EV) (σ : SS) (g : Int → Int) : (Wd E σ).set 6 (ea E 6, .inl (ec E 0, 2480, .inl (af g))) = Wd E (st σ 6 g) := rfl
theorem gs_6 (C : CX p l e R s m args below meth c own cc nL E A rt) {i z : Int} (h : 0 ≤ i ∧ i < 2480) (d : decode cc pc = .ok (.iastore, 1)) (hq : pc + 1 = q) (K : GG p l e R s m args below meth c Q E A nL (st σ 6 (pt (σ 6) i z)) k n q L sk) : GG p l e R s m args below meth c Q E A nL σ k n pc L (.int (iI z) :: .int (iI i) :: .ref (ea E 6) :: sk) := by
  subst hq; intro H locs ls hl hP hS
  refine va_iast (n := 2480) (f := af (σ 6)) C.exec C.code C.K.1 hP (C.D σ) hS 6 0 rfl rfl (iI_in (by omega) (by decide)) d (fun H1 locs1 hP1 hD1 hS1 => ?_)
  rw [af_st (by omega), ss_6] at hP1
  exact K H1 locs1 ls hl hP1 hS1
theorem gn_8 (C : CX p l e R s m args below meth c own cc nL E A rt) (d : decode cc pc = .ok (.arraylength, 1)) (hq : pc + 1 = q) (K : GG p l e R s m args below meth c Q E A nL σ k n q L (.int (iI 60) :: sk)) : GG p l e R s m args below meth c Q E A nL σ k n pc L (.ref (ea E 8) :: sk) := by
  subst hq; intro H locs ls hl hP hS
  exact va_alen (x := (60, .inl (af (σ 8)))) (ty := .char) (v := iI 60) C.exec C.code C.K.1 hP 8 1 rfl rfl rfl d (K H locs ls hl hP hS)
theorem gl_8 (C : CX p l e R s m args below meth c own cc nL E A rt) {i : Int} (h : 0 ≤ i ∧ i < 60) (d : decode cc pc = .ok (.caload, 1)) (hq : pc + 1 = q) (K : GG p l e R s m args below meth c Q E A nL σ k n q L (.int (iI (σ 8 i)) :: sk)) : GG p l e R s m args below meth c Q E A nL σ k n pc L (.int (iI i) :: .ref (ea E 8) :: sk) := by
  subst hq; intro H locs ls hl hP hS
  refine va_cald (n := 60) (f := af (σ 8)) C.exec C.code C.K.1 hP 8 1 rfl rfl (iI_in (by omega) (by decide)) d ?_
  rw [af_ld (by omega)]
  exact K H locs ls hl hP hS
theorem ss_8 (E : EV) (σ : SS) (g : Int → Int) : (Wd E σ).set 8 (ea E 8, .inl (ec E 1, 60, .inl (af g))) = Wd E (st σ 8 g) := rfl
theorem gs_8 (C : CX p l e R s m args below meth c own cc nL E A rt) {i z : Int} (h : 0 ≤ i ∧ i < 60) (hz : 0 ≤ z ∧ z < 65536) (d : decode cc pc = .ok (.castore, 1)) (hq : pc + 1 = q) (K : GG p l e R s m args below meth c Q E A nL (st σ 8 (pt (σ 8) i z)) k n q L sk) : GG p l e R s m args below meth c Q E A nL σ k n pc L (.int (iI z) :: .int (iI i) :: .ref (ea E 8) :: sk) := by
  subst hq; intro H locs ls hl hP hS
  refine va_cast (n := 60) (f := af (σ 8)) C.exec C.code C.K.1 hP (C.D σ) hS 8 1 rfl rfl (iI_in (by omega) (by decide)) d (fun H1 locs1 hP1 hD1 hS1 => ?_)
  rw [iI_nar hz, af_st (by omega), ss_8] at hP1
  exact K H1 locs1 ls hl hP1 hS1
theorem gn_9 (C : CX p l e R s m args below meth c own cc nL E A rt) (d : decode cc pc = .ok (.arraylength, 1)) (hq : pc + 1 = q) (K : GG p l e R s m args below meth c Q E A nL σ k n q L (.int (iI 8) :: sk)) : GG p l e R s m args below meth c Q E A nL σ k n pc L (.ref (ea E 9) :: sk) := by
  subst hq; intro H locs ls hl hP hS
  exact va_alen (x := (8, .inl (af (σ 9)))) (ty := .int) (v := iI 8) C.exec C.code C.K.1 hP 9 0 rfl rfl rfl d (K H locs ls hl hP hS)
theorem gl_9 (C : CX p l e R s m args below meth c own cc nL E A rt) {i : Int} (h : 0 ≤ i ∧ i < 8) (d : decode cc pc = .ok (.iaload, 1)) (hq : pc + 1 = q) (K : GG p l e R s m args below meth c Q E A nL σ k n q L (.int (iI (σ 9 i)) :: sk)) : GG p l e R s m args below meth c Q E A nL σ k n pc L (.int (iI i) :: .ref (ea E 9) :: sk) := by
  subst hq; intro H locs ls hl hP hS
  refine va_iald (n := 8) (f := af (σ 9)) C.exec C.code C.K.1 hP 9 0 rfl rfl (iI_in (by omega) (by decide)) d ?_
  rw [af_ld (by omega)]
  exact K H locs ls hl hP hS
theorem ss_9 (E : EV) (σ : SS) (g : Int → Int) : (Wd E σ).set 9 (ea E 9, .inl (ec E 0, 8, .inl (af g))) = Wd E (st σ 9 g) := rfl
theorem gs_9 (C : CX p l e R s m args below meth c own cc nL E A rt) {i z : Int} (h : 0 ≤ i ∧ i < 8) (d : decode cc pc = .ok (.iastore, 1)) (hq : pc + 1 = q) (K : GG p l e R s m args below meth c Q E A nL (st σ 9 (pt (σ 9) i z)) k n q L sk) : GG p l e R s m args below meth c Q E A nL σ k n pc L (.int (iI z) :: .int (iI i) :: .ref (ea E 9) :: sk) := by
  subst hq; intro H locs ls hl hP hS
  refine va_iast (n := 8) (f := af (σ 9)) C.exec C.code C.K.1 hP (C.D σ) hS 9 0 rfl rfl (iI_in (by omega) (by decide)) d (fun H1 locs1 hP1 hD1 hS1 => ?_)
  rw [af_st (by omega), ss_9] at hP1
  exact K H1 locs1 ls hl hP1 hS1
theorem gn_10 (C : CX p l e R s m args below meth c own cc nL E A rt) (d : decode cc pc = .ok (.arraylength, 1)) (hq : pc + 1 = q) (K : GG p l e R s m args below meth c Q E A nL σ k n q L (.int (iI 32) :: sk)) : GG p l e R s m args below meth c Q E A nL σ k n pc L (.ref (ea E 10) :: sk) := by
  subst hq; intro H locs ls hl hP hS
  exact va_alen (x := (32, .inl (af (σ 10)))) (ty := .int) (v := iI 32) C.exec C.code C.K.1 hP 10 0 rfl rfl rfl d (K H locs ls hl hP hS)
theorem gl_10 (C : CX p l e R s m args below meth c own cc nL E A rt) {i : Int} (h : 0 ≤ i ∧ i < 32) (d : decode cc pc = .ok (.iaload, 1)) (hq : pc + 1 = q) (K : GG p l e R s m args below meth c Q E A nL σ k n q L (.int (iI (σ 10 i)) :: sk)) : GG p l e R s m args below meth c Q E A nL σ k n pc L (.int (iI i) :: .ref (ea E 10) :: sk) := by
  subst hq; intro H locs ls hl hP hS
  refine va_iald (n := 32) (f := af (σ 10)) C.exec C.code C.K.1 hP 10 0 rfl rfl (iI_in (by omega) (by decide)) d ?_
  rw [af_ld (by omega)]
  exact K H locs ls hl hP hS
theorem ss_10 (E : EV) (σ : SS) (g : Int → Int) : (Wd E σ).set 10 (ea E 10, .inl (ec E 0, 32, .inl (af g))) = Wd E (st σ 10 g) := rfl
theorem gs_10 (C : CX p l e R s m args below meth c own cc nL E A rt) {i z : Int} (h : 0 ≤ i ∧ i < 32) (d : decode cc pc = .ok (.iastore, 1)) (hq : pc + 1 = q) (K : GG p l e R s m args below meth c Q E A nL (st σ 10 (pt (σ 10) i z)) k n q L sk) : GG p l e R s m args below meth c Q E A nL σ k n pc L (.int (iI z) :: .int (iI i) :: .ref (ea E 10) :: sk) := by
  subst hq; intro H locs ls hl hP hS
  refine va_iast (n := 32) (f := af (σ 10)) C.exec C.code C.K.1 hP (C.D σ) hS 10 0 rfl rfl (iI_in (by omega) (by decide)) d (fun H1 locs1 hP1 hD1 hS1 => ?_)
  rw [af_st (by omega), ss_10] at hP1
  exact K H1 locs1 ls hl hP1 hS1
theorem gn_12 (C : CX p l e R s m args below meth c own cc nL E A rt) (d : decode cc pc = .ok (.arraylength, 1)) (hq : pc + 1 = q) (K : GG p l e R s m args below meth c Q E A nL σ k n q L (.int (iI 240) :: sk)) : GG p l e R s m args below meth c Q E A nL σ k n pc L (.ref (ea E 12) :: sk) := by
  subst hq; intro H locs ls hl hP hS
  exact va_alen (x := (240, .inl (af (σ 12)))) (ty := .char) (v := iI 240) C.exec C.code C.K.1 hP 12 1 rfl rfl rfl d (K H locs ls hl hP hS)
theorem gl_12 (C : CX p l e R s m args below meth c own cc nL E A rt) {i : Int} (h : 0 ≤ i ∧ i < 240) (d : decode cc pc = .ok (.caload, 1)) (hq : pc + 1 = q) (K : GG p l e R s m args below meth c Q E A nL σ k n q L (.int (iI (σ 12 i)) :: sk)) : GG p l e R s m args below meth c Q E A nL σ k n pc L (.int (iI i) :: .ref (ea E 12) :: sk) := by
  subst hq; intro H locs ls hl hP hS
  refine va_cald (n := 240) (f := af (σ 12)) C.exec C.code C.K.1 hP 12 1 rfl rfl (iI_in (by omega) (by decide)) d ?_
  rw [af_ld (by omega)]
  exact K H locs ls hl hP hS
theorem ss_12 (E : EV) (σ : SS) (g : Int → Int) : (Wd E σ).set 12 (ea E 12, .inl (ec E 1, 240, .inl (af g))) = Wd E (st σ 12 g) := rfl
theorem gs_12 (C : CX p l e R s m args below meth c own cc nL E A rt) {i z : Int} (h : 0 ≤ i ∧ i < 240) (hz : 0 ≤ z ∧ z < 65536) (d : decode cc pc = .ok (.castore, 1)) (hq : pc + 1 = q) (K : GG p l e R s m args below meth c Q E A nL (st σ 12 (pt (σ 12) i z)) k n q L sk) : GG p l e R s m args below meth c Q E A nL σ k n pc L (.int (iI z) :: .int (iI i) :: .ref (ea E 12) :: sk) := by
  subst hq; intro H locs ls hl hP hS
  refine va_cast (n := 240) (f := af (σ 12)) C.exec C.code C.K.1 hP (C.D σ) hS 12 1 rfl rfl (iI_in (by omega) (by decide)) d (fun H1 locs1 hP1 hD1 hS1 => ?_)
  rw [iI_nar hz, af_st (by omega), ss_12] at hP1
  exact K H1 locs1 ls hl hP1 hS1
theorem gn_14 (C : CX p l e R s m args below meth c own cc nL E A rt) (d : decode cc pc = .ok (.arraylength, 1)) (hq : pc + 1 = q) (K : GG p l e R s m args below meth c Q E A nL σ k n q L (.int (iI 486) :: sk)) : GG p l e R s m args below meth c Q E A nL σ k n pc L (.ref (ea E 14) :: sk) := by
  subst hq; intro H locs ls hl hP hS
  exact va_alen (x := (486, .inl (af (σ 14)))) (ty := .int) (v := iI 486) C.exec C.code C.K.1 hP 14 0 rfl rfl rfl d (K H locs ls hl hP hS)
theorem gl_14 (C : CX p l e R s m args below meth c own cc nL E A rt) {i : Int} (h : 0 ≤ i ∧ i < 486) (d : decode cc pc = .ok (.iaload, 1)) (hq : pc + 1 = q) (K : GG p l e R s m args below meth c Q E A nL σ k n q L (.int (iI (σ 14 i)) :: sk)) : GG p l e R s m args below meth c Q E A nL σ k n pc L (.int (iI i) :: .ref (ea E 14) :: sk) := by
  subst hq; intro H locs ls hl hP hS
  refine va_iald (n := 486) (f := af (σ 14)) C.exec C.code C.K.1 hP 14 0 rfl rfl (iI_in (by omega) (by decide)) d ?_
  rw [af_ld (by omega)]
  exact K H locs ls hl hP hS
theorem ss_14 (E : EV) (σ : SS) (g : Int → Int) : (Wd E σ).set 14 (ea E 14, .inl (ec E 0, 486, .inl (af g))) = Wd E (st σ 14 g) := rfl
theorem gs_14 (C : CX p l e R s m args below meth c own cc nL E A rt) {i z : Int} (h : 0 ≤ i ∧ i < 486) (d : decode cc pc = .ok (.iastore, 1)) (hq : pc + 1 = q) (K : GG p l e R s m args below meth c Q E A nL (st σ 14 (pt (σ 14) i z)) k n q L sk) : GG p l e R s m args below meth c Q E A nL σ k n pc L (.int (iI z) :: .int (iI i) :: .ref (ea E 14) :: sk) := by
  subst hq; intro H locs ls hl hP hS
  refine va_iast (n := 486) (f := af (σ 14)) C.exec C.code C.K.1 hP (C.D σ) hS 14 0 rfl rfl (iI_in (by omega) (by decide)) d (fun H1 locs1 hP1 hD1 hS1 => ?_)
  rw [af_st (by omega), ss_14] at hP1
  exact K H1 locs1 ls hl hP1 hS1
theorem gn_15 (C : CX p l e R s m args below meth c own cc nL E A rt) (d : decode cc pc = .ok (.arraylength, 1)) (hq : pc + 1 = q) (K : GG p l e R s m args below meth c Q E A nL σ k n q L (.int (iI 486) :: sk)) : GG p l e R s m args below meth c Q E A nL σ k n pc L (.ref (ea E 15) :: sk) := by
  subst hq; intro H locs ls hl hP hS
  exact va_alen (x := (486, .inl (af (σ 15)))) (ty := .int) (v := iI 486) C.exec C.code C.K.1 hP 15 0 rfl rfl rfl d (K H locs ls hl hP hS)
theorem gl_15 (C : CX p l e R s m args below meth c own cc nL E A rt) {i : Int} (h : 0 ≤ i ∧ i < 486) (d : decode cc pc = .ok (.iaload, 1)) (hq : pc + 1 = q) (K : GG p l e R s m args below meth c Q E A nL σ k n q L (.int (iI (σ 15 i)) :: sk)) : GG p l e R s m args below meth c Q E A nL σ k n pc L (.int (iI i) :: .ref (ea E 15) :: sk) := by
  subst hq; intro H locs ls hl hP hS
  refine va_iald (n := 486) (f := af (σ 15)) C.exec C.code C.K.1 hP 15 0 rfl rfl (iI_in (by omega) (by decide)) d ?_
  rw [af_ld (by omega)]
  exact K H locs ls hl hP hS
theorem ss_15 (E : EV) (σ : SS) (g : Int → Int) : (Wd E σ).set 15 (ea E 15, .inl (ec E 0, 486, .inl (af g))) = Wd E (st σ 15 g) := rfl
theorem gs_15 (C : CX p l e R s m args below meth c own cc nL E A rt) {i z : Int} (h : 0 ≤ i ∧ i < 486) (d : decode cc pc = .ok (.iastore, 1)) (hq : pc + 1 = q) (K : GG p l e R s m args below meth c Q E A nL (st σ 15 (pt (σ 15) i z)) k n q L sk) : GG p l e R s m args below meth c Q E A nL σ k n pc L (.int (iI z) :: .int (iI i) :: .ref (ea E 15) :: sk) := by
  subst hq; intro H locs ls hl hP hS
  refine va_iast (n := 486) (f := af (σ 15)) C.exec C.code C.K.1 hP (C.D σ) hS 15 0 rfl rfl (iI_in (by omega) (by decide)) d (fun H1 locs1 hP1 hD1 hS1 => ?_)
  rw [af_st (by omega), ss_15] at hP1
  exact K H1 locs1 ls hl hP1 hS1
theorem gn_16 (C : CX p l e R s m args below meth c own cc nL E A rt) (d : decode cc pc = .ok (.arraylength, 1)) (hq : pc + 1 = q) (K : GG p l e R s m args below meth c Q E A nL σ k n q L (.int (iI 486) :: sk)) : GG p l e R s m args below meth c Q E A nL σ k n pc L (.ref (ea E 16) :: sk) := by
  subst hq; intro H locs ls hl hP hS
  exact va_alen (x := (486, .inl (af (σ 16)))) (ty := .int) (v := iI 486) C.exec C.code C.K.1 hP 16 0 rfl rfl rfl d (K H locs ls hl hP hS)
theorem gl_16 (C : CX p l e R s m args below meth c own cc nL E A rt) {i : Int} (h : 0 ≤ i ∧ i < 486) (d : decode cc pc = .ok (.iaload, 1)) (hq : pc + 1 = q) (K : GG p l e R s m args below meth c Q E A nL σ k n q L (.int (iI (σ 16 i)) :: sk)) : GG p l e R s m args below meth c Q E A nL σ k n pc L (.int (iI i) :: .ref (ea E 16) :: sk) := by
  subst hq; intro H locs ls hl hP hS
  refine va_iald (n := 486) (f := af (σ 16)) C.exec C.code C.K.1 hP 16 0 rfl rfl (iI_in (by omega) (by decide)) d ?_
  rw [af_ld (by omega)]
  exact K H locs ls hl hP hS
theorem ss_16 (E : EV) (σ : SS) (g : Int → Int) : (Wd E σ).set 16 (ea E 16, .inl (ec E 0, 486, .inl (af g))) = Wd E (st σ 16 g) := rfl
theorem gs_16 (C : CX p l e R s m args below meth c own cc nL E A rt) {i z : Int} (h : 0 ≤ i ∧ i < 486) (d : decode cc pc = .ok (.iastore, 1)) (hq : pc + 1 = q) (K : GG p l e R s m args below meth c Q E A nL (st σ 16 (pt (σ 16) i z)) k n q L sk) : GG p l e R s m args below meth c Q E A nL σ k n pc L (.int (iI z) :: .int (iI i) :: .ref (ea E 16) :: sk) := by
  subst hq; intro H locs ls hl hP hS
  refine va_iast (n := 486) (f := af (σ 16)) C.exec C.code C.K.1 hP (C.D σ) hS 16 0 rfl rfl (iI_in (by omega) (by decide)) d (fun H1 locs1 hP1 hD1 hS1 => ?_)
  rw [af_st (by omega), ss_16] at hP1
  exact K H1 locs1 ls hl hP1 hS1
theorem gn_17 (C : CX p l e R s m args below meth c own cc nL E A rt) (d : decode cc pc = .ok (.arraylength, 1)) (hq : pc + 1 = q) (K : GG p l e R s m args below meth c Q E A nL σ k n q L (.int (iI 3888) :: sk)) : GG p l e R s m args below meth c Q E A nL σ k n pc L (.ref (ea E 17) :: sk) := by
  subst hq; intro H locs ls hl hP hS
  exact va_alen (x := (3888, .inl (af (σ 17)))) (ty := .int) (v := iI 3888) C.exec C.code C.K.1 hP 17 0 rfl rfl rfl d (K H locs ls hl hP hS)
theorem gl_17 (C : CX p l e R s m args below meth c own cc nL E A rt) {i : Int} (h : 0 ≤ i ∧ i < 3888) (d : decode cc pc = .ok (.iaload, 1)) (hq : pc + 1 = q) (K : GG p l e R s m args below meth c Q E A nL σ k n q L (.int (iI (σ 17 i)) :: sk)) : GG p l e R s m args below meth c Q E A nL σ k n pc L (.int (iI i) :: .ref (ea E 17) :: sk) := by
  subst hq; intro H locs ls hl hP hS
  refine va_iald (n := 3888) (f := af (σ 17)) C.exec C.code C.K.1 hP 17 0 rfl rfl (iI_in (by omega) (by decide)) d ?_
  rw [af_ld (by omega)]
  exact K H locs ls hl hP hS
theorem ss_17 (E : EV) (σ : SS) (g : Int → Int) : (Wd E σ).set 17 (ea E 17, .inl (ec E 0, 3888, .inl (af g))) = Wd E (st σ 17 g) := rfl
theorem gs_17 (C : CX p l e R s m args below meth c own cc nL E A rt) {i z : Int} (h : 0 ≤ i ∧ i < 3888) (d : decode cc pc = .ok (.iastore, 1)) (hq : pc + 1 = q) (K : GG p l e R s m args below meth c Q E A nL (st σ 17 (pt (σ 17) i z)) k n q L sk) : GG p l e R s m args below meth c Q E A nL σ k n pc L (.int (iI z) :: .int (iI i) :: .ref (ea E 17) :: sk) := by
  subst hq; intro H locs ls hl hP hS
  refine va_iast (n := 3888) (f := af (σ 17)) C.exec C.code C.K.1 hP (C.D σ) hS 17 0 rfl rfl (iI_in (by omega) (by decide)) d (fun H1 locs1 hP1 hD1 hS1 => ?_)
  rw [af_st (by omega), ss_17] at hP1
  exact K H1 locs1 ls hl hP1 hS1
theorem gn_18 (C : CX p l e R s m args below meth c own cc nL E A rt) (d : decode cc pc = .ok (.arraylength, 1)) (hq : pc + 1 = q) (K : GG p l e R s m args below meth c Q E A nL σ k n q L (.int (iI 60) :: sk)) : GG p l e R s m args below meth c Q E A nL σ k n pc L (.ref (ea E 18) :: sk) := by
  subst hq; intro H locs ls hl hP hS
  exact va_alen (x := (60, .inl (af (σ 18)))) (ty := .int) (v := iI 60) C.exec C.code C.K.1 hP 18 0 rfl rfl rfl d (K H locs ls hl hP hS)
theorem gl_18 (C : CX p l e R s m args below meth c own cc nL E A rt) {i : Int} (h : 0 ≤ i ∧ i < 60) (d : decode cc pc = .ok (.iaload, 1)) (hq : pc + 1 = q) (K : GG p l e R s m args below meth c Q E A nL σ k n q L (.int (iI (σ 18 i)) :: sk)) : GG p l e R s m args below meth c Q E A nL σ k n pc L (.int (iI i) :: .ref (ea E 18) :: sk) := by
  subst hq; intro H locs ls hl hP hS
  refine va_iald (n := 60) (f := af (σ 18)) C.exec C.code C.K.1 hP 18 0 rfl rfl (iI_in (by omega) (by decide)) d ?_
  rw [af_ld (by omega)]
  exact K H locs ls hl hP hS
theorem ss_18 (E : EV) (σ : SS) (g : Int → Int) : (Wd E σ).set 18 (ea E 18, .inl (ec E 0, 60, .inl (af g))) = Wd E (st σ 18 g) := rfl
theorem gs_18 (C : CX p l e R s m args below meth c own cc nL E A rt) {i z : Int} (h : 0 ≤ i ∧ i < 60) (d : decode cc pc = .ok (.iastore, 1)) (hq : pc + 1 = q) (K : GG p l e R s m args below meth c Q E A nL (st σ 18 (pt (σ 18) i z)) k n q L sk) : GG p l e R s m args below meth c Q E A nL σ k n pc L (.int (iI z) :: .int (iI i) :: .ref (ea E 18) :: sk) := by
  subst hq; intro H locs ls hl hP hS
  refine va_iast (n := 60) (f := af (σ 18)) C.exec C.code C.K.1 hP (C.D σ) hS 18 0 rfl rfl (iI_in (by omega) (by decide)) d (fun H1 locs1 hP1 hD1 hS1 => ?_)
  rw [af_st (by omega), ss_18] at hP1
  exact K H1 locs1 ls hl hP1 hS1
theorem gn_19 (C : CX p l e R s m args below meth c own cc nL E A rt) (d : decode cc pc = .ok (.arraylength, 1)) (hq : pc + 1 = q) (K : GG p l e R s m args below meth c Q E A nL σ k n q L (.int (iI 300) :: sk)) : GG p l e R s m args below meth c Q E A nL σ k n pc L (.ref (ea E 19) :: sk) := by
  subst hq; intro H locs ls hl hP hS
  exact va_alen (x := (300, .inl (af (σ 19)))) (ty := .int) (v := iI 300) C.exec C.code C.K.1 hP 19 0 rfl rfl rfl d (K H locs ls hl hP hS)
theorem gl_19 (C : CX p l e R s m args below meth c own cc nL E A rt) {i : Int} (h : 0 ≤ i ∧ i < 300) (d : decode cc pc = .ok (.iaload, 1)) (hq : pc + 1 = q) (K : GG p l e R s m args below meth c Q E A nL σ k n q L (.int (iI (σ 19 i)) :: sk)) : GG p l e R s m args below meth c Q E A nL σ k n pc L (.int (iI i) :: .ref (ea E 19) :: sk) := by
  subst hq; intro H locs ls hl hP hS
  refine va_iald (n := 300) (f := af (σ 19)) C.exec C.code C.K.1 hP 19 0 rfl rfl (iI_in (by omega) (by decide)) d ?_
  rw [af_ld (by omega)]
  exact K H locs ls hl hP hS
theorem ss_19 (E : EV) (σ : SS) (g : Int → Int) : (Wd E σ).set 19 (ea E 19, .inl (ec E 0, 300, .inl (af g))) = Wd E (st σ 19 g) := rfl
theorem gs_19 (C : CX p l e R s m args below meth c own cc nL E A rt) {i z : Int} (h : 0 ≤ i ∧ i < 300) (d : decode cc pc = .ok (.iastore, 1)) (hq : pc + 1 = q) (K : GG p l e R s m args below meth c Q E A nL (st σ 19 (pt (σ 19) i z)) k n q L sk) : GG p l e R s m args below meth c Q E A nL σ k n pc L (.int (iI z) :: .int (iI i) :: .ref (ea E 19) :: sk) := by
  subst hq; intro H locs ls hl hP hS
  refine va_iast (n := 300) (f := af (σ 19)) C.exec C.code C.K.1 hP (C.D σ) hS 19 0 rfl rfl (iI_in (by omega) (by decide)) d (fun H1 locs1 hP1 hD1 hS1 => ?_)
  rw [af_st (by omega), ss_19] at hP1
  exact K H1 locs1 ls hl hP1 hS1
theorem gn_20 (C : CX p l e R s m args below meth c own cc nL E A rt) (d : decode cc pc = .ok (.arraylength, 1)) (hq : pc + 1 = q) (K : GG p l e R s m args below meth c Q E A nL σ k n q L (.int (iI 240) :: sk)) : GG p l e R s m args below meth c Q E A nL σ k n pc L (.ref (ea E 20) :: sk) := by
  subst hq; intro H locs ls hl hP hS
  exact va_alen (x := (240, .inl (af (σ 20)))) (ty := .int) (v := iI 240) C.exec C.code C.K.1 hP 20 0 rfl rfl rfl d (K H locs ls hl hP hS)
theorem gl_20 (C : CX p l e R s m args below meth c own cc nL E A rt) {i : Int} (h : 0 ≤ i ∧ i < 240) (d : decode cc pc = .ok (.iaload, 1)) (hq : pc + 1 = q) (K : GG p l e R s m args below meth c Q E A nL σ k n q L (.int (iI (σ 20 i)) :: sk)) : GG p l e R s m args below meth c Q E A nL σ k n pc L (.int (iI i) :: .ref (ea E 20) :: sk) := by
  subst hq; intro H locs ls hl hP hS
  refine va_iald (n := 240) (f := af (σ 20)) C.exec C.code C.K.1 hP 20 0 rfl rfl (iI_in (by omega) (by decide)) d ?_
  rw [af_ld (by omega)]
  exact K H locs ls hl hP hS
theorem ss_20 (E : EV) (σ : SS) (g : Int → Int) : (Wd E σ).set 20 (ea E 20, .inl (ec E 0, 240, .inl (af g))) = Wd E (st σ 20 g) := rfl
theorem gs_20 (C : CX p l e R s m args below meth c own cc nL E A rt) {i z : Int} (h : 0 ≤ i ∧ i < 240) (d : decode cc pc = .ok (.iastore, 1)) (hq : pc + 1 = q) (K : GG p l e R s m args below meth c Q E A nL (st σ 20 (pt (σ 20) i z)) k n q L sk) : GG p l e R s m args below meth c Q E A nL σ k n pc L (.int (iI z) :: .int (iI i) :: .ref (ea E 20) :: sk) := by
  subst hq; intro H locs ls hl hP hS
  refine va_iast (n := 240) (f := af (σ 20)) C.exec C.code C.K.1 hP (C.D σ) hS 20 0 rfl rfl (iI_in (by omega) (by decide)) d (fun H1 locs1 hP1 hD1 hS1 => ?_)
  rw [af_st (by omega), ss_20] at hP1
  exact K H1 locs1 ls hl hP1 hS1
theorem ss_21 (E : EV) (σ : SS) (g : Int → Int) : (Wd E σ).set 21 (ea E 21, .inl (ec E 2, 1, .inr (.inl (afL g)))) = Wd E (st σ 21 g) := rfl
theorem gl_21 (C : CX p l e R s m args below meth c own cc nL E A rt) (d : decode cc pc = .ok (.laload, 1)) (hq : pc + 1 = q) (K : GG p l e R s m args below meth c Q E A nL σ k n q L (.long (iL (σ 21 0)) :: sk)) : GG p l e R s m args below meth c Q E A nL σ k n pc L (.int (iI 0) :: .ref (ea E 21) :: sk) := by
  subst hq; intro H locs ls hl hP hS
  exact va_lald (n := 1) (f := afL (σ 21)) C.exec C.code C.K.1 hP 21 2 rfl rfl (iI_in (by omega) (by decide)) d (K H locs ls hl hP hS)
theorem gs_21 (C : CX p l e R s m args below meth c own cc nL E A rt) {z : Int} (d : decode cc pc = .ok (.lastore, 1)) (hq : pc + 1 = q) (K : GG p l e R s m args below meth c Q E A nL (st σ 21 (pt (σ 21) 0 z)) k n q L sk) : GG p l e R s m args below meth c Q E A nL σ k n pc L (.long (iL z) :: .int (iI 0) :: .ref (ea E 21) :: sk) := by
  subst hq; intro H locs ls hl hP hS
  refine va_last (n := 1) (f := afL (σ 21)) C.exec C.code C.K.1 hP (C.D σ) hS 21 2 rfl rfl (iI_in (by omega) (by decide)) d (fun H1 locs1 hP1 hD1 hS1 => ?_)
  rw [afL_st (by omega), ss_21] at hP1
  exact K H1 locs1 ls hl hP1 hS1
theorem ss_22 (E : EV) (σ : SS) (g : Int → Int) : (Wd E σ).set 22 (ea E 22, .inl (ec E 3, 1, .inr (.inr (.inr (.inl (afD g)))))) = Wd E (st σ 22 g) := rfl
theorem gl_22 (C : CX p l e R s m args below meth c own cc nL E A rt) (d : decode cc pc = .ok (.daload, 1)) (hq : pc + 1 = q) (K : GG p l e R s m args below meth c Q E A nL σ k n q L (.double (iD (σ 22 0)) :: sk)) : GG p l e R s m args below meth c Q E A nL σ k n pc L (.int (iI 0) :: .ref (ea E 22) :: sk) := by
  subst hq; intro H locs ls hl hP hS
  exact va_dald (n := 1) (f := afD (σ 22)) C.exec C.code C.K.1 hP 22 3 rfl rfl (iI_in (by omega) (by decide)) d (K H locs ls hl hP hS)
theorem gs_22 (C : CX p l e R s m args below meth c own cc nL E A rt) {z : UInt64} (d : decode cc pc = .ok (.dastore, 1)) (hq : pc + 1 = q) (K : GG p l e R s m args below meth c Q E A nL (st σ 22 (pt (σ 22) 0 (z.toNat : Int))) k n q L sk) : GG p l e R s m args below meth c Q E A nL σ k n pc L (.double z :: .int (iI 0) :: .ref (ea E 22) :: sk) := by
  subst hq; intro H locs ls hl hP hS
  refine va_dast (n := 1) (f := afD (σ 22)) C.exec C.code C.K.1 hP (C.D σ) hS 22 3 rfl rfl (iI_in (by omega) (by decide)) d (fun H1 locs1 hP1 hD1 hS1 => ?_)
  rw [← iD_of z, afD_st (by omega), ss_22] at hP1
  exact K H1 locs1 ls hl hP1 hS1
end GFLD
