theorem wm_min_s : Cond.static Lib.Math.min.name ∈ WA := WA_in (List.mem_append_right _ (List.mem_append_left _ (List.mem_of_getElem? (l := tables_1_2) (i := 95) (by decide +kernel)))) rfl
theorem wm_min_c : Cond.code Lib.Math.min.name Lib.Math.min.code 2 (some .int) ∈ WA := WA_in (List.mem_append_right _ (List.mem_append_left _ (List.mem_of_getElem? (l := tables_1_2) (i := 96) (by decide +kernel)))) rfl
theorem wm_max_s : Cond.static Lib.Math.max.name ∈ WA := WA_in (List.mem_append_right _ (List.mem_append_right _ (List.mem_append_left _ (List.mem_of_getElem? (l := tables_1_3) (i := 133) (by decide +kernel))))) rfl
theorem wm_max_c : Cond.code Lib.Math.max.name Lib.Math.max.code 2 (some .int) ∈ WA := WA_in (List.mem_append_right _ (List.mem_append_right _ (List.mem_append_left _ (List.mem_of_getElem? (l := tables_1_3) (i := 134) (by decide +kernel))))) rfl
theorem wm_math : Cond.initialized "java/lang/Math" ∈ WA := WA_in (List.mem_append_left _ (List.mem_of_getElem? (l := tables_1_1) (i := 14) (by decide +kernel))) rfl
theorem wm_sys : Cond.initialized "java/lang/System" ∈ WA := WA_in (List.mem_append_left _ (List.mem_of_getElem? (l := tables_1_1) (i := 15) (by decide +kernel))) rfl
theorem wm_cp_s : Cond.static arraycopyName ∈ WA := WA_in (List.mem_append_right _ (List.mem_append_left _ (List.mem_of_getElem? (l := tables_1_2) (i := 181) (by decide +kernel)))) rfl
theorem wm_cp_n : (Cond.native arraycopyName) ∈ tables_1 := (List.mem_append_right _ (List.mem_append_left _ (List.mem_of_getElem? (l := tables_1_2) (i := 182) (by decide +kernel))))
theorem wm_cp_g : goodWord (Cond.native arraycopyName) = true := rfl
section GNAT
variable {p : Program} {l : Launch} {e : Env} {R : Room} {s : State} {m : MethodId} {args : Array Value} {below : List Frame} {meth : Method} {c : Code} {cc : ByteArray} {nL : Nat} {E : EV} {A : Nat → Prop} {Q : State → Prop} {rt : Option FieldType} {own : String}
variable {σ : SS} {k n pc q idx : Nat} {L : List (Nat × Value)} {sk : List Value}
theorem g_min (C : CX p l e R s m args below meth c own cc nL E A rt) {a b : Int} (hl : Cond.methodLink own idx yJ9_min_7cf53 ∈ WA) (h : -2147483648 ≤ a ∧ a ≤ 2147483647 ∧ -2147483648 ≤ b ∧ b ≤ 2147483647) (d : decode cc pc = .ok (.invokestatic idx, 3)) (hf : 1 ≤ R.frames) (hlo : (sk.map fun v => v.category).sum + 13 ≤ R.locals) (hc : k ≤ R.cells) (hs : n ≤ R.slots) (hq : pc + 3 = q) (K : GG p l e R s m args below meth c Q E A nL σ k n q L (.int (iI (min a b)) :: sk)) : GG p l e R s m args below meth c Q E A nL σ k n pc L (.int (iI b) :: .int (iI a) :: sk) := by
  subst hq; intro H locs ls hl2 hP hS
  refine va_mmin C.exec C.code (C.ml.trans hl2.1.symm) C.hown (C.hts _ hl) (C.hts _ wm_min_s) (C.hts _ wm_math) (C.hts _ wm_min_c) hf hlo hc hs d ?_
  rw [iI_min h]
  exact K H locs ls hl2 hP hS
theorem g_max (C : CX p l e R s m args below meth c own cc nL E A rt) {a b : Int} (hl : Cond.methodLink own idx yJ9_max_7cf53 ∈ WA) (h : -2147483648 ≤ a ∧ a ≤ 2147483647 ∧ -2147483648 ≤ b ∧ b ≤ 2147483647) (d : decode cc pc = .ok (.invokestatic idx, 3)) (hf : 1 ≤ R.frames) (hlo : (sk.map fun v => v.category).sum + 13 ≤ R.locals) (hc : k ≤ R.cells) (hs : n ≤ R.slots) (hq : pc + 3 = q) (K : GG p l e R s m args below meth c Q E A nL σ k n q L (.int (iI (max a b)) :: sk)) : GG p l e R s m args below meth c Q E A nL σ k n pc L (.int (iI b) :: .int (iI a) :: sk) := by
  subst hq; intro H locs ls hl2 hP hS
  refine va_mmax C.exec C.code (C.ml.trans hl2.1.symm) C.hown (C.hts _ hl) (C.hts _ wm_max_s) (C.hts _ wm_math) (C.hts _ wm_max_c) hf hlo hc hs d ?_
  rw [iI_max h]
  exact K H locs ls hl2 hP hS
theorem af_cp {f g : Int → Int} {sp dp n : Int} (h : 0 ≤ sp ∧ sp < 1000000 ∧ 0 ≤ dp ∧ dp < 1000000 ∧ 0 ≤ n ∧ n < 1000000) : va_cpy (af f) (af g) (iI sp).toNatClampNeg (iI dp).toNatClampNeg (iI n).toNatClampNeg = af (cpf f g sp dp n) := by
  rw [iI_cl (by omega), iI_cl (by omega), iI_cl (by omega)]
  funext j; unfold va_cpy af cpf
  by_cases hj : dp.toNat ≤ j ∧ j < dp.toNat + n.toNat
  · rw [if_pos hj, if_pos (by omega)]
    congr 2; omega
  · rw [if_neg hj, if_neg (by omega)]
theorem gcp_2_3 (C : CX p l e R s m args below meth c own cc nL E A rt) {sp dp x : Int} (hl : Cond.methodLink own idx arraycopyName ∈ WA) (h : 0 ≤ sp ∧ 0 ≤ dp ∧ 0 ≤ x ∧ sp + x ≤ 310 ∧ dp + x ≤ 310) (d : decode cc pc = .ok (.invokestatic idx, 3)) (hf : 1 ≤ R.frames) (hlo : (sk.map fun v => v.category).sum + (nativeFrameWords "java/lang/System" "arraycopy" 5 + 11) ≤ R.locals) (hq : pc + 3 = q) (K : GG p l e R s m args below meth c Q E A nL (st σ 3 (cpf (σ 2) (σ 3) sp dp x)) k n q L sk) : GG p l e R s m args below meth c Q E A nL σ k n pc L (.int (iI x) :: .int (iI dp) :: .ref (ea E 3) :: .int (iI sp) :: .ref (ea E 2) :: sk) := by
  subst hq; intro H locs ls hl2 hP hS
  refine va_copyi (n0 := 310) (n1 := 310) (f := af (σ 2)) (g := af (σ 3)) (ty := .int) C.exec C.code (C.ml.trans hl2.1.symm) C.hown (C.hts _ hl) (C.hts _ (WA_in wm_cp_n wm_cp_g)) (C.hts _ wm_cp_s) (C.hts _ wm_sys) C.K.1 hP (C.D σ) hS 2 3 0 0 rfl rfl rfl rfl rfl ?_ ?_ ?_ ?_ ?_ (fun _ _ => rfl) hf hlo d (fun H1 locs1 hP1 hD1 hS1 => ?_)
  · rw [iI_lt0 (by omega)]; omega
  · rw [iI_lt0 (by omega)]; omega
  · rw [iI_lt0 (by omega)]; omega
  · rw [iI_cl (by omega), iI_cl (by omega)]; omega
  · rw [iI_cl (by omega), iI_cl (by omega)]; omega
  · rw [af_cp (by omega), ss_3] at hP1
    exact K H1 locs1 ls hl2 hP1 hS1
theorem gcp_2_4 (C : CX p l e R s m args below meth c own cc nL E A rt) {sp dp x : Int} (hl : Cond.methodLink own idx arraycopyName ∈ WA) (h : 0 ≤ sp ∧ 0 ≤ dp ∧ 0 ≤ x ∧ sp + x ≤ 310 ∧ dp + x ≤ 310) (d : decode cc pc = .ok (.invokestatic idx, 3)) (hf : 1 ≤ R.frames) (hlo : (sk.map fun v => v.category).sum + (nativeFrameWords "java/lang/System" "arraycopy" 5 + 11) ≤ R.locals) (hq : pc + 3 = q) (K : GG p l e R s m args below meth c Q E A nL (st σ 4 (cpf (σ 2) (σ 4) sp dp x)) k n q L sk) : GG p l e R s m args below meth c Q E A nL σ k n pc L (.int (iI x) :: .int (iI dp) :: .ref (ea E 4) :: .int (iI sp) :: .ref (ea E 2) :: sk) := by
  subst hq; intro H locs ls hl2 hP hS
  refine va_copyi (n0 := 310) (n1 := 310) (f := af (σ 2)) (g := af (σ 4)) (ty := .int) C.exec C.code (C.ml.trans hl2.1.symm) C.hown (C.hts _ hl) (C.hts _ (WA_in wm_cp_n wm_cp_g)) (C.hts _ wm_cp_s) (C.hts _ wm_sys) C.K.1 hP (C.D σ) hS 2 4 0 0 rfl rfl rfl rfl rfl ?_ ?_ ?_ ?_ ?_ (fun _ _ => rfl) hf hlo d (fun H1 locs1 hP1 hD1 hS1 => ?_)
  · rw [iI_lt0 (by omega)]; omega
  · rw [iI_lt0 (by omega)]; omega
  · rw [iI_lt0 (by omega)]; omega
  · rw [iI_cl (by omega), iI_cl (by omega)]; omega
  · rw [iI_cl (by omega), iI_cl (by omega)]; omega
  · rw [af_cp (by omega), ss_4] at hP1
    exact K H1 locs1 ls hl2 hP1 hS1
theorem gcp_3_6 (C : CX p l e R s m args below meth c own cc nL E A rt) {sp dp x : Int} (hl : Cond.methodLink own idx arraycopyName ∈ WA) (h : 0 ≤ sp ∧ 0 ≤ dp ∧ 0 ≤ x ∧ sp + x ≤ 310 ∧ dp + x ≤ 2480) (d : decode cc pc = .ok (.invokestatic idx, 3)) (hf : 1 ≤ R.frames) (hlo : (sk.map fun v => v.category).sum + (nativeFrameWords "java/lang/System" "arraycopy" 5 + 11) ≤ R.locals) (hq : pc + 3 = q) (K : GG p l e R s m args below meth c Q E A nL (st σ 6 (cpf (σ 3) (σ 6) sp dp x)) k n q L sk) : GG p l e R s m args below meth c Q E A nL σ k n pc L (.int (iI x) :: .int (iI dp) :: .ref (ea E 6) :: .int (iI sp) :: .ref (ea E 3) :: sk) := by
  subst hq; intro H locs ls hl2 hP hS
  refine va_copyi (n0 := 310) (n1 := 2480) (f := af (σ 3)) (g := af (σ 6)) (ty := .int) C.exec C.code (C.ml.trans hl2.1.symm) C.hown (C.hts _ hl) (C.hts _ (WA_in wm_cp_n wm_cp_g)) (C.hts _ wm_cp_s) (C.hts _ wm_sys) C.K.1 hP (C.D σ) hS 3 6 0 0 rfl rfl rfl rfl rfl ?_ ?_ ?_ ?_ ?_ (fun _ _ => rfl) hf hlo d (fun H1 locs1 hP1 hD1 hS1 => ?_)
  · rw [iI_lt0 (by omega)]; omega
  · rw [iI_lt0 (by omega)]; omega
  · rw [iI_lt0 (by omega)]; omega
  · rw [iI_cl (by omega), iI_cl (by omega)]; omega
  · rw [iI_cl (by omega), iI_cl (by omega)]; omega
  · rw [af_cp (by omega), ss_6] at hP1
    exact K H1 locs1 ls hl2 hP1 hS1
theorem gcp_3_2 (C : CX p l e R s m args below meth c own cc nL E A rt) {sp dp x : Int} (hl : Cond.methodLink own idx arraycopyName ∈ WA) (h : 0 ≤ sp ∧ 0 ≤ dp ∧ 0 ≤ x ∧ sp + x ≤ 310 ∧ dp + x ≤ 310) (d : decode cc pc = .ok (.invokestatic idx, 3)) (hf : 1 ≤ R.frames) (hlo : (sk.map fun v => v.category).sum + (nativeFrameWords "java/lang/System" "arraycopy" 5 + 11) ≤ R.locals) (hq : pc + 3 = q) (K : GG p l e R s m args below meth c Q E A nL (st σ 2 (cpf (σ 3) (σ 2) sp dp x)) k n q L sk) : GG p l e R s m args below meth c Q E A nL σ k n pc L (.int (iI x) :: .int (iI dp) :: .ref (ea E 2) :: .int (iI sp) :: .ref (ea E 3) :: sk) := by
  subst hq; intro H locs ls hl2 hP hS
  refine va_copyi (n0 := 310) (n1 := 310) (f := af (σ 3)) (g := af (σ 2)) (ty := .int) C.exec C.code (C.ml.trans hl2.1.symm) C.hown (C.hts _ hl) (C.hts _ (WA_in wm_cp_n wm_cp_g)) (C.hts _ wm_cp_s) (C.hts _ wm_sys) C.K.1 hP (C.D σ) hS 3 2 0 0 rfl rfl rfl rfl rfl ?_ ?_ ?_ ?_ ?_ (fun _ _ => rfl) hf hlo d (fun H1 locs1 hP1 hD1 hS1 => ?_)
  · rw [iI_lt0 (by omega)]; omega
  · rw [iI_lt0 (by omega)]; omega
  · rw [iI_lt0 (by omega)]; omega
  · rw [iI_cl (by omega), iI_cl (by omega)]; omega
  · rw [iI_cl (by omega), iI_cl (by omega)]; omega
  · rw [af_cp (by omega), ss_2] at hP1
    exact K H1 locs1 ls hl2 hP1 hS1
theorem gcp_4_2 (C : CX p l e R s m args below meth c own cc nL E A rt) {sp dp x : Int} (hl : Cond.methodLink own idx arraycopyName ∈ WA) (h : 0 ≤ sp ∧ 0 ≤ dp ∧ 0 ≤ x ∧ sp + x ≤ 310 ∧ dp + x ≤ 310) (d : decode cc pc = .ok (.invokestatic idx, 3)) (hf : 1 ≤ R.frames) (hlo : (sk.map fun v => v.category).sum + (nativeFrameWords "java/lang/System" "arraycopy" 5 + 11) ≤ R.locals) (hq : pc + 3 = q) (K : GG p l e R s m args below meth c Q E A nL (st σ 2 (cpf (σ 4) (σ 2) sp dp x)) k n q L sk) : GG p l e R s m args below meth c Q E A nL σ k n pc L (.int (iI x) :: .int (iI dp) :: .ref (ea E 2) :: .int (iI sp) :: .ref (ea E 4) :: sk) := by
  subst hq; intro H locs ls hl2 hP hS
  refine va_copyi (n0 := 310) (n1 := 310) (f := af (σ 4)) (g := af (σ 2)) (ty := .int) C.exec C.code (C.ml.trans hl2.1.symm) C.hown (C.hts _ hl) (C.hts _ (WA_in wm_cp_n wm_cp_g)) (C.hts _ wm_cp_s) (C.hts _ wm_sys) C.K.1 hP (C.D σ) hS 4 2 0 0 rfl rfl rfl rfl rfl ?_ ?_ ?_ ?_ ?_ (fun _ _ => rfl) hf hlo d (fun H1 locs1 hP1 hD1 hS1 => ?_)
  · rw [iI_lt0 (by omega)]; omega
  · rw [iI_lt0 (by omega)]; omega
  · rw [iI_lt0 (by omega)]; omega
  · rw [iI_cl (by omega), iI_cl (by omega)]; omega
  · rw [iI_cl (by omega), iI_cl (by omega)]; omega
  · rw [af_cp (by omega), ss_2] at hP1
    exact K H1 locs1 ls hl2 hP1 hS1
theorem gcp_6_2 (C : CX p l e R s m args below meth c own cc nL E A rt) {sp dp x : Int} (hl : Cond.methodLink own idx arraycopyName ∈ WA) (h : 0 ≤ sp ∧ 0 ≤ dp ∧ 0 ≤ x ∧ sp + x ≤ 2480 ∧ dp + x ≤ 310) (d : decode cc pc = .ok (.invokestatic idx, 3)) (hf : 1 ≤ R.frames) (hlo : (sk.map fun v => v.category).sum + (nativeFrameWords "java/lang/System" "arraycopy" 5 + 11) ≤ R.locals) (hq : pc + 3 = q) (K : GG p l e R s m args below meth c Q E A nL (st σ 2 (cpf (σ 6) (σ 2) sp dp x)) k n q L sk) : GG p l e R s m args below meth c Q E A nL σ k n pc L (.int (iI x) :: .int (iI dp) :: .ref (ea E 2) :: .int (iI sp) :: .ref (ea E 6) :: sk) := by
  subst hq; intro H locs ls hl2 hP hS
  refine va_copyi (n0 := 2480) (n1 := 310) (f := af (σ 6)) (g := af (σ 2)) (ty := .int) C.exec C.code (C.ml.trans hl2.1.symm) C.hown (C.hts _ hl) (C.hts _ (WA_in wm_cp_n wm_cp_g)) (C.hts _ wm_cp_s) (C.hts _ wm_sys) C.K.1 hP (C.D σ) hS 6 2 0 0 rfl rfl rfl rfl rfl ?_ ?_ ?_ ?_ ?_ (fun _ _ => rfl) hf hlo d (fun H1 locs1 hP1 hD1 hS1 => ?_)
  · rw [iI_lt0 (by omega)]; omega
  · rw [iI_lt0 (by omega)]; omega
  · rw [iI_lt0 (by omega)]; omega
  · rw [iI_cl (by omega), iI_cl (by omega)]; omega
  · rw [iI_cl (by omega), iI_cl (by omega)]; omega
  · rw [af_cp (by omega), ss_2] at hP1
    exact K H1 locs1 ls hl2 hP1 hS1
end GNAT
theorem ml_X4_327 : Cond.methodLink RX4 327 arraycopyName ∈ WA := WA_in (List.mem_append_right _ (List.mem_append_left _ (List.mem_of_getElem? (l := tables_1_2) (i := 180) (by decide +kernel)))) rfl
