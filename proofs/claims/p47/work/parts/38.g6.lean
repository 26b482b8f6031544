section GFLT
variable {p : Program} {l : Launch} {e : Env} {R : Room} {s : State} {m : MethodId} {args : Array Value} {below : List Frame} {meth : Method} {c : Code} {cc : ByteArray} {nL : Nat} {E : EV} {A : Nat → Prop} {Q : State → Prop} {rt : Option FieldType} {own : String}
variable {σ : SS} {k n pc q : Nat} {L : List (Nat × Value)} {sk : List Value}
def wr (a : Int) : Int := (iI a).toInt
theorem iL_wr (a : Int) : (iI a).toInt64 = iL (wr a) := by
  apply Int64.toInt_inj.mp
  unfold iL wr
  rw [Int32.toInt_toInt64, Int64.toInt_ofInt_of_le (by have := (iI a).le_toInt; omega) (by have := (iI a).toInt_lt; omega)]
theorem g_i2d (C : CX p l e R s m args below meth c own cc nL E A rt) {a : Int} (d : decode cc pc = .ok (.i2d, 1)) (hq : pc + 1 = q) (K : GG p l e R s m args below meth c Q E A nL σ k n q L (.double (FP.i2d (iI a)) :: sk)) : GG p l e R s m args below meth c Q E A nL σ k n pc L (.int (iI a) :: sk) := by
  subst hq; intro H locs ls hl hP hS
  exact lv_i2d C.exec C.code d (K H locs ls hl hP hS)
theorem g_i2f (C : CX p l e R s m args below meth c own cc nL E A rt) {a : Int} (d : decode cc pc = .ok (.i2f, 1)) (hq : pc + 1 = q) (K : GG p l e R s m args below meth c Q E A nL σ k n q L (.float (FP.i2f (iI a)) :: sk)) : GG p l e R s m args below meth c Q E A nL σ k n pc L (.int (iI a) :: sk) := by
  subst hq; intro H locs ls hl hP hS
  exact lv_i2f C.exec C.code d (K H locs ls hl hP hS)
theorem g_ddiv (C : CX p l e R s m args below meth c own cc nL E A rt) {x y : UInt64} (hne : vf_n64 (FP.ddiv x y)) (d : decode cc pc = .ok (.ddiv, 1)) (hq : pc + 1 = q) (K : GG p l e R s m args below meth c Q E A nL σ k n q L (.double (FP.ddiv x y) :: sk)) : GG p l e R s m args below meth c Q E A nL σ k n pc L (.double y :: .double x :: sk) := by
  subst hq; intro H locs ls hl hP hS
  exact lv_ddiv C.exec C.code d hne (K H locs ls hl hP hS)
theorem g_fdiv (C : CX p l e R s m args below meth c own cc nL E A rt) {x y : UInt32} (hne : vf_n32 (FP.fdiv x y)) (d : decode cc pc = .ok (.fdiv, 1)) (hq : pc + 1 = q) (K : GG p l e R s m args below meth c Q E A nL σ k n q L (.float (FP.fdiv x y) :: sk)) : GG p l e R s m args below meth c Q E A nL σ k n pc L (.float y :: .float x :: sk) := by
  subst hq; intro H locs ls hl hP hS
  exact lv_fdiv C.exec C.code d hne (K H locs ls hl hP hS)
theorem g_f2d (C : CX p l e R s m args below meth c own cc nL E A rt) {x : UInt32} (hne : vf_n64 (FP.f2d x)) (d : decode cc pc = .ok (.f2d, 1)) (hq : pc + 1 = q) (K : GG p l e R s m args below meth c Q E A nL σ k n q L (.double (FP.f2d x) :: sk)) : GG p l e R s m args below meth c Q E A nL σ k n pc L (.float x :: sk) := by
  subst hq; intro H locs ls hl hP hS
  exact lv_f2d C.exec C.code d hne (K H locs ls hl hP hS)
theorem g_dconst0 (C : CX p l e R s m args below meth c own cc nL E A rt) (d : decode cc pc = .ok (.dconst 0, 1)) (hq : pc + 1 = q) (K : GG p l e R s m args below meth c Q E A nL σ k n q L (.double FP.dconst0 :: sk)) : GG p l e R s m args below meth c Q E A nL σ k n pc L (sk) := by
  subst hq; intro H locs ls hl hP hS
  exact lv_dconst0 C.exec C.code d (K H locs ls hl hP hS)
theorem g_fconst0 (C : CX p l e R s m args below meth c own cc nL E A rt) (d : decode cc pc = .ok (.fconst 0, 1)) (hq : pc + 1 = q) (K : GG p l e R s m args below meth c Q E A nL σ k n q L (.float FP.fconst0 :: sk)) : GG p l e R s m args below meth c Q E A nL σ k n pc L (sk) := by
  subst hq; intro H locs ls hl hP hS
  exact lv_fconst0 C.exec C.code d (K H locs ls hl hP hS)
theorem g_i2lw (C : CX p l e R s m args below meth c own cc nL E A rt) {a : Int} (d : decode cc pc = .ok (.i2l, 1)) (hq : pc + 1 = q) (K : GG p l e R s m args below meth c Q E A nL σ k n q L (.long (iL (wr a)) :: sk)) : GG p l e R s m args below meth c Q E A nL σ k n pc L (.int (iI a) :: sk) := by
  subst hq; intro H locs ls hl hP hS
  exact lv_i2l C.exec C.code d (iL_wr a) (K H locs ls hl hP hS)
theorem g_lcmpE (C : CX p l e R s m args below meth c own cc nL E A rt) {x y : Int} (hxy : x = y) (d : decode cc pc = .ok (.lcmp, 1)) (hq : pc + 1 = q) (K : GG p l e R s m args below meth c Q E A nL σ k n q L (.int (iI 0) :: sk)) : GG p l e R s m args below meth c Q E A nL σ k n pc L (.long (iL y) :: .long (iL x) :: sk) := by
  subst hq; intro H locs ls hl hP hS
  subst hxy
  refine W.lcmp C.exec C.code d ?_
  rw [show lg_cmp (iL x) (iL x) = iI 0 by simp [lg_cmp]; rfl]
  exact K H locs ls hl hP hS
theorem g_dcmpE (C : CX p l e R s m args below meth c own cc nL E A rt) {x y : UInt64} {op : CmpOp} (hxy : x = y) (hx : ∃ v : Nat, x = UInt64.ofNat v ∧ v ≤ 9218868437227405312) (d : decode cc pc = .ok (.dcmp op, 1)) (hq : pc + 1 = q) (K : GG p l e R s m args below meth c Q E A nL σ k n q L (.int (iI 0) :: sk)) : GG p l e R s m args below meth c Q E A nL σ k n pc L (.double y :: .double x :: sk) := by
  subst hq; intro H locs ls hl hP hS
  subst hxy
  obtain ⟨v, rfl, hv⟩ := hx
  refine lv_dcmp C.exec C.code d ?_
  rw [dcmp_self hv]
  exact K H locs ls hl hP hS
theorem g_topl {a b : Int} (h : a = b) (K : GG p l e R s m args below meth c Q E A nL σ k n pc L (.long (iL b) :: sk)) : GG p l e R s m args below meth c Q E A nL σ k n pc L (.long (iL a) :: sk) := by subst h; exact K
theorem g_topd {a b : UInt64} (h : a = b) (K : GG p l e R s m args below meth c Q E A nL σ k n pc L (.double b :: sk)) : GG p l e R s m args below meth c Q E A nL σ k n pc L (.double a :: sk) := by subst h; exact K
end GFLT
