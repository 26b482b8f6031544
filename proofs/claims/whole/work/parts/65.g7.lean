section GLAW
variable {p : Program} {l : Launch} {e : Env} {R : Room} {s : State} {m : MethodId} {args : Array Value} {below : List Frame} {meth : Method} {c : Code} {cc : ByteArray} {nL : Nat} {E : EV} {A : Nat → Prop} {Q : State → Prop} {rt : Option FieldType} {own : String}
variable {σ : SS} {k n pc q : Nat} {L : List (Nat × Value)} {sk : List Value}
/-- the script lies untouched -/
def SX (bS N : Nat) (xs : Nat → Int32) (s : State) (A : Nat → Prop) : Prop := va_X bS N xs s s.heap ∧ bS < s.heap.size ∧ ¬ A bS ∧ N ≤ 2560
theorem g_scr (C : CX p l e R s m args below meth c own cc nL E A rt) {bS N : Nat} {xs : Nat → Int32} (hX : SX bS N xs s A) {j : Int} (hj : 0 ≤ j ∧ j < N) (d : decode cc pc = .ok (.iaload, 1)) (hq : pc + 1 = q) (K : GG p l e R s m args below meth c Q E A nL σ k n q L (.int (iI (scr xs j)) :: sk)) : GG p l e R s m args below meth c Q E A nL σ k n pc L (.int (iI j) :: .ref bS :: sk) := by
  subst hq; intro H locs ls hl hP hS
  have hN := hX.2.2.2
  refine va_sld C.exec C.code hX.1 hX.2.1 hX.2.2.1 hS (iI_in hj (by omega)) d ?_
  rw [iI_cl (by omega), ← iI_scr xs j]
  exact K H locs ls hl hP hS
theorem g_scrN (C : CX p l e R s m args below meth c own cc nL E A rt) {bS N : Nat} {xs : Nat → Int32} (hX : SX bS N xs s A) (d : decode cc pc = .ok (.arraylength, 1)) (hq : pc + 1 = q) (K : GG p l e R s m args below meth c Q E A nL σ k n q L (.int (iI N) :: sk)) : GG p l e R s m args below meth c Q E A nL σ k n pc L (.ref bS :: sk) := by
  subst hq; intro H locs ls hl hP hS
  exact va_slen C.exec C.code hX.1 hX.2.1 hX.2.2.1 hS d (K H locs ls hl hP hS)
theorem g_icmp_eqR (C : CX p l e R s m args below meth c own cc nL E A rt) {a b off : Int} {q2 : Nat} (h : a = b) (d : decode cc pc = .ok (.if_icmp .eq off, 3)) (ht : (pc : Int) + off = (q2 : Int)) (kt : GG p l e R s m args below meth c Q E A nL σ k n q2 L sk) : GG p l e R s m args below meth c Q E A nL σ k n pc L (.int (iI b) :: .int (iI a) :: sk) := by
  subst h; intro H locs ls hl hP hS
  exact lv_icmp_eq C.exec C.code d ht (fun _ => kt H locs ls hl hP hS) (fun z => absurd rfl z)
end GLAW
