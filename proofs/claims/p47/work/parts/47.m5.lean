/-! the script's cells as the law draws of them -/
def clE (E : EV) (k : Int) : Int := if k < eN E then (eX E k.toNat).toInt else 40503 * k
def pkE (E : EV) (k n : Int) : Int := clE E k % 4294967296 / 2 % n
theorem clE_rg (E : EV) {k : Int} (hk : 0 ≤ k ∧ k ≤ 1000) : -2147483648 ≤ clE E k ∧ clE E k ≤ 2147483647 := by
  unfold clE
  split
  · exact iI_rg _
  · omega
theorem pkE_rg (E : EV) (k : Int) {n : Int} (h : 0 < n) : 0 ≤ pkE E k n ∧ pkE E k n < n := ⟨Int.emod_nonneg _ (by omega), Int.emod_lt_of_pos _ h⟩
/-! no fault -/
theorem fR_ok {r : Int} (h : 0 ≤ r ∧ r < 4) : fR r = 0 := if_pos h
theorem fC_ok {c : Int} (h : 0 ≤ c ∧ c < 8) : fC c = 0 := if_pos h
theorem fP_ok {f : Int → Int} {r p : Int} (hr : 0 ≤ r ∧ r < 4) (hp : 0 ≤ p ∧ p < f (240 + r)) : fP f r p = 0 := if_pos ⟨hr, hp⟩
theorem fB_ok {f : Int → Int} {r p : Int} (hr : 0 ≤ r ∧ r < 4) (hp : 0 ≤ p ∧ p ≤ f (240 + r)) : fB f r p = 0 := if_pos ⟨hr, hp⟩
theorem fRR_ok {r o : Int} (hr : 0 ≤ r ∧ r < 4) (ho : 0 ≤ o ∧ o < 4) : fRR r o = 0 := if_pos ⟨hr, ho⟩
theorem fX_ok {f : Int → Int} {r x y : Int} (hr : 0 ≤ r ∧ r < 4) (h : 0 ≤ x ∧ x ≤ y ∧ y < f (240 + r)) : fX f r x y = 0 := by
  unfold fX; rw [if_neg (by omega), if_pos h.2.1]
/-! tangles and runs, a step -/
theorem tbs_step {f : Int → Int} {r p : Int} (hp : 0 ≤ p) : sI (fun q => tg f r (q - 1)) 1 (p + 1) = sI (fun q => tg f r (q - 1)) 1 p + tg f r (p - 1) := by
  by_cases h : 1 ≤ p
  · exact sI_snoc h
  · obtain rfl : p = 0 := by omega
    rw [sI_nil (by omega), sI_nil (by omega)]
    unfold tg
    rw [if_neg (by omega)]
    rfl
theorem lr_step {t : Int → Int} {x y p n w z : Int} (hp : p < n) (hw : w = t (p - 1)) (h : (w = 0 ∧ z = 1) ∨ (w = 1 ∧ z = y + 1)) : lrI t x y p n = lrI t (max x z) z (p + 1) n := by
  rcases h with ⟨h1, h2⟩ | ⟨h1, h2⟩
  · rw [lrI_0 hp (by omega), h2]
  · rw [lrI_1 hp (by omega), h2]
theorem tg_z {f : Int → Int} {r p : Int} (h : p ≤ 0) : 0 = tg f r (p - 1) := by unfold tg; rw [if_neg (by omega)]
theorem tg_y {f : Int → Int} {r p : Int} (h : 0 < p ∧ p < f (240 + r)) (e : f (r * 60 + (p - 1)) % 8 = f (r * 60 + p) % 8) : 1 = tg f r (p - 1) := by
  unfold tg; rw [show p - 1 + 1 = p by omega, if_pos ⟨by omega, h.2, e⟩]
theorem tg_n {f : Int → Int} {r p : Int} (e : f (r * 60 + (p - 1)) % 8 ≠ f (r * 60 + p) % 8) : 0 = tg f r (p - 1) := by
  unfold tg; rw [show p - 1 + 1 = p by omega, if_neg (fun h => e h.2.2)]
theorem tg_z2 {f : Int → Int} {r p : Int} (h : f (240 + r) ≤ p + 1) : 0 = tg f r p := by unfold tg; rw [if_neg (by omega)]
theorem tg_y2 {f : Int → Int} {r p : Int} (h : 0 ≤ p ∧ p + 1 < f (240 + r)) (e : f (r * 60 + (p + 1)) % 8 = f (r * 60 + p) % 8) : 1 = tg f r p := by
  unfold tg; rw [if_pos ⟨h.1, h.2, e.symm⟩]
theorem tg_n2 {f : Int → Int} {r p : Int} (e : f (r * 60 + (p + 1)) % 8 ≠ f (r * 60 + p) % 8) : 0 = tg f r p := by
  unfold tg; rw [if_neg (fun h => e h.2.2.symm)]
theorem sc_zero {f : Int → Int} {r c : Int} (h : f (240 + r) = 0) : sc f r c = 0 := sI_nil (by omega)
/-- b before a in rank -/
theorem sg_rank {f : Int → Int} {r p w : Int} (hp : 0 ≤ p ∧ p < f (240 + r)) (hw : (p = 0 ∧ w = sgA f r p) ∨ (0 < p ∧ w = sgA f r (p - 1))) : (0 ≤ w ∧ w < f (240 + r)) ∧ (f (r * 60 + sgA f r p) / 8 < f (r * 60 + w) / 8 ∨ (f (r * 60 + w) / 8 = f (r * 60 + sgA f r p) / 8 ∧ w ≤ sgA f r p ∧ (0 < p → w < sgA f r p))) := by
  rcases hw with ⟨h1, h2⟩ | ⟨h1, h2⟩
  · rw [h2]
    exact ⟨(sgA_ok hp).2.1, Or.inr ⟨rfl, Int.le_refl _, fun h => absurd h (by omega)⟩⟩
  · rw [h2]
    refine ⟨(sgA_ok (f := f) (r := r) (k := p - 1) (by omega)).2.1, ?_⟩
    have h3 := sgA_ord (f := f) (r := r) (k := p) (by omega)
    unfold lgs at h3
    omega
theorem co_rank {f : Int → Int} {r k w : Int} (h : coA f r k ≠ -1) (hw : (k = 0 ∧ w = coA f r k) ∨ (0 < k ∧ w = coA f r (k - 1))) : (0 ≤ w ∧ w < 8) ∧ (sc f r (coA f r k) < sc f r w ∨ (sc f r w = sc f r (coA f r k) ∧ w ≤ coA f r k ∧ (0 < k → w < coA f r k))) := by
  rcases hw with ⟨h1, h2⟩ | ⟨h1, h2⟩
  · rw [h2]
    exact ⟨(coA_ok h).1, Or.inr ⟨rfl, Int.le_refl _, fun h => absurd h (by omega)⟩⟩
  · rw [h2]
    obtain ⟨h3, h4⟩ := coA_prev h h1
    refine ⟨(coA_ok h3).1, ?_⟩
    omega
theorem rg_sb {f : Int → Int} (hW : CW f) (hP : PW f) {r a b : Int} (hr : 0 ≤ r ∧ r < 4) (h : 0 ≤ a ∧ a ≤ b ∧ b ≤ f (240 + r)) : sI (lgs f r) a b = sb f r b - sb f r a := by
  have hn := (hW r hr).1
  rw [sb_eq hP hr hn.2 (p := b) (by omega), sb_eq hP hr hn.2 (p := a) (by omega), sI_app (g := lgs f r) (a := 0) (b := a) (c := b) h.1 h.2.1]
  omega
theorem sb_rg2 {f : Int → Int} (hW : CW f) (hP : PW f) {r a : Int} (hr : 0 ≤ r ∧ r < 4) (h : 0 ≤ a ∧ a ≤ f (240 + r)) : 0 ≤ sb f r a ∧ sb f r a ≤ 5940 := by
  rw [sb_eq hP hr (hW r hr).1.2 h]
  exact sum_rg hW hr ⟨by omega, h.2⟩
theorem tot_sI (f : Int → Int) : tot f = sI (sgl f) 0 4 := by
  show sgl f 0 + sgl f 1 + sgl f 2 + sgl f 3 = sgl f 0 + (sgl f 1 + (sgl f 2 + (sgl f 3 + 0)))
  omega
/-- a contract whose end is told by a relation, of a method that answers yes or no -/
theorem NX9Z_of {l : Launch} {y : MethodName} {b : ByteArray} {mL mc ms : Nat} {rm : Room} {E : EV} {av : List Value} {σ : SS} {REL : Int → SS → Prop} (own : String) (hown : y.cls = own) (hy : plainName y.cls = true) (L0 : List (Nat × Value)) (hL : lv_args 0 av = L0) (hsl : (lg_sl av).length ≤ mL)
    (body : ∀ (p : Program) (e : Env) (s : State) (m : MethodId) (args : Array Value) (below : List Frame) (meth : Method) (c : Code) (Q : State → Prop) (A : Nat → Prop), CX p l e rm s m args below meth c own b mL E A (some .boolean) → (∀ (k n pc : Nat) (L : List (Nat × Value)) (v : Int) (σ' : SS), k ≤ mc → n ≤ ms → decode b pc = .ok (.ireturn, 1) → (v = 0 ∨ v = 1) → REL v σ' → GG p l e rm s m args below meth c Q E A mL σ' k n pc L [.int (iI v)]) → GG p l e rm s m args below meth c Q E A mL σ 0 0 0 L0 []) : NX9 l y (cw y b mL (some .boolean)) rm E av σ REL mc ms := by
  intro sz
  refine Met.ofW (cc := b) (maxL := mL) (ret := some .boolean) hy rfl ?_
  intro p e s m args below meth c s₁ B hml hv
  obtain ⟨rfl, hsz, hP, hK, hE, hap⟩ := hv
  subst hsz; subst hown; subst hL
  have hts := atoms_spec (ws := cw y b mL (some .boolean)) B.pre
  have C : CX p l e rm s m av.toArray below meth c y.cls b mL E (aA E s.heap.size) (some .boolean) := ⟨B.exec, B.bytes, hml, findClass_of_methodNamed B.named, fun w h => hts w (List.mem_cons_of_mem _ h), B.notSynchronized, hK, hE, hap, fun k hk => Or.inl ⟨k, hk, rfl⟩, fun q h => Or.inr h, B.returns⟩
  have hl := lv_entry av (n := mL) hsl
  rw [lg_entry_eq]
  refine body p e s m av.toArray below meth c _ _ C (fun pk pn pc L v σ' hk hn d hz hr => g_wide hk hn ?_) s.heap [] _ hl hP va_S.rf
  intro H locs ls hl hP hS
  exact W.zret (v := iI v) C.exec C.code C.ret (by rcases hz with rfl | rfl <;> decide) (fun t ht hW => ⟨⟨iI v, (v, σ'), rfl, ⟨rfl, hr⟩, by show va_P _ _ _ t.heap; rw [ht]; exact hP⟩, hS.F ht⟩) hS.2.2 d C.locks
