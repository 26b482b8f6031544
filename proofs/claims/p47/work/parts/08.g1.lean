abbrev sN : Nat := 32
def sT : List (String × Nat × String × Nat) := [("RibbonQuarry", 242, "there is no such reel or position", 0), ("RibbonQuarry", 244, "an argument is out of range", 1), ("RibbonQuarry", 246, "the reels do not allow it", 2), ("RibbonQuarryLaw", 244, "add ", 3), ("RibbonQuarryLaw", 252, " ", 4), ("RibbonQuarryLaw", 254, "c", 5), ("RibbonQuarryLaw", 256, ";join ", 6), ("RibbonQuarryLaw", 258, "<", 7), ("java/util/Arrays", 337, " > ", 8), ("RibbonQuarryLaw", 264, ";swap ", 9), ("RibbonQuarryLaw", 266, ";flip ", 10), ("RibbonQuarryLaw", 268, "@0-", 11), ("RibbonQuarryLaw", 270, ";", 12), ("RibbonQuarry", 148, "the code of the character is not from 32 to 126", 13), ("RibbonQuarry", 159, "the command text has 60 characters", 14), ("RibbonQuarry$Commands", 73, "add D NC", 15), ("RibbonQuarry$Commands", 75, "put D@N NC", 16), ("RibbonQuarry$Commands", 77, "drop D@N", 17), ("RibbonQuarry$Commands", 79, "tie D@N=N", 18), ("RibbonQuarry$Commands", 81, "cut D@N>D", 19), ("RibbonQuarry$Commands", 83, "join D<D", 20), ("RibbonQuarry$Commands", 85, "swap DD", 21), ("RibbonQuarry$Commands", 87, "flip D@N-N", 22), ("RibbonQuarry$Commands", 89, "dye D@N-N C", 23), ("RibbonQuarry$Commands", 91, "", 24), ("RibbonQuarry", 173, "the text is not a command text", 25), ("RibbonQuarry", 185, "a command fails", 26), ("RibbonQuarry", 250, "there is no such element", 27), ("RibbonQuarry", 221, "the reel has no segments", 28), ("RibbonQuarry", 212, "there is no such index in the line", 29), ("RibbonQuarry", 228, "there is no change to undo", 30), ("RibbonQuarry", 237, "there is no snapshot", 31)]
def sL : List Nat := [33, 27, 25, 4, 1, 1, 6, 1, 3, 6, 6, 3, 1, 47, 34, 8, 10, 8, 9, 9, 8, 7, 10, 11, 0, 30, 15, 24, 24, 34, 26, 20]
def sB : List (List Int32) := [[116, 104, 101, 114, 101, 32, 105, 115, 32, 110, 111, 32, 115, 117, 99, 104, 32, 114, 101, 101, 108, 32, 111, 114, 32, 112, 111, 115, 105, 116, 105, 111, 110], [97, 110, 32, 97, 114, 103, 117, 109, 101, 110, 116, 32, 105, 115, 32, 111, 117, 116, 32, 111, 102, 32, 114, 97, 110, 103, 101], [116, 104, 101, 32, 114, 101, 101, 108, 115, 32, 100, 111, 32, 110, 111, 116, 32, 97, 108, 108, 111, 119, 32, 105, 116], [97, 100, 100, 32], [32], [99], [59, 106, 111, 105, 110, 32], [60], [32, 62, 32], [59, 115, 119, 97, 112, 32], [59, 102, 108, 105, 112, 32], [64, 48, 45], [59], [116, 104, 101, 32, 99, 111, 100, 101, 32, 111, 102, 32, 116, 104, 101, 32, 99, 104, 97, 114, 97, 99, 116, 101, 114, 32, 105, 115, 32, 110, 111, 116, 32, 102, 114, 111, 109, 32, 51, 50, 32, 116, 111, 32, 49, 50, 54], [116, 104, 101, 32, 99, 111, 109, 109, 97, 110, 100, 32, 116, 101, 120, 116, 32, 104, 97, 115, 32, 54, 48, 32, 99, 104, 97, 114, 97, 99, 116, 101, 114, 115], [97, 100, 100, 32, 68, 32, 78, 67], [112, 117, 116, 32, 68, 64, 78, 32, 78, 67], [100, 114, 111, 112, 32, 68, 64, 78], [116, 105, 101, 32, 68, 64, 78, 61, 78], [99, 117, 116, 32, 68, 64, 78, 62, 68], [106, 111, 105, 110, 32, 68, 60, 68], [115, 119, 97, 112, 32, 68, 68], [102, 108, 105, 112, 32, 68, 64, 78, 45, 78], [100, 121, 101, 32, 68, 64, 78, 45, 78, 32, 67], [], [116, 104, 101, 32, 116, 101, 120, 116, 32, 105, 115, 32, 110, 111, 116, 32, 97, 32, 99, 111, 109, 109, 97, 110, 100, 32, 116, 101, 120, 116], [97, 32, 99, 111, 109, 109, 97, 110, 100, 32, 102, 97, 105, 108, 115], [116, 104, 101, 114, 101, 32, 105, 115, 32, 110, 111, 32, 115, 117, 99, 104, 32, 101, 108, 101, 109, 101, 110, 116], [116, 104, 101, 32, 114, 101, 101, 108, 32, 104, 97, 115, 32, 110, 111, 32, 115, 101, 103, 109, 101, 110, 116, 115], [116, 104, 101, 114, 101, 32, 105, 115, 32, 110, 111, 32, 115, 117, 99, 104, 32, 105, 110, 100, 101, 120, 32, 105, 110, 32, 116, 104, 101, 32, 108, 105, 110, 101], [116, 104, 101, 114, 101, 32, 105, 115, 32, 110, 111, 32, 99, 104, 97, 110, 103, 101, 32, 116, 111, 32, 117, 110, 100, 111], [116, 104, 101, 114, 101, 32, 105, 115, 32, 110, 111, 32, 115, 110, 97, 112, 115, 104, 111, 116]]
/-! the state of the whole system as one function of object and place; the world, the judgement GG -/
abbrev SS : Type := Nat → Int → Int
abbrev DYN : Type := Option (Nat × Nat × Nat × (Nat → Int32))
abbrev SCR : Type := Nat × Nat × (Nat → Int32)
/-- the world's numbers: the class numbers, the objects' cells, the array classes, the strings' cells and their bytes' cells, the script, a string that was made -/
abbrev EV : Type := va_G × (Nat → Nat) × (Nat → ClassId) × (Nat → Nat) × (Nat → Nat) × SCR × DYN
abbrev ea (E : EV) (k : Nat) : Nat := E.2.1 k
abbrev ec (E : EV) (k : Nat) : ClassId := E.2.2.1 k
abbrev ek (E : EV) (k : Nat) : Nat := E.2.2.2.1 k
def st (σ : SS) (o : Nat) (f : Int → Int) : SS := fun q => if q = o then f else σ q
def pt (f : Int → Int) (k z : Int) : Int → Int := fun j => if j = k then z else f j
theorem st_s (σ : SS) (o : Nat) (f : Int → Int) : st σ o f o = f := if_pos rfl
theorem st_n (σ : SS) {o q : Nat} (f : Int → Int) (h : q ≠ o) : st σ o f q = σ q := if_neg h
theorem st_st (σ : SS) (o : Nat) (f g : Int → Int) : st (st σ o f) o g = st σ o g := by
  funext q; unfold st; by_cases h : q = o <;> simp [h]
theorem st_id (σ : SS) (o : Nat) : st σ o (σ o) = σ := by
  funext q; unfold st; by_cases h : q = o <;> simp [h]
theorem st_cm (σ : SS) {o q : Nat} (f g : Int → Int) (h : o ≠ q) : st (st σ o f) q g = st (st σ q g) o f := by
  funext x; unfold st
  by_cases h1 : x = o
  · subst h1; simp [h]
  · simp [h1]
theorem pt_s (f : Int → Int) (k z : Int) : pt f k z k = z := if_pos rfl
theorem pt_n (f : Int → Int) {k j : Int} (z : Int) (h : j ≠ k) : pt f k z j = f j := if_neg h
theorem pt_pt (f : Int → Int) (k a b : Int) : pt (pt f k a) k b = pt f k b := by
  funext x; unfold pt; by_cases h : x = k <;> simp [h]
theorem pt_cm (f : Int → Int) {k j : Int} (a b : Int) (h : k ≠ j) : pt (pt f k a) j b = pt (pt f j b) k a := by
  funext x; unfold pt
  by_cases h1 : x = k
  · subst h1; simp [h]
  · simp [h1]
def af (f : Int → Int) : Nat → Int32 := fun j => iI (f j)
def afL (f : Int → Int) : Nat → Int64 := fun j => iL (f j)
def afD (f : Int → Int) : Nat → UInt64 := fun j => iD (f j)
abbrev gcl : List vw_C := [(RX0, TX0, 7), (RX1, TX1, 3), (RX2, TX2, 2), (RX3, TX3, 1), (RX4, TX4, 9), (RJ4, TJ4, 4), (RJ0, TJ0, 4)]
abbrev tys (E : EV) : List (ClassId × FieldType) := [(ec E 0, .int), (ec E 1, .char), (ec E 2, .long)]
def Wd (E : EV) (σ : SS) : va_W := [
  (ea E 0, .inr (4, [.ref (ea E 1), .ref (ea E 3), .ref (ea E 4), .int (iI (σ 0 3)), .ref (ea E 5), .ref (ea E 7), .ref (ea E 11), .int (iI (σ 0 7)), .int (iI (σ 0 8))])),
  (ea E 1, .inr (3, [.ref (ea E 2)])),
  (ea E 2, .inl (ec E 0, 310, .inl (af (σ 2)))),
  (ea E 3, .inl (ec E 0, 310, .inl (af (σ 3)))),
  (ea E 4, .inl (ec E 0, 310, .inl (af (σ 4)))),
  (ea E 5, .inr (1, [.ref (ea E 6), .int (iI (σ 5 1)), .int (iI (σ 5 2))])),
  (ea E 6, .inl (ec E 0, 2480, .inl (af (σ 6)))),
  (ea E 7, .inr (0, [.ref (ea E 8), .int (iI (σ 7 1)), .int (iI (σ 7 2)), .ref (ea E 9), .ref (ea E 10), .int (iI (σ 7 5)), .int (iI (σ 7 6))])),
  (ea E 8, .inl (ec E 1, 60, .inl (af (σ 8)))),
  (ea E 9, .inl (ec E 0, 8, .inl (af (σ 9)))),
  (ea E 10, .inl (ec E 0, 32, .inl (af (σ 10)))),
  (ea E 11, .inr (2, [.ref (ea E 12), .int (iI (σ 11 1))])),
  (ea E 12, .inl (ec E 1, 240, .inl (af (σ 12)))),
  (ea E 13, .inl (ec E 2, 70, .inr (.inl (afL (σ 13)))))]
def aA (E : EV) (sz : Nat) : Nat → Prop := fun q => (∃ k : Nat, k < 14 ∧ q = ea E k) ∨ sz ≤ q
theorem Wd_len (E : EV) (σ : SS) : (Wd E σ).length = 14 := rfl
theorem Wd_ad (E : EV) (σ : SS) : ∀ k, k < 14 → ((Wd E σ)[k]?).map (fun q => q.1) = some (ea E k) := by
  intro k hk
  rcases (show k = 0 ∨ k = 1 ∨ k = 2 ∨ k = 3 ∨ k = 4 ∨ k = 5 ∨ k = 6 ∨ k = 7 ∨ k = 8 ∨ k = 9 ∨ k = 10 ∨ k = 11 ∨ k = 12 ∨ k = 13 by omega) with h | h | h | h | h | h | h | h | h | h | h | h | h | h <;> subst h <;> rfl
theorem Wd_adr {E : EV} {σ : SS} {k : Nat} {q : Nat × va_E} (h : (Wd E σ)[k]? = some q) : k < 14 ∧ q.1 = ea E k := by
  have hk : k < 14 := by
    have := (List.getElem?_eq_some_iff.mp h).1
    rw [Wd_len] at this
    exact this
  refine ⟨hk, ?_⟩
  have h2 := Wd_ad E σ k hk
  rw [h] at h2
  exact Option.some.inj h2
theorem Wd_D {E : EV} {A : Nat → Prop} (hi : ∀ i j : Nat, i < 14 → j < 14 → ea E i = ea E j → i = j) (hA : ∀ k, k < 14 → A (ea E k)) (σ : SS) : va_D A (Wd E σ) := by
  refine ⟨fun i j p q hp hq e => ?_, fun k q hq => ?_⟩
  · obtain ⟨h1, h2⟩ := Wd_adr hp
    obtain ⟨h3, h4⟩ := Wd_adr hq
    exact hi i j h1 h3 (by rw [← h2, ← h4]; exact e)
  · obtain ⟨h1, h2⟩ := Wd_adr hq
    rw [h2]; exact hA k h1
theorem Wd_get {E : EV} {σ : SS} {k : Nat} (hk : k < 14) : ∃ e, (Wd E σ)[k]? = some (ea E k, e) := by
  have h := Wd_ad E σ k hk
  cases hq : (Wd E σ)[k]? with
  | none => rw [hq] at h; cases h
  | some q =>
    rw [hq] at h
    refine ⟨q.2, ?_⟩
    rw [← Option.some.inj h]
theorem Wd_lt {D : va_G} {cl : List vw_C} {E : EV} {σ : SS} {H : Heap} (h : va_P D cl (Wd E σ) H) {k : Nat} (hk : k < 14) : ea E k < H.size := by
  obtain ⟨e, he⟩ := Wd_get (E := E) (σ := σ) hk
  exact (h k _ he).lt
def isNest : Cond → Bool
  | .methodLinkNest .. => true
  | .fieldLinkNest .. => true
  | _ => false
def sbS : List Cond := [Cond.selects RJ4 yJ5_ensureCapacityInternal_d00df yJ5_ensureCapacityInternal_d00df, Cond.selects RJ4 yJ5_newCapacity_0f7a4 yJ5_newCapacity_0f7a4, Cond.selects RJ4 yJ5_putStringAt_47b60 yJ5_putStringAt_47b60, Cond.selects RJ4 yJ5_inflateIfNeededFor_a7421 yJ5_inflateIfNeededFor_a7421]
def WA : List Cond := (k2_sels lw_privs ++ (tables_1 ++ sbS)).filter goodWord
theorem WA_good : ∀ w ∈ WA, goodWord w = true := fun _ h => (List.mem_filter.mp h).2
theorem WA_in {w : Cond} (h : w ∈ tables_1) (hg : goodWord w = true) : w ∈ WA := List.mem_filter.mpr ⟨List.mem_append_right _ (List.mem_append_left _ h), hg⟩
theorem WA_ok : ∀ ws : List Cond, (∀ w ∈ ws, w ∈ WA) → GoodIn WA ws := fun ws h w hw => ⟨h w hw, good_of_word (WA_good w (h w hw))⟩
def cw (y : MethodName) (b : ByteArray) (mL : Nat) (ret : Option FieldType) : List Cond := Cond.code y b mL ret :: WA
abbrev strT : Type := List (String × Nat × String × Nat)
/-- the string constants' cells -/
def SH (E : EV) (A : Nat → Prop) (U : State) (H : Heap) : Prop := ∀ i : Nat, i < sN → va_O "java/lang/String" (ek E i) A U H ∧ va_OF "java/lang/String" "coder" "B" (.int 0) (ek E i) A U H ∧ va_OF "java/lang/String" "value" "[B" (.ref (E.2.2.2.2.1 i)) (ek E i) A U H ∧ va_T .byte (E.2.2.2.2.1 i) (sL.getD i 0) (fun j => .int ((sB.getD i []).getD j 0)) A U H
abbrev xIOOBE : String := "java/lang/IndexOutOfBoundsException"
abbrev xIAE : String := "java/lang/IllegalArgumentException"
abbrev xISE : String := "java/lang/IllegalStateException"
abbrev xNSEE : String := "java/util/NoSuchElementException"
abbrev xAE : String := "java/lang/ArithmeticException"
/-- rows of the tables that aren't kept by every word's law; of the loaded classes all the same -/
abbrev vxw : List Cond := [.declares (Bundle.initS "java/lang/Throwable"), .declares (Bundle.initS "java/lang/Exception"), .declares (Bundle.initS "java/lang/RuntimeException"), .castable xIOOBE xIOOBE, .castable xIAE xIAE, .castable xISE xISE, .castable xNSEE xNSEE, .castable xAE xAE, .castable "[B" "java/lang/Cloneable"]
abbrev ncs : List (String × String) := [(xIAE, xIOOBE), (xISE, xIOOBE), (xISE, xIAE), (xNSEE, xIOOBE), (xNSEE, xIAE), (xAE, xIOOBE), (xAE, xIAE)]
def isDC : Cond → Bool
  | .declares _ => true
  | .castable .. => true
  | _ => false
theorem isDC_warm {s U : State} {w : Cond} (hn : isDC w = true) (hW : s.WarmedH U.vm) (h : va_Nw w s) : va_Nw w U := by
  cases w <;> first | (exact va_Nw.warmD hW h) | (exact va_Nw.warmC hW h) | (cases hn)
theorem isDC_tab {w : Cond} (hn : isDC w = true) : w.onTables = true := by
  cases w <;> first | rfl | (cases hn)
theorem vxw_DC : ∀ w ∈ vxw, isDC w = true := by
  intro w hw
  simp only [List.mem_cons, List.not_mem_nil, or_false] at hw
  rcases hw with rfl | rfl | rfl | rfl | rfl | rfl | rfl | rfl | rfl <;> rfl
/-- what stays true of the tables, and of cells outside A -/
def EK (E : EV) (U : State) : Prop := va_K E.1 gcl (tys E) U ∧ (∀ w ∈ tables_1, isNest w = true → va_Nw w U) ∧ (∀ q ∈ sT, vk_R q.1 q.2.1 q.2.2.1 (ek E q.2.2.2) U) ∧ (∀ w ∈ vxw, va_Nw w U) ∧ ∀ q ∈ ncs, va_Nc q.1 q.2 U
abbrev pcN : String := "jdk/internal/util/Preconditions"
abbrev bfD : String := "Ljava/util/function/BiFunction;"
/-- the script's cells -/
def FS (b N : Nat) (xs : Nat → Int32) (A : Nat → Prop) (U : State) (H : Heap) : Prop := va_X b N xs U H ∧ b < H.size ∧ ¬ A b
theorem FS.moved {b N : Nat} {xs : Nat → Int32} {A : Nat → Prop} {u U : State} {H : Heap} (hvm : u.vm.Alike U.vm) (h : FS b N xs A u H) : FS b N xs A U H := ⟨va_X.moved hvm h.1, h.2⟩
theorem FS.kept {b N : Nat} {xs : Nat → Int32} {A : Nat → Prop} {U : State} {H H1 : Heap} (h : FS b N xs A U H) (hq : ∀ a : Nat, a < H.size → ¬ A a → H1[a]? = H[a]?) : FS b N xs A U H1 := by
  have h1 := h.1.kept (hq b h.2.1 h.2.2)
  obtain ⟨cl, h2, -⟩ := h1
  exact ⟨h.1.kept (hq b h.2.1 h.2.2), (Array.getElem?_eq_some_iff.mp h2).1, h.2.2⟩
theorem FS.narrow {b N : Nat} {xs : Nat → Int32} {A B : Nat → Prop} {U : State} {H : Heap} (h : FS b N xs A U H) (hAB : ∀ q, B q → A q) : FS b N xs B U H := ⟨h.1, h.2.1, fun z => h.2.2 (hAB b z)⟩
/-- a string's cells -/
def SQ (q v n : Nat) (f : Nat → Int32) (A : Nat → Prop) (U : State) (H : Heap) : Prop := va_O "java/lang/String" q A U H ∧ va_OF "java/lang/String" "coder" "B" (.int 0) q A U H ∧ va_OF "java/lang/String" "value" "[B" (.ref v) q A U H ∧ va_T .byte v n (fun j => .int (f j)) A U H
def DY (d : DYN) (A : Nat → Prop) (U : State) (H : Heap) : Prop := ∀ q v n f, d = some (q, v, n, f) → SQ q v n f A U H
theorem DY.moved {d : DYN} {A : Nat → Prop} {u U : State} {H : Heap} (hvm : u.vm.Alike U.vm) (h : DY d A u H) : DY d A U H :=
  fun q v n f hi => ⟨va_O.moved hvm (h q v n f hi).1, va_OF.moved hvm (h q v n f hi).2.1, va_OF.moved hvm (h q v n f hi).2.2.1, va_T.moved hvm (h q v n f hi).2.2.2⟩
theorem DY.kept {d : DYN} {A : Nat → Prop} {U : State} {H H1 : Heap} (h : DY d A U H) (hq : ∀ a : Nat, a < H.size → ¬ A a → H1[a]? = H[a]?) : DY d A U H1 :=
  fun q v n f hi => ⟨(h q v n f hi).1.kept hq, (h q v n f hi).2.1.kept hq, (h q v n f hi).2.2.1.kept hq, (h q v n f hi).2.2.2.kept hq⟩
theorem DY.narrow {d : DYN} {A B : Nat → Prop} {U : State} {H : Heap} (h : DY d A U H) (hAB : ∀ q, B q → A q) : DY d B U H :=
  fun q v n f hi => ⟨(h q v n f hi).1.narrow hAB, (h q v n f hi).2.1.narrow hAB, (h q v n f hi).2.2.1.narrow hAB, (h q v n f hi).2.2.2.narrow hAB⟩
/-- the script's cell, its length, its ints; the made string -/
abbrev eb (E : EV) : Nat := E.2.2.2.2.2.1.1
abbrev eN (E : EV) : Nat := E.2.2.2.2.2.1.2.1
abbrev eX (E : EV) : Nat → Int32 := E.2.2.2.2.2.1.2.2
abbrev ey (E : EV) : DYN := E.2.2.2.2.2.2
/-- the digits' tables of Integer -/
def DT (n : String) (g : Nat → Nat) (A : Nat → Prop) (U : State) (H : Heap) : Prop := ∃ a : Nat, va_Z "java/lang/Integer" n "[B" (.ref a) A U H ∧ va_T .byte a 100 (fun j => .int (iI (48 + g j : Nat))) A U H
theorem DT.moved {n : String} {g : Nat → Nat} {A : Nat → Prop} {u U : State} {H : Heap} (hvm : u.vm.Alike U.vm) (h : DT n g A u H) : DT n g A U H := by
  obtain ⟨a, h1, h2⟩ := h; exact ⟨a, va_Z.moved hvm h1, va_T.moved hvm h2⟩
theorem DT.kept {n : String} {g : Nat → Nat} {A : Nat → Prop} {U : State} {H H1 : Heap} (h : DT n g A U H) (hq : ∀ a : Nat, a < H.size → ¬ A a → H1[a]? = H[a]?) : DT n g A U H1 := by
  obtain ⟨a, h1, h2⟩ := h; exact ⟨a, h1.kept hq, h2.kept hq⟩
theorem DT.narrow {n : String} {g : Nat → Nat} {A B : Nat → Prop} {U : State} {H : Heap} (h : DT n g A U H) (hAB : ∀ q, B q → A q) : DT n g B U H := by
  obtain ⟨a, h1, h2⟩ := h; exact ⟨a, h1.narrow hAB, h2.narrow hAB⟩
abbrev dOne : Nat → Nat := fun j => j % 10
abbrev dTen : Nat → Nat := fun j => j / 10
def EH (E : EV) (A : Nat → Prop) (U : State) (H : Heap) : Prop :=
  vx_Zq Bundle.tN "UNASSIGNED_STACK" Bundle.steD A U H ∧ vx_Zq Bundle.tN "SUPPRESSED_SENTINEL" Bundle.listD A U H ∧ SH E A U H ∧ va_Z "java/lang/String" "COMPACT_STRINGS" "Z" (.int 1) A U H ∧ va_Zq pcN "SIOOBE_FORMATTER" bfD A U H ∧ DT "DigitOnes" dOne A U H ∧ DT "DigitTens" dTen A U H ∧ FS (eb E) (eN E) (eX E) A U H ∧ DY (ey E) A U H
theorem SH.moved {E : EV} {A : Nat → Prop} {u U : State} {H : Heap} (hvm : u.vm.Alike U.vm) (h : SH E A u H) : SH E A U H :=
  fun i hi => ⟨va_O.moved hvm (h i hi).1, va_OF.moved hvm (h i hi).2.1, va_OF.moved hvm (h i hi).2.2.1, va_T.moved hvm (h i hi).2.2.2⟩
theorem SH.kept {E : EV} {A : Nat → Prop} {U : State} {H H1 : Heap} (h : SH E A U H) (hq : ∀ a : Nat, a < H.size → ¬ A a → H1[a]? = H[a]?) : SH E A U H1 :=
  fun i hi => ⟨(h i hi).1.kept hq, (h i hi).2.1.kept hq, (h i hi).2.2.1.kept hq, (h i hi).2.2.2.kept hq⟩
theorem SH.narrow {E : EV} {A B : Nat → Prop} {U : State} {H : Heap} (h : SH E A U H) (hAB : ∀ q, B q → A q) : SH E B U H :=
  fun i hi => ⟨(h i hi).1.narrow hAB, (h i hi).2.1.narrow hAB, (h i hi).2.2.1.narrow hAB, (h i hi).2.2.2.narrow hAB⟩
theorem isNest_warm {s U : State} {w : Cond} (hn : isNest w = true) (hW : s.WarmedH U.vm) (h : va_Nw w s) : va_Nw w U := by
  cases w <;> first | (exact va_Nw.warmM hW h) | (exact va_Nw.warmF hW h) | (cases hn)
theorem isNest_tab {w : Cond} (hn : isNest w = true) : w.onTables = true := by
  cases w <;> first | rfl | (cases hn)
theorem EK.warm {E : EV} {s U : State} (hW : s.WarmedH U.vm) (h : EK E s) : EK E U :=
  ⟨va_K.moved hW.alike h.1, fun w hw hn => isNest_warm hn hW (h.2.1 w hw hn), fun q hq => vk_R.warm hW (h.2.2.1 q hq), fun w hw => isDC_warm (vxw_DC w hw) hW (h.2.2.2.1 w hw), fun q hq => va_Nc.moved hW.alike (h.2.2.2.2 q hq)⟩
theorem EK.same {E : EV} {s U : State} (hv : s.vm = U.vm) (h : EK E s) : EK E U :=
  ⟨va_K.moved (by rw [hv]; exact Vm.Alike.refl _) h.1, fun w hw hn => va_Nw.same (isNest_tab hn) hv (h.2.1 w hw hn), fun q hq => vk_R.same hv.symm (h.2.2.1 q hq), fun w hw => va_Nw.same (isDC_tab (vxw_DC w hw)) hv (h.2.2.2.1 w hw), fun q hq => va_Nc.moved (by rw [hv]; exact Vm.Alike.refl _) (h.2.2.2.2 q hq)⟩
section EHS
variable {E : EV}
theorem EH.moved {A : Nat → Prop} {u U : State} {H : Heap} (hvm : u.vm.Alike U.vm) (h : EH E A u H) : EH E A U H :=
  ⟨vx_Zq.moved hvm h.1, vx_Zq.moved hvm h.2.1, SH.moved hvm h.2.2.1, va_Z.moved hvm h.2.2.2.1, va_Zq.moved hvm h.2.2.2.2.1, DT.moved hvm h.2.2.2.2.2.1, DT.moved hvm h.2.2.2.2.2.2.1, FS.moved hvm h.2.2.2.2.2.2.2.1, DY.moved hvm h.2.2.2.2.2.2.2.2⟩
theorem EH.kept {A : Nat → Prop} {U : State} {H H1 : Heap} (h : EH E A U H) (hq : ∀ a : Nat, a < H.size → ¬ A a → H1[a]? = H[a]?) : EH E A U H1 :=
  ⟨h.1.kept hq, h.2.1.kept hq, h.2.2.1.kept hq, h.2.2.2.1.kept hq, h.2.2.2.2.1.kept hq, h.2.2.2.2.2.1.kept hq, h.2.2.2.2.2.2.1.kept hq, h.2.2.2.2.2.2.2.1.kept hq, h.2.2.2.2.2.2.2.2.kept hq⟩
theorem EH.narrow {A B : Nat → Prop} {U : State} {H : Heap} (h : EH E A U H) (hAB : ∀ q, B q → A q) : EH E B U H :=
  ⟨h.1.narrow hAB, h.2.1.narrow hAB, h.2.2.1.narrow hAB, h.2.2.2.1.narrow hAB, h.2.2.2.2.1.narrow hAB, h.2.2.2.2.2.1.narrow hAB, h.2.2.2.2.2.2.1.narrow hAB, h.2.2.2.2.2.2.2.1.narrow hAB, h.2.2.2.2.2.2.2.2.narrow hAB⟩
end EHS
def apart (E : EV) : Prop := ∀ i j : Nat, i < 14 → j < 14 → ea E i = ea E j → i = j
