/-! doubles and floats of small whole numbers: no NaN comes of them -/
def okD (f : FP.Core.Fmt) : FP.Core.Datum → Prop
  | .nan => False
  | .inf s => s = false
  | .fin s c q => s = false ∧ c < 2 ^ f.p ∧ q ≤ f.qmax
theorem qm_le {f : FP.Core.Fmt} (hf : f = FP.Core.b32 ∨ f = FP.Core.b64) : f.qmin ≤ f.qmax ∧ 0 < 2 ^ f.p ∧ f.tails < 2 ^ f.p := by
  rcases hf with rfl | rfl <;> decide
theorem rr_ok {f : FP.Core.Fmt} (hf : f = FP.Core.b32 ∨ f = FP.Core.b64) (num den : Nat) (e : Int) : okD f (FP.Core.roundRatio f false num den e) := by
  have hq := qm_le hf
  unfold FP.Core.roundRatio
  split
  · exact ⟨rfl, hq.2.1, hq.1⟩
  · unfold FP.Core.roundAt FP.Core.settle FP.Core.bound
    split
    · split
      · rename_i h1 h2; exact ⟨rfl, h1, h2⟩
      · exact rfl
    · split
      · rename_i h1 h2; exact ⟨rfl, hq.2.2, h2⟩
      · exact rfl
theorem enc64 {d : FP.Core.Datum} (h : okD FP.Core.b64 d) : FP.Core.encode FP.Core.b64 d ≤ 9218868437227405312 := by
  cases d with
  | nan => exact h.elim
  | inf s => have hs : s = false := h; subst hs; decide
  | fin s c q =>
    obtain ⟨hs, hc, hq⟩ := h
    subst hs
    have hc' : c < 9007199254740992 := hc
    have hq' : q ≤ 971 := hq
    show (if c < 4503599627370496 then (0 * 2048 + 0) * 4503599627370496 + c else (0 * 2048 + ((q - (-1074)).toNat + 1)) * 4503599627370496 + (c - 4503599627370496)) ≤ 9218868437227405312
    split <;> omega
theorem enc32 {d : FP.Core.Datum} (h : okD FP.Core.b32 d) : FP.Core.encode FP.Core.b32 d ≤ 2139095040 := by
  cases d with
  | nan => exact h.elim
  | inf s => have hs : s = false := h; subst hs; decide
  | fin s c q =>
    obtain ⟨hs, hc, hq⟩ := h
    subst hs
    have hc' : c < 16777216 := hc
    have hq' : q ≤ 104 := hq
    show (if c < 8388608 then (0 * 256 + 0) * 8388608 + c else (0 * 256 + ((q - (-149)).toNat + 1)) * 8388608 + (c - 8388608)) ≤ 2139095040
    split <;> omega
theorem vf64_of {v : Nat} (h : v ≤ 9218868437227405312) : vf_n64 (UInt64.ofNat v) := by
  unfold vf_n64
  rw [UInt64.le_iff_toNat_le, UInt64.toNat_and, UInt64.toNat_ofNat', Nat.mod_eq_of_lt (by omega)]
  show v &&& (2 ^ 63 - 1) ≤ 9218868437227405312
  rw [Nat.and_two_pow_sub_one_eq_mod]
  omega
theorem vf32_of {v : Nat} (h : v ≤ 2139095040) : vf_n32 (UInt32.ofNat v) := by
  unfold vf_n32
  rw [UInt32.le_iff_toNat_le, UInt32.toNat_and, UInt32.toNat_ofNat', Nat.mod_eq_of_lt (by omega)]
  show v &&& (2 ^ 31 - 1) ≤ 2139095040
  rw [Nat.and_two_pow_sub_one_eq_mod]
  omega
/-- plus and no NaN -/
def plD : FP.Core.Datum → Prop
  | .nan => False
  | .inf s => s = false
  | .fin s _ _ => s = false
theorem dec32 {v : Nat} (h : v ≤ 2139095040) : plD (FP.Core.decode FP.Core.b32 v) := by
  have e1 : FP.Core.fieldE FP.Core.b32 v = v / 8388608 % 256 := rfl
  have e2 : FP.Core.fieldT FP.Core.b32 v = v % 8388608 := rfl
  have e3 : FP.Core.fieldS FP.Core.b32 v = false := by
    show (v / 8388608 / 256 % 2 == 1) = false
    rw [show v / 8388608 / 256 % 2 = 0 by omega]; rfl
  unfold FP.Core.decode
  rw [e1, e2, e3]
  split
  · rename_i h1
    have h2 : v / 8388608 % 256 = 255 := h1
    rw [if_pos (by omega)]; exact rfl
  · split <;> exact rfl
theorem dec64 {v : Nat} (h : v ≤ 9218868437227405312) : plD (FP.Core.decode FP.Core.b64 v) := by
  have e1 : FP.Core.fieldE FP.Core.b64 v = v / 4503599627370496 % 2048 := rfl
  have e2 : FP.Core.fieldT FP.Core.b64 v = v % 4503599627370496 := rfl
  have e3 : FP.Core.fieldS FP.Core.b64 v = false := by
    show (v / 4503599627370496 / 2048 % 2 == 1) = false
    rw [show v / 4503599627370496 / 2048 % 2 = 0 by omega]; rfl
  unfold FP.Core.decode
  rw [e1, e2, e3]
  split
  · rename_i h1
    have h2 : v / 4503599627370496 % 2048 = 2047 := h1
    rw [if_pos (by omega)]; exact rfl
  · split <;> exact rfl
def finB (z : Nat) : FP.Core.Datum → Bool
  | .fin s c _ => s == false && (z == 0 || c != 0)
  | _ => false
theorem i2d_all : (List.range 6001).all (fun z => finB z (FP.Core.decode FP.Core.b64 (FP.i2d (iI z)).toNat)) = true := by decide +kernel
theorem i2f_all : (List.range 6001).all (fun z => finB z (FP.Core.decode FP.Core.b32 (FP.i2f (iI z)).toNat)) = true := by decide +kernel
theorem finB_of {z : Nat} {d : FP.Core.Datum} (h : finB z d = true) : ∃ c q, d = .fin false c q ∧ (z ≠ 0 → c ≠ 0) := by
  cases d with
  | nan => exact Bool.noConfusion (show false = true from h)
  | inf s => exact Bool.noConfusion (show false = true from h)
  | fin s c q =>
    have h' : (s == false && (z == 0 || c != 0)) = true := h
    simp only [Bool.and_eq_true, beq_iff_eq, Bool.or_eq_true, bne_iff_ne, ne_eq] at h'
    obtain ⟨rfl, h2⟩ := h'
    exact ⟨c, q, rfl, fun h3 => h2.resolve_left h3⟩
theorem i2d_fin {a : Int} (h : 0 ≤ a ∧ a ≤ 6000) : ∃ c q, FP.Core.decode FP.Core.b64 (FP.i2d (iI a)).toNat = .fin false c q ∧ (a ≠ 0 → c ≠ 0) := by
  obtain ⟨z, rfl⟩ : ∃ z : Nat, a = z := ⟨a.toNat, by omega⟩
  have h1 := List.all_eq_true.mp i2d_all z (List.mem_range.mpr (by omega))
  obtain ⟨c, q, h2, h3⟩ := finB_of h1
  exact ⟨c, q, h2, fun h4 => h3 (by omega)⟩
theorem i2f_fin {a : Int} (h : 0 ≤ a ∧ a ≤ 6000) : ∃ c q, FP.Core.decode FP.Core.b32 (FP.i2f (iI a)).toNat = .fin false c q ∧ (a ≠ 0 → c ≠ 0) := by
  obtain ⟨z, rfl⟩ : ∃ z : Nat, a = z := ⟨a.toNat, by omega⟩
  have h1 := List.all_eq_true.mp i2f_all z (List.mem_range.mpr (by omega))
  obtain ⟨c, q, h2, h3⟩ := finB_of h1
  exact ⟨c, q, h2, fun h4 => h3 (by omega)⟩
theorem dv64 {a b : Int} (ha : 0 ≤ a ∧ a ≤ 6000) (hb : 1 ≤ b ∧ b ≤ 6000) : ∃ v : Nat, FP.ddiv (FP.i2d (iI a)) (FP.i2d (iI b)) = UInt64.ofNat v ∧ v ≤ 9218868437227405312 := by
  obtain ⟨c, q, h1, _⟩ := i2d_fin ha
  obtain ⟨d, r, h2, h3⟩ := i2d_fin (a := b) (by omega)
  refine ⟨FP.Core.div FP.Core.b64 (FP.i2d (iI a)).toNat (FP.i2d (iI b)).toNat, rfl, ?_⟩
  unfold FP.Core.div
  rw [h1, h2]
  refine enc64 ?_
  show okD FP.Core.b64 (if d = 0 then (if c = 0 then .nan else .inf (false != false)) else FP.Core.roundRatio FP.Core.b64 (false != false) c d (q - r))
  rw [if_neg (h3 (by omega))]
  exact rr_ok (Or.inr rfl) _ _ _
theorem dv32 {a b : Int} (ha : 0 ≤ a ∧ a ≤ 6000) (hb : 1 ≤ b ∧ b ≤ 6000) : ∃ v : Nat, FP.fdiv (FP.i2f (iI a)) (FP.i2f (iI b)) = UInt32.ofNat v ∧ v ≤ 2139095040 := by
  obtain ⟨c, q, h1, _⟩ := i2f_fin ha
  obtain ⟨d, r, h2, h3⟩ := i2f_fin (a := b) (by omega)
  refine ⟨FP.Core.div FP.Core.b32 (FP.i2f (iI a)).toNat (FP.i2f (iI b)).toNat, rfl, ?_⟩
  unfold FP.Core.div
  rw [h1, h2]
  refine enc32 ?_
  show okD FP.Core.b32 (if d = 0 then (if c = 0 then .nan else .inf (false != false)) else FP.Core.roundRatio FP.Core.b32 (false != false) c d (q - r))
  rw [if_neg (h3 (by omega))]
  exact rr_ok (Or.inl rfl) _ _ _
theorem nn64 {a b : Int} (ha : 0 ≤ a ∧ a ≤ 6000) (hb : 1 ≤ b ∧ b ≤ 6000) : vf_n64 (FP.ddiv (FP.i2d (iI a)) (FP.i2d (iI b))) := by
  obtain ⟨v, h1, h2⟩ := dv64 ha hb
  rw [h1]; exact vf64_of h2
theorem nn32 {a b : Int} (ha : 0 ≤ a ∧ a ≤ 6000) (hb : 1 ≤ b ∧ b ≤ 6000) : vf_n32 (FP.fdiv (FP.i2f (iI a)) (FP.i2f (iI b))) := by
  obtain ⟨v, h1, h2⟩ := dv32 ha hb
  rw [h1]; exact vf32_of h2
theorem f2d_v {w : UInt32} (h : w.toNat ≤ 2139095040) : ∃ v : Nat, FP.f2d w = UInt64.ofNat v ∧ v ≤ 9218868437227405312 := by
  have hd := dec32 h
  have hn : FP.Core.fIsNaN w = false := by
    show decide (FP.Core.decode FP.Core.b32 w.toNat = .nan) = false
    rw [decide_eq_false_iff_not]
    intro h9; rw [h9] at hd; exact hd
  refine ⟨FP.Core.convert FP.Core.b32 FP.Core.b64 w.toNat, ?_, ?_⟩
  · unfold FP.f2d; rw [hn]; rfl
  · unfold FP.Core.convert
    refine enc64 ?_
    revert hd
    cases FP.Core.decode FP.Core.b32 w.toNat with
    | nan => intro hd; exact hd.elim
    | inf s => intro hd; exact hd
    | fin s c q => intro hd; have hs : s = false := hd; subst hs; exact rr_ok (Or.inr rfl) _ _ _
theorem nnc {a b : Int} (ha : 0 ≤ a ∧ a ≤ 6000) (hb : 1 ≤ b ∧ b ≤ 6000) : ∃ v : Nat, FP.f2d (FP.fdiv (FP.i2f (iI a)) (FP.i2f (iI b))) = UInt64.ofNat v ∧ v ≤ 9218868437227405312 := by
  obtain ⟨v, h1, h2⟩ := dv32 ha hb
  rw [h1]
  exact f2d_v (by rw [UInt32.toNat_ofNat', Nat.mod_eq_of_lt (by omega)]; exact h2)
theorem dcmp_self {v : Nat} (h : v ≤ 9218868437227405312) : FP.dcmp (UInt64.ofNat v) (UInt64.ofNat v) = some .eq := by
  have hd := dec64 h
  show FP.Core.order (FP.Core.decode FP.Core.b64 (UInt64.ofNat v).toNat) (FP.Core.decode FP.Core.b64 (UInt64.ofNat v).toNat) = some .eq
  rw [UInt64.toNat_ofNat', Nat.mod_eq_of_lt (by omega)]
  revert hd
  cases FP.Core.decode FP.Core.b64 v with
  | nan => intro hd; exact hd.elim
  | inf s => intro hd; have hs : s = false := hd; subst hs; decide
  | fin s c q => intro _; simp [FP.Core.order, compare, compareOfLessAndEq]
