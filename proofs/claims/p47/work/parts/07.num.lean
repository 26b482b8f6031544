/-! numbers: every int of the machine is written iI z, z an Int -/
def iI (z : Int) : Int32 := Int32.ofInt z
def iL (z : Int) : Int64 := Int64.ofInt z
def iD (z : Int) : UInt64 := UInt64.ofNat z.toNat
theorem iI_of (x : Int32) : iI x.toInt = x := Int32.ofInt_toInt x
theorem iI_rg (x : Int32) : -2147483648 ≤ x.toInt ∧ x.toInt ≤ 2147483647 := by
  have h1 := Int32.le_toInt x
  have h2 := Int32.toInt_lt x
  omega
theorem iI_toInt {z : Int} (h : -2147483648 ≤ z ∧ z ≤ 2147483647) : (iI z).toInt = z := Int32.toInt_ofInt_of_le (by omega) (by omega)
theorem iI_add (a b : Int) : iI a + iI b = iI (a + b) := (Int32.ofInt_add a b).symm
theorem iI_sub (a b : Int) : iI a - iI b = iI (a - b) := (Int32.ofInt_sub a b).symm
theorem iI_mul (a b : Int) : iI a * iI b = iI (a * b) := (Int32.ofInt_mul a b).symm
theorem iI_lt {a b : Int} (h : -2147483648 ≤ a ∧ a ≤ 2147483647 ∧ -2147483648 ≤ b ∧ b ≤ 2147483647) : iI a < iI b ↔ a < b := by
  rw [Int32.lt_iff_toInt_lt, iI_toInt ⟨h.1, h.2.1⟩, iI_toInt h.2.2]
theorem iI_le {a b : Int} (h : -2147483648 ≤ a ∧ a ≤ 2147483647 ∧ -2147483648 ≤ b ∧ b ≤ 2147483647) : iI a ≤ iI b ↔ a ≤ b := by
  rw [Int32.le_iff_toInt_le, iI_toInt ⟨h.1, h.2.1⟩, iI_toInt h.2.2]
theorem iI_eq {a b : Int} (h : -2147483648 ≤ a ∧ a ≤ 2147483647 ∧ -2147483648 ≤ b ∧ b ≤ 2147483647) : iI a = iI b ↔ a = b := by
  rw [← Int32.toInt_inj, iI_toInt ⟨h.1, h.2.1⟩, iI_toInt h.2.2]
theorem iI_0 : iI 0 = 0 := by decide
theorem iI_1 : iI 1 = 1 := by decide
theorem iI_ne0 {a : Int} (h : -2147483648 ≤ a ∧ a ≤ 2147483647) : iI a = 0 ↔ a = 0 := by
  rw [← iI_0]; exact iI_eq (by omega)
theorem iI_lt0 {a : Int} (h : -2147483648 ≤ a ∧ a ≤ 2147483647) : iI a < 0 ↔ a < 0 := by
  rw [← iI_0]; exact iI_lt (by omega)
theorem iI_le0 {a : Int} (h : -2147483648 ≤ a ∧ a ≤ 2147483647) : iI a ≤ 0 ↔ a ≤ 0 := by
  rw [← iI_0]; exact iI_le (by omega)
theorem iI_0lt {a : Int} (h : -2147483648 ≤ a ∧ a ≤ 2147483647) : 0 < iI a ↔ 0 < a := by
  rw [← iI_0]; exact iI_lt (by omega)
theorem iI_0le {a : Int} (h : -2147483648 ≤ a ∧ a ≤ 2147483647) : 0 ≤ iI a ↔ 0 ≤ a := by
  rw [← iI_0]; exact iI_le (by omega)
theorem iI_div {a d : Int} (h : 0 ≤ a ∧ a ≤ 2147483647) (hd : 0 < d ∧ d ≤ 2147483647) : iI a / iI d = iI (a / d) := by
  have h1 : a / d = a.tdiv d := (Int.tdiv_eq_ediv_of_nonneg h.1).symm
  have h2 : iI a ≠ Int32.minValue := by
    intro e
    have := congrArg Int32.toInt e
    rw [iI_toInt (by omega)] at this
    have h9 : Int32.minValue.toInt = -2147483648 := by decide
    omega
  rw [← Int32.toInt_inj, Int32.toInt_div_of_ne_left _ _ h2, iI_toInt (by omega), iI_toInt (by omega), ← h1, iI_toInt]
  have h3 : 0 ≤ a / d := Int.ediv_nonneg h.1 (by omega)
  have h4 : a / d ≤ a := Int.ediv_le_self d h.1
  omega
theorem iI_rem {a d : Int} (h : 0 ≤ a ∧ a ≤ 2147483647) (hd : 0 < d ∧ d ≤ 2147483647) : iI a - iI a / iI d * iI d = iI (a % d) := by
  rw [iI_div h hd, iI_mul, iI_sub]
  congr 1
  have := Int.emod_def a d
  rw [Int.mul_comm] at this
  omega
theorem iI_min {a b : Int} (h : -2147483648 ≤ a ∧ a ≤ 2147483647 ∧ -2147483648 ≤ b ∧ b ≤ 2147483647) : (if iI b < iI a then iI b else iI a) = iI (min a b) := by
  have h1 : iI b < iI a ↔ b < a := iI_lt (by omega)
  by_cases h2 : b < a
  · rw [if_pos (h1.mpr h2)]; congr 1; omega
  · rw [if_neg (fun q => h2 (h1.mp q))]; congr 1; omega
theorem iI_max {a b : Int} (h : -2147483648 ≤ a ∧ a ≤ 2147483647 ∧ -2147483648 ≤ b ∧ b ≤ 2147483647) : (if iI a < iI b then iI b else iI a) = iI (max a b) := by
  have h1 : iI a < iI b ↔ a < b := iI_lt (by omega)
  by_cases h2 : a < b
  · rw [if_pos (h1.mpr h2)]; congr 1; omega
  · rw [if_neg (fun q => h2 (h1.mp q))]; congr 1; omega
theorem iI_cl {a : Int} (h : -2147483648 ≤ a ∧ a ≤ 2147483647) : (iI a).toNatClampNeg = a.toNat := by
  show (Int32.ofInt a).toNatClampNeg = a.toNat
  exact Int32.toNatClampNeg_ofInt_of_le (by omega) (by omega)
theorem iI_in {a : Int} {n : Nat} (h : 0 ≤ a ∧ a < n) (hn : (n : Int) ≤ 2147483647) : vp_in (iI a) n := by
  rw [vp_in_iff, iI_toInt (by omega)]; exact h
theorem iI_bv (a : Int) : (iI a).toBitVec = BitVec.ofInt 32 a := rfl
theorem iI_tn (a : Int) : ((iI a).toBitVec.toNat : Int) = a % 4294967296 := by
  rw [iI_bv, BitVec.toNat_ofInt]
  have : (0 : Int) ≤ a % (2 ^ 32 : Nat) := Int.emod_nonneg _ (by decide)
  rw [Int.toNat_of_nonneg this]
  rfl
theorem nI_iI (n : Nat) : nI n = iI (n : Int) := by
  show Int32.ofNat n = Int32.ofInt (n : Int)
  rfl
theorem iI_c (a : Int) : ((iI a).toUInt32 % 65536).toInt32 = iI (a % 65536) := by
  rw [pk_char, nI_iI]
  congr 1
  have h := iI_tn a
  omega
theorem iI_and63 (a : Int) : iI a &&& iI 63 = iI (a % 64) := by
  rw [pk_and (iI a) 6 (by decide), nI_iI]
  congr 1
  have h := iI_tn a
  omega
theorem iI_L {a : Int} (h : -2147483648 ≤ a ∧ a ≤ 2147483647) : (iI a).toInt64 = iL a := by
  have h1 : Int32.minValue.toInt = -2147483648 := by decide
  have h2 : Int32.maxValue.toInt = 2147483647 := by decide
  exact Int32.toInt64_ofInt (by omega) (by omega)
theorem iL_add (a b : Int) : iL a + iL b = iL (a + b) := (Int64.ofInt_add a b).symm
theorem iD_of (x : UInt64) : iD (x.toNat : Int) = x := by
  show UInt64.ofNat (Int.toNat (x.toNat : Int)) = x
  rw [Int.toNat_natCast]
  exact UInt64.ofNat_toNat
theorem iI_nar {a : Int} (h : 0 ≤ a ∧ a < 65536) : vp_nar .char (iI a) = iI a := by
  obtain ⟨n, rfl⟩ : ∃ n : Nat, a = n := ⟨a.toNat, by omega⟩
  have hq : n < 65536 := by omega
  rw [← nI_iI]
  show (match narrow .char (.int (nI n)) with | .int y => y | _ => 0) = nI n
  rw [(pk_charN hq).1]
theorem iI_narC {a : Int} (h : 0 ≤ a ∧ a < 65536) : narrow .char (.int (iI a)) = .int (iI a) := by
  obtain ⟨n, rfl⟩ : ∃ n : Nat, a = n := ⟨a.toNat, by omega⟩
  rw [← nI_iI]
  exact (pk_charN (by omega)).1
theorem iI_fitC {a : Int} (h : 0 ≤ a ∧ a < 65536) : fits .char (.int (iI a)) = true := by
  obtain ⟨n, rfl⟩ : ∃ n : Nat, a = n := ⟨a.toNat, by omega⟩
  rw [← nI_iI]
  exact (pk_charN (by omega)).2
