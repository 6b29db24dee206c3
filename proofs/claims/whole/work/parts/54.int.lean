/-! ===== whole numbers in int and long ===== -/
abbrev iI (n : Int) : Int32 := Int32.ofInt n
abbrev lI (n : Int) : Int64 := Int64.ofInt n
theorem lI_N (n : Nat) : lN n = lI (n : Int) := by
  show Int64.ofNat n = Int64.ofInt n
  rw [Int64.ofInt_eq_ofNat]
theorem iI_N (n : Nat) : nI n = iI (n : Int) := by
  show Int32.ofNat n = Int32.ofInt n
  rw [Int32.ofInt_eq_ofNat]
theorem lI_add (a b : Int) : lI a + lI b = lI (a + b) := (Int64.ofInt_add a b).symm
theorem lI_sub (a b : Int) : lI a - lI b = lI (a - b) := (Int64.ofInt_sub a b).symm
theorem lI_mul (a b : Int) : lI a * lI b = lI (a * b) := (Int64.ofInt_mul a b).symm
theorem lI_neg (a : Int) : -lI a = lI (-a) := (Int64.ofInt_neg a).symm
theorem iI_add (a b : Int) : iI a + iI b = iI (a + b) := (Int32.ofInt_add a b).symm
theorem iI_sub (a b : Int) : iI a - iI b = iI (a - b) := (Int32.ofInt_sub a b).symm
theorem iI_mul (a b : Int) : iI a * iI b = iI (a * b) := (Int32.ofInt_mul a b).symm
theorem iI_toInt {a : Int} (h1 : -2147483648 ≤ a) (h2 : a < 2147483648) : (iI a).toInt = a := by
  show (Int32.ofInt a).toInt = a
  rw [Int32.toInt_ofInt]
  exact Int.bmod_eq_of_le (by show -((2 ^ 32 : Nat) : Int) / 2 ≤ a; omega) (by show a < (((2 ^ 32 : Nat) : Int) + 1) / 2; omega)
theorem lI_toInt {a : Int} (h1 : -2 ^ 63 ≤ a) (h2 : a < 2 ^ 63) : (lI a).toInt = a := q_ofI h1 h2
theorem iI_l {a : Int} (h1 : -2147483648 ≤ a) (h2 : a < 2147483648) : (iI a).toInt64 = lI a := by
  apply Int64.toInt_inj.mp
  rw [Int32.toInt_toInt64, iI_toInt h1 h2, lI_toInt (by omega) (by omega)]
theorem lI_i {a : Int} (h1 : -2 ^ 63 ≤ a) (h2 : a < 2 ^ 63) : (lI a).toInt32 = iI a := q_l2i (lI_toInt h1 h2)
theorem lI_le {a b : Int} (h1 : -2 ^ 63 ≤ a) (h2 : a < 2 ^ 63) (h3 : -2 ^ 63 ≤ b) (h4 : b < 2 ^ 63) : lI a ≤ lI b ↔ a ≤ b := by
  rw [Int64.le_iff_toInt_le, lI_toInt h1 h2, lI_toInt h3 h4]
theorem lI_lt {a b : Int} (h1 : -2 ^ 63 ≤ a) (h2 : a < 2 ^ 63) (h3 : -2 ^ 63 ≤ b) (h4 : b < 2 ^ 63) : lI a < lI b ↔ a < b := by
  rw [Int64.lt_iff_toInt_lt, lI_toInt h1 h2, lI_toInt h3 h4]
theorem iI_inj {a b : Int} (h1 : -2147483648 ≤ a) (h2 : a < 2147483648) (h3 : -2147483648 ≤ b) (h4 : b < 2147483648) : iI a = iI b ↔ a = b := by
  constructor
  · intro h
    rw [← iI_toInt h1 h2, ← iI_toInt h3 h4, h]
  · intro h
    rw [h]
theorem lI_inj {a b : Int} (h1 : -2 ^ 63 ≤ a) (h2 : a < 2 ^ 63) (h3 : -2 ^ 63 ≤ b) (h4 : b < 2 ^ 63) : lI a = lI b ↔ a = b := by
  constructor
  · intro h
    rw [← lI_toInt h1 h2, ← lI_toInt h3 h4, h]
  · intro h
    rw [h]
theorem shr_bd {a B : Int} (s : Nat) (hB : 0 ≤ B) (h1 : -B ≤ a) (h2 : a < B) : -B ≤ a >>> s ∧ a >>> s < B := by
  have hp : (0 : Int) < ((2 ^ s : Nat) : Int) := Int.ofNat_lt.mpr (Nat.two_pow_pos s)
  have hb : B * 1 ≤ B * ((2 ^ s : Nat) : Int) := Int.mul_le_mul_of_nonneg_left hp hB
  rw [Int.shiftRight_eq_div_pow]
  constructor
  · refine Int.le_ediv_of_mul_le hp ?_
    rw [Int.neg_mul]
    omega
  · refine Int.ediv_lt_of_lt_mul hp ?_
    omega
theorem lI_shr {a : Int} {s : Nat} (hs : s < 64) (h1 : -2 ^ 63 ≤ a) (h2 : a < 2 ^ 63) : lI a >>> ((nI s).toInt64 &&& 63) = lI (a >>> s) := by
  apply Int64.toInt_inj.mp
  have e : (lI a >>> ((nI s).toInt64 &&& 63)).toInt = a >>> s := by
    show (lI a >>> ((nI s).toInt64 &&& 63)).toBitVec.toInt = _
    rw [q_lshr s hs, BitVec.toInt_sshiftRight]
    show (lI a).toInt >>> s = _
    rw [lI_toInt h1 h2]
  have hb := shr_bd (B := 2 ^ 63) s (by omega) (by omega) h2
  rw [e, lI_toInt (by omega) hb.2]
theorem iI_shr {a : Int} {s : Nat} (hs : s < 32) (h1 : -2147483648 ≤ a) (h2 : a < 2147483648) : iI a >>> (nI s &&& 31) = iI (a >>> s) := by
  apply Int32.toInt_inj.mp
  have e : (iI a >>> (nI s &&& 31)).toInt = a >>> s := by
    show (iI a >>> (nI s &&& 31)).toBitVec.toInt = _
    rw [q_ishr s hs, BitVec.toInt_sshiftRight]
    show (iI a).toInt >>> s = _
    rw [iI_toInt h1 h2]
  have hb := shr_bd (B := 2147483648) s (by omega) (by omega) h2
  rw [e, iI_toInt (by omega) hb.2]
theorem bv_shl (w : Nat) (a : Int) (s : Nat) : BitVec.ofInt w a <<< s = BitVec.ofInt w (a * 2 ^ s) := by
  rw [BitVec.shiftLeft_eq_mul_twoPow, BitVec.ofInt_mul]
  congr 1
  apply BitVec.eq_of_toNat_eq
  rw [BitVec.toNat_twoPow, BitVec.toNat_ofInt]
  have : ((2 : Int) ^ s) = ((2 ^ s : Nat) : Int) := by rw [Int.natCast_pow]; rfl
  rw [this]
  rfl
theorem iI_shl {a : Int} {s : Nat} (hs : s < 32) : iI a <<< (nI s &&& 31) = iI (a * 2 ^ s) := by
  apply Int32.toBitVec_inj.mp
  rw [q_shl s hs]
  exact bv_shl 32 a s
theorem lI_shl {a : Int} {s : Nat} (hs : s < 64) : lI a <<< ((nI s).toInt64 &&& 63) = lI (a * 2 ^ s) := by
  apply Int64.toBitVec_inj.mp
  rw [q_lshl s hs]
  exact bv_shl 64 a s
def inB (b : Nat) (x : Int) : Prop := -2 ^ (b - 1) ≤ x ∧ x < 2 ^ (b - 1)
theorem zlim_I {b : Nat} (h : 1 ≤ b) (h2 : b ≤ 60) : zlim (nI b) = lI (2 ^ (b - 1)) := by
  have : ∀ b, b ≤ 60 → 1 ≤ b → zlim (nI b) = lI (2 ^ (b - 1)) := by decide +kernel
  exact this b h2 h
theorem zlim_in {b : Nat} {x : Int} (h : 1 ≤ b) (h2 : b ≤ 60) (h3 : -2 ^ 63 ≤ x) (h4 : x < 2 ^ 63) : (-zlim (nI b) ≤ lI x ∧ lI x < zlim (nI b)) ↔ inB b x := by
  have hb : (2 : Int) ^ (b - 1) ≤ 2 ^ 60 := by
    have : 2 ^ (b - 1) ≤ 2 ^ 60 := Nat.pow_le_pow_right (by omega) (by omega)
    exact_mod_cast this
  have hb0 : (0 : Int) < 2 ^ (b - 1) := by
    have := Nat.two_pow_pos (b - 1)
    exact_mod_cast this
  rw [zlim_I h h2, lI_neg, lI_le (by omega) (by omega) h3 h4, lI_lt h3 h4 (by omega) (by omega)]
  rfl
