/-! ===== numbers ===== -/
theorem q_i1 : Int32.ofInt 1 = 1 := rfl
theorem q_b7 : (Int8.ofInt 7).toInt32 = 7 := rfl
theorem zN_in {i : Int32} {m : Nat} (hm : m < 2 ^ 31) : (Int64.ofNat ((0 : Fin 2) : Nat) ≤ i.toInt64 ∧ i.toInt64 ≤ (nI m - Int32.ofInt 1).toInt64) ↔ ∃ j, j < m ∧ i = nI j := by
  have e1 : (nI m - Int32.ofInt 1).toInt = (m : Int) - 1 := by
    have h := nI_toInt hm
    rw [Int32.toInt_sub, h]
    show ((m : Int) - 1).bmod (2 ^ 32) = _
    rw [Int.bmod_eq_of_le (by omega) (by omega)]
  have e0 : (Int64.ofNat ((0 : Fin 2) : Nat)).toInt = 0 := rfl
  rw [Int64.le_iff_toInt_le, Int64.le_iff_toInt_le, Int32.toInt_toInt64, Int32.toInt_toInt64, e1, e0]
  constructor
  · rintro ⟨h1, h2⟩
    refine ⟨i.toInt.toNat, by omega, ?_⟩
    apply Int32.toInt_inj.mp
    rw [nI_toInt (by omega)]
    omega
  · rintro ⟨j, hj, rfl⟩
    rw [nI_toInt (by omega)]
    omega
theorem zN_size {a : Nat} (h : a + 7 < 2 ^ 31) : (nI a + (Int8.ofInt 7).toInt32) >>> (Int32.ofInt 3 &&& 31) = nI ((a + 7) / 8) := by
  have e : nI a + (Int8.ofInt 7).toInt32 = nI (a + 7) := nI_add a 7
  rw [e]
  exact pk_shrN h _ 3 (by decide)
/-- byte j of a row of longs -/
def oct (g : Nat → Int64) (j : Nat) : Int32 := (g (j / 8) >>> ((nI (56 - 8 * (j % 8))).toInt64 &&& 63)).toInt32 &&& 255
theorem zN_div8 {j : Nat} (h : j < 2 ^ 31) : nI j / (Int8.ofInt 8).toInt32 = nI (j / 8) := pk_div h (d := 8) (by omega) (by omega)
theorem zN_rem8 {j : Nat} (h : j < 2 ^ 31) : nI j - nI j / (Int8.ofInt 8).toInt32 * (Int8.ofInt 8).toInt32 = nI (j % 8) := pk_rem h (d := 8) (by omega) (by omega)
theorem zN_oct {j : Nat} : (Int8.ofInt 56).toInt32 - (Int8.ofInt 8).toInt32 * nI (j % 8) = nI (56 - 8 * (j % 8)) := by
  have e : (Int8.ofInt 8).toInt32 * nI (j % 8) = nI (8 * (j % 8)) := pk_mul 8 (j % 8)
  rw [e]
  exact pk_sub (a := 56) (by omega)
