/-! ===== numbers out of bits ===== -/
/-- the number that m bits of T from p on are, the highest first -/
def bv (T : Nat → Bool) (p : Nat) : Nat → Nat
  | 0 => 0
  | m + 1 => 2 * bv T p m + (T (p + m)).toNat
theorem bv_lt (T : Nat → Bool) (p : Nat) : ∀ m, bv T p m < 2 ^ m
  | 0 => Nat.one_pos
  | m + 1 => by
    have h := bv_lt T p m
    have h2 : (T (p + m)).toNat ≤ 1 := Bool.toNat_le _
    unfold bv
    rw [Nat.pow_succ]
    omega
theorem bv_add (T : Nat → Bool) (p a : Nat) : ∀ b, bv T p (a + b) = bv T p a * 2 ^ b + bv T (p + a) b
  | 0 => by simp [bv]
  | b + 1 => by
    show 2 * bv T p (a + b) + (T (p + (a + b))).toNat = bv T p a * 2 ^ (b + 1) + (2 * bv T (p + a) b + (T (p + a + b)).toNat)
    rw [bv_add T p a b, Nat.pow_succ, ← Nat.add_assoc p a b, Nat.mul_add, ← Nat.add_assoc]
    have e : 2 * (bv T p a * 2 ^ b) = bv T p a * (2 ^ b * 2) := by
      rw [Nat.mul_comm 2, Nat.mul_assoc]
    rw [e]
theorem bv_congr {T T' : Nat → Bool} {p : Nat} : ∀ {m : Nat}, (∀ i, p ≤ i → i < p + m → T i = T' i) → bv T p m = bv T' p m
  | 0, _ => rfl
  | m + 1, h => by
    unfold bv
    rw [bv_congr (m := m) (fun i h1 h2 => h i h1 (by omega)), h (p + m) (by omega) (by omega)]
theorem bv_bit (T : Nat → Bool) (p : Nat) : ∀ m j, (bv T p m).testBit j = (decide (j < m) && T (p + (m - 1 - j)))
  | 0, j => by simp [bv]
  | m + 1, j => by
    unfold bv
    cases j with
    | zero =>
      rw [Nat.testBit_zero]
      cases hT : T (p + m) <;> simp [hT]
    | succ j =>
      rw [Nat.testBit_succ]
      have e : (2 * bv T p m + (T (p + m)).toNat) / 2 = bv T p m := by
        have h2 : (T (p + m)).toNat ≤ 1 := Bool.toNat_le _
        omega
      rw [e, bv_bit T p m j]
      by_cases h : j < m
      · rw [show m + 1 - 1 - (j + 1) = m - 1 - j by omega]
        simp [h]
      · simp [h]
theorem q_nIbit {n : Nat} (hn : n < 2 ^ 32) (j : Nat) : (nI n).toBitVec.getLsbD j = n.testBit j := by
  rw [BitVec.getLsbD, pk_tn hn]
theorem q_lNbit {n : Nat} (hn : n < 2 ^ 63) (j : Nat) : (lN n).toBitVec.getLsbD j = n.testBit j := by
  have e : (lN n).toBitVec.toNat = n := by
    show (Int64.ofNat n).toBitVec.toNat = n
    rw [Int64.toBitVec_ofNat', BitVec.toNat_ofNat]
    exact Nat.mod_eq_of_lt (by omega)
  rw [BitVec.getLsbD, e]
theorem q_ext64 {x y : Int64} (h : ∀ j, j < 64 → x.toBitVec.getLsbD j = y.toBitVec.getLsbD j) : x = y := by
  apply Int64.toBitVec_inj.mp
  apply BitVec.eq_of_getLsbD_eq
  intro i hi
  exact h i hi
/-- what was read, moved up by t bits, with the next t behind -/
theorem q_joinbits {T : Nat → Bool} {p g t : Nat} (h : g + t ≤ 62) (ht : t ≤ 30) : (lN (bv T p g) <<< ((nI t).toInt64 &&& 63)) ||| (nI (bv T (p + g) t)).toInt64 = lN (bv T p (g + t)) := by
  have h1 := bv_lt T p g
  have h2 := bv_lt T (p + g) t
  have h3 := bv_lt T p (g + t)
  have p1 : 2 ^ g ≤ 2 ^ 62 := Nat.pow_le_pow_right (by omega) (by omega)
  have p2 : 2 ^ t ≤ 2 ^ 30 := Nat.pow_le_pow_right (by omega) ht
  have p3 : 2 ^ (g + t) ≤ 2 ^ 62 := Nat.pow_le_pow_right (by omega) h
  rw [nI_l (n := bv T (p + g) t) (by omega)]
  apply q_ext64
  intro j hj
  rw [q_lor, q_lshl t (by omega), BitVec.getLsbD_shiftLeft, q_lNbit (by omega), q_lNbit (by omega), q_lNbit (by omega), bv_bit, bv_bit, bv_bit]
  by_cases hjt : j < t
  · simp [hjt, show j < g + t by omega, show p + g + (t - 1 - j) = p + (g + t - 1 - j) by omega]
  · by_cases hjg : j < g + t
    · simp [hjt, hjg, hj, show j - t < g by omega, show p + (g - 1 - (j - t)) = p + (g + t - 1 - j) by omega]
    · simp [hjt, hjg, show ¬ j - t < g by omega]
/-- t bits out of a byte, from bit p on -/
theorem q_piece {f : Nat → Int32} {T : Nat → Bool} {p t : Nat} (ht : t ≤ 8 - p % 8) (ht0 : 0 < t) (hT : ∀ i, p ≤ i → i < p + t → bt8 f i = T i) : ((f (p / 8) &&& (Int16.ofInt 255).toInt32) >>> (nI (8 - p % 8 - t) &&& 31)) &&& ((Int32.ofInt 1 <<< (nI t &&& 31)) - Int32.ofInt 1) = nI (bv T p t) := by
  have h2 := bv_lt T p t
  have p2 : 2 ^ t ≤ 2 ^ 8 := Nat.pow_le_pow_right (by omega) (by omega)
  apply q_ext
  intro j hj
  have hm : ((Int32.ofInt 1 <<< (nI t &&& 31)) - Int32.ofInt 1).toBitVec.getLsbD j = decide (j < t) := q_mask t (by omega) j hj
  rw [q_and, hm, q_ishr _ (by omega), BitVec.getLsbD_sshiftRight, q_nIbit (by omega), bv_bit]
  by_cases hjt : j < t
  · have h3 := hT (p + (t - 1 - j)) (by omega) (by omega)
    unfold bt8 at h3
    rw [show (p + (t - 1 - j)) / 8 = p / 8 by omega, show 7 - (p + (t - 1 - j)) % 8 = 8 - p % 8 - t + j by omega] at h3
    rw [q_255 _ _ (by omega), h3]
    simp [hjt, show j < 32 by omega, show ¬ 32 ≤ j by omega, show 8 - p % 8 - t + j < 32 by omega, show 8 - p % 8 - t + j < 8 by omega]
  · simp [hjt]
