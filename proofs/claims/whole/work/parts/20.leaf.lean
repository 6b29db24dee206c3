/-! ===== leaves: within, in, fits ===== -/
theorem c_within {d : Nat} {D : zD} {Q : zQ} {x a b : Int64} (h1 : a ≤ x → x ≤ b → Q (.inl (some (.int 1))) 0 D) (h0 : ¬ (a ≤ x ∧ x ≤ b) → Q (.inl (some (.int 0))) 0 D) : ZM yX8_within iX8_within d [.long x, .long a, .long b] D Q := by
  refine z_method (by decide) rfl (Nat.le_of_ble_eq_true rfl) ?_
  refine z_at [(0, .long x), (2, .long a), (4, .long b)] ⟨rfl, rfl, rfl, trivial⟩ ?_
  refine z_lload_n dX8_within_0 (by exact rfl) ?_
  refine z_lload_n dX8_within_1 (by exact rfl) ?_
  refine z_lt (tgt := 17) dX8_within_2 dX8_within_3 (by decide) (fun c1 => ?_) (fun c1 => ?_)
  · refine z_iconst dX8_within_17 ?_
    exact z_zret (st := []) (by decide) rfl dX8_within_18 (h0 (fun q => absurd c1 (Int64.not_lt.mpr q.1)))
  · refine z_lload_n dX8_within_6 (by exact rfl) ?_
    refine z_lload dX8_within_7 (by exact rfl) ?_
    refine z_gt (tgt := 17) dX8_within_9 dX8_within_10 (by decide) (fun c2 => ?_) (fun c2 => ?_)
    · refine z_iconst dX8_within_17 ?_
      exact z_zret (st := []) (by decide) rfl dX8_within_18 (h0 (fun q => absurd c2 (Int64.not_lt.mpr q.2)))
    · refine z_iconst dX8_within_13 ?_
      refine z_goto (tgt := 18) dX8_within_14 (by decide) ?_
      exact z_zret (st := []) (by decide) rfl dX8_within_18 (h1 (Int64.not_lt.mp c1) (Int64.not_lt.mp c2))
theorem c_in {d : Nat} {D : zD} {Q : zQ} {x a b : Int64} (h1 : a ≤ x → x ≤ b → Q (.inl (some (.int 1))) 0 D) (h0 : ¬ (a ≤ x ∧ x ≤ b) → Q (.inl (some (.int 0))) 0 D) : ZM yX9_in iX9_in d [.long x, .long a, .long b] D Q := by
  refine z_method (by decide) rfl (Nat.le_of_ble_eq_true rfl) ?_
  refine z_at [(0, .long x), (2, .long a), (4, .long b)] ⟨rfl, rfl, rfl, trivial⟩ ?_
  refine z_lload_n dX9_in_0 (by exact rfl) ?_
  refine z_lload_n dX9_in_1 (by exact rfl) ?_
  refine z_lt (tgt := 17) dX9_in_2 dX9_in_3 (by decide) (fun c1 => ?_) (fun c1 => ?_)
  · refine z_iconst dX9_in_17 ?_
    exact z_zret (st := []) (by decide) rfl dX9_in_18 (h0 (fun q => absurd c1 (Int64.not_lt.mpr q.1)))
  · refine z_lload_n dX9_in_6 (by exact rfl) ?_
    refine z_lload dX9_in_7 (by exact rfl) ?_
    refine z_gt (tgt := 17) dX9_in_9 dX9_in_10 (by decide) (fun c2 => ?_) (fun c2 => ?_)
    · refine z_iconst dX9_in_17 ?_
      exact z_zret (st := []) (by decide) rfl dX9_in_18 (h0 (fun q => absurd c2 (Int64.not_lt.mpr q.2)))
    · refine z_iconst dX9_in_13 ?_
      refine z_goto (tgt := 18) dX9_in_14 (by decide) ?_
      exact z_zret (st := []) (by decide) rfl dX9_in_18 (h1 (Int64.not_lt.mp c1) (Int64.not_lt.mp c2))
/-- 2 to the power b - 1, as the code has it -/
def zlim (b : Int32) : Int64 := Int64.ofNat ((1 : Fin 2) : Nat) <<< ((b - Int32.ofInt 1).toInt64 &&& 63)
theorem c_fits8 {d : Nat} {D : zD} {Q : zQ} {x : Int64} {b : Int32} (h1 : -zlim b ≤ x → x < zlim b → Q (.inl (some (.int 1))) 0 D) (h0 : ¬ (-zlim b ≤ x ∧ x < zlim b) → Q (.inl (some (.int 0))) 0 D) : ZM yX8_fits iX8_fits d [.long x, .int b] D Q := by
  refine z_method (by decide) rfl (Nat.le_of_ble_eq_true rfl) ?_
  refine z_at [(0, .long x), (2, .int b)] ⟨rfl, rfl, trivial⟩ ?_
  refine z_lconst dX8_fits_0 ?_
  refine z_iload_n dX8_fits_1 (by exact rfl) ?_
  refine z_iconst dX8_fits_2 ?_
  refine z_isub dX8_fits_3 ?_
  refine z_lshl dX8_fits_4 ?_
  refine z_eJ (zlim b) rfl ?_
  refine z_lstore_n dX8_fits_5 (Nat.le_of_ble_eq_true rfl) ?_
  refine z_lload_n dX8_fits_6 (by exact rfl) ?_
  refine z_lload_n dX8_fits_7 (by exact rfl) ?_
  refine z_lneg dX8_fits_8 ?_
  refine z_lt (tgt := 23) dX8_fits_9 dX8_fits_10 (by decide) (fun c1 => ?_) (fun c1 => ?_)
  · refine z_iconst dX8_fits_23 ?_
    exact z_zret (st := []) (by decide) rfl dX8_fits_24 (h0 (fun q => absurd c1 (Int64.not_lt.mpr q.1)))
  · refine z_lload_n dX8_fits_13 (by exact rfl) ?_
    refine z_lload_n dX8_fits_14 (by exact rfl) ?_
    refine z_ge (tgt := 23) dX8_fits_15 dX8_fits_16 (by decide) (fun c2 => ?_) (fun c2 => ?_)
    · refine z_iconst dX8_fits_23 ?_
      exact z_zret (st := []) (by decide) rfl dX8_fits_24 (h0 (fun q => absurd q.2 (Int64.not_lt.mpr c2)))
    · refine z_iconst dX8_fits_19 ?_
      refine z_goto (tgt := 24) dX8_fits_20 (by decide) ?_
      exact z_zret (st := []) (by decide) rfl dX8_fits_24 (h1 (Int64.not_lt.mp c1) (Int64.not_le.mp c2))
theorem c_fits9 {d : Nat} {D : zD} {Q : zQ} {x : Int64} {b : Int32} (h1 : -zlim b ≤ x → x < zlim b → Q (.inl (some (.int 1))) 0 D) (h0 : ¬ (-zlim b ≤ x ∧ x < zlim b) → Q (.inl (some (.int 0))) 0 D) : ZM yX9_fits iX9_fits d [.long x, .int b] D Q := by
  refine z_method (by decide) rfl (Nat.le_of_ble_eq_true rfl) ?_
  refine z_at [(0, .long x), (2, .int b)] ⟨rfl, rfl, trivial⟩ ?_
  refine z_lload_n dX9_fits_0 (by exact rfl) ?_
  refine z_lconst dX9_fits_1 ?_
  refine z_iload_n dX9_fits_2 (by exact rfl) ?_
  refine z_iconst dX9_fits_3 ?_
  refine z_isub dX9_fits_4 ?_
  refine z_lshl dX9_fits_5 ?_
  refine z_eJ (zlim b) rfl ?_
  refine z_lneg dX9_fits_6 ?_
  refine z_lt (tgt := 25) dX9_fits_7 dX9_fits_8 (by decide) (fun c1 => ?_) (fun c1 => ?_)
  · refine z_iconst dX9_fits_25 ?_
    exact z_zret (st := []) (by decide) rfl dX9_fits_26 (h0 (fun q => absurd c1 (Int64.not_lt.mpr q.1)))
  · refine z_lload_n dX9_fits_11 (by exact rfl) ?_
    refine z_lconst dX9_fits_12 ?_
    refine z_iload_n dX9_fits_13 (by exact rfl) ?_
    refine z_iconst dX9_fits_14 ?_
    refine z_isub dX9_fits_15 ?_
    refine z_lshl dX9_fits_16 ?_
    refine z_eJ (zlim b) rfl ?_
    refine z_ge (tgt := 25) dX9_fits_17 dX9_fits_18 (by decide) (fun c2 => ?_) (fun c2 => ?_)
    · refine z_iconst dX9_fits_25 ?_
      exact z_zret (st := []) (by decide) rfl dX9_fits_26 (h0 (fun q => absurd q.2 (Int64.not_lt.mpr c2)))
    · refine z_iconst dX9_fits_21 ?_
      refine z_goto (tgt := 26) dX9_fits_22 (by decide) ?_
      exact z_zret (st := []) (by decide) rfl dX9_fits_26 (h1 (Int64.not_lt.mp c1) (Int64.not_le.mp c2))
