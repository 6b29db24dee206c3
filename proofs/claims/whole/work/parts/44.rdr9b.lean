/-! ===== the reference: a row of zeros and a one; folded numbers ===== -/
theorem bv_1 (T : Nat → Bool) (p : Nat) : bv T p 1 = (T p).toNat := by
  show 2 * 0 + (T (p + 0)).toNat = _
  rw [Nat.mul_zero, Nat.zero_add, Nat.add_zero]
theorem rd9.mv {D : zD} {T : Nat → Bool} {sz p q : Nat} (h : rd9 D T sz p) (hq : q ≤ 8 * sz) : rd9 (zuL D 19 32 (lN q)) T sz q := by
  obtain ⟨r1, r2, r3, r4, r5, r6, r7⟩ := h
  exact ⟨r1, r2, rfl, hq, r5, r6, r7⟩
theorem c_takeRow {d p sz : Nat} {D : zD} {T : Nat → Bool} {Q : zQ} (hR : rd9 D T sz p) (h1 : ∀ z, p + z < 8 * sz → (∀ i, i < z → T (p + i) = false) → T (p + z) = true → Q (.inl (some (.long (lN z)))) 0 (zuL D 19 32 (lN (p + z + 1)))) (h0 : (∀ i, p ≤ i → i < 8 * sz → T i = false) → Q (.inl (some (.long (lN (8 * sz - p))))) 0 (zfail9 (zuL D 19 32 (lN (8 * sz))) 1 (nI p))) :
    ZM yX9_takeRow iX9_takeRow (d + 2) [.ref 19] D Q := by
  refine z_method (by decide) rfl (Nat.le_of_ble_eq_true rfl) ?_
  refine z_at [(0, .ref 19)] ⟨rfl, trivial⟩ ?_
  obtain ⟨r1, r2, r3, r4, r5, r6, r7⟩ := id hR
  have lEQ : ∀ a b : Nat, a ≤ 200000 → b ≤ 200000 → (lN a = lN b ↔ a = b) := fun a b ha hb => pk_lEQ (by omega) (by omega)
  have outA : ∀ n : Nat, p + n = 8 * sz → (∀ i, p ≤ i → i < 8 * sz → T i = false) → Z (zmk iX9_takeRow (d + 2)) 0 43 (zl [(0, .ref 19), (1, .long (lN p)), (3, .long (lN n))]) [] (zuL D 19 32 (lN (8 * sz))) Q := by
    intro n e hz
    have h0 := h0 hz
    rw [show 8 * sz - p = n by omega] at h0
    refine z_aload_n dX9_takeRow_43 (by exact rfl) ?_
    refine z_gfI zfx_X9_264 (by exact rfl) dX9_takeRow_44 ?_
    refine z_if_ne (tgt := 80) dX9_takeRow_47 (by decide) (fun q9 => absurd (r5) q9) (fun _ => ?_)
    refine z_aload_n dX9_takeRow_50 (by exact rfl) ?_
    refine z_gfL zfx_X9_267 (by exact rfl) dX9_takeRow_51 ?_
    refine z_lload_n dX9_takeRow_54 (by exact rfl) ?_
    refine z_eq (tgt := 72) dX9_takeRow_55 dX9_takeRow_56 (by decide) (fun c55 => ?_) (fun c55 => ?_)
    · refine z_aload_n dX9_takeRow_72 (by exact rfl) ?_
      refine z_iconst dX9_takeRow_73 ?_
      refine z_lload_n dX9_takeRow_74 (by exact rfl) ?_
      refine z_cV dX9_takeRow_75 zk_X9_273 (by exact rfl) (by exact rfl) (by exact rfl) (Nat.le_of_ble_eq_true rfl) (Nat.le_of_ble_eq_true rfl) (Nat.le_add_left _ _) ?_
      refine c_wrong (fun _ => ?_) (fun q => absurd r5 q)
      refine z_istore dX9_takeRow_78 (Nat.le_of_ble_eq_true rfl) ?_
      refine z_lload_n dX9_takeRow_80 (by exact rfl) ?_
      exact z_lret (st := []) rfl dX9_takeRow_81 (by rw [lN_i]; exact h0)
    · refine z_aload_n dX9_takeRow_59 (by exact rfl) ?_
      refine z_gfL zfx_X9_267 (by exact rfl) dX9_takeRow_60 ?_
      refine z_lload_n dX9_takeRow_63 (by exact rfl) ?_
      refine z_lsub dX9_takeRow_64 ?_
      refine z_eJ (lN n) ((lN_sub (a := 8 * sz) (b := p) (by omega)).trans (by rw [show 8 * sz - p = n by omega])) ?_
      refine z_lload_n dX9_takeRow_65 (by exact rfl) ?_
      refine z_lconst dX9_takeRow_66 ?_
      refine z_ladd dX9_takeRow_67 ?_
      refine z_eJ (lN (n + 1)) (lN_1 n) ?_
      refine z_eq (tgt := 80) dX9_takeRow_68 dX9_takeRow_69 (by decide) (fun q9 => absurd q9 ((fun q => absurd ((lEQ n (n + 1) (by omega) (by omega)).mp q) (by omega)))) (fun _ => ?_)
      refine z_aload_n dX9_takeRow_72 (by exact rfl) ?_
      refine z_iconst dX9_takeRow_73 ?_
      refine z_lload_n dX9_takeRow_74 (by exact rfl) ?_
      refine z_cV dX9_takeRow_75 zk_X9_273 (by exact rfl) (by exact rfl) (by exact rfl) (Nat.le_of_ble_eq_true rfl) (Nat.le_of_ble_eq_true rfl) (Nat.le_add_left _ _) ?_
      refine c_wrong (fun _ => ?_) (fun q => absurd r5 q)
      refine z_istore dX9_takeRow_78 (Nat.le_of_ble_eq_true rfl) ?_
      refine z_lload_n dX9_takeRow_80 (by exact rfl) ?_
      exact z_lret (st := []) rfl dX9_takeRow_81 (by rw [lN_i]; exact h0)
  have outB : ∀ n : Nat, p + n < 8 * sz → (∀ i, p ≤ i → i < p + n → T i = false) → T (p + n) = true → Z (zmk iX9_takeRow (d + 2)) 0 43 (zl [(0, .ref 19), (1, .long (lN p)), (3, .long (lN n))]) [] (zuL D 19 32 (lN (p + n + 1))) Q := by
    intro n e hz ht
    refine z_aload_n dX9_takeRow_43 (by exact rfl) ?_
    refine z_gfI zfx_X9_264 (by exact rfl) dX9_takeRow_44 ?_
    refine z_if_ne (tgt := 80) dX9_takeRow_47 (by decide) (fun q9 => absurd (r5) q9) (fun _ => ?_)
    refine z_aload_n dX9_takeRow_50 (by exact rfl) ?_
    refine z_gfL zfx_X9_267 (by exact rfl) dX9_takeRow_51 ?_
    refine z_lload_n dX9_takeRow_54 (by exact rfl) ?_
    refine z_eq (tgt := 72) dX9_takeRow_55 dX9_takeRow_56 (by decide) (fun q9 => absurd q9 ((fun q => absurd ((lEQ (p + n + 1) p (by omega) (by omega)).mp q) (by omega)))) (fun _ => ?_)
    refine z_aload_n dX9_takeRow_59 (by exact rfl) ?_
    refine z_gfL zfx_X9_267 (by exact rfl) dX9_takeRow_60 ?_
    refine z_lload_n dX9_takeRow_63 (by exact rfl) ?_
    refine z_lsub dX9_takeRow_64 ?_
    refine z_eJ (lN (n + 1)) ((lN_sub (a := p + n + 1) (b := p) (by omega)).trans (by rw [show p + n + 1 - p = n + 1 by omega])) ?_
    refine z_lload_n dX9_takeRow_65 (by exact rfl) ?_
    refine z_lconst dX9_takeRow_66 ?_
    refine z_ladd dX9_takeRow_67 ?_
    refine z_eJ (lN (n + 1)) (lN_1 n) ?_
    refine z_eq (tgt := 80) dX9_takeRow_68 dX9_takeRow_69 (by decide) (fun _ => ?_) (fun q9 => absurd (rfl) q9)
    refine z_lload_n dX9_takeRow_80 (by exact rfl) ?_
    exact z_lret (st := []) rfl dX9_takeRow_81 (h1 n e (fun i hi => hz (p + i) (by omega) (by omega)) ht)
  have lp : ∀ (m n : Nat), 8 * sz - (p + n) ≤ m → p + n ≤ 8 * sz → (∀ i, p ≤ i → i < p + n → T i = false) → Z (zmk iX9_takeRow (d + 2)) 0 7 (zl [(0, .ref 19), (1, .long (lN p)), (3, .long (lN n))]) [] (zuL D 19 32 (lN (p + n))) Q := by
    intro m
    induction m with
    | zero =>
      intro n hm hle hz
      have e : p + n = 8 * sz := by omega
      rw [e] at hz ⊢
      refine z_aload_n dX9_takeRow_7 (by exact rfl) ?_
      refine z_gfI zfx_X9_264 (by exact rfl) dX9_takeRow_8 ?_
      refine z_if_ne (tgt := 43) dX9_takeRow_11 (by decide) (fun q9 => absurd (r5) q9) (fun _ => ?_)
      refine z_aload_n dX9_takeRow_14 (by exact rfl) ?_
      refine z_gfL zfx_X9_267 (by exact rfl) dX9_takeRow_15 ?_
      refine z_aload_n dX9_takeRow_18 (by exact rfl) ?_
      refine z_gfL zfx_X9_270 (by exact rfl) dX9_takeRow_19 ?_
      refine z_eJ (lN (8 * sz)) r1 ?_
      refine z_ge (tgt := 43) dX9_takeRow_22 dX9_takeRow_23 (by decide) (fun _ => ?_) (fun q9 => absurd ((Int64.le_refl _)) q9)
      exact z_at [(0, .ref 19), (1, .long (lN p)), (3, .long (lN n))] ⟨rfl, rfl, rfl, trivial⟩ (outA n e hz)
    | succ m ih =>
      intro n hm hle hz
      by_cases he : p + n = 8 * sz
      · exact ih n (by omega) hle hz
      have hlt : p + n < 8 * sz := by omega
      refine z_aload_n dX9_takeRow_7 (by exact rfl) ?_
      refine z_gfI zfx_X9_264 (by exact rfl) dX9_takeRow_8 ?_
      refine z_if_ne (tgt := 43) dX9_takeRow_11 (by decide) (fun q9 => absurd (r5) q9) (fun _ => ?_)
      refine z_aload_n dX9_takeRow_14 (by exact rfl) ?_
      refine z_gfL zfx_X9_267 (by exact rfl) dX9_takeRow_15 ?_
      refine z_eJ (lN (p + n)) rfl ?_
      refine z_aload_n dX9_takeRow_18 (by exact rfl) ?_
      refine z_gfL zfx_X9_270 (by exact rfl) dX9_takeRow_19 ?_
      refine z_eJ (lN (8 * sz)) r1 ?_
      refine z_ge (tgt := 43) dX9_takeRow_22 dX9_takeRow_23 (by decide) (fun q9 => absurd q9 ((fun q => absurd ((pk_lLE (a := 8 * sz) (b := p + n) (by omega) (by omega)).mp q) (by omega)))) (fun _ => ?_)
      refine z_aload_n dX9_takeRow_26 (by exact rfl) ?_
      refine z_iconst dX9_takeRow_27 ?_
      refine z_cV dX9_takeRow_28 zk_X9_277 (by exact rfl) (by exact rfl) (by exact rfl) (Nat.le_of_ble_eq_true rfl) (Nat.le_of_ble_eq_true rfl) (Nat.le_refl _) ?_
      refine c_take (w := 1) (by omega) (hR.mv hle) (fun _ => ?_) (fun q => absurd (show p + n + 1 ≤ 8 * sz by omega) q)
      rw [bv_1, zuL_L]
      refine z_lconst dX9_takeRow_31 ?_
      refine z_ne (tgt := 43) dX9_takeRow_32 dX9_takeRow_33 (by decide) (fun c32 => ?_) (fun c32 => ?_)
      · have ht : T (p + n) = true := by
          cases hc : T (p + n) with
          | true => rfl
          | false => exact absurd (by rw [hc]; rfl) c32
        exact z_at [(0, .ref 19), (1, .long (lN p)), (3, .long (lN n))] ⟨rfl, rfl, rfl, trivial⟩ (outB n hlt hz ht)
      · refine z_lload_n dX9_takeRow_36 (by exact rfl) ?_
        refine z_lconst dX9_takeRow_37 ?_
        refine z_ladd dX9_takeRow_38 ?_
        refine z_eJ (lN (n + 1)) (lN_1 n) ?_
        refine z_lstore_n dX9_takeRow_39 (Nat.le_of_ble_eq_true rfl) ?_
        refine z_goto (tgt := 7) dX9_takeRow_40 (by decide) ?_
        have ht : T (p + n) = false := by
          cases hc : T (p + n) with
          | false => rfl
          | true =>
            rw [hc] at c32
            exact absurd ((lEQ 1 0 (by omega) (by omega)).mp c32) (by omega)
        refine z_at [(0, .ref 19), (1, .long (lN p)), (3, .long (lN (n + 1)))] ⟨rfl, rfl, rfl, trivial⟩ (ih (n + 1) (by omega) (by omega) (fun i a b => ?_))
        by_cases hi : i = p + n
        · rw [hi]; exact ht
        · exact hz i a (by omega)
  refine z_aload_n dX9_takeRow_0 (by exact rfl) ?_
  refine z_gfL zfx_X9_267 (by exact rfl) dX9_takeRow_1 ?_
  refine z_eJ (lN p) r3 ?_
  refine z_lstore_n dX9_takeRow_4 (Nat.le_of_ble_eq_true rfl) ?_
  refine z_lconst dX9_takeRow_5 ?_
  refine z_lstore_n dX9_takeRow_6 (Nat.le_of_ble_eq_true rfl) ?_
  refine z_at [(0, .ref 19), (1, .long (lN p)), (3, .long (lN 0))] ⟨rfl, rfl, rfl, trivial⟩ ?_
  refine z_eD ?_ (lp (8 * sz) 0 (by omega) (by omega) (fun i a b => absurd a (by omega)))
  exact (zuL_id D 19 32 (lN (p + 0)) r3).symm
theorem c_takeRowF {d : Nat} {D : zD} {Q : zQ} (hf : ¬ D.1 19 22 ≤ 0) (hq : Q (.inl (some (.long (lN 0)))) 0 D) : ZM yX9_takeRow iX9_takeRow d [.ref 19] D Q := by
  refine z_method (by decide) rfl (Nat.le_of_ble_eq_true rfl) ?_
  refine z_at [(0, .ref 19)] ⟨rfl, trivial⟩ ?_
  have hf0 : ¬ D.1 19 22 = 0 := fun q => hf (by rw [q]; decide)
  refine z_aload_n dX9_takeRow_0 (by exact rfl) ?_
  refine z_gfL zfx_X9_267 (by exact rfl) dX9_takeRow_1 ?_
  refine z_lstore_n dX9_takeRow_4 (Nat.le_of_ble_eq_true rfl) ?_
  refine z_lconst dX9_takeRow_5 ?_
  refine z_lstore_n dX9_takeRow_6 (Nat.le_of_ble_eq_true rfl) ?_
  refine z_aload_n dX9_takeRow_7 (by exact rfl) ?_
  refine z_gfI zfx_X9_264 (by exact rfl) dX9_takeRow_8 ?_
  refine z_if_ne (tgt := 43) dX9_takeRow_11 (by decide) (fun _ => ?_) (fun q9 => absurd q9 (hf0))
  refine z_aload_n dX9_takeRow_43 (by exact rfl) ?_
  refine z_gfI zfx_X9_264 (by exact rfl) dX9_takeRow_44 ?_
  refine z_if_ne (tgt := 80) dX9_takeRow_47 (by decide) (fun _ => ?_) (fun q9 => absurd q9 (hf0))
  refine z_lload_n dX9_takeRow_80 (by exact rfl) ?_
  exact z_lret (st := []) rfl dX9_takeRow_81 hq
theorem q_2 : (2 : Int64) ≠ 0 := by decide
theorem q_unf {u : Nat} (hu : u < 2 ^ 62) : (lN u - lN u / 2 * 2 = Int64.ofNat ((0 : Fin 2) : Nat) ↔ u % 2 = 0) ∧ lN u / 2 = lN (u / 2) ∧ Int64.ofInt ((u / 2 : Nat) : Int) = lN (u / 2) ∧ -lN (u / 2) - Int64.ofNat ((1 : Fin 2) : Nat) = Int64.ofInt (-((u / 2 : Nat) : Int) - 1) := by
  refine ⟨?_, pk_lDiv (b := 2) (by omega) (by omega) (by omega), ?_, ?_⟩
  · rw [show lN u - lN u / 2 * 2 = lN (u % 2) from pk_lRem (b := 2) (by omega) (by omega) (by omega)]
    exact pk_lEQ (a := u % 2) (b := 0) (by omega) (by omega)
  · apply Int64.toInt_inj.mp
    rw [q_ofI (by omega) (by omega), pk_lT (by omega)]
  · apply Int64.toInt_inj.mp
    have e1 : (Int64.ofNat ((1 : Fin 2) : Nat)).toInt = 1 := rfl
    rw [Int64.toInt_sub, Int64.toInt_neg, pk_lT (by omega), e1, q_ofI (by omega) (by omega), Int.bmod_eq_of_le (n := -((u / 2 : Nat) : Int)) (by omega) (by omega), Int.bmod_eq_of_le (by omega) (by omega)]
theorem q_join2 {z k v : Nat} (hz : z < 2 ^ 20) (hk : k ≤ 31) (hv : v < 2 ^ k) : (lN z <<< ((nI k).toInt64 &&& 63)) ||| lN v = lN (z * 2 ^ k + v) := by
  have p2 : 2 ^ k ≤ 2 ^ 31 := Nat.pow_le_pow_right (by omega) hk
  have p3 : z * 2 ^ k ≤ 2 ^ 20 * 2 ^ 31 := Nat.mul_le_mul (by omega) p2
  have p4 : (2 : Nat) ^ 20 * 2 ^ 31 = 2 ^ 51 := rfl
  apply q_ext64
  intro j hj
  rw [q_lor, q_lshl k (by omega), BitVec.getLsbD_shiftLeft, q_lNbit (by omega), q_lNbit (by omega), q_lNbit (by omega)]
  have e : z * 2 ^ k + v = 2 ^ k * z + v := by rw [Nat.mul_comm]
  rw [e, Nat.testBit_two_pow_mul_add z hv]
  by_cases h : j < k
  · simp [h]
  · rw [Nat.testBit_lt_two_pow (show v < 2 ^ j from Nat.lt_of_lt_of_le hv (Nat.pow_le_pow_right (by omega) (by omega)))]
    simp [h, hj]
