/-! ===== the small faces of both ===== -/
theorem c_size {d at0 : Nat} {D : zD} {Q : zQ} (hat : D.1 6 1 = nI at0) (h : at0 + 7 < 2 ^ 31) (hq : Q (.inl (some (.int (nI ((at0 + 7) / 8))))) 0 D) : ZM yX2_size iX2_size d [.ref 6] D Q := by
  refine z_method (by decide) rfl (Nat.le_of_ble_eq_true rfl) ?_
  refine z_at [(0, .ref 6)] ⟨rfl, trivial⟩ ?_
  rw [← zN_size h, ← hat] at hq
  refine z_aload_n dX2_size_0 (by exact rfl) ?_
  refine z_gfI zfx_X2_15 (by exact rfl) dX2_size_1 ?_
  refine z_bipush dX2_size_4 ?_
  refine z_iadd dX2_size_6 ?_
  refine z_iconst dX2_size_7 ?_
  refine z_ishr dX2_size_8 ?_
  exact z_iret (st := []) rfl dX2_size_9 hq
theorem c_fault8 {d : Nat} {D : zD} {Q : zQ} (hq : Q (.inl (some (.int (D.1 37 2)))) 0 D) : ZM yX8_fault iX8_fault d [.ref 0] D Q := by
  refine z_method (by decide) rfl (Nat.le_of_ble_eq_true rfl) ?_
  refine z_at [(0, .ref 0)] ⟨rfl, trivial⟩ ?_
  refine z_aload_n dX8_fault_0 (by exact rfl) ?_
  refine z_gfA zfx_X8_43 (by exact rfl) dX8_fault_1 ?_
  refine z_gfI zfx_X8_161 (by exact rfl) dX8_fault_4 ?_
  exact z_iret (st := []) rfl dX8_fault_7 hq
theorem c_place8 {d : Nat} {D : zD} {Q : zQ} (hq : Q (.inl (some (.int (D.1 37 3)))) 0 D) : ZM yX8_place iX8_place d [.ref 0] D Q := by
  refine z_method (by decide) rfl (Nat.le_of_ble_eq_true rfl) ?_
  refine z_at [(0, .ref 0)] ⟨rfl, trivial⟩ ?_
  refine z_aload_n dX8_place_0 (by exact rfl) ?_
  refine z_gfA zfx_X8_43 (by exact rfl) dX8_place_1 ?_
  refine z_gfI zfx_X8_164 (by exact rfl) dX8_place_4 ?_
  exact z_iret (st := []) rfl dX8_place_7 hq
theorem c_fault9 {d : Nat} {D : zD} {Q : zQ} (hq : Q (.inl (some (.int (D.1 19 22)))) 0 (zuI D 19 0 (Int32.ofInt 0))) : ZM yX9_fault iX9_fault d [.ref 19] D Q := by
  refine z_method (by decide) rfl (Nat.le_of_ble_eq_true rfl) ?_
  refine z_at [(0, .ref 19)] ⟨rfl, trivial⟩ ?_
  refine z_aload_n dX9_fault_0 (by exact rfl) ?_
  refine z_iconst dX9_fault_1 ?_
  refine z_pfI zfx_X9_70 (by exact rfl) dX9_fault_2 ?_
  refine z_aload_n dX9_fault_5 (by exact rfl) ?_
  refine z_gfI zfx_X9_264 (by exact rfl) dX9_fault_6 ?_
  exact z_iret (st := []) rfl dX9_fault_9 hq
theorem c_place9 {d : Nat} {D : zD} {Q : zQ} (hq : Q (.inl (some (.int (D.1 19 23)))) 0 (zuI D 19 0 (Int32.ofInt 0))) : ZM yX9_place iX9_place d [.ref 19] D Q := by
  refine z_method (by decide) rfl (Nat.le_of_ble_eq_true rfl) ?_
  refine z_at [(0, .ref 19)] ⟨rfl, trivial⟩ ?_
  refine z_aload_n dX9_place_0 (by exact rfl) ?_
  refine z_iconst dX9_place_1 ?_
  refine z_pfI zfx_X9_70 (by exact rfl) dX9_place_2 ?_
  refine z_aload_n dX9_place_5 (by exact rfl) ?_
  refine z_gfI zfx_X9_52 (by exact rfl) dX9_place_6 ?_
  exact z_iret (st := []) rfl dX9_place_9 hq
theorem c_thrown {d : Nat} {D : zD} {Q : zQ} (hq : Q (.inl (some (.int (D.1 19 0)))) 0 D) : ZM yX9_thrown iX9_thrown d [.ref 19] D Q := by
  refine z_method (by decide) rfl (Nat.le_of_ble_eq_true rfl) ?_
  refine z_at [(0, .ref 19)] ⟨rfl, trivial⟩ ?_
  refine z_aload_n dX9_thrown_0 (by exact rfl) ?_
  refine z_gfI zfx_X9_70 (by exact rfl) dX9_thrown_1 ?_
  exact z_iret (st := []) rfl dX9_thrown_4 hq
theorem c_octetOf {d a n j : Nat} {D : zD} {Q : zQ} (ha : zac a = some (1, n)) (hj : j < 8 * n) (hn : 8 * n < 2 ^ 31) (hq : Q (.inl (some (.int (oct (D.2 a) j)))) 0 D) : ZM yX9_octetOf iX9_octetOf d [.ref a, .int (nI j)] D Q := by
  refine z_method (by decide) rfl (Nat.le_of_ble_eq_true rfl) ?_
  refine z_at [(0, .ref a), (1, .int (nI j))] ⟨rfl, rfl, trivial⟩ ?_
  refine z_aload_n dX9_octetOf_0 (by exact rfl) ?_
  refine z_iload_n dX9_octetOf_1 (by exact rfl) ?_
  refine z_bipush dX9_octetOf_2 ?_
  refine z_idiv dX9_octetOf_4 (by decide) ?_
  refine z_eI (nI (j / 8)) (zN_div8 (by omega)) ?_
  refine z_aJ ha dX9_octetOf_5 (vp_in_nI (by omega) (by omega)) ?_
  rw [nI_clamp (show j / 8 < 2 ^ 31 by omega)]
  refine z_bipush dX9_octetOf_6 ?_
  refine z_bipush dX9_octetOf_8 ?_
  refine z_iload_n dX9_octetOf_10 (by exact rfl) ?_
  refine z_bipush dX9_octetOf_11 ?_
  refine z_irem dX9_octetOf_13 (by decide) ?_
  refine z_eI (nI (j % 8)) (zN_rem8 (by omega)) ?_
  refine z_imul dX9_octetOf_14 ?_
  refine z_isub dX9_octetOf_15 ?_
  refine z_eI (nI (56 - 8 * (j % 8))) zN_oct ?_
  refine z_lshr dX9_octetOf_16 ?_
  refine z_l2i dX9_octetOf_17 ?_
  refine z_sipush dX9_octetOf_18 ?_
  refine z_iand dX9_octetOf_21 ?_
  exact z_iret (st := []) rfl dX9_octetOf_22 hq
theorem c_octet8 {d mb : Nat} {D : zD} {Q : zQ} {i : Int32} (hat : D.1 6 1 = nI (8 * mb)) (h : mb ≤ 20000) (h1 : ∀ j, j < mb → i = nI j → Q (.inl (some (.int (D.1 7 j &&& 255)))) 0 D) (h0 : (¬ ∃ j, j < mb ∧ i = nI j) → Q (.inl (some (.int (-1)))) 0 D) :
    ZM yX8_octet iX8_octet (d + 1) [.ref 0, .int i] D Q := by
  refine z_method (by decide) rfl (Nat.le_of_ble_eq_true rfl) ?_
  refine z_at [(0, .ref 0), (1, .int i)] ⟨rfl, rfl, trivial⟩ ?_
  have e : (8 * mb + 7) / 8 = mb := by omega
  refine z_iload_n dX8_octet_0 (by exact rfl) ?_
  refine z_i2l dX8_octet_1 ?_
  refine z_lconst dX8_octet_2 ?_
  refine z_aload_n dX8_octet_3 (by exact rfl) ?_
  refine z_gfA zfx_X8_36 (by exact rfl) dX8_octet_4 ?_
  refine z_gfA zfx_X8_109 (by exact rfl) dX8_octet_7 ?_
  refine z_cV dX8_octet_10 zk_X8_113 (by exact rfl) (by exact rfl) (by exact rfl) (Nat.le_of_ble_eq_true rfl) (Nat.le_of_ble_eq_true rfl) (Nat.le_refl _) ?_
  refine c_size hat (by omega) ?_
  rw [e]
  refine z_iconst dX8_octet_13 ?_
  refine z_isub dX8_octet_14 ?_
  refine z_i2l dX8_octet_15 ?_
  refine z_cS dX8_octet_16 zk_X8_49 (by exact rfl) (Nat.le_of_ble_eq_true rfl) (Nat.le_of_ble_eq_true rfl) (Nat.le_refl _) ?_
  refine c_within (fun a16 b16 => ?_) (fun n16 => ?_)
  · refine z_if_eq (tgt := 41) dX8_octet_19 (by decide) (fun q9 => absurd q9 (by decide)) (fun _ => ?_)
    obtain ⟨j, hj, rfl⟩ := (zN_in (by omega)).mp ⟨a16, b16⟩
    refine z_aload_n dX8_octet_22 (by exact rfl) ?_
    refine z_gfA zfx_X8_36 (by exact rfl) dX8_octet_23 ?_
    refine z_gfA zfx_X8_109 (by exact rfl) dX8_octet_26 ?_
    refine z_gfA zfx_X8_119 (by exact rfl) dX8_octet_29 ?_
    refine z_iload_n dX8_octet_32 (by exact rfl) ?_
    refine z_aB (by exact rfl) dX8_octet_33 (vp_in_nI (by omega) (by omega)) ?_
    rw [nI_clamp (show j < 2 ^ 31 by omega)]
    refine z_sipush dX8_octet_34 ?_
    refine z_iand dX8_octet_37 ?_
    refine z_goto (tgt := 42) dX8_octet_38 (by decide) ?_
    exact z_iret (st := []) rfl dX8_octet_42 (h1 j hj rfl)
  · refine z_if_eq (tgt := 41) dX8_octet_19 (by decide) (fun _ => ?_) (fun q9 => absurd q9 (by decide))
    refine z_iconst dX8_octet_41 ?_
    exact z_iret (st := []) rfl dX8_octet_42 (h0 (fun q => n16 ((zN_in (by omega)).mpr q)))
theorem c_octet9 {d mb : Nat} {D : zD} {Q : zQ} {i : Int32} (hmb : D.1 19 10 = nI mb) (h : mb ≤ 20000) (h1 : ∀ j, j < mb → i = nI j → Q (.inl (some (.int (oct (D.2 54) j)))) 0 (zuI D 19 0 (Int32.ofInt 0))) (h0 : (¬ ∃ j, j < mb ∧ i = nI j) → Q (.inl (some (.int (-1)))) 0 (zuI D 19 0 (Int32.ofInt 0))) :
    ZM yX9_octet iX9_octet (d + 1) [.ref 19, .int i] D Q := by
  refine z_method (by decide) rfl (Nat.le_of_ble_eq_true rfl) ?_
  refine z_at [(0, .ref 19), (1, .int i)] ⟨rfl, rfl, trivial⟩ ?_
  refine z_aload_n dX9_octet_0 (by exact rfl) ?_
  refine z_iconst dX9_octet_1 ?_
  refine z_pfI zfx_X9_70 (by exact rfl) dX9_octet_2 ?_
  refine z_iload_n dX9_octet_5 (by exact rfl) ?_
  refine z_i2l dX9_octet_6 ?_
  refine z_lconst dX9_octet_7 ?_
  refine z_aload_n dX9_octet_8 (by exact rfl) ?_
  refine z_gfI zfx_X9_256 (by exact rfl) dX9_octet_9 ?_
  refine z_eI (nI mb) hmb ?_
  refine z_iconst dX9_octet_12 ?_
  refine z_isub dX9_octet_13 ?_
  refine z_i2l dX9_octet_14 ?_
  refine z_cS dX9_octet_15 zk_X9_75 (by exact rfl) (Nat.le_of_ble_eq_true rfl) (Nat.le_of_ble_eq_true rfl) (Nat.le_refl _) ?_
  refine c_in (fun a15 b15 => ?_) (fun n15 => ?_)
  · refine z_if_eq (tgt := 32) dX9_octet_18 (by decide) (fun q9 => absurd q9 (by decide)) (fun _ => ?_)
    obtain ⟨j, hj, rfl⟩ := (zN_in (by omega)).mp ⟨a15, b15⟩
    refine z_aload_n dX9_octet_21 (by exact rfl) ?_
    refine z_gfA zfx_X9_30 (by exact rfl) dX9_octet_22 ?_
    refine z_iload_n dX9_octet_25 (by exact rfl) ?_
    refine z_cS dX9_octet_26 zk_X9_198 (by exact rfl) (Nat.le_of_ble_eq_true rfl) (Nat.le_of_ble_eq_true rfl) (Nat.le_refl _) ?_
    refine c_octetOf rfl (by omega) (by omega) ?_
    refine z_goto (tgt := 33) dX9_octet_29 (by decide) ?_
    exact z_iret (st := []) rfl dX9_octet_33 (h1 j hj rfl)
  · refine z_if_eq (tgt := 32) dX9_octet_18 (by decide) (fun _ => ?_) (fun q9 => absurd q9 (by decide))
    refine z_iconst dX9_octet_32 ?_
    exact z_iret (st := []) rfl dX9_octet_33 (h0 (fun q => n15 ((zN_in (by omega)).mpr q)))
theorem c_sample8 {d n : Nat} {D : zD} {Q : zQ} {i : Int32} (hn : D.1 0 3 = nI n) (h : n ≤ 4096) (h1 : ∀ j, j < n → i = nI j → Q (.inl (some (.int (D.1 4 j)))) 0 D) (h0 : (¬ ∃ j, j < n ∧ i = nI j) → Q (.inr zIAE) 1 D) :
    ZM yX8_sample iX8_sample (d + 1) [.ref 0, .int i] D Q := by
  refine z_method (by decide) rfl (Nat.le_of_ble_eq_true rfl) ?_
  refine z_at [(0, .ref 0), (1, .int i)] ⟨rfl, rfl, trivial⟩ ?_
  refine z_iload_n dX8_sample_0 (by exact rfl) ?_
  refine z_i2l dX8_sample_1 ?_
  refine z_lconst dX8_sample_2 ?_
  refine z_aload_n dX8_sample_3 (by exact rfl) ?_
  refine z_gfI zfx_X8_29 (by exact rfl) dX8_sample_4 ?_
  refine z_eI (nI n) hn ?_
  refine z_iconst dX8_sample_7 ?_
  refine z_isub dX8_sample_8 ?_
  refine z_i2l dX8_sample_9 ?_
  refine z_cS dX8_sample_10 zk_X8_49 (by exact rfl) (Nat.le_of_ble_eq_true rfl) (Nat.le_of_ble_eq_true rfl) (Nat.le_refl _) ?_
  refine c_within (fun a10 b10 => ?_) (fun n10 => ?_)
  · refine z_if_ne (tgt := 24) dX8_sample_13 (by decide) (fun _ => ?_) (fun q9 => absurd q9 (by decide))
    obtain ⟨j, hj, rfl⟩ := (zN_in (by omega)).mp ⟨a10, b10⟩
    refine z_aload_n dX8_sample_24 (by exact rfl) ?_
    refine z_gfA zfx_X8_25 (by exact rfl) dX8_sample_25 ?_
    refine z_iload_n dX8_sample_28 (by exact rfl) ?_
    refine z_aI (by exact rfl) dX8_sample_29 (vp_in_nI (by omega) (by omega)) ?_
    rw [nI_clamp (show j < 2 ^ 31 by omega)]
    exact z_iret (st := []) rfl dX8_sample_30 (h1 j hj rfl)
  · refine z_if_ne (tgt := 24) dX8_sample_13 (by decide) (fun q9 => absurd rfl q9) (fun _ => ?_)
    exact z_throw (Or.inl rfl) zt_X8_63 dX8_sample_16 dX8_sample_19 dX8_sample_20 dX8_sample_23 rfl (Nat.le_of_ble_eq_true rfl) (Nat.le_of_ble_eq_true rfl) (h0 (fun q => n10 ((zN_in (by omega)).mpr q)))
theorem c_sample9 {d n : Nat} {D : zD} {Q : zQ} {i : Int32} (hn : D.1 19 8 = nI n) (h : n ≤ 4096) (h1 : ∀ j, j < n → i = nI j → Q (.inl (some (.int (D.1 53 j)))) 0 (zuI D 19 0 (Int32.ofInt 0))) (h0 : (¬ ∃ j, j < n ∧ i = nI j) → Q (.inl (some (.int (Int32.ofInt 0)))) 0 (zuI D 19 0 (Int32.ofInt 1))) :
    ZM yX9_sample iX9_sample (d + 1) [.ref 19, .int i] D Q := by
  refine z_method (by decide) rfl (Nat.le_of_ble_eq_true rfl) ?_
  refine z_at [(0, .ref 19), (1, .int i)] ⟨rfl, rfl, trivial⟩ ?_
  refine z_aload_n dX9_sample_0 (by exact rfl) ?_
  refine z_iload_n dX9_sample_1 (by exact rfl) ?_
  refine z_i2l dX9_sample_2 ?_
  refine z_lconst dX9_sample_3 ?_
  refine z_aload_n dX9_sample_4 (by exact rfl) ?_
  refine z_gfI zfx_X9_89 (by exact rfl) dX9_sample_5 ?_
  refine z_eI (nI n) hn ?_
  refine z_iconst dX9_sample_8 ?_
  refine z_isub dX9_sample_9 ?_
  refine z_i2l dX9_sample_10 ?_
  refine z_cS dX9_sample_11 zk_X9_75 (by exact rfl) (Nat.le_of_ble_eq_true rfl) (Nat.le_of_ble_eq_true rfl) (Nat.le_refl _) ?_
  refine c_in (fun a11 b11 => ?_) (fun n11 => ?_)
  · refine z_if_eq (tgt := 21) dX9_sample_14 (by decide) (fun q9 => absurd q9 (by decide)) (fun _ => ?_)
    refine z_iconst dX9_sample_17 ?_
    refine z_goto (tgt := 22) dX9_sample_18 (by decide) ?_
    refine z_pfI zfx_X9_70 (by exact rfl) dX9_sample_22 ?_
    refine z_aload_n dX9_sample_25 (by exact rfl) ?_
    refine z_gfI zfx_X9_70 (by exact rfl) dX9_sample_26 ?_
    refine z_if_le (tgt := 36) dX9_sample_29 (by decide) (fun _ => ?_) (fun q9 => absurd ((by decide : Int32.ofInt 0 ≤ 0)) q9)
    obtain ⟨j, hj, rfl⟩ := (zN_in (by omega)).mp ⟨a11, b11⟩
    refine z_aload_n dX9_sample_36 (by exact rfl) ?_
    refine z_gfA zfx_X9_27 (by exact rfl) dX9_sample_37 ?_
    refine z_iload_n dX9_sample_40 (by exact rfl) ?_
    refine z_aI (by exact rfl) dX9_sample_41 (vp_in_nI (by omega) (by omega)) ?_
    rw [nI_clamp (show j < 2 ^ 31 by omega)]
    exact z_iret (st := []) rfl dX9_sample_42 (h1 j hj rfl)
  · refine z_if_eq (tgt := 21) dX9_sample_14 (by decide) (fun _ => ?_) (fun q9 => absurd q9 (by decide))
    refine z_iconst dX9_sample_21 ?_
    refine z_pfI zfx_X9_70 (by exact rfl) dX9_sample_22 ?_
    refine z_aload_n dX9_sample_25 (by exact rfl) ?_
    refine z_gfI zfx_X9_70 (by exact rfl) dX9_sample_26 ?_
    refine z_if_le (tgt := 36) dX9_sample_29 (by decide) (fun q9 => absurd q9 ((by decide : ¬ Int32.ofInt 1 ≤ 0))) (fun _ => ?_)
    refine z_iconst dX9_sample_32 ?_
    refine z_goto (tgt := 42) dX9_sample_33 (by decide) ?_
    exact z_iret (st := []) rfl dX9_sample_42 (h0 (fun q => n11 ((zN_in (by omega)).mpr q)))
theorem c_coefficient8 {d o : Nat} {D : zD} {Q : zQ} {c : Int32} (ho : D.1 2 1 = nI o) (h : o ≤ 8) (h1 : -zlim 15 ≤ c.toInt64 → c.toInt64 < zlim 15 → o < 8 → Q (.inl none) 0 (zuI (zuI D 3 o c) 2 1 (nI (o + 1)))) (h2 : -zlim 15 ≤ c.toInt64 → c.toInt64 < zlim 15 → o = 8 → Q (.inr zISE) 1 D) (h0 : ¬ (-zlim 15 ≤ c.toInt64 ∧ c.toInt64 < zlim 15) → Q (.inr zIAE) 1 D) :
    ZM yX8_coefficient iX8_coefficient (d + 1) [.ref 0, .int c] D Q := by
  refine z_method (by decide) rfl (Nat.le_of_ble_eq_true rfl) ?_
  refine z_at [(0, .ref 0), (1, .int c)] ⟨rfl, rfl, trivial⟩ ?_
  have e8 : (Int8.ofInt 8).toInt32 = nI 8 := rfl
  refine z_iload_n dX8_coefficient_0 (by exact rfl) ?_
  refine z_i2l dX8_coefficient_1 ?_
  refine z_bipush dX8_coefficient_2 ?_
  refine z_eI 15 rfl ?_
  refine z_cS dX8_coefficient_4 zk_X8_83 (by exact rfl) (Nat.le_of_ble_eq_true rfl) (Nat.le_of_ble_eq_true rfl) (Nat.le_refl _) ?_
  refine c_fits8 (fun a4 b4 => ?_) (fun n4 => ?_)
  · refine z_if_ne (tgt := 18) dX8_coefficient_7 (by decide) (fun _ => ?_) (fun q9 => absurd q9 (by decide))
    refine z_aload_n dX8_coefficient_18 (by exact rfl) ?_
    refine z_gfA zfx_X8_21 (by exact rfl) dX8_coefficient_19 ?_
    refine z_gfI zfx_X8_87 (by exact rfl) dX8_coefficient_22 ?_
    refine z_eI (nI o) ho ?_
    refine z_bipush dX8_coefficient_25 ?_
    refine z_icmp_lt (tgt := 38) dX8_coefficient_27 (by decide) (fun c27 => ?_) (fun c27 => ?_)
    · have ho8 : o < 8 := (nI_ltI (by omega) (by omega)).mp c27
      refine z_aload_n dX8_coefficient_38 (by exact rfl) ?_
      refine z_gfA zfx_X8_21 (by exact rfl) dX8_coefficient_39 ?_
      refine z_iload_n dX8_coefficient_42 (by exact rfl) ?_
      refine z_cV dX8_coefficient_43 zk_X8_93 (by exact rfl) (by exact rfl) (by exact rfl) (Nat.le_of_ble_eq_true rfl) (Nat.le_of_ble_eq_true rfl) (Nat.le_refl _) ?_
      refine c_add rfl rfl rfl ho (by omega) ho8 (by decide) ?_
      exact z_vret (st := []) rfl dX8_coefficient_46 (h1 a4 b4 ho8)
    · exact z_throw (Or.inr rfl) zt_X8_90 dX8_coefficient_30 dX8_coefficient_33 dX8_coefficient_34 dX8_coefficient_37 rfl (Nat.le_of_ble_eq_true rfl) (Nat.le_of_ble_eq_true rfl) (h2 a4 b4 (by
        rcases Nat.lt_or_ge o 8 with q | q
        · exact absurd (show nI o < (Int8.ofInt 8).toInt32 from (nI_ltI (a := o) (b := 8) (by omega) (by omega)).mpr q) c27
        · omega))
  · refine z_if_ne (tgt := 18) dX8_coefficient_7 (by decide) (fun q9 => absurd rfl q9) (fun _ => ?_)
    exact z_throw (Or.inl rfl) zt_X8_63 dX8_coefficient_10 dX8_coefficient_13 dX8_coefficient_14 dX8_coefficient_17 rfl (Nat.le_of_ble_eq_true rfl) (Nat.le_of_ble_eq_true rfl) (h0 n4)
