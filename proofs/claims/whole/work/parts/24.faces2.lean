/-! ===== coefficient, push, way, count: of both ===== -/
theorem q_lim15 : zlim 15 = 16384 := by decide
theorem q_fit15 {c : Int32} : (-16384 ≤ c.toInt64 ∧ c.toInt64 ≤ 16383) ↔ (-zlim 15 ≤ c.toInt64 ∧ c.toInt64 < zlim 15) := by
  rw [q_lim15, Int64.le_iff_toInt_le, Int64.le_iff_toInt_le, Int64.lt_iff_toInt_lt]
  have e1 : (-16384 : Int64).toInt = -16384 := rfl
  have e2 : (16383 : Int64).toInt = 16383 := rfl
  have e3 : (16384 : Int64).toInt = 16384 := rfl
  rw [e1, e2, e3]
  omega
theorem c_coefficient9 {d o : Nat} {D : zD} {Q : zQ} {c : Int32} (ho : D.1 19 6 = nI o) (h : o ≤ 8) (h1 : -zlim 15 ≤ c.toInt64 → c.toInt64 < zlim 15 → o < 8 → Q (.inl none) 0 (zuI (zuI (zuI D 19 0 (Int32.ofInt 0)) 52 o c) 19 6 (nI (o + 1)))) (h2 : -zlim 15 ≤ c.toInt64 → c.toInt64 < zlim 15 → o = 8 → Q (.inl none) 0 (zuI D 19 0 (Int32.ofInt 2))) (h0 : ¬ (-zlim 15 ≤ c.toInt64 ∧ c.toInt64 < zlim 15) → Q (.inl none) 0 (zuI D 19 0 (Int32.ofInt 1))) :
    ZM yX9_coefficient iX9_coefficient (d + 1) [.ref 19, .int c] D Q := by
  refine z_method (by decide) rfl (Nat.le_of_ble_eq_true rfl) ?_
  refine z_at [(0, .ref 19), (1, .int c)] ⟨rfl, rfl, trivial⟩ ?_
  refine z_aload_n dX9_coefficient_0 (by exact rfl) ?_
  refine z_iload_n dX9_coefficient_1 (by exact rfl) ?_
  refine z_i2l dX9_coefficient_2 ?_
  refine z_ldcL dX9_coefficient_3 zclx_X9_100 ?_
  refine z_ldcL dX9_coefficient_6 zclx_X9_102 ?_
  refine z_cS dX9_coefficient_9 zk_X9_75 (by exact rfl) (Nat.le_of_ble_eq_true rfl) (Nat.le_of_ble_eq_true rfl) (Nat.le_refl _) ?_
  refine c_in (fun a9 b9 => ?_) (fun n9 => ?_)
  · refine z_if_ne (tgt := 19) dX9_coefficient_12 (by decide) (fun _ => ?_) (fun q9 => absurd q9 (by decide))
    refine z_aload_n dX9_coefficient_19 (by exact rfl) ?_
    refine z_gfI zfx_X9_97 (by exact rfl) dX9_coefficient_20 ?_
    refine z_eI (nI o) ho ?_
    refine z_bipush dX9_coefficient_23 ?_
    refine z_icmp_ne (tgt := 32) dX9_coefficient_25 (by decide) (fun c25 => ?_) (fun c25 => ?_)
    · refine z_iconst dX9_coefficient_32 ?_
      refine z_pfI zfx_X9_70 (by exact rfl) dX9_coefficient_33 ?_
      refine z_aload_n dX9_coefficient_36 (by exact rfl) ?_
      refine z_gfI zfx_X9_70 (by exact rfl) dX9_coefficient_37 ?_
      refine z_if_le (tgt := 44) dX9_coefficient_40 (by decide) (fun _ => ?_) (fun q9 => absurd ((by decide : Int32.ofInt 0 ≤ 0)) q9)
      have ho8 : o < 8 := by
        have : ¬ o = 8 := fun q => c25 (by rw [q]; rfl)
        omega
      refine z_aload_n dX9_coefficient_44 (by exact rfl) ?_
      refine z_gfA zfx_X9_23 (by exact rfl) dX9_coefficient_45 ?_
      refine z_aload_n dX9_coefficient_48 (by exact rfl) ?_
      refine z_gfI zfx_X9_97 (by exact rfl) dX9_coefficient_49 ?_
      refine z_eI (nI o) ho ?_
      refine z_iload_n dX9_coefficient_52 (by exact rfl) ?_
      refine z_sI (by exact rfl) dX9_coefficient_53 (vp_in_nI ho8 (by omega)) ?_
      rw [nI_clamp (show o < 2 ^ 31 by omega)]
      refine z_aload_n dX9_coefficient_54 (by exact rfl) ?_
      refine z_dup dX9_coefficient_55 (by exact rfl) ?_
      refine z_gfI zfx_X9_97 (by exact rfl) dX9_coefficient_56 ?_
      refine z_iconst dX9_coefficient_59 ?_
      refine z_iadd dX9_coefficient_60 ?_
      refine z_eI (nI (o + 1)) (by
        show D.1 19 6 + 1 = _
        rw [ho]; exact nI_1 o) ?_
      refine z_pfI zfx_X9_97 (by exact rfl) dX9_coefficient_61 ?_
      exact z_vret (st := []) rfl dX9_coefficient_64 (h1 (q_fit15.mp ⟨a9, b9⟩).1 (q_fit15.mp ⟨a9, b9⟩).2 ho8)
    · refine z_iconst dX9_coefficient_28 ?_
      refine z_goto (tgt := 33) dX9_coefficient_29 (by decide) ?_
      refine z_pfI zfx_X9_70 (by exact rfl) dX9_coefficient_33 ?_
      refine z_aload_n dX9_coefficient_36 (by exact rfl) ?_
      refine z_gfI zfx_X9_70 (by exact rfl) dX9_coefficient_37 ?_
      refine z_if_le (tgt := 44) dX9_coefficient_40 (by decide) (fun q9 => absurd q9 ((by decide : ¬ Int32.ofInt 2 ≤ 0))) (fun _ => ?_)
      exact z_vret (st := []) rfl dX9_coefficient_43 (h2 (q_fit15.mp ⟨a9, b9⟩).1 (q_fit15.mp ⟨a9, b9⟩).2 ((nI_eq (a := o) (b := 8) (by omega) (by omega)).mp c25))
  · refine z_if_ne (tgt := 19) dX9_coefficient_12 (by decide) (fun q9 => absurd rfl q9) (fun _ => ?_)
    refine z_iconst dX9_coefficient_15 ?_
    refine z_goto (tgt := 33) dX9_coefficient_16 (by decide) ?_
    refine z_pfI zfx_X9_70 (by exact rfl) dX9_coefficient_33 ?_
    refine z_aload_n dX9_coefficient_36 (by exact rfl) ?_
    refine z_gfI zfx_X9_70 (by exact rfl) dX9_coefficient_37 ?_
    refine z_if_le (tgt := 44) dX9_coefficient_40 (by decide) (fun q9 => absurd q9 ((by decide : ¬ Int32.ofInt 1 ≤ 0))) (fun _ => ?_)
    exact z_vret (st := []) rfl dX9_coefficient_43 (h0 (fun q => n9 (q_fit15.mpr q)))
theorem c_push8 {d n : Nat} {D : zD} {Q : zQ} {v : Int32} (hn : D.1 0 3 = nI n) (h : n ≤ 4096) (h1 : -zlim (D.1 1 1) ≤ v.toInt64 → v.toInt64 < zlim (D.1 1 1) → n < 4096 → Q (.inl none) 0 (zuI (zuI D 4 n v) 0 3 (nI (n + 1)))) (h2 : -zlim (D.1 1 1) ≤ v.toInt64 → v.toInt64 < zlim (D.1 1 1) → n = 4096 → Q (.inr zISE) 1 D) (h0 : ¬ (-zlim (D.1 1 1) ≤ v.toInt64 ∧ v.toInt64 < zlim (D.1 1 1)) → Q (.inr zIAE) 1 D) :
    ZM yX8_push iX8_push (d + 1) [.ref 0, .int v] D Q := by
  refine z_method (by decide) rfl (Nat.le_of_ble_eq_true rfl) ?_
  refine z_at [(0, .ref 0), (1, .int v)] ⟨rfl, rfl, trivial⟩ ?_
  refine z_iload_n dX8_push_0 (by exact rfl) ?_
  refine z_i2l dX8_push_1 ?_
  refine z_aload_n dX8_push_2 (by exact rfl) ?_
  refine z_gfA zfx_X8_12 (by exact rfl) dX8_push_3 ?_
  refine z_gfI zfx_X8_69 (by exact rfl) dX8_push_6 ?_
  refine z_cS dX8_push_9 zk_X8_83 (by exact rfl) (Nat.le_of_ble_eq_true rfl) (Nat.le_of_ble_eq_true rfl) (Nat.le_refl _) ?_
  refine c_fits8 (fun a9 b9 => ?_) (fun n9 => ?_)
  · refine z_if_ne (tgt := 23) dX8_push_12 (by decide) (fun _ => ?_) (fun q9 => absurd q9 (by decide))
    refine z_aload_n dX8_push_23 (by exact rfl) ?_
    refine z_gfI zfx_X8_29 (by exact rfl) dX8_push_24 ?_
    refine z_eI (nI n) hn ?_
    refine z_sipush dX8_push_27 ?_
    refine z_icmp_lt (tgt := 41) dX8_push_30 (by decide) (fun c30 => ?_) (fun c30 => ?_)
    · have hn8 : n < 4096 := (nI_ltI (a := n) (b := 4096) (by omega) (by omega)).mp c30
      refine z_aload_n dX8_push_41 (by exact rfl) ?_
      refine z_gfA zfx_X8_25 (by exact rfl) dX8_push_42 ?_
      refine z_aload_n dX8_push_45 (by exact rfl) ?_
      refine z_gfI zfx_X8_29 (by exact rfl) dX8_push_46 ?_
      refine z_eI (nI n) hn ?_
      refine z_iload_n dX8_push_49 (by exact rfl) ?_
      refine z_sI (by exact rfl) dX8_push_50 (vp_in_nI hn8 (by omega)) ?_
      rw [nI_clamp (show n < 2 ^ 31 by omega)]
      refine z_aload_n dX8_push_51 (by exact rfl) ?_
      refine z_dup dX8_push_52 (by exact rfl) ?_
      refine z_gfI zfx_X8_29 (by exact rfl) dX8_push_53 ?_
      refine z_iconst dX8_push_56 ?_
      refine z_iadd dX8_push_57 ?_
      refine z_eI (nI (n + 1)) (by
        show D.1 0 3 + 1 = _
        rw [hn]; exact nI_1 n) ?_
      refine z_pfI zfx_X8_29 (by exact rfl) dX8_push_58 ?_
      exact z_vret (st := []) rfl dX8_push_61 (h1 a9 b9 hn8)
    · exact z_throw (Or.inr rfl) zt_X8_90 dX8_push_33 dX8_push_36 dX8_push_37 dX8_push_40 rfl (Nat.le_of_ble_eq_true rfl) (Nat.le_of_ble_eq_true rfl) (h2 a9 b9 (by
        rcases Nat.lt_or_ge n 4096 with q | q
        · exact absurd (show nI n < (Int16.ofInt 4096).toInt32 from (nI_ltI (a := n) (b := 4096) (by omega) (by omega)).mpr q) c30
        · omega))
  · refine z_if_ne (tgt := 23) dX8_push_12 (by decide) (fun q9 => absurd rfl q9) (fun _ => ?_)
    exact z_throw (Or.inl rfl) zt_X8_63 dX8_push_15 dX8_push_18 dX8_push_19 dX8_push_22 rfl (Nat.le_of_ble_eq_true rfl) (Nat.le_of_ble_eq_true rfl) (h0 n9)
theorem c_push9 {d n : Nat} {D : zD} {Q : zQ} {v : Int32} (hn : D.1 19 8 = nI n) (h : n ≤ 4096) (h1 : -zlim (D.1 19 2) ≤ v.toInt64 → v.toInt64 < zlim (D.1 19 2) → n < 4096 → Q (.inl none) 0 (zuI (zuI (zuI D 19 0 (Int32.ofInt 0)) 53 n v) 19 8 (nI (n + 1)))) (h2 : -zlim (D.1 19 2) ≤ v.toInt64 → v.toInt64 < zlim (D.1 19 2) → n = 4096 → Q (.inl none) 0 (zuI D 19 0 (Int32.ofInt 2))) (h0 : ¬ (-zlim (D.1 19 2) ≤ v.toInt64 ∧ v.toInt64 < zlim (D.1 19 2)) → Q (.inl none) 0 (zuI D 19 0 (Int32.ofInt 1))) :
    ZM yX9_push iX9_push (d + 1) [.ref 19, .int v] D Q := by
  refine z_method (by decide) rfl (Nat.le_of_ble_eq_true rfl) ?_
  refine z_at [(0, .ref 19), (1, .int v)] ⟨rfl, rfl, trivial⟩ ?_
  refine z_aload_n dX9_push_0 (by exact rfl) ?_
  refine z_iload_n dX9_push_1 (by exact rfl) ?_
  refine z_i2l dX9_push_2 ?_
  refine z_aload_n dX9_push_3 (by exact rfl) ?_
  refine z_gfI zfx_X9_13 (by exact rfl) dX9_push_4 ?_
  refine z_cS dX9_push_7 zk_X9_104 (by exact rfl) (Nat.le_of_ble_eq_true rfl) (Nat.le_of_ble_eq_true rfl) (Nat.le_refl _) ?_
  refine c_fits9 (fun a7 b7 => ?_) (fun n7 => ?_)
  · refine z_if_ne (tgt := 17) dX9_push_10 (by decide) (fun _ => ?_) (fun q9 => absurd q9 (by decide))
    refine z_aload_n dX9_push_17 (by exact rfl) ?_
    refine z_gfI zfx_X9_89 (by exact rfl) dX9_push_18 ?_
    refine z_eI (nI n) hn ?_
    refine z_sipush dX9_push_21 ?_
    refine z_icmp_ne (tgt := 31) dX9_push_24 (by decide) (fun c24 => ?_) (fun c24 => ?_)
    · refine z_iconst dX9_push_31 ?_
      refine z_pfI zfx_X9_70 (by exact rfl) dX9_push_32 ?_
      refine z_aload_n dX9_push_35 (by exact rfl) ?_
      refine z_gfI zfx_X9_70 (by exact rfl) dX9_push_36 ?_
      refine z_if_le (tgt := 43) dX9_push_39 (by decide) (fun _ => ?_) (fun q9 => absurd ((by decide : Int32.ofInt 0 ≤ 0)) q9)
      have hn8 : n < 4096 := by
        have : ¬ n = 4096 := fun q => c24 (by rw [q]; rfl)
        omega
      refine z_aload_n dX9_push_43 (by exact rfl) ?_
      refine z_gfA zfx_X9_27 (by exact rfl) dX9_push_44 ?_
      refine z_aload_n dX9_push_47 (by exact rfl) ?_
      refine z_gfI zfx_X9_89 (by exact rfl) dX9_push_48 ?_
      refine z_eI (nI n) hn ?_
      refine z_iload_n dX9_push_51 (by exact rfl) ?_
      refine z_sI (by exact rfl) dX9_push_52 (vp_in_nI hn8 (by omega)) ?_
      rw [nI_clamp (show n < 2 ^ 31 by omega)]
      refine z_aload_n dX9_push_53 (by exact rfl) ?_
      refine z_dup dX9_push_54 (by exact rfl) ?_
      refine z_gfI zfx_X9_89 (by exact rfl) dX9_push_55 ?_
      refine z_iconst dX9_push_58 ?_
      refine z_iadd dX9_push_59 ?_
      refine z_eI (nI (n + 1)) (by
        show D.1 19 8 + 1 = _
        rw [hn]; exact nI_1 n) ?_
      refine z_pfI zfx_X9_89 (by exact rfl) dX9_push_60 ?_
      exact z_vret (st := []) rfl dX9_push_63 (h1 a7 b7 hn8)
    · refine z_iconst dX9_push_27 ?_
      refine z_goto (tgt := 32) dX9_push_28 (by decide) ?_
      refine z_pfI zfx_X9_70 (by exact rfl) dX9_push_32 ?_
      refine z_aload_n dX9_push_35 (by exact rfl) ?_
      refine z_gfI zfx_X9_70 (by exact rfl) dX9_push_36 ?_
      refine z_if_le (tgt := 43) dX9_push_39 (by decide) (fun q9 => absurd q9 ((by decide : ¬ Int32.ofInt 2 ≤ 0))) (fun _ => ?_)
      exact z_vret (st := []) rfl dX9_push_42 (h2 a7 b7 ((nI_eq (a := n) (b := 4096) (by omega) (by omega)).mp c24))
  · refine z_if_ne (tgt := 17) dX9_push_10 (by decide) (fun q9 => absurd rfl q9) (fun _ => ?_)
    refine z_iconst dX9_push_13 ?_
    refine z_goto (tgt := 32) dX9_push_14 (by decide) ?_
    refine z_pfI zfx_X9_70 (by exact rfl) dX9_push_32 ?_
    refine z_aload_n dX9_push_35 (by exact rfl) ?_
    refine z_gfI zfx_X9_70 (by exact rfl) dX9_push_36 ?_
    refine z_if_le (tgt := 43) dX9_push_39 (by decide) (fun q9 => absurd q9 ((by decide : ¬ Int32.ofInt 1 ≤ 0))) (fun _ => ?_)
    exact z_vret (st := []) rfl dX9_push_42 (h0 n7)
