/-! ===== shape, predict, coefficient, push: of both ===== -/
set_option maxRecDepth 100000 in
theorem zt_X8_63 : zthr RX8 63 65 zIAE = true := by decide +kernel
set_option maxRecDepth 100000 in
theorem zt_X8_90 : zthr RX8 90 92 zISE = true := by decide +kernel
/-- what the four numbers of shape must be -/
def okShape (c b bl r : Int32) : Prop := (1 ≤ c.toInt64 ∧ c.toInt64 ≤ 8) ∧ (4 ≤ b.toInt64 ∧ b.toInt64 ≤ 24) ∧ (16 ≤ bl.toInt64 ∧ bl.toInt64 ≤ 256) ∧ (1 ≤ r.toInt64 ∧ r.toInt64 ≤ 655350)
theorem c_shape8 {d : Nat} {D : zD} {Q : zQ} {c b bl r : Int32} (h1 : okShape c b bl r → Q (.inl none) 0 (zuI (zuI (zuI (zuI (zuI D 1 0 c) 1 1 b) 1 2 bl) 1 3 r) 0 3 (Int32.ofInt 0))) (h0 : ¬ okShape c b bl r → Q (.inr zIAE) 1 D) :
    ZM yX8_shape iX8_shape (d + 1) [.ref 0, .int c, .int b, .int bl, .int r] D Q := by
  refine z_method (by decide) rfl (Nat.le_of_ble_eq_true rfl) ?_
  refine z_at [(0, .ref 0), (1, .int c), (2, .int b), (3, .int bl), (4, .int r)] ⟨rfl, rfl, rfl, rfl, rfl, trivial⟩ ?_
  refine z_iload_n dX8_shape_0 (by exact rfl) ?_
  refine z_i2l dX8_shape_1 ?_
  refine z_lconst dX8_shape_2 ?_
  refine z_ldcL dX8_shape_3 zclx_X8_47 ?_
  refine z_cS dX8_shape_6 zk_X8_49 (by exact rfl) (Nat.le_of_ble_eq_true rfl) (Nat.le_of_ble_eq_true rfl) (Nat.le_refl _) ?_
  refine c_within (fun a6 b6 => ?_) (fun n6 => ?_)
  · refine z_if_eq (tgt := 53) dX8_shape_9 (by decide) (fun q9 => absurd q9 (by decide)) (fun _ => ?_)
    refine z_iload_n dX8_shape_12 (by exact rfl) ?_
    refine z_i2l dX8_shape_13 ?_
    refine z_ldcL dX8_shape_14 zclx_X8_53 ?_
    refine z_ldcL dX8_shape_17 zclx_X8_55 ?_
    refine z_cS dX8_shape_20 zk_X8_49 (by exact rfl) (Nat.le_of_ble_eq_true rfl) (Nat.le_of_ble_eq_true rfl) (Nat.le_refl _) ?_
    refine c_within (fun a20 b20 => ?_) (fun n20 => ?_)
    · refine z_if_eq (tgt := 53) dX8_shape_23 (by decide) (fun q9 => absurd q9 (by decide)) (fun _ => ?_)
      refine z_iload_n dX8_shape_26 (by exact rfl) ?_
      refine z_i2l dX8_shape_27 ?_
      refine z_ldcL dX8_shape_28 zclx_X8_57 ?_
      refine z_ldcL dX8_shape_31 zclx_X8_59 ?_
      refine z_cS dX8_shape_34 zk_X8_49 (by exact rfl) (Nat.le_of_ble_eq_true rfl) (Nat.le_of_ble_eq_true rfl) (Nat.le_refl _) ?_
      refine c_within (fun a34 b34 => ?_) (fun n34 => ?_)
      · refine z_if_eq (tgt := 53) dX8_shape_37 (by decide) (fun q9 => absurd q9 (by decide)) (fun _ => ?_)
        refine z_iload dX8_shape_40 (by exact rfl) ?_
        refine z_i2l dX8_shape_42 ?_
        refine z_lconst dX8_shape_43 ?_
        refine z_ldcL dX8_shape_44 zclx_X8_61 ?_
        refine z_cS dX8_shape_47 zk_X8_49 (by exact rfl) (Nat.le_of_ble_eq_true rfl) (Nat.le_of_ble_eq_true rfl) (Nat.le_refl _) ?_
        refine c_within (fun a47 b47 => ?_) (fun n47 => ?_)
        · refine z_if_ne (tgt := 61) dX8_shape_50 (by decide) (fun _ => ?_) (fun q9 => absurd q9 (by decide))
          refine z_aload_n dX8_shape_61 (by exact rfl) ?_
          refine z_gfA zfx_X8_12 (by exact rfl) dX8_shape_62 ?_
          refine z_iload_n dX8_shape_65 (by exact rfl) ?_
          refine z_pfI zfx_X8_66 (by exact rfl) dX8_shape_66 ?_
          refine z_aload_n dX8_shape_69 (by exact rfl) ?_
          refine z_gfA zfx_X8_12 (by exact rfl) dX8_shape_70 ?_
          refine z_iload_n dX8_shape_73 (by exact rfl) ?_
          refine z_pfI zfx_X8_69 (by exact rfl) dX8_shape_74 ?_
          refine z_aload_n dX8_shape_77 (by exact rfl) ?_
          refine z_gfA zfx_X8_12 (by exact rfl) dX8_shape_78 ?_
          refine z_iload_n dX8_shape_81 (by exact rfl) ?_
          refine z_pfI zfx_X8_72 (by exact rfl) dX8_shape_82 ?_
          refine z_aload_n dX8_shape_85 (by exact rfl) ?_
          refine z_gfA zfx_X8_12 (by exact rfl) dX8_shape_86 ?_
          refine z_iload dX8_shape_89 (by exact rfl) ?_
          refine z_pfI zfx_X8_75 (by exact rfl) dX8_shape_91 ?_
          refine z_aload_n dX8_shape_94 (by exact rfl) ?_
          refine z_iconst dX8_shape_95 ?_
          refine z_pfI zfx_X8_29 (by exact rfl) dX8_shape_96 ?_
          exact z_vret (st := []) rfl dX8_shape_99 (h1 ⟨⟨a6, b6⟩, ⟨a20, b20⟩, ⟨a34, b34⟩, ⟨a47, b47⟩⟩)
        · refine z_if_ne (tgt := 61) dX8_shape_50 (by decide) (fun q9 => absurd rfl q9) (fun _ => ?_)
          exact z_throw (Or.inl rfl) zt_X8_63 dX8_shape_53 dX8_shape_56 dX8_shape_57 dX8_shape_60 rfl (Nat.le_of_ble_eq_true rfl) (Nat.le_of_ble_eq_true rfl) (h0 (fun q => n47 q.2.2.2))
      · refine z_if_eq (tgt := 53) dX8_shape_37 (by decide) (fun _ => ?_) (fun q9 => absurd q9 (by decide))
        exact z_throw (Or.inl rfl) zt_X8_63 dX8_shape_53 dX8_shape_56 dX8_shape_57 dX8_shape_60 rfl (Nat.le_of_ble_eq_true rfl) (Nat.le_of_ble_eq_true rfl) (h0 (fun q => n34 q.2.2.1))
    · refine z_if_eq (tgt := 53) dX8_shape_23 (by decide) (fun _ => ?_) (fun q9 => absurd q9 (by decide))
      exact z_throw (Or.inl rfl) zt_X8_63 dX8_shape_53 dX8_shape_56 dX8_shape_57 dX8_shape_60 rfl (Nat.le_of_ble_eq_true rfl) (Nat.le_of_ble_eq_true rfl) (h0 (fun q => n20 q.2.1))
  · refine z_if_eq (tgt := 53) dX8_shape_9 (by decide) (fun _ => ?_) (fun q9 => absurd q9 (by decide))
    exact z_throw (Or.inl rfl) zt_X8_63 dX8_shape_53 dX8_shape_56 dX8_shape_57 dX8_shape_60 rfl (Nat.le_of_ble_eq_true rfl) (Nat.le_of_ble_eq_true rfl) (h0 (fun q => n6 q.1))
theorem c_shape9 {d : Nat} {D : zD} {Q : zQ} {c b bl r : Int32} (h1 : okShape c b bl r → Q (.inl none) 0 (zuI (zuI (zuI (zuI (zuI (zuI D 19 0 (Int32.ofInt 0)) 19 1 c) 19 2 b) 19 3 bl) 19 4 r) 19 8 (Int32.ofInt 0))) (h0 : ¬ okShape c b bl r → Q (.inl none) 0 (zuI D 19 0 (Int32.ofInt 1))) :
    ZM yX9_shape iX9_shape (d + 1) [.ref 19, .int c, .int b, .int bl, .int r] D Q := by
  refine z_method (by decide) rfl (Nat.le_of_ble_eq_true rfl) ?_
  refine z_at [(0, .ref 19), (1, .int c), (2, .int b), (3, .int bl), (4, .int r)] ⟨rfl, rfl, rfl, rfl, rfl, trivial⟩ ?_
  refine z_aload_n dX9_shape_0 (by exact rfl) ?_
  refine z_iload_n dX9_shape_1 (by exact rfl) ?_
  refine z_i2l dX9_shape_2 ?_
  refine z_lconst dX9_shape_3 ?_
  refine z_ldcL dX9_shape_4 zclx_X9_73 ?_
  refine z_cS dX9_shape_7 zk_X9_75 (by exact rfl) (Nat.le_of_ble_eq_true rfl) (Nat.le_of_ble_eq_true rfl) (Nat.le_refl _) ?_
  refine c_in (fun a7 b7 => ?_) (fun n7 => ?_)
  · refine z_if_eq (tgt := 58) dX9_shape_10 (by decide) (fun q9 => absurd q9 (by decide)) (fun _ => ?_)
    refine z_iload_n dX9_shape_13 (by exact rfl) ?_
    refine z_i2l dX9_shape_14 ?_
    refine z_ldcL dX9_shape_15 zclx_X9_79 ?_
    refine z_ldcL dX9_shape_18 zclx_X9_81 ?_
    refine z_cS dX9_shape_21 zk_X9_75 (by exact rfl) (Nat.le_of_ble_eq_true rfl) (Nat.le_of_ble_eq_true rfl) (Nat.le_refl _) ?_
    refine c_in (fun a21 b21 => ?_) (fun n21 => ?_)
    · refine z_if_eq (tgt := 58) dX9_shape_24 (by decide) (fun q9 => absurd q9 (by decide)) (fun _ => ?_)
      refine z_iload_n dX9_shape_27 (by exact rfl) ?_
      refine z_i2l dX9_shape_28 ?_
      refine z_ldcL dX9_shape_29 zclx_X9_83 ?_
      refine z_ldcL dX9_shape_32 zclx_X9_85 ?_
      refine z_cS dX9_shape_35 zk_X9_75 (by exact rfl) (Nat.le_of_ble_eq_true rfl) (Nat.le_of_ble_eq_true rfl) (Nat.le_refl _) ?_
      refine c_in (fun a35 b35 => ?_) (fun n35 => ?_)
      · refine z_if_eq (tgt := 58) dX9_shape_38 (by decide) (fun q9 => absurd q9 (by decide)) (fun _ => ?_)
        refine z_iload dX9_shape_41 (by exact rfl) ?_
        refine z_i2l dX9_shape_43 ?_
        refine z_lconst dX9_shape_44 ?_
        refine z_ldcL dX9_shape_45 zclx_X9_87 ?_
        refine z_cS dX9_shape_48 zk_X9_75 (by exact rfl) (Nat.le_of_ble_eq_true rfl) (Nat.le_of_ble_eq_true rfl) (Nat.le_refl _) ?_
        refine c_in (fun a48 b48 => ?_) (fun n48 => ?_)
        · refine z_if_eq (tgt := 58) dX9_shape_51 (by decide) (fun q9 => absurd q9 (by decide)) (fun _ => ?_)
          refine z_iconst dX9_shape_54 ?_
          refine z_goto (tgt := 59) dX9_shape_55 (by decide) ?_
          refine z_pfI zfx_X9_70 (by exact rfl) dX9_shape_59 ?_
          refine z_aload_n dX9_shape_62 (by exact rfl) ?_
          refine z_gfI zfx_X9_70 (by exact rfl) dX9_shape_63 ?_
          refine z_if_le (tgt := 70) dX9_shape_66 (by decide) (fun _ => ?_) (fun q9 => absurd ((by decide : Int32.ofInt 0 ≤ 0)) q9)
          refine z_aload_n dX9_shape_70 (by exact rfl) ?_
          refine z_iload_n dX9_shape_71 (by exact rfl) ?_
          refine z_pfI zfx_X9_7 (by exact rfl) dX9_shape_72 ?_
          refine z_aload_n dX9_shape_75 (by exact rfl) ?_
          refine z_iload_n dX9_shape_76 (by exact rfl) ?_
          refine z_pfI zfx_X9_13 (by exact rfl) dX9_shape_77 ?_
          refine z_aload_n dX9_shape_80 (by exact rfl) ?_
          refine z_iload_n dX9_shape_81 (by exact rfl) ?_
          refine z_pfI zfx_X9_16 (by exact rfl) dX9_shape_82 ?_
          refine z_aload_n dX9_shape_85 (by exact rfl) ?_
          refine z_iload dX9_shape_86 (by exact rfl) ?_
          refine z_pfI zfx_X9_20 (by exact rfl) dX9_shape_88 ?_
          refine z_aload_n dX9_shape_91 (by exact rfl) ?_
          refine z_iconst dX9_shape_92 ?_
          refine z_pfI zfx_X9_89 (by exact rfl) dX9_shape_93 ?_
          exact z_vret (st := []) rfl dX9_shape_96 (h1 ⟨⟨a7, b7⟩, ⟨a21, b21⟩, ⟨a35, b35⟩, ⟨a48, b48⟩⟩)
        · refine z_if_eq (tgt := 58) dX9_shape_51 (by decide) (fun _ => ?_) (fun q9 => absurd q9 (by decide))
          refine z_iconst dX9_shape_58 ?_
          refine z_pfI zfx_X9_70 (by exact rfl) dX9_shape_59 ?_
          refine z_aload_n dX9_shape_62 (by exact rfl) ?_
          refine z_gfI zfx_X9_70 (by exact rfl) dX9_shape_63 ?_
          refine z_if_le (tgt := 70) dX9_shape_66 (by decide) (fun q9 => absurd q9 ((by decide : ¬ Int32.ofInt 1 ≤ 0))) (fun _ => ?_)
          exact z_vret (st := []) rfl dX9_shape_69 (h0 (fun q => n48 q.2.2.2))
      · refine z_if_eq (tgt := 58) dX9_shape_38 (by decide) (fun _ => ?_) (fun q9 => absurd q9 (by decide))
        refine z_iconst dX9_shape_58 ?_
        refine z_pfI zfx_X9_70 (by exact rfl) dX9_shape_59 ?_
        refine z_aload_n dX9_shape_62 (by exact rfl) ?_
        refine z_gfI zfx_X9_70 (by exact rfl) dX9_shape_63 ?_
        refine z_if_le (tgt := 70) dX9_shape_66 (by decide) (fun q9 => absurd q9 ((by decide : ¬ Int32.ofInt 1 ≤ 0))) (fun _ => ?_)
        exact z_vret (st := []) rfl dX9_shape_69 (h0 (fun q => n35 q.2.2.1))
    · refine z_if_eq (tgt := 58) dX9_shape_24 (by decide) (fun _ => ?_) (fun q9 => absurd q9 (by decide))
      refine z_iconst dX9_shape_58 ?_
      refine z_pfI zfx_X9_70 (by exact rfl) dX9_shape_59 ?_
      refine z_aload_n dX9_shape_62 (by exact rfl) ?_
      refine z_gfI zfx_X9_70 (by exact rfl) dX9_shape_63 ?_
      refine z_if_le (tgt := 70) dX9_shape_66 (by decide) (fun q9 => absurd q9 ((by decide : ¬ Int32.ofInt 1 ≤ 0))) (fun _ => ?_)
      exact z_vret (st := []) rfl dX9_shape_69 (h0 (fun q => n21 q.2.1))
  · refine z_if_eq (tgt := 58) dX9_shape_10 (by decide) (fun _ => ?_) (fun q9 => absurd q9 (by decide))
    refine z_iconst dX9_shape_58 ?_
    refine z_pfI zfx_X9_70 (by exact rfl) dX9_shape_59 ?_
    refine z_aload_n dX9_shape_62 (by exact rfl) ?_
    refine z_gfI zfx_X9_70 (by exact rfl) dX9_shape_63 ?_
    refine z_if_le (tgt := 70) dX9_shape_66 (by decide) (fun q9 => absurd q9 ((by decide : ¬ Int32.ofInt 1 ≤ 0))) (fun _ => ?_)
    exact z_vret (st := []) rfl dX9_shape_69 (h0 (fun q => n7 q.1))
theorem c_begin {d a : Nat} {D : zD} {Q : zQ} {x : Int32} (ha1 : zfc a 3 1 = some 0) (ha2 : zfc a 3 2 = some 0) (hq : Q (.inl none) 0 (zuI (zuI D a 1 (Int32.ofInt 0)) a 2 x)) : ZM yX3_begin iX3_begin d [.ref a, .int x] D Q := by
  refine z_method (by decide) rfl (Nat.le_of_ble_eq_true rfl) ?_
  refine z_at [(0, .ref a), (1, .int x)] ⟨rfl, rfl, trivial⟩ ?_
  refine z_aload_n dX3_begin_0 (by exact rfl) ?_
  refine z_iconst dX3_begin_1 ?_
  refine z_pfI zfx_X3_13 ha1 dX3_begin_2 ?_
  refine z_aload_n dX3_begin_5 (by exact rfl) ?_
  refine z_iload_n dX3_begin_6 (by exact rfl) ?_
  refine z_pfI zfx_X3_17 ha2 dX3_begin_7 ?_
  exact z_vret (st := []) rfl dX3_begin_10 hq
theorem c_predict8 {d : Nat} {D : zD} {Q : zQ} {x : Int32} (h1 : 0 ≤ x.toInt64 ∧ x.toInt64 ≤ 14 → Q (.inl none) 0 (zuI (zuI D 2 1 (Int32.ofInt 0)) 2 2 x)) (h0 : ¬ (0 ≤ x.toInt64 ∧ x.toInt64 ≤ 14) → Q (.inr zIAE) 1 D) :
    ZM yX8_predict iX8_predict (d + 1) [.ref 0, .int x] D Q := by
  refine z_method (by decide) rfl (Nat.le_of_ble_eq_true rfl) ?_
  refine z_at [(0, .ref 0), (1, .int x)] ⟨rfl, rfl, trivial⟩ ?_
  refine z_iload_n dX8_predict_0 (by exact rfl) ?_
  refine z_i2l dX8_predict_1 ?_
  refine z_lconst dX8_predict_2 ?_
  refine z_ldcL dX8_predict_3 zclx_X8_78 ?_
  refine z_cS dX8_predict_6 zk_X8_49 (by exact rfl) (Nat.le_of_ble_eq_true rfl) (Nat.le_of_ble_eq_true rfl) (Nat.le_refl _) ?_
  refine c_within (fun a6 b6 => ?_) (fun n6 => ?_)
  · refine z_if_ne (tgt := 20) dX8_predict_9 (by decide) (fun _ => ?_) (fun q9 => absurd q9 (by decide))
    refine z_aload_n dX8_predict_20 (by exact rfl) ?_
    refine z_gfA zfx_X8_21 (by exact rfl) dX8_predict_21 ?_
    refine z_iload_n dX8_predict_24 (by exact rfl) ?_
    refine z_cV dX8_predict_25 zk_X8_80 (by exact rfl) (by exact rfl) (by exact rfl) (Nat.le_of_ble_eq_true rfl) (Nat.le_of_ble_eq_true rfl) (Nat.le_refl _) ?_
    refine c_begin rfl rfl ?_
    exact z_vret (st := []) rfl dX8_predict_28 (h1 ⟨a6, b6⟩)
  · refine z_if_ne (tgt := 20) dX8_predict_9 (by decide) (fun q9 => absurd rfl q9) (fun _ => ?_)
    exact z_throw (Or.inl rfl) zt_X8_63 dX8_predict_12 dX8_predict_15 dX8_predict_16 dX8_predict_19 rfl (Nat.le_of_ble_eq_true rfl) (Nat.le_of_ble_eq_true rfl) (h0 n6)
theorem c_predict9 {d : Nat} {D : zD} {Q : zQ} {x : Int32} (h1 : 0 ≤ x.toInt64 ∧ x.toInt64 ≤ 14 → Q (.inl none) 0 (zuI (zuI (zuI D 19 0 (Int32.ofInt 0)) 19 5 x) 19 6 (Int32.ofInt 0))) (h0 : ¬ (0 ≤ x.toInt64 ∧ x.toInt64 ≤ 14) → Q (.inl none) 0 (zuI D 19 0 (Int32.ofInt 1))) :
    ZM yX9_predict iX9_predict (d + 1) [.ref 19, .int x] D Q := by
  refine z_method (by decide) rfl (Nat.le_of_ble_eq_true rfl) ?_
  refine z_at [(0, .ref 19), (1, .int x)] ⟨rfl, rfl, trivial⟩ ?_
  refine z_aload_n dX9_predict_0 (by exact rfl) ?_
  refine z_iload_n dX9_predict_1 (by exact rfl) ?_
  refine z_i2l dX9_predict_2 ?_
  refine z_lconst dX9_predict_3 ?_
  refine z_ldcL dX9_predict_4 zclx_X9_92 ?_
  refine z_cS dX9_predict_7 zk_X9_75 (by exact rfl) (Nat.le_of_ble_eq_true rfl) (Nat.le_of_ble_eq_true rfl) (Nat.le_refl _) ?_
  refine c_in (fun a7 b7 => ?_) (fun n7 => ?_)
  · refine z_if_eq (tgt := 17) dX9_predict_10 (by decide) (fun q9 => absurd q9 (by decide)) (fun _ => ?_)
    refine z_iconst dX9_predict_13 ?_
    refine z_goto (tgt := 18) dX9_predict_14 (by decide) ?_
    refine z_pfI zfx_X9_70 (by exact rfl) dX9_predict_18 ?_
    refine z_aload_n dX9_predict_21 (by exact rfl) ?_
    refine z_gfI zfx_X9_70 (by exact rfl) dX9_predict_22 ?_
    refine z_if_le (tgt := 29) dX9_predict_25 (by decide) (fun _ => ?_) (fun q9 => absurd ((by decide : Int32.ofInt 0 ≤ 0)) q9)
    refine z_aload_n dX9_predict_29 (by exact rfl) ?_
    refine z_iload_n dX9_predict_30 (by exact rfl) ?_
    refine z_pfI zfx_X9_94 (by exact rfl) dX9_predict_31 ?_
    refine z_aload_n dX9_predict_34 (by exact rfl) ?_
    refine z_iconst dX9_predict_35 ?_
    refine z_pfI zfx_X9_97 (by exact rfl) dX9_predict_36 ?_
    exact z_vret (st := []) rfl dX9_predict_39 (h1 ⟨a7, b7⟩)
  · refine z_if_eq (tgt := 17) dX9_predict_10 (by decide) (fun _ => ?_) (fun q9 => absurd q9 (by decide))
    refine z_iconst dX9_predict_17 ?_
    refine z_pfI zfx_X9_70 (by exact rfl) dX9_predict_18 ?_
    refine z_aload_n dX9_predict_21 (by exact rfl) ?_
    refine z_gfI zfx_X9_70 (by exact rfl) dX9_predict_22 ?_
    refine z_if_le (tgt := 29) dX9_predict_25 (by decide) (fun q9 => absurd q9 ((by decide : ¬ Int32.ofInt 1 ≤ 0))) (fun _ => ?_)
    exact z_vret (st := []) rfl dX9_predict_28 (h0 n7)
/-- one more coefficient, where there is room -/
theorem c_add {d a b n : Nat} {D : zD} {Q : zQ} {x : Int32} {j : Nat} (ha0 : zfc a 3 0 = some (b + 2)) (ha1 : zfc a 3 1 = some 0) (hb : zac b = some (0, n)) (hj : D.1 a 1 = nI j) (hn : n < 2 ^ 31) (hjn : j < n) (hab : ¬ a = b) (hq : Q (.inl none) 0 (zuI (zuI D b j x) a 1 (nI (j + 1)))) : ZM yX3_add iX3_add d [.ref a, .int x] D Q := by
  refine z_method (by decide) rfl (Nat.le_of_ble_eq_true rfl) ?_
  refine z_at [(0, .ref a), (1, .int x)] ⟨rfl, rfl, trivial⟩ ?_
  have e1 : (D.1 a 1).toNatClampNeg = j := by rw [hj]; exact nI_clamp (by omega)
  have e2 : D.1 a 1 + Int32.ofInt 1 = nI (j + 1) := by rw [hj]; exact nI_1 j
  have e3 : (zuI D b j x).1 a 1 = D.1 a 1 := by unfold zuI; simp only; rw [if_neg hab]
  refine z_aload_n dX3_add_0 (by exact rfl) ?_
  refine z_gfI zfx_X3_13 ha1 dX3_add_1 ?_
  refine z_aload_n dX3_add_4 (by exact rfl) ?_
  refine z_gfA zfx_X3_7 ha0 dX3_add_5 ?_
  refine z_alenL hb dX3_add_8 ?_
  refine z_icmp_ge (tgt := 32) dX3_add_9 (by decide) (fun q9 => absurd q9 (by rw [hj]; exact nI_ge hjn hn)) (fun _ => ?_)
  refine z_aload_n dX3_add_12 (by exact rfl) ?_
  refine z_gfA zfx_X3_7 ha0 dX3_add_13 ?_
  refine z_aload_n dX3_add_16 (by exact rfl) ?_
  refine z_gfI zfx_X3_13 ha1 dX3_add_17 ?_
  refine z_iload_n dX3_add_20 (by exact rfl) ?_
  refine z_sI hb dX3_add_21 (by rw [hj]; exact vp_in_nI hjn hn) ?_
  rw [e1]
  refine z_aload_n dX3_add_22 (by exact rfl) ?_
  refine z_dup dX3_add_23 (by exact rfl) ?_
  refine z_gfI zfx_X3_13 ha1 dX3_add_24 ?_
  refine z_iconst dX3_add_27 ?_
  refine z_iadd dX3_add_28 ?_
  rw [e3, e2]
  refine z_pfI zfx_X3_13 ha1 dX3_add_29 ?_
  exact z_vret (st := []) rfl dX3_add_32 hq
