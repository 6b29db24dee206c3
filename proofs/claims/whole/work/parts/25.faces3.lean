/-! ===== count, way: of both ===== -/
theorem q_tab {x : Int32} (P : Prop) (hin : ∀ j : Nat, j < 9 → x = nI j → P) (hout : (x.toInt < 0 ∨ 8 < x.toInt) → P) : P := by
  by_cases h : x.toInt < 0 ∨ 8 < x.toInt
  · exact hout h
  · refine hin x.toInt.toNat (by omega) ?_
    apply Int32.toInt_inj.mp
    rw [nI_toInt (by omega)]
    omega
/-- what count tells of the class, where the stream has mb bytes -/
def cnt8 (D : zD) (mb : Nat) : Nat → Int32
  | 0 => D.1 0 3
  | 1 => D.1 1 0
  | 2 => D.1 1 1
  | 3 => D.1 1 2
  | 4 => D.1 1 3
  | 5 => nI mb
  | 6 => D.1 5 1
  | 7 => D.1 37 1
  | 8 => D.1 2 1
  | _ => -1
def cnt9 (D : zD) : Nat → Int32
  | 0 => D.1 19 8
  | 1 => D.1 19 1
  | 2 => D.1 19 2
  | 3 => D.1 19 3
  | 4 => D.1 19 4
  | 5 => D.1 19 10
  | 6 => D.1 19 14
  | 7 => D.1 19 20
  | 8 => D.1 19 6
  | _ => -1
theorem c_count8 {d mb : Nat} {D : zD} {Q : zQ} {x : Int32} (hat : D.1 6 1 = nI (8 * mb)) (h : mb ≤ 20000) (h1 : ∀ j, j < 9 → x = nI j → Q (.inl (some (.int (cnt8 D mb j)))) 0 D) (h0 : (x.toInt < 0 ∨ 8 < x.toInt) → Q (.inl (some (.int (-1)))) 0 D) :
    ZM yX8_count iX8_count (d + 1) [.ref 0, .int x] D Q := by
  refine z_method (by decide) rfl (Nat.le_of_ble_eq_true rfl) ?_
  refine z_at [(0, .ref 0), (1, .int x)] ⟨rfl, rfl, trivial⟩ ?_
  have e : (8 * mb + 7) / 8 = mb := by omega
  refine z_iload_n dX8_count_0 (by exact rfl) ?_
  refine q_tab (x := x) _ (fun j hj hx => ?_) (fun hx => ?_)
  · subst hx
    have h1 := h1 j hj rfl
    match j, hj, h1 with
    | 0, _, h1 =>
      refine z_tableIn (tgt := 52) dX8_count_1 (by decide) (by decide) (by exact rfl) (by decide) ?_
      refine z_aload_n dX8_count_52 (by exact rfl) ?_
      refine z_gfI zfx_X8_29 (by exact rfl) dX8_count_53 ?_
      exact z_iret (st := []) rfl dX8_count_56 h1
    | 1, _, h1 =>
      refine z_tableIn (tgt := 57) dX8_count_1 (by decide) (by decide) (by exact rfl) (by decide) ?_
      refine z_aload_n dX8_count_57 (by exact rfl) ?_
      refine z_gfA zfx_X8_12 (by exact rfl) dX8_count_58 ?_
      refine z_gfI zfx_X8_66 (by exact rfl) dX8_count_61 ?_
      exact z_iret (st := []) rfl dX8_count_64 h1
    | 2, _, h1 =>
      refine z_tableIn (tgt := 65) dX8_count_1 (by decide) (by decide) (by exact rfl) (by decide) ?_
      refine z_aload_n dX8_count_65 (by exact rfl) ?_
      refine z_gfA zfx_X8_12 (by exact rfl) dX8_count_66 ?_
      refine z_gfI zfx_X8_69 (by exact rfl) dX8_count_69 ?_
      exact z_iret (st := []) rfl dX8_count_72 h1
    | 3, _, h1 =>
      refine z_tableIn (tgt := 73) dX8_count_1 (by decide) (by decide) (by exact rfl) (by decide) ?_
      refine z_aload_n dX8_count_73 (by exact rfl) ?_
      refine z_gfA zfx_X8_12 (by exact rfl) dX8_count_74 ?_
      refine z_gfI zfx_X8_72 (by exact rfl) dX8_count_77 ?_
      exact z_iret (st := []) rfl dX8_count_80 h1
    | 4, _, h1 =>
      refine z_tableIn (tgt := 81) dX8_count_1 (by decide) (by decide) (by exact rfl) (by decide) ?_
      refine z_aload_n dX8_count_81 (by exact rfl) ?_
      refine z_gfA zfx_X8_12 (by exact rfl) dX8_count_82 ?_
      refine z_gfI zfx_X8_75 (by exact rfl) dX8_count_85 ?_
      exact z_iret (st := []) rfl dX8_count_88 h1
    | 5, _, h1 =>
      refine z_tableIn (tgt := 89) dX8_count_1 (by decide) (by decide) (by exact rfl) (by decide) ?_
      refine z_aload_n dX8_count_89 (by exact rfl) ?_
      refine z_gfA zfx_X8_36 (by exact rfl) dX8_count_90 ?_
      refine z_gfA zfx_X8_109 (by exact rfl) dX8_count_93 ?_
      refine z_cV dX8_count_96 zk_X8_113 (by exact rfl) (by exact rfl) (by exact rfl) (Nat.le_of_ble_eq_true rfl) (Nat.le_of_ble_eq_true rfl) (Nat.le_refl _) ?_
      refine c_size hat (by omega) ?_
      exact z_iret (st := []) rfl dX8_count_99 (by rw [e]; exact h1)
    | 6, _, h1 =>
      refine z_tableIn (tgt := 100) dX8_count_1 (by decide) (by decide) (by exact rfl) (by decide) ?_
      refine z_aload_n dX8_count_100 (by exact rfl) ?_
      refine z_gfA zfx_X8_36 (by exact rfl) dX8_count_101 ?_
      refine z_gfI zfx_X8_123 (by exact rfl) dX8_count_104 ?_
      exact z_iret (st := []) rfl dX8_count_107 h1
    | 7, _, h1 =>
      refine z_tableIn (tgt := 108) dX8_count_1 (by decide) (by decide) (by exact rfl) (by decide) ?_
      refine z_aload_n dX8_count_108 (by exact rfl) ?_
      refine z_gfA zfx_X8_43 (by exact rfl) dX8_count_109 ?_
      refine z_gfI zfx_X8_138 (by exact rfl) dX8_count_112 ?_
      exact z_iret (st := []) rfl dX8_count_115 h1
    | 8, _, h1 =>
      refine z_tableIn (tgt := 116) dX8_count_1 (by decide) (by decide) (by exact rfl) (by decide) ?_
      refine z_aload_n dX8_count_116 (by exact rfl) ?_
      refine z_gfA zfx_X8_21 (by exact rfl) dX8_count_117 ?_
      refine z_gfI zfx_X8_87 (by exact rfl) dX8_count_120 ?_
      exact z_iret (st := []) rfl dX8_count_123 h1
    | j + 9, hj, _ => exact absurd hj (by omega)
  · refine z_tableOut (tgt := 124) dX8_count_1 hx (by decide) ?_
    refine z_iconst dX8_count_124 ?_
    exact z_iret (st := []) rfl dX8_count_125 (h0 hx)
theorem c_count9 {d : Nat} {D : zD} {Q : zQ} {x : Int32} (h1 : ∀ j, j < 9 → x = nI j → Q (.inl (some (.int (cnt9 D j)))) 0 (zuI D 19 0 (Int32.ofInt 0))) (h0 : (x.toInt < 0 ∨ 8 < x.toInt) → Q (.inl (some (.int (-1)))) 0 (zuI D 19 0 (Int32.ofInt 0))) :
    ZM yX9_count iX9_count d [.ref 19, .int x] D Q := by
  refine z_method (by decide) rfl (Nat.le_of_ble_eq_true rfl) ?_
  refine z_at [(0, .ref 19), (1, .int x)] ⟨rfl, rfl, trivial⟩ ?_
  refine z_aload_n dX9_count_0 (by exact rfl) ?_
  refine z_iconst dX9_count_1 ?_
  refine z_pfI zfx_X9_70 (by exact rfl) dX9_count_2 ?_
  refine z_iload_n dX9_count_5 (by exact rfl) ?_
  refine q_tab (x := x) _ (fun j hj hx => ?_) (fun hx => ?_)
  · subst hx
    have h1 := h1 j hj rfl
    match j, hj, h1 with
    | 0, _, h1 =>
      refine z_tableIn (tgt := 56) dX9_count_6 (by decide) (by decide) (by exact rfl) (by decide) ?_
      refine z_aload_n dX9_count_56 (by exact rfl) ?_
      refine z_gfI zfx_X9_89 (by exact rfl) dX9_count_57 ?_
      exact z_iret (st := []) rfl dX9_count_60 h1
    | 1, _, h1 =>
      refine z_tableIn (tgt := 61) dX9_count_6 (by decide) (by decide) (by exact rfl) (by decide) ?_
      refine z_aload_n dX9_count_61 (by exact rfl) ?_
      refine z_gfI zfx_X9_7 (by exact rfl) dX9_count_62 ?_
      exact z_iret (st := []) rfl dX9_count_65 h1
    | 2, _, h1 =>
      refine z_tableIn (tgt := 66) dX9_count_6 (by decide) (by decide) (by exact rfl) (by decide) ?_
      refine z_aload_n dX9_count_66 (by exact rfl) ?_
      refine z_gfI zfx_X9_13 (by exact rfl) dX9_count_67 ?_
      exact z_iret (st := []) rfl dX9_count_70 h1
    | 3, _, h1 =>
      refine z_tableIn (tgt := 71) dX9_count_6 (by decide) (by decide) (by exact rfl) (by decide) ?_
      refine z_aload_n dX9_count_71 (by exact rfl) ?_
      refine z_gfI zfx_X9_16 (by exact rfl) dX9_count_72 ?_
      exact z_iret (st := []) rfl dX9_count_75 h1
    | 4, _, h1 =>
      refine z_tableIn (tgt := 76) dX9_count_6 (by decide) (by decide) (by exact rfl) (by decide) ?_
      refine z_aload_n dX9_count_76 (by exact rfl) ?_
      refine z_gfI zfx_X9_20 (by exact rfl) dX9_count_77 ?_
      exact z_iret (st := []) rfl dX9_count_80 h1
    | 5, _, h1 =>
      refine z_tableIn (tgt := 81) dX9_count_6 (by decide) (by decide) (by exact rfl) (by decide) ?_
      refine z_aload_n dX9_count_81 (by exact rfl) ?_
      refine z_gfI zfx_X9_256 (by exact rfl) dX9_count_82 ?_
      exact z_iret (st := []) rfl dX9_count_85 h1
    | 6, _, h1 =>
      refine z_tableIn (tgt := 86) dX9_count_6 (by decide) (by decide) (by exact rfl) (by decide) ?_
      refine z_aload_n dX9_count_86 (by exact rfl) ?_
      refine z_gfI zfx_X9_246 (by exact rfl) dX9_count_87 ?_
      exact z_iret (st := []) rfl dX9_count_90 h1
    | 7, _, h1 =>
      refine z_tableIn (tgt := 91) dX9_count_6 (by decide) (by decide) (by exact rfl) (by decide) ?_
      refine z_aload_n dX9_count_91 (by exact rfl) ?_
      refine z_gfI zfx_X9_259 (by exact rfl) dX9_count_92 ?_
      exact z_iret (st := []) rfl dX9_count_95 h1
    | 8, _, h1 =>
      refine z_tableIn (tgt := 96) dX9_count_6 (by decide) (by decide) (by exact rfl) (by decide) ?_
      refine z_aload_n dX9_count_96 (by exact rfl) ?_
      refine z_gfI zfx_X9_97 (by exact rfl) dX9_count_97 ?_
      exact z_iret (st := []) rfl dX9_count_100 h1
    | j + 9, hj, _ => exact absurd hj (by omega)
  · refine z_tableOut (tgt := 101) dX9_count_6 hx (by decide) ?_
    refine z_iconst dX9_count_101 ?_
    exact z_iret (st := []) rfl dX9_count_102 (h0 hx)
/-- what way tells: of frame f, channel c (there are mch), of the class and of the reference -/
def way8 (D : zD) (mch f c w : Nat) : Int32 := if w = 4 then D.1 8 f else D.1 9 ((f * mch + c) * 4 + w)
def way9 (D : zD) (mch f c w : Nat) : Int32 := if w = 0 then D.1 55 (f * mch + c) else if w = 1 then D.1 56 (f * mch + c) else if w = 2 then D.1 57 (f * mch + c) else if w = 3 then D.1 58 (f * mch + c) else D.1 59 f
theorem q_row {fr mch f c : Nat} (hf : f < fr) (hc : c < mch) (h : fr * mch ≤ 264) : f * mch + c < 264 := by
  have h1 : (f + 1) * mch ≤ fr * mch := Nat.mul_le_mul_right _ hf
  rw [Nat.add_mul, Nat.one_mul] at h1
  omega
theorem c_told {d fr mch f c w : Nat} {D : zD} {Q : zQ} (hm : D.1 5 2 = nI mch) (hf : f < fr) (hfr : fr ≤ 256) (hc : c < mch) (hr : fr * mch ≤ 264) (hw : w < 5) (hq : Q (.inl (some (.int (way8 D mch f c w)))) 0 D) : ZM yX1_told iX1_told d [.ref 5, .int (nI f), .int (nI c), .int (nI w)] D Q := by
  refine z_method (by decide) rfl (Nat.le_of_ble_eq_true rfl) ?_
  refine z_at [(0, .ref 5), (1, .int (nI f)), (2, .int (nI c)), (3, .int (nI w))] ⟨rfl, rfl, rfl, rfl, trivial⟩ ?_
  have hrow := q_row hf hc hr
  unfold way8 at hq
  refine z_iload_n dX1_told_0 (by exact rfl) ?_
  refine z_iconst dX1_told_1 ?_
  refine z_icmp_ne (tgt := 14) dX1_told_2 (by decide) (fun c2 => ?_) (fun c2 => ?_)
  · refine z_aload_n dX1_told_14 (by exact rfl) ?_
    refine z_gfA zfx_X1_29 (by exact rfl) dX1_told_15 ?_
    refine z_iload_n dX1_told_18 (by exact rfl) ?_
    refine z_aload_n dX1_told_19 (by exact rfl) ?_
    refine z_gfI zfx_X1_22 (by exact rfl) dX1_told_20 ?_
    refine z_eI (nI mch) hm ?_
    refine z_imul dX1_told_23 ?_
    refine z_iload_n dX1_told_24 (by exact rfl) ?_
    refine z_iadd dX1_told_25 ?_
    refine z_iconst dX1_told_26 ?_
    refine z_imul dX1_told_27 ?_
    refine z_iload_n dX1_told_28 (by exact rfl) ?_
    refine z_iadd dX1_told_29 ?_
    refine z_eI (nI ((f * mch + c) * 4 + w)) (by
      have e4 : Int32.ofInt 4 = nI 4 := rfl
      rw [e4, pk_mul, nI_add, pk_mul, nI_add]) ?_
    refine z_aI (by exact rfl) dX1_told_30 (vp_in_nI (by
      have hw4 : ¬ w = 4 := fun q => c2 (by rw [q]; rfl)
      omega) (by omega)) ?_
    rw [nI_clamp (show (f * mch + c) * 4 + w < 2 ^ 31 by omega)]
    exact z_iret (st := []) rfl dX1_told_31 (by
      have hw4 : ¬ w = 4 := fun q => c2 (by rw [q]; rfl)
      rw [if_neg hw4] at hq
      exact hq)
  · refine z_aload_n dX1_told_5 (by exact rfl) ?_
    refine z_gfA zfx_X1_25 (by exact rfl) dX1_told_6 ?_
    refine z_iload_n dX1_told_9 (by exact rfl) ?_
    refine z_aI (by exact rfl) dX1_told_10 (vp_in_nI (by omega) (by omega)) ?_
    rw [nI_clamp (show f < 2 ^ 31 by omega)]
    refine z_goto (tgt := 31) dX1_told_11 (by decide) ?_
    exact z_iret (st := []) rfl dX1_told_31 (by
      rw [if_pos ((nI_eq (a := w) (b := 4) (by omega) (by omega)).mp c2)] at hq
      exact hq)
theorem zN_in4 {i : Int32} : (Int64.ofNat ((0 : Fin 2) : Nat) ≤ i.toInt64 ∧ i.toInt64 ≤ 4) ↔ ∃ j, j < 5 ∧ i = nI j := zN_in (m := 5) (by omega)
/-- the frame, channel and kind are there -/
def okWay (fr mch : Nat) (f c w : Int32) : Prop := (∃ j, j < fr ∧ f = nI j) ∧ (∃ j, j < mch ∧ c = nI j) ∧ ∃ j, j < 5 ∧ w = nI j
theorem c_way8 {d fr mch : Nat} {D : zD} {Q : zQ} {f c w : Int32} (hfr : D.1 5 1 = nI fr) (hm : D.1 5 2 = nI mch) (h1 : fr ≤ 256) (h2 : mch ≤ 8) (h3 : fr * mch ≤ 264) (h4 : ∀ fj cj wj, f = nI fj → c = nI cj → w = nI wj → fj < fr → cj < mch → wj < 5 → Q (.inl (some (.int (way8 D mch fj cj wj)))) 0 D) (h0 : ¬ okWay fr mch f c w → Q (.inr zIAE) 1 D) :
    ZM yX8_way iX8_way (d + 1) [.ref 0, .int f, .int c, .int w] D Q := by
  refine z_method (by decide) rfl (Nat.le_of_ble_eq_true rfl) ?_
  refine z_at [(0, .ref 0), (1, .int f), (2, .int c), (3, .int w)] ⟨rfl, rfl, rfl, rfl, trivial⟩ ?_
  refine z_iload_n dX8_way_0 (by exact rfl) ?_
  refine z_i2l dX8_way_1 ?_
  refine z_lconst dX8_way_2 ?_
  refine z_aload_n dX8_way_3 (by exact rfl) ?_
  refine z_gfA zfx_X8_36 (by exact rfl) dX8_way_4 ?_
  refine z_gfI zfx_X8_123 (by exact rfl) dX8_way_7 ?_
  refine z_eI (nI fr) hfr ?_
  refine z_iconst dX8_way_10 ?_
  refine z_isub dX8_way_11 ?_
  refine z_i2l dX8_way_12 ?_
  refine z_cS dX8_way_13 zk_X8_49 (by exact rfl) (Nat.le_of_ble_eq_true rfl) (Nat.le_of_ble_eq_true rfl) (Nat.le_refl _) ?_
  refine c_within (fun a13 b13 => ?_) (fun n13 => ?_)
  · refine z_if_eq (tgt := 50) dX8_way_16 (by decide) (fun q9 => absurd q9 (by decide)) (fun _ => ?_)
    refine z_iload_n dX8_way_19 (by exact rfl) ?_
    refine z_i2l dX8_way_20 ?_
    refine z_lconst dX8_way_21 ?_
    refine z_aload_n dX8_way_22 (by exact rfl) ?_
    refine z_gfA zfx_X8_36 (by exact rfl) dX8_way_23 ?_
    refine z_gfI zfx_X8_126 (by exact rfl) dX8_way_26 ?_
    refine z_eI (nI mch) hm ?_
    refine z_iconst dX8_way_29 ?_
    refine z_isub dX8_way_30 ?_
    refine z_i2l dX8_way_31 ?_
    refine z_cS dX8_way_32 zk_X8_49 (by exact rfl) (Nat.le_of_ble_eq_true rfl) (Nat.le_of_ble_eq_true rfl) (Nat.le_refl _) ?_
    refine c_within (fun a32 b32 => ?_) (fun n32 => ?_)
    · refine z_if_eq (tgt := 50) dX8_way_35 (by decide) (fun q9 => absurd q9 (by decide)) (fun _ => ?_)
      refine z_iload_n dX8_way_38 (by exact rfl) ?_
      refine z_i2l dX8_way_39 ?_
      refine z_lconst dX8_way_40 ?_
      refine z_ldcL dX8_way_41 zclx_X8_53 ?_
      refine z_cS dX8_way_44 zk_X8_49 (by exact rfl) (Nat.le_of_ble_eq_true rfl) (Nat.le_of_ble_eq_true rfl) (Nat.le_refl _) ?_
      refine c_within (fun a44 b44 => ?_) (fun n44 => ?_)
      · refine z_if_ne (tgt := 58) dX8_way_47 (by decide) (fun _ => ?_) (fun q9 => absurd q9 (by decide))
        obtain ⟨fj, hfj, rfl⟩ := (zN_in (by omega)).mp ⟨a13, b13⟩
        obtain ⟨cj, hcj, rfl⟩ := (zN_in (by omega)).mp ⟨a32, b32⟩
        obtain ⟨wj, hwj, rfl⟩ := zN_in4.mp ⟨a44, b44⟩
        refine z_aload_n dX8_way_58 (by exact rfl) ?_
        refine z_gfA zfx_X8_36 (by exact rfl) dX8_way_59 ?_
        refine z_iload_n dX8_way_62 (by exact rfl) ?_
        refine z_iload_n dX8_way_63 (by exact rfl) ?_
        refine z_iload_n dX8_way_64 (by exact rfl) ?_
        refine z_cV dX8_way_65 zk_X8_127 (by exact rfl) (by exact rfl) (by exact rfl) (Nat.le_of_ble_eq_true rfl) (Nat.le_of_ble_eq_true rfl) (Nat.le_refl _) ?_
        refine c_told hm hfj h1 hcj h3 hwj ?_
        exact z_iret (st := []) rfl dX8_way_68 (h4 fj cj wj rfl rfl rfl hfj hcj hwj)
      · refine z_if_ne (tgt := 58) dX8_way_47 (by decide) (fun q9 => absurd rfl q9) (fun _ => ?_)
        exact z_throw (Or.inl rfl) zt_X8_63 dX8_way_50 dX8_way_53 dX8_way_54 dX8_way_57 rfl (Nat.le_of_ble_eq_true rfl) (Nat.le_of_ble_eq_true rfl) (h0 (fun q => n44 (zN_in4.mpr q.2.2)))
    · refine z_if_eq (tgt := 50) dX8_way_35 (by decide) (fun _ => ?_) (fun q9 => absurd q9 (by decide))
      exact z_throw (Or.inl rfl) zt_X8_63 dX8_way_50 dX8_way_53 dX8_way_54 dX8_way_57 rfl (Nat.le_of_ble_eq_true rfl) (Nat.le_of_ble_eq_true rfl) (h0 (fun q => n32 ((zN_in (by omega)).mpr q.2.1)))
  · refine z_if_eq (tgt := 50) dX8_way_16 (by decide) (fun _ => ?_) (fun q9 => absurd q9 (by decide))
    exact z_throw (Or.inl rfl) zt_X8_63 dX8_way_50 dX8_way_53 dX8_way_54 dX8_way_57 rfl (Nat.le_of_ble_eq_true rfl) (Nat.le_of_ble_eq_true rfl) (h0 (fun q => n13 ((zN_in (by omega)).mpr q.1)))
theorem c_way9 {d fr mch : Nat} {D : zD} {Q : zQ} {f c w : Int32} (hfr : D.1 19 14 = nI fr) (hm : D.1 19 13 = nI mch) (h1 : fr ≤ 256) (h2 : mch ≤ 8) (h3 : fr * mch ≤ 264) (h4 : ∀ fj cj wj, f = nI fj → c = nI cj → w = nI wj → fj < fr → cj < mch → wj < 5 → Q (.inl (some (.int (way9 D mch fj cj wj)))) 0 (zuI D 19 0 (Int32.ofInt 0))) (h0 : ¬ okWay fr mch f c w → Q (.inl (some (.int (Int32.ofInt 0)))) 0 (zuI D 19 0 (Int32.ofInt 1))) :
    ZM yX9_way iX9_way (d + 1) [.ref 19, .int f, .int c, .int w] D Q := by
  refine z_method (by decide) rfl (Nat.le_of_ble_eq_true rfl) ?_
  refine z_at [(0, .ref 19), (1, .int f), (2, .int c), (3, .int w)] ⟨rfl, rfl, rfl, rfl, trivial⟩ ?_
  refine z_aload_n dX9_way_0 (by exact rfl) ?_
  refine z_iload_n dX9_way_1 (by exact rfl) ?_
  refine z_i2l dX9_way_2 ?_
  refine z_lconst dX9_way_3 ?_
  refine z_aload_n dX9_way_4 (by exact rfl) ?_
  refine z_gfI zfx_X9_246 (by exact rfl) dX9_way_5 ?_
  refine z_eI (nI fr) hfr ?_
  refine z_iconst dX9_way_8 ?_
  refine z_isub dX9_way_9 ?_
  refine z_i2l dX9_way_10 ?_
  refine z_cS dX9_way_11 zk_X9_75 (by exact rfl) (Nat.le_of_ble_eq_true rfl) (Nat.le_of_ble_eq_true rfl) (Nat.le_refl _) ?_
  refine c_in (fun a11 b11 => ?_) (fun n11 => ?_)
  · refine z_if_eq (tgt := 49) dX9_way_14 (by decide) (fun q9 => absurd q9 (by decide)) (fun _ => ?_)
    refine z_iload_n dX9_way_17 (by exact rfl) ?_
    refine z_i2l dX9_way_18 ?_
    refine z_lconst dX9_way_19 ?_
    refine z_aload_n dX9_way_20 (by exact rfl) ?_
    refine z_gfI zfx_X9_249 (by exact rfl) dX9_way_21 ?_
    refine z_eI (nI mch) hm ?_
    refine z_iconst dX9_way_24 ?_
    refine z_isub dX9_way_25 ?_
    refine z_i2l dX9_way_26 ?_
    refine z_cS dX9_way_27 zk_X9_75 (by exact rfl) (Nat.le_of_ble_eq_true rfl) (Nat.le_of_ble_eq_true rfl) (Nat.le_refl _) ?_
    refine c_in (fun a27 b27 => ?_) (fun n27 => ?_)
    · refine z_if_eq (tgt := 49) dX9_way_30 (by decide) (fun q9 => absurd q9 (by decide)) (fun _ => ?_)
      refine z_iload_n dX9_way_33 (by exact rfl) ?_
      refine z_i2l dX9_way_34 ?_
      refine z_lconst dX9_way_35 ?_
      refine z_ldcL dX9_way_36 zclx_X9_79 ?_
      refine z_cS dX9_way_39 zk_X9_75 (by exact rfl) (Nat.le_of_ble_eq_true rfl) (Nat.le_of_ble_eq_true rfl) (Nat.le_refl _) ?_
      refine c_in (fun a39 b39 => ?_) (fun n39 => ?_)
      · refine z_if_eq (tgt := 49) dX9_way_42 (by decide) (fun q9 => absurd q9 (by decide)) (fun _ => ?_)
        refine z_iconst dX9_way_45 ?_
        refine z_goto (tgt := 50) dX9_way_46 (by decide) ?_
        refine z_pfI zfx_X9_70 (by exact rfl) dX9_way_50 ?_
        refine z_aload_n dX9_way_53 (by exact rfl) ?_
        refine z_gfI zfx_X9_70 (by exact rfl) dX9_way_54 ?_
        refine z_if_le (tgt := 62) dX9_way_57 (by decide) (fun _ => ?_) (fun q9 => absurd ((by decide : Int32.ofInt 0 ≤ 0)) q9)
        obtain ⟨fj, hfj, rfl⟩ := (zN_in (by omega)).mp ⟨a11, b11⟩
        obtain ⟨cj, hcj, rfl⟩ := (zN_in (by omega)).mp ⟨a27, b27⟩
        obtain ⟨wj, hwj, rfl⟩ := zN_in4.mp ⟨a39, b39⟩
        have hrow := q_row hfj hcj h3
        have h4 := h4 fj cj wj rfl rfl rfl hfj hcj hwj
        unfold way9 at h4
        have w0 : nI wj = 0 ↔ wj = 0 := nI_eq (a := wj) (b := 0) (by omega) (by omega)
        have w1 : nI wj = Int32.ofInt 1 ↔ wj = 1 := nI_eq (a := wj) (b := 1) (by omega) (by omega)
        have w2 : nI wj = Int32.ofInt 2 ↔ wj = 2 := nI_eq (a := wj) (b := 2) (by omega) (by omega)
        have w3 : nI wj = Int32.ofInt 3 ↔ wj = 3 := nI_eq (a := wj) (b := 3) (by omega) (by omega)
        refine z_iload_n dX9_way_62 (by exact rfl) ?_
        refine z_aload_n dX9_way_63 (by exact rfl) ?_
        refine z_gfI zfx_X9_249 (by exact rfl) dX9_way_64 ?_
        refine z_eI (nI mch) hm ?_
        refine z_imul dX9_way_67 ?_
        refine z_iload_n dX9_way_68 (by exact rfl) ?_
        refine z_iadd dX9_way_69 ?_
        refine z_eI (nI (fj * mch + cj)) (by rw [pk_mul, nI_add]) ?_
        refine z_istore dX9_way_70 (Nat.le_of_ble_eq_true rfl) ?_
        refine z_iload_n dX9_way_72 (by exact rfl) ?_
        refine z_if_ne (tgt := 86) dX9_way_73 (by decide) (fun c73 => ?_) (fun c73 => ?_)
        · refine z_iload_n dX9_way_86 (by exact rfl) ?_
          refine z_iconst dX9_way_87 ?_
          refine z_icmp_ne (tgt := 101) dX9_way_88 (by decide) (fun c88 => ?_) (fun c88 => ?_)
          · refine z_iload_n dX9_way_101 (by exact rfl) ?_
            refine z_iconst dX9_way_102 ?_
            refine z_icmp_ne (tgt := 116) dX9_way_103 (by decide) (fun c103 => ?_) (fun c103 => ?_)
            · refine z_iload_n dX9_way_116 (by exact rfl) ?_
              refine z_iconst dX9_way_117 ?_
              refine z_icmp_ne (tgt := 131) dX9_way_118 (by decide) (fun c118 => ?_) (fun c118 => ?_)
              · refine z_aload_n dX9_way_131 (by exact rfl) ?_
                refine z_gfA zfx_X9_46 (by exact rfl) dX9_way_132 ?_
                refine z_iload_n dX9_way_135 (by exact rfl) ?_
                refine z_aI (by exact rfl) dX9_way_136 (vp_in_nI (by omega) (by omega)) ?_
                rw [nI_clamp (show fj < 2 ^ 31 by omega)]
                exact z_iret (st := []) rfl dX9_way_137 (by rw [if_neg (fun q => c73 (w0.mpr q)), if_neg (fun q => c88 (w1.mpr q)), if_neg (fun q => c103 (w2.mpr q)), if_neg (fun q => c118 (w3.mpr q))] at h4; exact h4)
              · refine z_aload_n dX9_way_121 (by exact rfl) ?_
                refine z_gfA zfx_X9_43 (by exact rfl) dX9_way_122 ?_
                refine z_iload dX9_way_125 (by exact rfl) ?_
                refine z_aI (by exact rfl) dX9_way_127 (vp_in_nI hrow (by omega)) ?_
                rw [nI_clamp (show fj * mch + cj < 2 ^ 31 by omega)]
                refine z_goto (tgt := 137) dX9_way_128 (by decide) ?_
                exact z_iret (st := []) rfl dX9_way_137 (by rw [if_neg (fun q => c73 (w0.mpr q)), if_neg (fun q => c88 (w1.mpr q)), if_neg (fun q => c103 (w2.mpr q)), if_pos (w3.mp c118)] at h4; exact h4)
            · refine z_aload_n dX9_way_106 (by exact rfl) ?_
              refine z_gfA zfx_X9_40 (by exact rfl) dX9_way_107 ?_
              refine z_iload dX9_way_110 (by exact rfl) ?_
              refine z_aI (by exact rfl) dX9_way_112 (vp_in_nI hrow (by omega)) ?_
              rw [nI_clamp (show fj * mch + cj < 2 ^ 31 by omega)]
              refine z_goto (tgt := 137) dX9_way_113 (by decide) ?_
              exact z_iret (st := []) rfl dX9_way_137 (by rw [if_neg (fun q => c73 (w0.mpr q)), if_neg (fun q => c88 (w1.mpr q)), if_pos (w2.mp c103)] at h4; exact h4)
          · refine z_aload_n dX9_way_91 (by exact rfl) ?_
            refine z_gfA zfx_X9_37 (by exact rfl) dX9_way_92 ?_
            refine z_iload dX9_way_95 (by exact rfl) ?_
            refine z_aI (by exact rfl) dX9_way_97 (vp_in_nI hrow (by omega)) ?_
            rw [nI_clamp (show fj * mch + cj < 2 ^ 31 by omega)]
            refine z_goto (tgt := 137) dX9_way_98 (by decide) ?_
            exact z_iret (st := []) rfl dX9_way_137 (by rw [if_neg (fun q => c73 (w0.mpr q)), if_pos (w1.mp c88)] at h4; exact h4)
        · refine z_aload_n dX9_way_76 (by exact rfl) ?_
          refine z_gfA zfx_X9_34 (by exact rfl) dX9_way_77 ?_
          refine z_iload dX9_way_80 (by exact rfl) ?_
          refine z_aI (by exact rfl) dX9_way_82 (vp_in_nI hrow (by omega)) ?_
          rw [nI_clamp (show fj * mch + cj < 2 ^ 31 by omega)]
          refine z_goto (tgt := 137) dX9_way_83 (by decide) ?_
          exact z_iret (st := []) rfl dX9_way_137 (by rw [if_pos (w0.mp c73)] at h4; exact h4)
      · refine z_if_eq (tgt := 49) dX9_way_42 (by decide) (fun _ => ?_) (fun q9 => absurd q9 (by decide))
        refine z_iconst dX9_way_49 ?_
        refine z_pfI zfx_X9_70 (by exact rfl) dX9_way_50 ?_
        refine z_aload_n dX9_way_53 (by exact rfl) ?_
        refine z_gfI zfx_X9_70 (by exact rfl) dX9_way_54 ?_
        refine z_if_le (tgt := 62) dX9_way_57 (by decide) (fun q9 => absurd q9 ((by decide : ¬ Int32.ofInt 1 ≤ 0))) (fun _ => ?_)
        refine z_iconst dX9_way_60 ?_
        exact z_iret (st := []) rfl dX9_way_61 (h0 (fun q => n39 (zN_in4.mpr q.2.2)))
    · refine z_if_eq (tgt := 49) dX9_way_30 (by decide) (fun _ => ?_) (fun q9 => absurd q9 (by decide))
      refine z_iconst dX9_way_49 ?_
      refine z_pfI zfx_X9_70 (by exact rfl) dX9_way_50 ?_
      refine z_aload_n dX9_way_53 (by exact rfl) ?_
      refine z_gfI zfx_X9_70 (by exact rfl) dX9_way_54 ?_
      refine z_if_le (tgt := 62) dX9_way_57 (by decide) (fun q9 => absurd q9 ((by decide : ¬ Int32.ofInt 1 ≤ 0))) (fun _ => ?_)
      refine z_iconst dX9_way_60 ?_
      exact z_iret (st := []) rfl dX9_way_61 (h0 (fun q => n27 ((zN_in (by omega)).mpr q.2.1)))
  · refine z_if_eq (tgt := 49) dX9_way_14 (by decide) (fun _ => ?_) (fun q9 => absurd q9 (by decide))
    refine z_iconst dX9_way_49 ?_
    refine z_pfI zfx_X9_70 (by exact rfl) dX9_way_50 ?_
    refine z_aload_n dX9_way_53 (by exact rfl) ?_
    refine z_gfI zfx_X9_70 (by exact rfl) dX9_way_54 ?_
    refine z_if_le (tgt := 62) dX9_way_57 (by decide) (fun q9 => absurd q9 ((by decide : ¬ Int32.ofInt 1 ≤ 0))) (fun _ => ?_)
    refine z_iconst dX9_way_60 ?_
    exact z_iret (st := []) rfl dX9_way_61 (h0 (fun q => n11 ((zN_in (by omega)).mpr q.1)))
