/-! ===== Reader.readHeader, expectSum ===== -/
theorem c_readHeader {d ch fr n p sz : Nat} {D : zD} {T : Nat → Bool} {Q : zQ} (hfr : fr < 256) (hn : 1 ≤ n ∧ n ≤ 256) (hch : D.1 39 0 = nI ch) (hc : 1 ≤ ch ∧ ch ≤ 8) (hR : rd8 D T sz p) (h1 : ∀ D' a q, sHeader T (8 * sz) ch fr n p = .inr (a, q) → a < 16 → rd8 D' T sz q → zfr fAt D D' → Q (.inl (some (.int (nI a)))) 0 D') (h0 : ∀ D' k pl, sHeader T (8 * sz) ch fr n p = .inl (k, pl) → bad8 D' k pl → zfr fAt D D' → Q (.inr zISE) 1 D') :
    ZM yX4_readHeader iX4_readHeader (d + 3) [.ref 37, .int (nI fr), .int (nI n)] D Q := by
  refine z_method (by decide) rfl (Nat.le_of_ble_eq_true rfl) ?_
  refine z_at [(0, .ref 37), (1, .int (nI fr)), (2, .int (nI n))] ⟨rfl, rfl, rfl, trivial⟩ ?_
  unfold sHeader at h1 h0
  have le64 : ∀ a b : Nat, a < 1000 → b < 1000 → (lN a ≤ lN b ↔ a ≤ b) := fun a b ha hb => pk_lLE (by omega) (by omega)
  have eq64 : ∀ a b : Nat, a < 1000 → b < 1000 → (lN a = lN b ↔ a = b) := fun a b ha hb => pk_lEQ (by omega) (by omega)
  refine z_aload_n dX4_readHeader_0 (by exact rfl) ?_
  refine z_bipush dX4_readHeader_1 ?_
  refine z_ldcL dX4_readHeader_3 zclx_X4_173 ?_
  refine z_cV dX4_readHeader_6 zk_X4_104 (by exact rfl) (by exact rfl) (by exact rfl) (Nat.le_of_ble_eq_true rfl) (Nat.le_of_ble_eq_true rfl) (Nat.le_refl _) ?_
  refine c_exp (w := 14) (due := 16382) (by omega) rfl (by omega) hR (fun D1 s1 hR1 _ hF1 => ?_) (fun D1 k s1 hb1 hF1 => zx_out rfl (h0 D1 k _ (rbind_l s1) hb1 hF1))
  refine z_aload_n dX4_readHeader_9 (by exact rfl) ?_
  refine z_iconst dX4_readHeader_10 ?_
  refine z_lconst dX4_readHeader_11 ?_
  refine z_cV dX4_readHeader_12 zk_X4_104 (by exact rfl) (by exact rfl) (by exact rfl) (Nat.le_of_ble_eq_true rfl) (Nat.le_of_ble_eq_true rfl) (Nat.le_refl _) ?_
  refine c_exp (w := 2) (due := 0) (by omega) rfl (by omega) hR1 (fun D2 s2 hR2 _ hF2 => ?_) (fun D2 k s2 hb2 hF2 => zx_out rfl (h0 D2 k _ (by rw [rbind_r s1, rbind_l s2]) hb2 (hF1.tr hF2)))
  have f2 := hF1.tr hF2
  refine z_aload_n dX4_readHeader_15 (by exact rfl) ?_
  refine z_iconst dX4_readHeader_16 ?_
  refine z_ldcL dX4_readHeader_17 zclx_X4_175 ?_
  refine z_cV dX4_readHeader_20 zk_X4_104 (by exact rfl) (by exact rfl) (by exact rfl) (Nat.le_of_ble_eq_true rfl) (Nat.le_of_ble_eq_true rfl) (Nat.le_refl _) ?_
  refine c_exp (w := 4) (due := 6) (by omega) rfl (by omega) hR2 (fun D3 s3 hR3 _ hF3 => ?_) (fun D3 k s3 hb3 hF3 => zx_out rfl (h0 D3 k _ (by rw [rbind_r s1, rbind_r s2, rbind_l s3]) hb3 (f2.tr hF3)))
  have f3 := f2.tr hF3
  refine z_aload_n dX4_readHeader_23 (by exact rfl) ?_
  refine z_iconst dX4_readHeader_24 ?_
  refine z_lconst dX4_readHeader_25 ?_
  refine z_cV dX4_readHeader_26 zk_X4_104 (by exact rfl) (by exact rfl) (by exact rfl) (Nat.le_of_ble_eq_true rfl) (Nat.le_of_ble_eq_true rfl) (Nat.le_refl _) ?_
  refine c_exp (w := 4) (due := 0) (by omega) rfl (by omega) hR3 (fun D4 s4 hR4 _ hF4 => ?_) (fun D4 k s4 hb4 hF4 => zx_out rfl (h0 D4 k _ (by rw [rbind_r s1, rbind_r s2, rbind_r s3, rbind_l s4]) hb4 (f3.tr hF4)))
  have f4 := f3.tr hF4
  refine z_aload_n dX4_readHeader_29 (by exact rfl) ?_
  refine z_iconst dX4_readHeader_30 ?_
  refine z_cV dX4_readHeader_31 zk_X4_98 (by exact rfl) (by exact rfl) (by exact rfl) (Nat.le_of_ble_eq_true rfl) (Nat.le_of_ble_eq_true rfl) (Nat.le_refl _) ?_
  refine c_num (w := 4) (by omega) hR4 (fun D5 hle5 hR5 hit5 hF5 => ?_) (fun D5 hn5 hb5 hF5 => zx_out rfl (h0 D5 1 _ (by rw [rbind_r s1, rbind_r s2, rbind_r s3, rbind_r s4, rbind_l (rit_1 hn5)]) hb5 (f4.tr hF5)))
  have f5 := f4.tr hF5
  have hch5 : D5.1 39 0 = nI ch := (f5.1 39 0 rfl).trans hch
  obtain ⟨a, ha⟩ : ∃ a, a = bv T (p + 14 + 2 + 4 + 4) 4 := ⟨_, rfl⟩
  have ha16 : a < 16 := by rw [ha]; exact bv_lt T _ 4
  rw [← ha]
  have chk : ∀ b : Int32, (b = 0 ↔ ¬ ((ch = 2 ∧ 8 ≤ a ∧ a ≤ 10) ∨ a + 1 = ch)) → Z (zmk iX4_readHeader (d + 3)) 0 92 (zl [(0, .ref 37), (1, .int (nI fr)), (2, .int (nI n)), (3, .int (nI a))]) [.int b, .ref 37] D5 Q := by
    intro b hb
    refine z_iconst dX4_readHeader_92 ?_
    refine z_cV dX4_readHeader_93 zk_X4_119 (by exact rfl) (by exact rfl) (by exact rfl) (Nat.le_of_ble_eq_true rfl) (Nat.le_of_ble_eq_true rfl) (Nat.le_add_left _ _) ?_
    refine c_fu (kind := 2) hit5 (fun hbn => ?_) (fun D6 q hb6 hF6 => zx_out rfl (h0 D6 2 _ (by rw [rbind_r s1, rbind_r s2, rbind_r s3, rbind_r s4, rbind_l (rit_k hle5 (by unfold kAsg; rw [← ha, if_neg (hb.mp q)]) (by omega))]) hb6 (f5.tr hF6)))
    have s5 : rit T (8 * sz) 4 (kAsg ch) (p + 14 + 2 + 4 + 4) = .inr (bv T (p + 14 + 2 + 4 + 4) 4, p + 14 + 2 + 4 + 4 + 4) := rit_r hle5 (by
      unfold kAsg
      rw [← ha, if_pos (Decidable.not_not.mp (fun q => hbn (hb.mpr q)))])
    refine z_aload_n dX4_readHeader_96 (by exact rfl) ?_
    refine z_iconst dX4_readHeader_97 ?_
    refine z_lconst dX4_readHeader_98 ?_
    refine z_cV dX4_readHeader_99 zk_X4_104 (by exact rfl) (by exact rfl) (by exact rfl) (Nat.le_of_ble_eq_true rfl) (Nat.le_of_ble_eq_true rfl) (Nat.le_refl _) ?_
    refine c_exp (w := 4) (due := 0) (by omega) rfl (by omega) hR5 (fun D6 s6 hR6 _ hF6 => ?_) (fun D6 k s6 hb6 hF6 => zx_out rfl (h0 D6 k _ (by rw [rbind_r s1, rbind_r s2, rbind_r s3, rbind_r s4, rbind_r s5, rbind_l s6]) hb6 (f5.tr hF6)))
    have f6 := f5.tr hF6
    refine z_aload_n dX4_readHeader_102 (by exact rfl) ?_
    refine z_iload_n dX4_readHeader_103 (by exact rfl) ?_
    refine z_cV dX4_readHeader_104 zk_X4_181 (by exact rfl) (by exact rfl) (by exact rfl) (Nat.le_of_ble_eq_true rfl) (Nat.le_of_ble_eq_true rfl) (Nat.le_refl _) ?_
    refine c_readFrameNumber hfr hR6 (fun D7 q7 s7 hR7 hF7 => ?_) (fun D7 k pl s7 hb7 hF7 => zx_out rfl (h0 D7 k pl (by rw [rbind_r s1, rbind_r s2, rbind_r s3, rbind_r s4, rbind_r s5, rbind_r s6, rbind_l s7]) hb7 (f6.tr hF7)))
    have f7 := f6.tr hF7
    refine z_aload_n dX4_readHeader_107 (by exact rfl) ?_
    refine z_aload_n dX4_readHeader_108 (by exact rfl) ?_
    refine z_bipush dX4_readHeader_109 ?_
    refine z_cV dX4_readHeader_111 zk_X4_98 (by exact rfl) (by exact rfl) (by exact rfl) (Nat.le_of_ble_eq_true rfl) (Nat.le_of_ble_eq_true rfl) (Nat.le_add_left _ _) ?_
    refine c_num (w := 8) (by omega) hR7 (fun D8 hle8 hR8 hit8 hF8 => ?_) (fun D8 hn8 hb8 hF8 => zx_out rfl (h0 D8 1 _ (by rw [rbind_r s1, rbind_r s2, rbind_r s3, rbind_r s4, rbind_r s5, rbind_r s6, rbind_r s7, rbind_l (rit_1 hn8)]) hb8 (f7.tr hF8)))
    have f8 := f7.tr hF8
    have hm := bv8 T q7
    refine z_iload_n dX4_readHeader_114 (by exact rfl) ?_
    refine z_iconst dX4_readHeader_115 ?_
    refine z_isub dX4_readHeader_116 ?_
    refine z_eI (nI (n - 1)) (pk_sub (b := 1) (by omega)) ?_
    refine z_i2l dX4_readHeader_117 ?_
    refine z_eJ (lN (n - 1)) (nI_l (by omega)) ?_
    refine z_ne (tgt := 126) dX4_readHeader_118 dX4_readHeader_119 (by decide) (fun c118 => ?_) (fun c118 => ?_)
    · refine z_iconst dX4_readHeader_126 ?_
      refine z_iconst dX4_readHeader_127 ?_
      refine z_cV dX4_readHeader_128 zk_X4_119 (by exact rfl) (by exact rfl) (by exact rfl) (Nat.le_of_ble_eq_true rfl) (Nat.le_of_ble_eq_true rfl) (Nat.le_add_left _ _) ?_
      exact c_fu (kind := 4) hit8 (fun q => absurd rfl q) (fun D9 _ hb9 hF9 => zx_out rfl (h0 D9 4 _ (by rw [rbind_r s1, rbind_r s2, rbind_r s3, rbind_r s4, rbind_r s5, rbind_r s6, rbind_r s7, rbind_l (rit_k (f := fun v => if v + 1 = n then 0 else 4) hle8 (if_neg (fun q => c118 ((eq64 _ _ (by omega) (by omega)).mpr (by omega)))) (by omega))]) hb9 (f8.tr hF9)))
    · refine z_iconst dX4_readHeader_122 ?_
      refine z_goto (tgt := 127) dX4_readHeader_123 (by decide) ?_
      refine z_iconst dX4_readHeader_127 ?_
      refine z_cV dX4_readHeader_128 zk_X4_119 (by exact rfl) (by exact rfl) (by exact rfl) (Nat.le_of_ble_eq_true rfl) (Nat.le_of_ble_eq_true rfl) (Nat.le_add_left _ _) ?_
      refine c_fu (kind := 4) hit8 (fun _ => ?_) (fun D9 q => absurd q (by decide))
      refine z_iload_n dX4_readHeader_131 (by exact rfl) ?_
      exact z_iret (st := []) rfl dX4_readHeader_132 (h1 D8 a (q7 + 8) (by
        rw [rbind_r s1, rbind_r s2, rbind_r s3, rbind_r s4, rbind_r s5, rbind_r s6, rbind_r s7, rbind_r (rit_r (f := fun v => if v + 1 = n then 0 else 4) hle8 (if_pos (by have := (eq64 _ _ (by omega) (by omega)).mp c118; omega))), ha]
        rfl) ha16 hR8 f8)
  refine z_l2i dX4_readHeader_34 ?_
  refine z_eI (nI a) (lN_i a) ?_
  refine z_istore_n dX4_readHeader_35 (Nat.le_of_ble_eq_true rfl) ?_
  refine z_aload_n dX4_readHeader_36 (by exact rfl) ?_
  refine z_gfA zfx_X4_28 (by exact rfl) dX4_readHeader_37 ?_
  refine z_gfI zfx_X4_135 (by exact rfl) dX4_readHeader_40 ?_
  refine z_eI (nI ch) hch5 ?_
  refine z_iconst dX4_readHeader_43 ?_
  refine z_icmp_ne (tgt := 65) dX4_readHeader_44 (by decide) (fun c44 => ?_) (fun c44 => ?_)
  · refine z_iconst dX4_readHeader_65 ?_
    refine z_istore dX4_readHeader_66 (Nat.le_of_ble_eq_true rfl) ?_
    refine z_aload_n dX4_readHeader_68 (by exact rfl) ?_
    refine z_iload dX4_readHeader_69 (by exact rfl) ?_
    refine z_if_ne (tgt := 87) dX4_readHeader_71 (by decide) (fun q9 => absurd ((rfl : Int32.ofInt 0 = 0)) q9) (fun _ => ?_)
    refine z_iload_n dX4_readHeader_74 (by exact rfl) ?_
    refine z_aload_n dX4_readHeader_75 (by exact rfl) ?_
    refine z_gfA zfx_X4_28 (by exact rfl) dX4_readHeader_76 ?_
    refine z_gfI zfx_X4_135 (by exact rfl) dX4_readHeader_79 ?_
    refine z_eI (nI ch) hch5 ?_
    refine z_iconst dX4_readHeader_82 ?_
    refine z_isub dX4_readHeader_83 ?_
    refine z_eI (nI (ch - 1)) (pk_sub (b := 1) (by omega)) ?_
    refine z_icmp_ne (tgt := 91) dX4_readHeader_84 (by decide) (fun c84 => ?_) (fun c84 => ?_)
    · refine z_iconst dX4_readHeader_91 ?_
      exact z_at [(0, .ref 37), (1, .int (nI fr)), (2, .int (nI n)), (3, .int (nI a))] ⟨rfl, rfl, rfl, rfl, trivial⟩ (chk _ ⟨fun _ q => q.elim (fun q => c44 (by rw [q.1]; rfl)) (fun q => c84 (by rw [show a = ch - 1 by omega])), fun _ => rfl⟩)
    · refine z_iconst dX4_readHeader_87 ?_
      refine z_goto (tgt := 92) dX4_readHeader_88 (by decide) ?_
      exact z_at [(0, .ref 37), (1, .int (nI fr)), (2, .int (nI n)), (3, .int (nI a))] ⟨rfl, rfl, rfl, rfl, trivial⟩ (chk _ ⟨fun q => absurd q (by decide), fun q => absurd (Or.inr (by have := (nI_eq (a := a) (b := ch - 1) (by omega) (by omega)).mp c84; omega)) q⟩)
  · refine z_iload_n dX4_readHeader_47 (by exact rfl) ?_
    refine z_i2l dX4_readHeader_48 ?_
    refine z_eJ (lN a) (nI_l (by omega)) ?_
    refine z_ldcL dX4_readHeader_49 zclx_X4_177 ?_
    refine z_ldcL dX4_readHeader_52 zclx_X4_179 ?_
    refine z_cN dX4_readHeader_55 zk_X4_115 rfl (by exact rfl) (Nat.le_of_ble_eq_true rfl) (Nat.le_of_ble_eq_true rfl) (Nat.le_add_left _ _) ?_
    refine c_within (fun a55 b55 => ?_) (fun n55 => ?_)
    · refine z_if_eq (tgt := 65) dX4_readHeader_58 (by decide) (fun q9 => absurd q9 (by decide)) (fun _ => ?_)
      refine z_iconst dX4_readHeader_61 ?_
      refine z_goto (tgt := 66) dX4_readHeader_62 (by decide) ?_
      refine z_istore dX4_readHeader_66 (Nat.le_of_ble_eq_true rfl) ?_
      refine z_aload_n dX4_readHeader_68 (by exact rfl) ?_
      refine z_iload dX4_readHeader_69 (by exact rfl) ?_
      refine z_if_ne (tgt := 87) dX4_readHeader_71 (by decide) (fun _ => ?_) (fun q9 => absurd q9 ((by decide : ¬ Int32.ofInt 1 = 0)))
      refine z_iconst dX4_readHeader_87 ?_
      refine z_goto (tgt := 92) dX4_readHeader_88 (by decide) ?_
      exact z_at [(0, .ref 37), (1, .int (nI fr)), (2, .int (nI n)), (3, .int (nI a))] ⟨rfl, rfl, rfl, rfl, trivial⟩ (chk _ ⟨fun q => absurd q (by decide), fun q => absurd (Or.inl ⟨(nI_eq (a := ch) (b := 2) (by omega) (by omega)).mp c44, (le64 8 _ (by omega) (by omega)).mp a55, (le64 _ 10 (by omega) (by omega)).mp b55⟩) q⟩)
    · refine z_if_eq (tgt := 65) dX4_readHeader_58 (by decide) (fun _ => ?_) (fun q9 => absurd q9 (by decide))
      refine z_iconst dX4_readHeader_65 ?_
      refine z_istore dX4_readHeader_66 (Nat.le_of_ble_eq_true rfl) ?_
      refine z_aload_n dX4_readHeader_68 (by exact rfl) ?_
      refine z_iload dX4_readHeader_69 (by exact rfl) ?_
      refine z_if_ne (tgt := 87) dX4_readHeader_71 (by decide) (fun q9 => absurd ((rfl : Int32.ofInt 0 = 0)) q9) (fun _ => ?_)
      refine z_iload_n dX4_readHeader_74 (by exact rfl) ?_
      refine z_aload_n dX4_readHeader_75 (by exact rfl) ?_
      refine z_gfA zfx_X4_28 (by exact rfl) dX4_readHeader_76 ?_
      refine z_gfI zfx_X4_135 (by exact rfl) dX4_readHeader_79 ?_
      refine z_eI (nI ch) hch5 ?_
      refine z_iconst dX4_readHeader_82 ?_
      refine z_isub dX4_readHeader_83 ?_
      refine z_eI (nI (ch - 1)) (pk_sub (b := 1) (by omega)) ?_
      refine z_icmp_ne (tgt := 91) dX4_readHeader_84 (by decide) (fun c84 => ?_) (fun c84 => ?_)
      · refine z_iconst dX4_readHeader_91 ?_
        exact z_at [(0, .ref 37), (1, .int (nI fr)), (2, .int (nI n)), (3, .int (nI a))] ⟨rfl, rfl, rfl, rfl, trivial⟩ (chk _ ⟨fun _ q => q.elim (fun q => n55 ⟨(le64 8 _ (by omega) (by omega)).mpr q.2.1, (le64 _ 10 (by omega) (by omega)).mpr q.2.2⟩) (fun q => c84 (by rw [show a = ch - 1 by omega])), fun _ => rfl⟩)
      · refine z_iconst dX4_readHeader_87 ?_
        refine z_goto (tgt := 92) dX4_readHeader_88 (by decide) ?_
        exact z_at [(0, .ref 37), (1, .int (nI fr)), (2, .int (nI n)), (3, .int (nI a))] ⟨rfl, rfl, rfl, rfl, trivial⟩ (chk _ ⟨fun q => absurd q (by decide), fun q => absurd (Or.inr (by have := (nI_eq (a := a) (b := ch - 1) (by omega) (by omega)).mp c84; omega)) q⟩)
theorem crc_small {w : Nat} (hw : w = 8 ∨ w = 16) (T : Nat → Bool) (a : Nat) : ∀ m, ∃ v, v < 2 ^ w ∧ crc w (crPoly w) T a m = nI v := by
  have key : ∀ x : Int32, (∀ j, w ≤ j → x.toBitVec.getLsbD j = false) → ∃ v, v < 2 ^ w ∧ x = nI v := by
    intro x hx
    refine ⟨x.toBitVec.toNat, ?_, ?_⟩
    · rcases Nat.lt_or_ge x.toBitVec.toNat (2 ^ w) with h | h
      · exact h
      · obtain ⟨i, hi, ht⟩ := Nat.exists_ge_and_testBit_of_ge_two_pow h
        have h2 := hx i hi
        rw [BitVec.getLsbD, ht] at h2
        cases h2
    · apply Int32.toBitVec_inj.mp
      show _ = (Int32.ofNat _).toBitVec
      rw [Int32.toBitVec_ofNat']
      simp
  intro m
  apply key
  cases m with
  | zero => intro j _; exact BitVec.getLsbD_zero
  | succ m =>
    intro j hj
    by_cases hj32 : j < 32
    · have hm := q_crmask hw j hj32
      have hp : (crPoly w).toBitVec.getLsbD j = false := by
        have h : ∀ j, j < 32 → w ≤ j → (crPoly w).toBitVec.getLsbD j = false := by rcases hw with rfl | rfl <;> decide
        exact h j hj32 hj
      show (crStep w (crPoly w) (crc w (crPoly w) T a m) (T (a + m))).toBitVec.getLsbD j = false
      unfold crStep
      split
      · rw [q_xor, q_and, hm, hp]
        simp [show ¬ j < w by omega]
      · rw [q_and, hm]
        simp [show ¬ j < w by omega]
    · exact BitVec.getLsbD_of_ge _ _ (by omega)
theorem crc_congr {w : Nat} {poly : Int32} {T T' : Nat → Bool} {a : Nat} : ∀ {m : Nat}, (∀ i, a ≤ i → i < a + m → T i = T' i) → crc w poly T a m = crc w poly T' a m
  | 0, _ => rfl
  | m + 1, h => by
    show crStep w poly (crc w poly T a m) (T (a + m)) = crStep w poly (crc w poly T' a m) (T' (a + m))
    rw [crc_congr (m := m) (fun i h1 h2 => h i h1 (by omega)), h (a + m) (by omega) (by omega)]
theorem c_expectSum {d w from0 p sz : Nat} {D : zD} {T : Nat → Bool} {Q : zQ} {poly : Int32} (hw : w = 8 ∨ w = 16) (hpoly : poly = crPoly w) (hp8 : p % 8 = 0) (hfr : 8 * from0 ≤ p) (hR : rd8 D T sz p) (h1 : ∀ D', sSum T (8 * sz) w from0 p = .inr (bv T p w, p + w) → rd8 D' T sz (p + w) → D'.1 37 8 = nI p → zfr fAt D D' → Q (.inl none) 0 D') (h0 : ∀ D' k pl, sSum T (8 * sz) w from0 p = .inl (k, pl) → bad8 D' k pl → zfr fAt D D' → Q (.inr zISE) 1 D') :
    ZM yX4_expectSum iX4_expectSum (d + 2) [.ref 37, .int (nI from0), .int (nI w), .int poly] D Q := by
  subst hpoly
  refine z_method (by decide) rfl (Nat.le_of_ble_eq_true rfl) ?_
  refine z_at [(0, .ref 37), (1, .int (nI from0)), (2, .int (nI w)), (3, .int (crPoly w))] ⟨rfl, rfl, rfl, rfl, trivial⟩ ?_
  obtain ⟨r1, r2, r3, r4, r5, r6⟩ := id hR
  obtain ⟨v, hv, hcv⟩ := crc_small hw T (8 * from0) (p - 8 * from0)
  have hw16 : w ≤ 16 := by omega
  have hv16 : v < 65536 := Nat.lt_of_lt_of_le hv (Nat.pow_le_pow_right (by omega) hw16)
  have hb16 : bv T p w < 65536 := Nat.lt_of_lt_of_le (bv_lt T p w) (Nat.pow_le_pow_right (by omega) hw16)
  have ec : crc w (crPoly w) (bt8 (D.1 38)) (8 * from0) (8 * (p / 8 - from0)) = nI v := by
    rw [← hcv, show 8 * (p / 8 - from0) = p - 8 * from0 by omega]
    exact crc_congr (fun i a b => r5 i (by omega))
  have eq64 : lN (bv T p w) = lN v ↔ bv T p w = v := pk_lEQ (by omega) (by omega)
  have hdef : ∀ x : Nat, ((x : Int) = (crc w (crPoly w) T (8 * from0) (p - 8 * from0)).toInt) ↔ x = v := by
    intro x
    rw [hcv, nI_toInt (by omega)]
    omega
  unfold sSum at h1 h0
  refine z_aload_n dX4_expectSum_0 (by exact rfl) ?_
  refine z_gfA zfx_X4_9 (by exact rfl) dX4_expectSum_1 ?_
  refine z_iload_n dX4_expectSum_4 (by exact rfl) ?_
  refine z_aload_n dX4_expectSum_5 (by exact rfl) ?_
  refine z_gfI zfx_X4_64 (by exact rfl) dX4_expectSum_6 ?_
  refine z_iconst dX4_expectSum_9 ?_
  refine z_ishr dX4_expectSum_10 ?_
  refine z_eI (nI (p / 8)) (by
    show D.1 37 7 >>> _ = _
    rw [r3]
    exact pk_shrN (n := p) (by omega) _ 3 (by decide)) ?_
  refine z_iload_n dX4_expectSum_11 (by exact rfl) ?_
  refine z_iload_n dX4_expectSum_12 (by exact rfl) ?_
  refine z_cN dX4_expectSum_13 zk_X4_194 rfl (by exact rfl) (Nat.le_of_ble_eq_true rfl) (Nat.le_of_ble_eq_true rfl) (Nat.le_add_left _ _) ?_
  refine c_sum8 (n := 20000) rfl (by omega) hw (by omega) (by omega) ?_
  rw [ec]
  refine z_istore dX4_expectSum_16 (Nat.le_of_ble_eq_true rfl) ?_
  refine z_aload_n dX4_expectSum_18 (by exact rfl) ?_
  refine z_aload_n dX4_expectSum_19 (by exact rfl) ?_
  refine z_iload_n dX4_expectSum_20 (by exact rfl) ?_
  refine z_cV dX4_expectSum_21 zk_X4_98 (by exact rfl) (by exact rfl) (by exact rfl) (Nat.le_of_ble_eq_true rfl) (Nat.le_of_ble_eq_true rfl) (Nat.le_refl _) ?_
  refine c_num (w := w) (by omega) hR (fun D1 hle hR1 hit hF => ?_) (fun D1 hn hb1 hF => zx_out rfl (h0 D1 1 p (rit_1 hn) hb1 hF))
  refine z_iload dX4_expectSum_24 (by exact rfl) ?_
  refine z_i2l dX4_expectSum_26 ?_
  refine z_eJ (lN v) (nI_l (by omega)) ?_
  refine z_ne (tgt := 35) dX4_expectSum_27 dX4_expectSum_28 (by decide) (fun c27 => ?_) (fun c27 => ?_)
  · refine z_iconst dX4_expectSum_35 ?_
    refine z_iconst dX4_expectSum_36 ?_
    refine z_cV dX4_expectSum_37 zk_X4_119 (by exact rfl) (by exact rfl) (by exact rfl) (Nat.le_of_ble_eq_true rfl) (Nat.le_of_ble_eq_true rfl) (Nat.le_refl _) ?_
    exact c_fu (kind := 3) hit (fun q => absurd rfl q) (fun D3 _ hb3 hF3 => zx_out rfl (h0 D3 3 p (rit_k hle (if_neg (fun q => c27 (eq64.mpr ((hdef _).mp q)))) (by omega)) hb3 (hF.tr hF3)))
  · refine z_iconst dX4_expectSum_31 ?_
    refine z_goto (tgt := 36) dX4_expectSum_32 (by decide) ?_
    refine z_iconst dX4_expectSum_36 ?_
    refine z_cV dX4_expectSum_37 zk_X4_119 (by exact rfl) (by exact rfl) (by exact rfl) (Nat.le_of_ble_eq_true rfl) (Nat.le_of_ble_eq_true rfl) (Nat.le_refl _) ?_
    refine c_fu (kind := 3) hit (fun _ => ?_) (fun D3 q => absurd q (by decide))
    exact z_vret (st := []) rfl dX4_expectSum_40 (h1 D1 (rit_r hle (if_pos ((hdef _).mpr (eq64.mp c27)))) hR1 hit hF)
