/-! ===== Pen ===== -/
set_option maxRecDepth 100000 in
theorem zm_X2_30 : zminw RX2 30 = true := by decide +kernel
theorem q_min (a b : Nat) (ha : a < 2 ^ 31) (hb : b < 2 ^ 31) : (if nI b < nI a then nI b else nI a) = nI (min a b) := by
  by_cases h : b < a
  · rw [if_pos ((nI_ltI hb ha).mpr h), Nat.min_eq_right (by omega)]
  · rw [if_neg (fun q => h ((nI_ltI hb ha).mp q)), Nat.min_eq_left (by omega)]
theorem c_put {d w n : Nat} {D : zD} {S : Nat → Bool} {Q : zQ} {x : Int64} (hw : w ≤ 63) (hn : n + w ≤ 160000) (hR : penR D n S) (hq : ∀ D', zfr fPen D D' → penR D' (n + w) (apB S n w x) → Q (.inl none) 0 D') : ZM yX2_put iX2_put d [.ref 6, .int (nI w), .long x] D Q := by
  refine z_method (by decide) rfl (Nat.le_of_ble_eq_true rfl) ?_
  refine z_at [(0, .ref 6), (1, .int (nI w)), (2, .long x)] ⟨rfl, rfl, rfl, trivial⟩ ?_
  have hT : ∀ i, n ≤ i → i < n + w → apB S n w x i = x.toBitVec.getLsbD (w - 1 - (i - n)) := fun i h1 h2 => by
    unfold apB
    rw [if_neg (by omega), if_pos h2]
  have lp : ∀ (m left : Nat), left ≤ m → ∀ (p : Nat) (D1 : zD), p + left = n + w → n ≤ p → zfr fPen D D1 → penR D1 p (cutB (apB S n w x) p) → Z (zmk iX2_put d) 0 3 (zl [(0, .ref 6), (2, .long x), (4, .int (nI left))]) [] D1 Q := by
    intro m
    induction m with
    | zero =>
      intro left hm p D1 hpl hnp hF hP
      have hl : left = 0 := by omega
      subst hl
      refine z_iload dX2_put_3 (by exact rfl) ?_
      refine z_if_le (tgt := 97) dX2_put_5 (by decide) (fun _ => ?_) (fun q9 => absurd ((by decide)) q9)
      exact z_vret (st := []) rfl dX2_put_97 (hq D1 hF (by
        have e : p = n + w := by omega
        subst e
        obtain ⟨r1, r2, r3, r4, r5⟩ := hP
        have ec : cutB (apB S n w x) (n + w) = apB S n w x := by
          funext i
          unfold cutB apB
          by_cases h1 : i < n
          · simp [h1, show i < n + w by omega]
          · by_cases h2 : i < n + w
            · simp [h1, h2]
            · simp [h1, h2]
        rw [ec] at r3 r4
        exact ⟨r1, r2, r3, r4, r5⟩))
    | succ m ih =>
      intro left hm p D1 hpl hnp hF hP
      by_cases hl0 : left = 0
      · exact ih left (by omega) p D1 hpl hnp hF hP
      obtain ⟨r1, r2, r3, r4, r5⟩ := id hP
      have hp : p < 160000 := by omega
      obtain ⟨tk, htk⟩ : ∃ tk, tk = min (8 - p % 8) left := ⟨_, rfl⟩
      have h1 : tk ≤ left := by omega
      have h2 : 0 < tk := by omega
      have h3 : tk ≤ 8 - p % 8 := by omega
      refine z_iload dX2_put_3 (by exact rfl) ?_
      refine z_if_le (tgt := 97) dX2_put_5 (by decide) (fun q9 => absurd q9 ((nI_nle (by omega) (by omega)))) (fun _ => ?_)
      refine z_aload_n dX2_put_8 (by exact rfl) ?_
      refine z_gfI zfx_X2_15 (by exact rfl) dX2_put_9 ?_
      refine z_eI (nI p) r1 ?_
      refine z_ldcI dX2_put_12 zcix_X2_29 ?_
      refine z_icmp_ge (tgt := 97) dX2_put_14 (by decide) (fun q9 => absurd q9 ((nI_ge (a := p) (b := 160000) (by omega) (by omega)))) (fun _ => ?_)
      refine z_bipush dX2_put_17 ?_
      refine z_aload_n dX2_put_19 (by exact rfl) ?_
      refine z_gfI zfx_X2_15 (by exact rfl) dX2_put_20 ?_
      refine z_eI (nI p) r1 ?_
      refine z_bipush dX2_put_23 ?_
      refine z_iand dX2_put_25 ?_
      refine z_eI (nI (p % 8)) (pk_andN (by omega) 3 (by decide)) ?_
      refine z_isub dX2_put_26 ?_
      refine z_eI (nI (8 - p % 8)) (pk_sub (a := 8) (by omega)) ?_
      refine z_istore dX2_put_27 (Nat.le_of_ble_eq_true rfl) ?_
      refine z_iload dX2_put_29 (by exact rfl) ?_
      refine z_iload dX2_put_31 (by exact rfl) ?_
      refine z_min dX2_put_33 zm_X2_30 (Nat.le_of_ble_eq_true rfl) (Nat.le_of_ble_eq_true rfl) ?_
      refine z_eI (nI tk) (by rw [htk]; exact q_min _ _ (by omega) (by omega)) ?_
      refine z_istore dX2_put_36 (Nat.le_of_ble_eq_true rfl) ?_
      refine z_iload dX2_put_38 (by exact rfl) ?_
      refine z_iload dX2_put_40 (by exact rfl) ?_
      refine z_isub dX2_put_42 ?_
      refine z_eI (nI (left - tk)) (pk_sub (by omega)) ?_
      refine z_istore dX2_put_43 (Nat.le_of_ble_eq_true rfl) ?_
      refine z_lload_n dX2_put_45 (by exact rfl) ?_
      refine z_iload dX2_put_46 (by exact rfl) ?_
      refine z_lshr dX2_put_48 ?_
      refine z_l2i dX2_put_49 ?_
      refine z_iconst dX2_put_50 ?_
      refine z_iload dX2_put_51 (by exact rfl) ?_
      refine z_ishl dX2_put_53 ?_
      refine z_iconst dX2_put_54 ?_
      refine z_isub dX2_put_55 ?_
      refine z_iand dX2_put_56 ?_
      refine z_istore dX2_put_57 (Nat.le_of_ble_eq_true rfl) ?_
      refine z_aload_n dX2_put_59 (by exact rfl) ?_
      refine z_gfA zfx_X2_9 (by exact rfl) dX2_put_60 ?_
      refine z_aload_n dX2_put_63 (by exact rfl) ?_
      refine z_gfI zfx_X2_15 (by exact rfl) dX2_put_64 ?_
      refine z_eI (nI p) r1 ?_
      refine z_iconst dX2_put_67 ?_
      refine z_ishr dX2_put_68 ?_
      refine z_eI (nI (p / 8)) (pk_shrN (by omega) _ 3 (by decide)) ?_
      refine z_dup2 dX2_put_69 (by exact rfl) (by exact rfl) ?_
      refine z_aB (by exact rfl) dX2_put_70 (vp_in_nI (by omega) (by omega)) ?_
      rw [nI_clamp (show p / 8 < 2 ^ 31 by omega)]
      refine z_iload dX2_put_71 (by exact rfl) ?_
      refine z_iload dX2_put_73 (by exact rfl) ?_
      refine z_iload dX2_put_75 (by exact rfl) ?_
      refine z_isub dX2_put_77 ?_
      refine z_eI (nI (8 - p % 8 - tk)) (pk_sub (by omega)) ?_
      refine z_ishl dX2_put_78 ?_
      refine z_i2b dX2_put_79 ?_
      refine z_ior dX2_put_80 ?_
      refine z_i2b dX2_put_81 ?_
      refine z_sB (by exact rfl) dX2_put_82 (vp_in_nI (by omega) (by omega)) ?_
      rw [nI_clamp (show p / 8 < 2 ^ 31 by omega)]
      refine z_aload_n dX2_put_83 (by exact rfl) ?_
      refine z_dup dX2_put_84 (by exact rfl) ?_
      refine z_gfI zfx_X2_15 (by exact rfl) dX2_put_85 ?_
      refine z_eI (nI p) r1 ?_
      refine z_iload dX2_put_88 (by exact rfl) ?_
      refine z_iadd dX2_put_90 ?_
      refine z_eI (nI (p + tk)) (nI_add p tk) ?_
      refine z_pfI zfx_X2_15 (by exact rfl) dX2_put_91 ?_
      refine z_goto (tgt := 3) dX2_put_94 (by decide) ?_
      refine z_at [(0, .ref 6), (2, .long x), (4, .int (nI (left - tk)))] ⟨rfl, rfl, rfl, trivial⟩ ?_
      refine ih (left - tk) (by omega) (p + tk) _ (by omega) (by omega) ((hF.uI _ rfl).uI _ rfl) ⟨rfl, by omega, ?_, ?_, ?_⟩
      · refine put_bits (n := n) (w := w) (left := left) (x := x) (fun i a b => hT i (by omega) b) hnp hpl hw h1 h2 h3 r3 (by omega) (fun j hj => ?_)
        rw [q_low8 _ hj, q_low8 _ hj, q_or, q_low8 _ hj, q_shl _ (by omega), BitVec.getLsbD_shiftLeft, q_and]
        by_cases hs : j < 8 - p % 8 - tk
        · simp [hs, show ¬ (8 - p % 8 - tk ≤ j) by omega]
        · have e2 : ((Int32.ofInt 1 <<< (nI tk &&& 31)) - Int32.ofInt 1).toBitVec.getLsbD (j - (8 - p % 8 - tk)) = decide (j - (8 - p % 8 - tk) < tk) := q_mask tk (by omega) _ (by omega)
          rw [e2]
          by_cases hm : j - (8 - p % 8 - tk) < tk
          · have e1 : ((x >>> ((nI (left - tk)).toInt64 &&& 63)).toInt32).toBitVec.getLsbD (j - (8 - p % 8 - tk)) = x.toBitVec.getLsbD (left - tk + (j - (8 - p % 8 - tk))) := by
              rw [Int64.toBitVec_toInt32, BitVec.getLsbD_signExtend, q_lshr _ (by omega), BitVec.getLsbD_sshiftRight]
              simp [show j - (8 - p % 8 - tk) < 32 by omega, show j - (8 - p % 8 - tk) < 64 by omega, show ¬ (64 ≤ j - (8 - p % 8 - tk)) by omega, show left - tk + (j - (8 - p % 8 - tk)) < 64 by omega]
            rw [e1]
            simp [hs, hm, show 8 - p % 8 - tk ≤ j by omega, show j < 32 by omega]
          · simp [hm]
      · intro i hi
        unfold cutB
        simp [show ¬ i < p + tk by omega]
      · intro j hj
        show fits .byte (.int (upd (D1.1 7) (p / 8) _ j)) = true
        unfold upd
        split
        · exact fits_byte _
        · exact r5 j hj
  refine z_iload_n dX2_put_0 (by exact rfl) ?_
  refine z_istore dX2_put_1 (Nat.le_of_ble_eq_true rfl) ?_
  refine z_at [(0, .ref 6), (2, .long x), (4, .int (nI w))] ⟨rfl, rfl, rfl, trivial⟩ ?_
  refine lp w w (by omega) n D rfl (by omega) zfr.rf ?_
  obtain ⟨r1, r2, r3, r4, r5⟩ := hR
  have ec : cutB (apB S n w x) n = S := by
    funext i
    unfold cutB apB
    by_cases h1 : i < n
    · simp [h1]
    · simp [h1, r4 i (by omega)]
  rw [ec]
  exact ⟨r1, r2, r3, r4, r5⟩
theorem c_putZeros {d m n : Nat} {D : zD} {S : Nat → Bool} {Q : zQ} (hn : n + m ≤ 160000) (hR : penR D n S) (hq : ∀ D', zfr fPen D D' → penR D' (n + m) S → Q (.inl none) 0 D') : ZM yX2_putZeros iX2_putZeros d [.ref 6, .int (nI m)] D Q := by
  refine z_method (by decide) rfl (Nat.le_of_ble_eq_true rfl) ?_
  refine z_at [(0, .ref 6), (1, .int (nI m))] ⟨rfl, rfl, trivial⟩ ?_
  obtain ⟨r1, r2, r3, r4, r5⟩ := hR
  refine z_aload_n dX2_putZeros_0 (by exact rfl) ?_
  refine z_aload_n dX2_putZeros_1 (by exact rfl) ?_
  refine z_gfI zfx_X2_15 (by exact rfl) dX2_putZeros_2 ?_
  refine z_eI (nI n) r1 ?_
  refine z_iload_n dX2_putZeros_5 (by exact rfl) ?_
  refine z_iadd dX2_putZeros_6 ?_
  refine z_eI (nI (n + m)) (nI_add n m) ?_
  refine z_ldcI dX2_putZeros_7 zcix_X2_29 ?_
  refine z_min dX2_putZeros_9 zm_X2_30 (Nat.le_of_ble_eq_true rfl) (Nat.le_of_ble_eq_true rfl) ?_
  refine z_eI (nI (n + m)) ((q_min (n + m) 160000 (by omega) (by omega)).trans (by rw [Nat.min_eq_left hn])) ?_
  refine z_pfI zfx_X2_15 (by exact rfl) dX2_putZeros_12 ?_
  exact z_vret (st := []) rfl dX2_putZeros_15 (hq _ (zfr.rf.uI _ rfl) ⟨rfl, hn, r3, fun i hi => r4 i (by omega), r5⟩)
theorem c_fillByte {d n : Nat} {D : zD} {S : Nat → Bool} {Q : zQ} (hn : n + 7 ≤ 160000) (hR : penR D n S) (hq : ∀ D', zfr fPen D D' → penR D' (8 * ((n + 7) / 8)) S → Q (.inl none) 0 D') : ZM yX2_fillByte iX2_fillByte (d + 1) [.ref 6] D Q := by
  refine z_method (by decide) rfl (Nat.le_of_ble_eq_true rfl) ?_
  refine z_at [(0, .ref 6)] ⟨rfl, trivial⟩ ?_
  obtain ⟨r1, r2, r3, r4, r5⟩ := hR
  refine z_aload_n dX2_fillByte_0 (by exact rfl) ?_
  refine z_bipush dX2_fillByte_1 ?_
  refine z_aload_n dX2_fillByte_3 (by exact rfl) ?_
  refine z_cV dX2_fillByte_4 zk_X2_19 (by exact rfl) (by exact rfl) (by exact rfl) (Nat.le_of_ble_eq_true rfl) (Nat.le_of_ble_eq_true rfl) (Nat.le_refl _) ?_
  refine c_size r1 (by omega) ?_
  refine z_imul dX2_fillByte_7 ?_
  refine z_eI (nI (8 * ((n + 7) / 8))) (pk_mul 8 ((n + 7) / 8)) ?_
  refine z_pfI zfx_X2_15 (by exact rfl) dX2_fillByte_8 ?_
  exact z_vret (st := []) rfl dX2_fillByte_11 (hq _ (zfr.rf.uI _ rfl) ⟨rfl, by omega, r3, fun i hi => r4 i (by omega), r5⟩)
theorem c_clear {d n : Nat} {D : zD} {S : Nat → Bool} {Q : zQ} (hR : penR D n S) (hq : ∀ D', zfr fPen D D' → penR D' 0 (fun _ => false) → Q (.inl none) 0 D') : ZM yX2_clear iX2_clear (d + 2) [.ref 6] D Q := by
  refine z_method (by decide) rfl (Nat.le_of_ble_eq_true rfl) ?_
  refine z_at [(0, .ref 6)] ⟨rfl, trivial⟩ ?_
  obtain ⟨r1, r2, r3, r4, r5⟩ := hR
  have hF : zfr fPen D (zuR D 7 (flF (D.1 7) 0 ((n + 7) / 8) (Int32.ofInt 0))) := by
    refine ⟨fun a k q => ?_, fun _ _ _ => rfl⟩
    have ha : ¬ a = 7 := by
      rintro rfl
      cases q
    show (if a = 7 then _ else D.1 a) k = D.1 a k
    rw [if_neg ha]
  refine z_aload_n dX2_clear_0 (by exact rfl) ?_
  refine z_gfA zfx_X2_9 (by exact rfl) dX2_clear_1 ?_
  refine z_iconst dX2_clear_4 ?_
  refine z_aload_n dX2_clear_5 (by exact rfl) ?_
  refine z_cV dX2_clear_6 zk_X2_19 (by exact rfl) (by exact rfl) (by exact rfl) (Nat.le_of_ble_eq_true rfl) (Nat.le_of_ble_eq_true rfl) (Nat.le_add_left _ _) ?_
  refine c_size r1 (by omega) ?_
  refine z_iconst dX2_clear_9 ?_
  refine z_cS dX2_clear_10 zk_X2_23 (by exact rfl) (Nat.le_of_ble_eq_true rfl) (Nat.le_of_ble_eq_true rfl) (Nat.le_refl _) ?_
  refine c_fillB rfl (Nat.zero_le _) (by omega) (by omega) rfl ?_
  refine z_aload_n dX2_clear_13 (by exact rfl) ?_
  refine z_iconst dX2_clear_14 ?_
  refine z_pfI zfx_X2_15 (by exact rfl) dX2_clear_15 ?_
  exact z_vret (st := []) rfl dX2_clear_18 (hq _ (hF.uI _ rfl) ⟨rfl, Nat.zero_le _, fun i hi => by
    show bt8 (flF (D.1 7) 0 ((n + 7) / 8) (Int32.ofInt 0)) i = false
    have h3 := r3 i hi
    unfold bt8 at h3 ⊢
    unfold flF
    split
    · exact BitVec.getLsbD_zero
    · rw [h3]; exact r4 i (by omega), fun _ _ => rfl, fun j hj => by
    show fits .byte (.int (flF (D.1 7) 0 ((n + 7) / 8) (Int32.ofInt 0) j)) = true
    unfold flF
    split
    · rfl
    · exact r5 j hj⟩)
