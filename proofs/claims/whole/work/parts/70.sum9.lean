/-! ===== the reference's readNumber, readSum ===== -/
theorem mv9.tr {D D' D'' : zD} {v w : Nat} (h : mv9 D D' v) (h' : mv9 D' D'' w) : mv9 D D'' (v + w) := by
  obtain ⟨p, e1, e2, h1⟩ := h
  obtain ⟨q, e3, e4, h2⟩ := h'
  have : p + v = q := (pk_lEQ (by omega) (by omega)).mp (e2.symm.trans e3)
  subst this
  exact ⟨p, e1, by rw [e4, Nat.add_assoc], by omega⟩
theorem kN1_b {fr : Nat} (h : fr < 256) : kN1 fr = kByte true (if fr < 128 then fr else 192 + fr / 64) := by
  funext v
  have h2 : fr / 64 ≤ 3 := by omega
  unfold kN1
  show _ = if v = (if fr < 128 then fr else 192 + fr / 64) then 0 else if v ≤ 127 ∨ (192 ≤ v ∧ v ≤ 223) then 4 else 2
  by_cases h1 : fr < 128
  · rw [if_pos h1]
    by_cases hv : v = fr
    · rw [if_pos hv, if_pos hv, if_pos (by omega)]
    · rw [if_neg hv, if_neg hv]
  · rw [if_neg h1]
    by_cases hv : v = 192 + fr / 64
    · rw [if_pos hv, if_pos hv, if_pos (by omega)]
    · rw [if_neg hv, if_neg hv]
theorem kN2_b {fr : Nat} : kN2 fr = kByte false (128 + fr % 64) := by
  funext v
  unfold kN2
  show _ = if v = 128 + fr % 64 then 0 else if 128 ≤ v ∧ v ≤ 191 then 4 else 2
  by_cases hv : v = 128 + fr % 64
  · rw [if_pos hv, if_pos hv, if_pos (by omega)]
  · rw [if_neg hv, if_neg hv]
theorem c_readNumber {β : Type} {d sz fr : Nat} {D : zD} {T : Nat → Bool} {Q : zQ} {K : Unit → RS β} {sp : RT β} {P : Prop} (hfr : fr < 256) (h : rs9 D T sz (rbind (sNumber T (8 * sz) fr) K) sp P) (hq : ∀ D', rs9 D' T sz (K ()) sp (P ∧ ∃ w, w % 8 = 0 ∧ mv9 D D' w) → zfr f9 D D' → Q (.inl none) 0 D') :
    ZM yX9_readNumber iX9_readNumber (d + 3) [.ref 19, .int (nI fr)] D Q := by
  refine z_method (by decide) rfl (Nat.le_of_ble_eq_true rfl) ?_
  refine z_at [(0, .ref 19), (1, .int (nI fr))] ⟨rfl, rfl, trivial⟩ ?_
  unfold sNumber at h
  rw [rassoc, kN1_b hfr] at h
  have hd1 : (if fr < 128 then fr else 192 + fr / 64) < 256 := by split <;> omega
  have go : Z (zmk iX9_readNumber (d + 3)) 0 22 (zl [(0, .ref 19), (1, .int (nI fr))]) [.long (lN (if fr < 128 then fr else 192 + fr / 64)), .ref 19] D Q := by
    refine z_iconst dX9_readNumber_22 ?_
    refine z_cV dX9_readNumber_23 zk_X9_319 (by exact rfl) (by exact rfl) (by exact rfl) (Nat.le_of_ble_eq_true rfl) (Nat.le_of_ble_eq_true rfl) (Nat.le_refl _) ?_
    refine c_readByte (first := true) hd1 h (fun D1 v h1 hf1 => ?_)
    refine z_iload_n dX9_readNumber_26 (by exact rfl) ?_
    refine z_bipush dX9_readNumber_27 ?_
    refine z_icmp_le (tgt := 46) dX9_readNumber_29 (by decide) (fun c29 => ?_) (fun c29 => ?_)
    · exact z_vret (st := []) rfl dX9_readNumber_46 (hq D1 (by
        have g : fr ≤ 127 := (nI_leI (a := fr) (b := 127) (by omega) (by omega)).mp c29
        rw [if_pos (by omega)] at h1
        exact h1.mp (fun _ hp => ⟨hp.1, 8, rfl, hp.2⟩)) hf1)
    · have g : ¬ fr ≤ 127 := fun q => c29 (nI_le q (by omega))
      rw [if_neg (by omega), rassoc, kN2_b] at h1
      refine z_aload_n dX9_readNumber_32 (by exact rfl) ?_
      refine z_sipush dX9_readNumber_33 ?_
      refine z_iload_n dX9_readNumber_36 (by exact rfl) ?_
      refine z_bipush dX9_readNumber_37 ?_
      refine z_irem dX9_readNumber_39 (by decide) ?_
      refine z_eI (nI (fr % 64)) (pk_rem (d := 64) (by omega) (by omega) (by omega)) ?_
      refine z_iadd dX9_readNumber_40 ?_
      refine z_eI (nI (128 + fr % 64)) (nI_add 128 _) ?_
      refine z_i2l dX9_readNumber_41 ?_
      refine z_eJ (lN (128 + fr % 64)) (nI_l (by omega)) ?_
      refine z_iconst dX9_readNumber_42 ?_
      refine z_cV dX9_readNumber_43 zk_X9_319 (by exact rfl) (by exact rfl) (by exact rfl) (Nat.le_of_ble_eq_true rfl) (Nat.le_of_ble_eq_true rfl) (Nat.le_refl _) ?_
      refine c_readByte (first := false) (by omega) h1 (fun D2 v2 h2 hf2 => ?_)
      exact z_vret (st := []) rfl dX9_readNumber_46 (hq D2 (h2.mp (fun _ hp => ⟨hp.1.1, 16, rfl, hp.1.2.tr hp.2⟩)) (hf1.tr hf2))
  refine z_aload_n dX9_readNumber_0 (by exact rfl) ?_
  refine z_iload_n dX9_readNumber_1 (by exact rfl) ?_
  refine z_sipush dX9_readNumber_2 ?_
  refine z_icmp_ge (tgt := 13) dX9_readNumber_5 (by decide) (fun c5 => ?_) (fun c5 => ?_)
  · refine z_sipush dX9_readNumber_13 ?_
    refine z_iload_n dX9_readNumber_16 (by exact rfl) ?_
    refine z_bipush dX9_readNumber_17 ?_
    refine z_idiv dX9_readNumber_19 (by decide) ?_
    refine z_eI (nI (fr / 64)) (pk_div (d := 64) (by omega) (by omega) (by omega)) ?_
    refine z_iadd dX9_readNumber_20 ?_
    refine z_eI (nI (192 + fr / 64)) (nI_add 192 _) ?_
    refine z_i2l dX9_readNumber_21 ?_
    refine z_eJ (lN (if fr < 128 then fr else 192 + fr / 64)) (by
      have g : ¬ fr < 128 := fun q => nI_ge (a := fr) (b := 128) q (by omega) c5
      rw [if_neg g]
      exact nI_l (by omega)) ?_
    exact z_at [(0, .ref 19), (1, .int (nI fr))] ⟨rfl, rfl, trivial⟩ go
  · refine z_iload_n dX9_readNumber_8 (by exact rfl) ?_
    refine z_i2l dX9_readNumber_9 ?_
    refine z_eJ (lN (if fr < 128 then fr else 192 + fr / 64)) (by
      have g : fr < 128 := by
        rcases Nat.lt_or_ge fr 128 with q | q
        · exact q
        · exact absurd (nI_le (a := 128) (b := fr) q (by omega)) c5
      rw [if_pos g]
      exact nI_l (by omega)) ?_
    refine z_goto (tgt := 22) dX9_readNumber_10 (by decide) ?_
    exact z_at [(0, .ref 19), (1, .int (nI fr))] ⟨rfl, rfl, trivial⟩ go
/-- sumOf, also where the end lies before the beginning -/
theorem c_sum9z {d a n from0 to0 w : Nat} {D : zD} {Q : zQ} {wd : Int32} (ha : zac a = some (1, n)) (hn : 8 * n < 2 ^ 31) (hw : w = 8 ∨ w = 16) (hwd : wd = 0 ↔ w = 8) (hfr : from0 < 2 ^ 31) (h2 : to0 ≤ 8 * n) (hq : Q (.inl (some (.int (crc w (crPoly w) (bt64 (D.2 a)) (8 * from0) (8 * (to0 - from0)))))) 0 D) :
    ZM yX9_sumOf iX9_sumOf (d + 1) [.ref a, .int (nI from0), .int (nI to0), .int wd] D Q := by
  rcases Nat.lt_or_ge to0 from0 with h | h
  · refine z_method (by decide) rfl (Nat.le_of_ble_eq_true rfl) ?_
    refine z_at [(0, .ref a), (1, .int (nI from0)), (2, .int (nI to0)), (3, .int wd)] ⟨rfl, rfl, rfl, rfl, trivial⟩ ?_
    rw [show 8 * (to0 - from0) = 0 by omega] at hq
    refine z_iconst dX9_sumOf_0 ?_
    refine z_istore dX9_sumOf_1 (Nat.le_of_ble_eq_true rfl) ?_
    refine z_iload_n dX9_sumOf_3 (by exact rfl) ?_
    refine z_if_eq (tgt := 12) dX9_sumOf_4 (by decide) (fun c4 => ?_) (fun c4 => ?_)
    · refine z_sipush dX9_sumOf_12 ?_
      refine z_istore dX9_sumOf_15 (Nat.le_of_ble_eq_true rfl) ?_
      refine z_iload_n dX9_sumOf_17 (by exact rfl) ?_
      refine z_istore dX9_sumOf_18 (Nat.le_of_ble_eq_true rfl) ?_
      refine z_iload dX9_sumOf_20 (by exact rfl) ?_
      refine z_iload_n dX9_sumOf_22 (by exact rfl) ?_
      refine z_icmp_ge (tgt := 120) dX9_sumOf_23 (by decide) (fun _ => ?_) (fun q9 => absurd ((nI_le (by omega) (by omega))) q9)
      refine z_iload dX9_sumOf_120 (by exact rfl) ?_
      exact z_iret (st := []) rfl dX9_sumOf_122 hq
    · refine z_ldcI dX9_sumOf_7 zcix_X9_197 ?_
      refine z_goto (tgt := 15) dX9_sumOf_9 (by decide) ?_
      refine z_istore dX9_sumOf_15 (Nat.le_of_ble_eq_true rfl) ?_
      refine z_iload_n dX9_sumOf_17 (by exact rfl) ?_
      refine z_istore dX9_sumOf_18 (Nat.le_of_ble_eq_true rfl) ?_
      refine z_iload dX9_sumOf_20 (by exact rfl) ?_
      refine z_iload_n dX9_sumOf_22 (by exact rfl) ?_
      refine z_icmp_ge (tgt := 120) dX9_sumOf_23 (by decide) (fun _ => ?_) (fun q9 => absurd ((nI_le (by omega) (by omega))) q9)
      refine z_iload dX9_sumOf_120 (by exact rfl) ?_
      exact z_iret (st := []) rfl dX9_sumOf_122 hq
  · exact c_sum9 ha hn hw hwd h h2 hq
theorem rbind_c {α β : Type} {m m' : RS α} {f : α → RS β} {p : Nat} (h : m p = m' p) : rbind m f p = rbind m' f p := by
  unfold rbind
  rw [h]
theorem q_8 : (8 : Int64) ≠ 0 := by decide
theorem c_readSum {β : Type} {d sz w p0 : Nat} {D : zD} {T : Nat → Bool} {Q : zQ} {K : Nat → RS β} {sp : RT β} {P : Prop} (hw : w = 8 ∨ w = 16) (hp0 : p0 < 2 ^ 40 ∧ p0 / 8 < 2 ^ 31) (h : rs9 D T sz (rbind (sSum T (8 * sz) w (p0 / 8)) K) sp (P ∧ pos9 D 0)) (hq : ∀ D' v, rs9 D' T sz (K v) sp (P ∧ pos9 D' 0) → zfr f9 D D' → Q (.inl none) 0 D') :
    ZM yX9_readSum iX9_readSum (d + 2) [.ref 19, .long (lN p0), .int (nI w)] D Q := by
  refine z_method (by decide) rfl (Nat.le_of_ble_eq_true rfl) ?_
  refine z_at [(0, .ref 19), (1, .long (lN p0)), (3, .int (nI w))] ⟨rfl, rfl, rfl, trivial⟩ ?_
  have hw16 : w ≤ 16 := by omega
  rcases h with ⟨p, hR, hK, hP, hpos⟩ | ⟨k, pl, hb, e⟩
  · obtain ⟨r1, r2, r3, r4, r5, r6, r7⟩ := id hR
    have hp8 : p % 8 = 0 := by
      obtain ⟨p', e1, h1, h2⟩ := hpos
      have : p = p' := (pk_lEQ (by omega) (by omega)).mp (r3.symm.trans e1)
      omega
    obtain ⟨cv, hcv, ecv⟩ := crc_small hw T (8 * (p0 / 8)) (p - 8 * (p0 / 8))
    have hcv16 : cv < 65536 := Nat.lt_of_lt_of_le hcv (Nat.pow_le_pow_right (by omega) hw16)
    have hdef : ∀ x : Nat, ((x : Int) = (crc w (crPoly w) T (8 * (p0 / 8)) (p - 8 * (p0 / 8))).toInt) ↔ x = cv := by
      intro x
      rw [ecv, nI_toInt (by omega)]
      omega
    have hK2 : rbind (rit T (8 * sz) w (fun v => if (v : Int) = (crc w (crPoly w) T (8 * (p0 / 8)) (p - 8 * (p0 / 8))).toInt then 0 else 3)) K p = sp := by
      rw [← hK]
      refine rbind_c ?_
      unfold sSum
      rfl
    refine z_aload_n dX9_readSum_0 (by exact rfl) ?_
    refine z_gfL zfx_X9_267 (by exact rfl) dX9_readSum_1 ?_
    refine z_eJ (lN p) r3 ?_
    refine z_lstore dX9_readSum_4 (Nat.le_of_ble_eq_true rfl) ?_
    refine z_aload_n dX9_readSum_6 (by exact rfl) ?_
    refine z_iload_n dX9_readSum_7 (by exact rfl) ?_
    refine z_cV dX9_readSum_8 zk_X9_277 (by exact rfl) (by exact rfl) (by exact rfl) (Nat.le_of_ble_eq_true rfl) (Nat.le_of_ble_eq_true rfl) (Nat.le_refl _) ?_
    refine c_takeG (w := w) (P := P) (by omega) (.inl ⟨p, hR, hK2, hP⟩) (fun D1 v hv h1 hf1 => ?_)
    have hv16 : v < 65536 := Nat.lt_of_lt_of_le hv (Nat.pow_le_pow_right (by omega) hw16)
    refine z_lstore dX9_readSum_11 (Nat.le_of_ble_eq_true rfl) ?_
    refine z_aload_n dX9_readSum_13 (by exact rfl) ?_
    refine z_gfI zfx_X9_264 (by exact rfl) dX9_readSum_14 ?_
    refine z_if_ne (tgt := 67) dX9_readSum_17 (by decide) (fun c17 => ?_) (fun c17 => ?_)
    · exact z_vret (st := []) rfl dX9_readSum_67 (hq D1 v (by
        rcases h1 with ⟨p, e1, hR0, hR, hk, hkn, hP⟩ | hb
        · exact absurd hR.2.2.2.2.1 c17
        · exact .inr hb) hf1)
    · have hg : rd9 D1 T sz (p + w) ∧ (v = cv → K v (p + w) = sp) ∧ (¬ v = cv → sp = .inl (3, p)) := by
        rcases h1 with ⟨p', e1, hR0, hR, hk, hkn, hP⟩ | ⟨k, pl, hb, e⟩
        · have : p = p' := (pk_lEQ (by omega) (by have := hR0.2.2.2.1; omega)).mp (r3.symm.trans e1)
          subst this
          refine ⟨hR, fun e9 => hk (if_pos ((hdef v).mpr e9)), fun e9 => ?_⟩
          have e8 := hkn (by rw [if_neg (fun q => e9 ((hdef v).mp q))]; decide)
          rw [if_neg (fun q => e9 ((hdef v).mp q))] at e8
          exact e8
        · exact absurd c17 hb.z
      obtain ⟨hR1, hk, hkn⟩ := hg
      have ec : crc w (crPoly w) (bt64 (D1.2 60)) (8 * (p0 / 8)) (8 * (p / 8 - p0 / 8)) = nI cv := by
        rw [← ecv, show 8 * (p / 8 - p0 / 8) = p - 8 * (p0 / 8) by omega]
        exact crc_congr (fun i a b => hR1.2.2.2.2.2.1 i (by omega))
      refine z_lload dX9_readSum_20 (by exact rfl) ?_
      refine z_aload_n dX9_readSum_22 (by exact rfl) ?_
      refine z_gfA zfx_X9_49 (by exact rfl) dX9_readSum_23 ?_
      refine z_lload_n dX9_readSum_26 (by exact rfl) ?_
      refine z_ldcL dX9_readSum_27 zclx_X9_73 ?_
      refine z_ldiv dX9_readSum_30 q_8 ?_
      refine z_eJ (lN (p0 / 8)) (q_ldiv8 (by omega)) ?_
      refine z_l2i dX9_readSum_31 ?_
      refine z_eI (nI (p0 / 8)) (lN_i _) ?_
      refine z_lload dX9_readSum_32 (by exact rfl) ?_
      refine z_ldcL dX9_readSum_34 zclx_X9_73 ?_
      refine z_ldiv dX9_readSum_37 q_8 ?_
      refine z_eJ (lN (p / 8)) (q_ldiv8 (by omega)) ?_
      refine z_l2i dX9_readSum_38 ?_
      refine z_eI (nI (p / 8)) (lN_i _) ?_
      refine z_iload_n dX9_readSum_39 (by exact rfl) ?_
      refine z_bipush dX9_readSum_40 ?_
      refine z_icmp_ne (tgt := 49) dX9_readSum_42 (by decide) (fun c42 => ?_) (fun c42 => ?_)
      · refine z_iconst dX9_readSum_49 ?_
        refine z_cS dX9_readSum_50 zk_X9_232 (by exact rfl) (Nat.le_of_ble_eq_true rfl) (Nat.le_of_ble_eq_true rfl) (Nat.le_refl _) ?_
        refine c_sum9z (n := 2500) (w := w) rfl (by omega) hw ⟨fun _ => by
          have : ¬ w = 16 := fun q => c42 (by rw [q]; rfl)
          omega, fun _ => rfl⟩ hp0.2 (by omega) ?_
        rw [ec]
        refine z_i2l dX9_readSum_53 ?_
        refine z_eJ (lN cv) (nI_l (by omega)) ?_
        refine z_eq (tgt := 67) dX9_readSum_54 dX9_readSum_55 (by decide) (fun c54 => ?_) (fun c54 => ?_)
        · exact z_vret (st := []) rfl dX9_readSum_67 (hq D1 v (.inl ⟨p + w, hR1, hk ((pk_lEQ (by omega) (by omega)).mp c54), hP, hR1.pos.eq (by omega)⟩) hf1)
        · refine z_aload_n dX9_readSum_58 (by exact rfl) ?_
          refine z_iconst dX9_readSum_59 ?_
          refine z_lload dX9_readSum_60 (by exact rfl) ?_
          refine z_cV dX9_readSum_62 zk_X9_273 (by exact rfl) (by exact rfl) (by exact rfl) (Nat.le_of_ble_eq_true rfl) (Nat.le_of_ble_eq_true rfl) (Nat.le_refl _) ?_
          refine c_wrong (fun _ => ?_) (fun q => absurd c17 q)
          refine z_istore dX9_readSum_65 (Nat.le_of_ble_eq_true rfl) ?_
          exact z_vret (st := []) rfl dX9_readSum_67 (hq _ v (.inr ⟨3, p, ⟨rfl, lN_i p, by omega, by omega⟩, hkn (fun q => c54 ((pk_lEQ (by omega) (by omega)).mpr q))⟩) (zfr_fail9 hf1))
      · refine z_iconst dX9_readSum_45 ?_
        refine z_goto (tgt := 50) dX9_readSum_46 (by decide) ?_
        refine z_cS dX9_readSum_50 zk_X9_232 (by exact rfl) (Nat.le_of_ble_eq_true rfl) (Nat.le_of_ble_eq_true rfl) (Nat.le_refl _) ?_
        refine c_sum9z (n := 2500) (w := w) rfl (by omega) hw ⟨fun q => absurd q (by decide), fun q => absurd c42 (by rw [q]; decide)⟩ hp0.2 (by omega) ?_
        rw [ec]
        refine z_i2l dX9_readSum_53 ?_
        refine z_eJ (lN cv) (nI_l (by omega)) ?_
        refine z_eq (tgt := 67) dX9_readSum_54 dX9_readSum_55 (by decide) (fun c54 => ?_) (fun c54 => ?_)
        · exact z_vret (st := []) rfl dX9_readSum_67 (hq D1 v (.inl ⟨p + w, hR1, hk ((pk_lEQ (by omega) (by omega)).mp c54), hP, hR1.pos.eq (by omega)⟩) hf1)
        · refine z_aload_n dX9_readSum_58 (by exact rfl) ?_
          refine z_iconst dX9_readSum_59 ?_
          refine z_lload dX9_readSum_60 (by exact rfl) ?_
          refine z_cV dX9_readSum_62 zk_X9_273 (by exact rfl) (by exact rfl) (by exact rfl) (Nat.le_of_ble_eq_true rfl) (Nat.le_of_ble_eq_true rfl) (Nat.le_refl _) ?_
          refine c_wrong (fun _ => ?_) (fun q => absurd c17 q)
          refine z_istore dX9_readSum_65 (Nat.le_of_ble_eq_true rfl) ?_
          exact z_vret (st := []) rfl dX9_readSum_67 (hq _ v (.inr ⟨3, p, ⟨rfl, lN_i p, by omega, by omega⟩, hkn (fun q => c54 ((pk_lEQ (by omega) (by omega)).mpr q))⟩) (zfr_fail9 hf1))
  · refine z_aload_n dX9_readSum_0 (by exact rfl) ?_
    refine z_gfL zfx_X9_267 (by exact rfl) dX9_readSum_1 ?_
    refine z_lstore dX9_readSum_4 (Nat.le_of_ble_eq_true rfl) ?_
    refine z_aload_n dX9_readSum_6 (by exact rfl) ?_
    refine z_iload_n dX9_readSum_7 (by exact rfl) ?_
    refine z_cV dX9_readSum_8 zk_X9_277 (by exact rfl) (by exact rfl) (by exact rfl) (Nat.le_of_ble_eq_true rfl) (Nat.le_of_ble_eq_true rfl) (Nat.le_refl _) ?_
    refine c_takeF hb.f ?_
    refine z_lstore dX9_readSum_11 (Nat.le_of_ble_eq_true rfl) ?_
    refine z_aload_n dX9_readSum_13 (by exact rfl) ?_
    refine z_gfI zfx_X9_264 (by exact rfl) dX9_readSum_14 ?_
    refine z_if_ne (tgt := 67) dX9_readSum_17 (by decide) (fun _ => ?_) (fun q9 => absurd q9 (hb.z))
    exact z_vret (st := []) rfl dX9_readSum_67 (hq D 0 (.inr ⟨k, pl, hb, e⟩) zfr.rf)
