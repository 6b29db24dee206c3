/-! ===== the reference's write ===== -/
/-- the reference has written the stream S of n bits; the word at hand is 0 behind them -/
def madR (D : zD) (n : Nat) (S : Nat → Bool) : Prop := D.2 19 12 = lN n ∧ n ≤ 160000 ∧ (∀ i, i < n → bt64 (D.2 54) i = S i) ∧ (∀ i, n ≤ i → i < 64 * ((n + 63) / 64) → bt64 (D.2 54) i = false)
def fMad (a k : Nat) : Bool := a == 54 || (a == 19 && k == 12)
theorem q_lshl : ∀ s, s < 64 → ∀ (x : Int64), (x <<< ((nI s).toInt64 &&& 63)).toBitVec = x.toBitVec <<< s := by
  intro s hs x
  have e : (((nI s).toInt64 &&& 63).toBitVec.smod 64).toNat = s := by
    revert s
    decide
  have h := Int64.toBitVec_shiftLeft x ((nI s).toInt64 &&& 63)
  rw [h]
  show x.toBitVec <<< (((nI s).toInt64 &&& 63).toBitVec.smod 64) = _
  rw [BitVec.shiftLeft_eq', e]
theorem q_lor (x y : Int64) (j : Nat) : (x ||| y).toBitVec.getLsbD j = (x.toBitVec.getLsbD j || y.toBitVec.getLsbD j) := by
  rw [Int64.toBitVec_or, BitVec.getLsbD_or]
theorem q_land (x y : Int64) (j : Nat) : (x &&& y).toBitVec.getLsbD j = (x.toBitVec.getLsbD j && y.toBitVec.getLsbD j) := by
  rw [Int64.toBitVec_and, BitVec.getLsbD_and]
theorem q_one (j : Nat) : ((Int64.ofNat ((1 : Fin 2) : Nat)).toBitVec).getLsbD j = decide (j = 0) := by
  show (1#64).getLsbD j = _
  rw [BitVec.getLsbD_one]
  simp
/-- bit k of v at place s alone -/
theorem q_bitat {v : Int64} {k s : Nat} (hk : k < 64) (hs : s < 64) (j : Nat) (hj : j < 64) : (((v >>> ((nI k).toInt64 &&& 63)) &&& Int64.ofNat ((1 : Fin 2) : Nat)) <<< ((nI s).toInt64 &&& 63)).toBitVec.getLsbD j = (decide (j = s) && v.toBitVec.getLsbD k) := by
  rw [q_lshl s hs, BitVec.getLsbD_shiftLeft, q_land, q_one, q_lshr k hk, BitVec.getLsbD_sshiftRight]
  by_cases h : j = s
  · subst h
    simp [hj, hk]
  · by_cases h2 : j < s
    · simp [h2, h]
    · simp [h2, h, show ¬ (j - s = 0) by omega]
theorem q_m1 (x : Int32) : x + Int32.ofInt (-1) = x - 1 := by
  have e : Int32.ofInt (-1) = -1 := rfl
  rw [e, Int32.sub_eq_add_neg]
theorem q_lrem {p : Nat} (h : p < 2 ^ 63) : lN p - lN p / 64 * 64 = lN (p % 64) := pk_lRem (b := 64) h (by omega) (by omega)
theorem q_ldiv {p : Nat} (h : p < 2 ^ 63) : lN p / 64 = lN (p / 64) := pk_lDiv (b := 64) h (by omega) (by omega)
theorem c_write {d w n : Nat} {D : zD} {S : Nat → Bool} {Q : zQ} {v : Int64} (hw : w ≤ 64) (hn : n + w ≤ 160000) (hR : madR D n S) (hq : ∀ D', zfr fMad D D' → madR D' (n + w) (apB S n w v) → Q (.inl none) 0 D') : ZM yX9_write iX9_write d [.ref 19, .int (nI w), .long v] D Q := by
  refine z_method (by decide) rfl (Nat.le_of_ble_eq_true rfl) ?_
  refine z_at [(0, .ref 19), (1, .int (nI w)), (2, .long v)] ⟨rfl, rfl, rfl, trivial⟩ ?_
  have lp : ∀ (r p : Nat) (D1 : zD), p + r = n + w → n ≤ p → zfr fMad D D1 → madR D1 p (apB S n w v) → Z (zmk iX9_write d) 0 5 (zl [(0, .ref 19), (2, .long v), (4, .int (nI r - 1))]) [] D1 Q := by
    intro r
    induction r with
    | zero =>
      intro p D1 hpr hnp hF hP
      refine z_iload dX9_write_5 (by exact rfl) ?_
      refine z_if_lt (tgt := 87) dX9_write_7 (by decide) (fun _ => ?_) (fun q9 => absurd ((by decide)) q9)
      exact z_vret (st := []) rfl dX9_write_87 (hq D1 hF (by rw [show n + w = p by omega]; exact hP))
    | succ r ih =>
      intro p D1 hpr hnp hF hP
      obtain ⟨r1, r2, r3, r4⟩ := hP
      have hp : p < 160000 := by omega
      have hv : apB S n w v p = v.toBitVec.getLsbD r := by
        unfold apB
        rw [if_neg (by omega), if_pos (by omega), show w - 1 - (p - n) = r by omega]
      refine z_at [(0, .ref 19), (2, .long v), (4, .int (nI r))] ⟨rfl, rfl, congrArg (fun v => some (Value.int v)) (nI_pred r), trivial⟩ ?_
      -- behind the word's first clearing
      have body : ∀ (D2 : zD), zfr fMad D D2 → D2.2 19 12 = lN p → (∀ i, i < p → bt64 (D2.2 54) i = apB S n w v i) → (∀ i, p ≤ i → i < 64 * (p / 64 + 1) → bt64 (D2.2 54) i = false) → Z (zmk iX9_write d) 0 42 (zl [(0, .ref 19), (2, .long v), (4, .int (nI r)), (5, .int (nI (p / 64)))]) [] D2 Q := by
        intro D2 hF2 b1 b3 b4
        refine z_aload_n dX9_write_42 (by exact rfl) ?_
        refine z_gfA zfx_X9_30 (by exact rfl) dX9_write_43 ?_
        refine z_iload dX9_write_46 (by exact rfl) ?_
        refine z_dup2 dX9_write_48 (by exact rfl) (by exact rfl) ?_
        refine z_aJ (by exact rfl) dX9_write_49 (vp_in_nI (by omega) (by omega)) ?_
        rw [nI_clamp (show p / 64 < 2 ^ 31 by omega)]
        refine z_lload_n dX9_write_50 (by exact rfl) ?_
        refine z_iload dX9_write_51 (by exact rfl) ?_
        refine z_lshr dX9_write_53 ?_
        refine z_lconst dX9_write_54 ?_
        refine z_land dX9_write_55 ?_
        refine z_bipush dX9_write_56 ?_
        refine z_aload_n dX9_write_58 (by exact rfl) ?_
        refine z_gfL zfx_X9_192 (by exact rfl) dX9_write_59 ?_
        refine z_eJ (lN p) b1 ?_
        refine z_ldcL dX9_write_62 zclx_X9_195 ?_
        refine z_lrem dX9_write_65 (by decide) ?_
        refine z_eJ (lN (p % 64)) (q_lrem (by omega)) ?_
        refine z_l2i dX9_write_66 ?_
        refine z_eI (nI (p % 64)) (lN_i _) ?_
        refine z_isub dX9_write_67 ?_
        refine z_eI (nI (63 - p % 64)) (pk_sub (a := 63) (by omega)) ?_
        refine z_lshl dX9_write_68 ?_
        refine z_lor dX9_write_69 ?_
        refine z_sJ (by exact rfl) dX9_write_70 (vp_in_nI (by omega) (by omega)) ?_
        rw [nI_clamp (show p / 64 < 2 ^ 31 by omega)]
        refine z_aload_n dX9_write_71 (by exact rfl) ?_
        refine z_dup dX9_write_72 (by exact rfl) ?_
        refine z_gfL zfx_X9_192 (by exact rfl) dX9_write_73 ?_
        refine z_eJ (lN p) b1 ?_
        refine z_lconst dX9_write_76 ?_
        refine z_ladd dX9_write_77 ?_
        refine z_eJ (lN (p + 1)) (lN_1 p) ?_
        refine z_pfL zfx_X9_192 (by exact rfl) dX9_write_78 ?_
        refine z_iinc dX9_write_81 (by exact rfl) ?_
        refine z_goto (tgt := 5) dX9_write_84 (by decide) ?_
        refine z_at [(0, .ref 19), (2, .long v), (4, .int (nI r - 1))] ⟨rfl, rfl, congrArg (fun v => some (Value.int v)) (q_m1 (nI r)), trivial⟩ ?_
        refine ih (p + 1) _ (by omega) (by omega) ((hF2.uL _ rfl).uL _ rfl) ⟨rfl, by omega, fun i hi => ?_, fun i h1 h2 => ?_⟩
        · show bt64 (vp_updL (D2.2 54) (p / 64) _) i = _
          unfold bt64 vp_updL
          by_cases hb : i / 64 = p / 64
          · rw [if_pos hb, q_lor, q_bitat (by omega) (by omega) _ (by omega)]
            by_cases hip : i = p
            · subst hip
              have h4 := b4 i (Nat.le_refl _) (by omega)
              unfold bt64 at h4
              rw [h4, hv]
              simp
            · have h3 := b3 i (by omega)
              unfold bt64 at h3
              rw [← hb, h3]
              simp [show ¬ (63 - i % 64 = 63 - p % 64) by omega]
          · rw [if_neg hb]
            exact b3 i (by omega)
        · show bt64 (vp_updL (D2.2 54) (p / 64) _) i = _
          unfold bt64 vp_updL
          by_cases hb : i / 64 = p / 64
          · rw [if_pos hb, q_lor, q_bitat (by omega) (by omega) _ (by omega)]
            have h4 := b4 i (by omega) (by omega)
            unfold bt64 at h4
            rw [← hb, h4]
            simp [show ¬ (63 - i % 64 = 63 - p % 64) by omega]
          · exfalso; omega
      refine z_iload dX9_write_5 (by exact rfl) ?_
      refine z_if_lt (tgt := 87) dX9_write_7 (by decide) (fun q9 => absurd q9 ((nI_pos (by omega)))) (fun _ => ?_)
      refine z_aload_n dX9_write_10 (by exact rfl) ?_
      refine z_gfL zfx_X9_192 (by exact rfl) dX9_write_11 ?_
      refine z_eJ (lN p) r1 ?_
      refine z_ldcL dX9_write_14 zclx_X9_195 ?_
      refine z_ldiv dX9_write_17 (by decide) ?_
      refine z_eJ (lN (p / 64)) (q_ldiv (by omega)) ?_
      refine z_l2i dX9_write_18 ?_
      refine z_eI (nI (p / 64)) (lN_i _) ?_
      refine z_istore dX9_write_19 (Nat.le_of_ble_eq_true rfl) ?_
      refine z_aload_n dX9_write_21 (by exact rfl) ?_
      refine z_gfL zfx_X9_192 (by exact rfl) dX9_write_22 ?_
      refine z_eJ (lN p) r1 ?_
      refine z_ldcL dX9_write_25 zclx_X9_195 ?_
      refine z_lrem dX9_write_28 (by decide) ?_
      refine z_eJ (lN (p % 64)) (q_lrem (by omega)) ?_
      refine z_lconst dX9_write_29 ?_
      refine z_ne (tgt := 42) dX9_write_30 dX9_write_31 (by decide) (fun c30 => ?_) (fun c30 => ?_)
      · have hp0 : ¬ p % 64 = 0 := fun q => c30 (by rw [q]; rfl)
        refine z_at [(0, .ref 19), (2, .long v), (4, .int (nI r)), (5, .int (nI (p / 64)))] ⟨rfl, rfl, rfl, rfl, trivial⟩ (body _ hF r1 r3 (fun i h1 h2 => r4 i h1 (by omega)))
      · refine z_aload_n dX9_write_34 (by exact rfl) ?_
        refine z_gfA zfx_X9_30 (by exact rfl) dX9_write_35 ?_
        refine z_iload dX9_write_38 (by exact rfl) ?_
        refine z_lconst dX9_write_40 ?_
        refine z_sJ (by exact rfl) dX9_write_41 (vp_in_nI (by omega) (by omega)) ?_
        rw [nI_clamp (show p / 64 < 2 ^ 31 by omega)]
        have hp0 : p % 64 = 0 := (pk_lEQ (a := p % 64) (b := 0) (by omega) (by omega)).mp c30
        refine z_at [(0, .ref 19), (2, .long v), (4, .int (nI r)), (5, .int (nI (p / 64)))] ⟨rfl, rfl, rfl, rfl, trivial⟩ (body _ (hF.uL _ rfl) r1 (fun i h1 => ?_) (fun i h1 h2 => ?_))
        · rw [← r3 i h1]
          show bt64 (vp_updL (D1.2 54) (p / 64) _) i = _
          unfold bt64 vp_updL
          rw [if_neg (by omega)]
        · show bt64 (vp_updL (D1.2 54) (p / 64) _) i = _
          unfold bt64 vp_updL
          rw [if_pos (by omega)]
          exact BitVec.getLsbD_zero
  refine z_iload_n dX9_write_0 (by exact rfl) ?_
  refine z_iconst dX9_write_1 ?_
  refine z_isub dX9_write_2 ?_
  refine z_istore dX9_write_3 (Nat.le_of_ble_eq_true rfl) ?_
  refine z_at [(0, .ref 19), (2, .long v), (4, .int (nI w - 1))] ⟨rfl, rfl, rfl, trivial⟩ (lp w n D rfl (Nat.le_refl _) zfr.rf ?_)
  obtain ⟨r1, r2, r3, r4⟩ := hR
  refine ⟨r1, r2, fun i hi => ?_, r4⟩
  rw [r3 i hi]
  unfold apB
  rw [if_pos hi]
