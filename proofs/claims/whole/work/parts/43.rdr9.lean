/-! ===== the reference's reading: small methods ===== -/
/-- the reference stands at bit p of the tape T of sz bytes, without a fault -/
def rd9 (D : zD) (T : Nat → Bool) (sz p : Nat) : Prop := D.2 19 33 = lN (8 * sz) ∧ sz ≤ 20000 ∧ D.2 19 32 = lN p ∧ p ≤ 8 * sz ∧ D.1 19 22 = 0 ∧ (∀ i, i < 8 * sz → bt64 (D.2 60) i = T i) ∧ D.1 19 23 = Int32.ofInt (-1)
def zfail9 (D : zD) (kind at0 : Int32) : zD := zuI (zuI D 19 22 kind) 19 23 at0
theorem c_wrong {d : Nat} {D : zD} {Q : zQ} {f : Int32} {w : Int64} (h1 : D.1 19 22 = 0 → Q (.inl (some (.int (Int32.ofInt 0)))) 0 (zfail9 D f w.toInt32)) (h0 : ¬ D.1 19 22 = 0 → Q (.inl (some (.int (Int32.ofInt 0)))) 0 D) : ZM yX9_wrong iX9_wrong d [.ref 19, .int f, .long w] D Q := by
  refine z_method (by decide) rfl (Nat.le_of_ble_eq_true rfl) ?_
  refine z_at [(0, .ref 19), (1, .int f), (2, .long w)] ⟨rfl, rfl, rfl, trivial⟩ ?_
  refine z_aload_n dX9_wrong_0 (by exact rfl) ?_
  refine z_gfI zfx_X9_264 (by exact rfl) dX9_wrong_1 ?_
  refine z_if_ne (tgt := 18) dX9_wrong_4 (by decide) (fun c4 => ?_) (fun c4 => ?_)
  · refine z_iconst dX9_wrong_18 ?_
    exact z_zret (st := []) (by decide) rfl dX9_wrong_19 (h0 c4)
  · refine z_aload_n dX9_wrong_7 (by exact rfl) ?_
    refine z_iload_n dX9_wrong_8 (by exact rfl) ?_
    refine z_pfI zfx_X9_264 (by exact rfl) dX9_wrong_9 ?_
    refine z_aload_n dX9_wrong_12 (by exact rfl) ?_
    refine z_lload_n dX9_wrong_13 (by exact rfl) ?_
    refine z_l2i dX9_wrong_14 ?_
    refine z_pfI zfx_X9_52 (by exact rfl) dX9_wrong_15 ?_
    refine z_iconst dX9_wrong_18 ?_
    exact z_zret (st := []) (by decide) rfl dX9_wrong_19 (h1 c4)
theorem q_bitI {x : Int32} {k : Nat} (hk : k < 32) : (x >>> (nI k &&& 31)) &&& Int32.ofInt 1 = nI ((x.toBitVec.getLsbD k).toNat) := by
  cases h : x.toBitVec.getLsbD k with
  | true => exact (q_bit1 hk).mpr h
  | false => exact (q_bit0 hk).mpr h
theorem q_lrem8 {p : Nat} (h : p < 2 ^ 63) : lN p - lN p / 8 * 8 = lN (p % 8) := pk_lRem (b := 8) h (by omega) (by omega)
theorem q_ldiv8 {p : Nat} (h : p < 2 ^ 63) : lN p / 8 = lN (p / 8) := pk_lDiv (b := 8) h (by omega) (by omega)
theorem zuL_L (D : zD) (a k : Nat) (t v : Int64) : zuL (zuL D a k t) a k v = zuL D a k v := by
  unfold zuL
  refine Prod.ext rfl (funext fun b => ?_)
  show (if b = a then vp_updL (if a = a then vp_updL (D.2 a) k t else D.2 a) k v else if b = a then vp_updL (D.2 a) k t else D.2 b) = if b = a then vp_updL (D.2 a) k v else D.2 b
  rw [if_pos rfl]
  split
  next =>
    funext j
    unfold vp_updL
    split <;> rfl
  next => rfl
theorem zuL_id (D : zD) (a k : Nat) (v : Int64) (h : D.2 a k = v) : zuL D a k v = D := by
  unfold zuL
  refine Prod.ext rfl (funext fun b => ?_)
  show (if b = a then vp_updL (D.2 a) k v else D.2 b) = D.2 b
  split
  next hb =>
    funext j
    unfold vp_updL
    rw [hb]
    split
    next hj => rw [hj, h]
    next => rfl
  next => rfl
theorem c_take {d w p sz : Nat} {D : zD} {T : Nat → Bool} {Q : zQ} (hw : w ≤ 62) (hR : rd9 D T sz p) (h1 : p + w ≤ 8 * sz → Q (.inl (some (.long (lN (bv T p w))))) 0 (zuL D 19 32 (lN (p + w)))) (h0 : ¬ p + w ≤ 8 * sz → Q (.inl (some (.long (lN 0)))) 0 (zfail9 D 1 (nI p))) :
    ZM yX9_take iX9_take (d + 1) [.ref 19, .int (nI w)] D Q := by
  refine z_method (by decide) rfl (Nat.le_of_ble_eq_true rfl) ?_
  refine z_at [(0, .ref 19), (1, .int (nI w))] ⟨rfl, rfl, trivial⟩ ?_
  obtain ⟨r1, r2, r3, r4, r5, r6, r7⟩ := hR
  have lp : p + w ≤ 8 * sz → ∀ (m g : Nat), g + m = w → Z (zmk iX9_take (d + 1)) 0 41 (zl [(0, .ref 19), (1, .int (nI w)), (2, .long (lN (bv T p g))), (4, .int (nI g))]) [] (zuL D 19 32 (lN (p + g))) Q := by
    intro hle m
    induction m with
    | zero =>
      intro g hg
      have e : g = w := by omega
      subst e
      refine z_iload dX9_take_41 (by exact rfl) ?_
      refine z_iload_n dX9_take_43 (by exact rfl) ?_
      refine z_icmp_ge (tgt := 104) dX9_take_44 (by decide) (fun _ => ?_) (fun q9 => absurd ((Int32.le_refl _)) q9)
      refine z_lload_n dX9_take_104 (by exact rfl) ?_
      exact z_lret (st := []) rfl dX9_take_105 (h1 hle)
    | succ m ih =>
      intro g hg
      refine z_iload dX9_take_41 (by exact rfl) ?_
      refine z_iload_n dX9_take_43 (by exact rfl) ?_
      refine z_icmp_ge (tgt := 104) dX9_take_44 (by decide) (fun q9 => absurd q9 ((nI_ge (by omega) (by omega)))) (fun _ => ?_)
      refine z_aload_n dX9_take_47 (by exact rfl) ?_
      refine z_gfL zfx_X9_267 (by exact rfl) dX9_take_48 ?_
      refine z_ldcL dX9_take_51 zclx_X9_73 ?_
      refine z_ldiv dX9_take_54 (by decide) ?_
      refine z_eJ (lN ((p + g) / 8)) (q_ldiv8 (p := p + g) (by omega)) ?_
      refine z_l2i dX9_take_55 ?_
      refine z_eI (nI ((p + g) / 8)) (lN_i _) ?_
      refine z_istore dX9_take_56 (Nat.le_of_ble_eq_true rfl) ?_
      refine z_lload_n dX9_take_58 (by exact rfl) ?_
      refine z_iconst dX9_take_59 ?_
      refine z_lshl dX9_take_60 ?_
      refine z_aload_n dX9_take_61 (by exact rfl) ?_
      refine z_gfA zfx_X9_49 (by exact rfl) dX9_take_62 ?_
      refine z_iload dX9_take_65 (by exact rfl) ?_
      refine z_cS dX9_take_67 zk_X9_198 (by exact rfl) (Nat.le_of_ble_eq_true rfl) (Nat.le_of_ble_eq_true rfl) (Nat.le_refl _) ?_
      refine c_octetOf rfl (by omega) (by omega) ?_
      refine z_bipush dX9_take_70 ?_
      refine z_aload_n dX9_take_72 (by exact rfl) ?_
      refine z_gfL zfx_X9_267 (by exact rfl) dX9_take_73 ?_
      refine z_ldcL dX9_take_76 zclx_X9_73 ?_
      refine z_lrem dX9_take_79 (by decide) ?_
      refine z_eJ (lN ((p + g) % 8)) (q_lrem8 (p := p + g) (by omega)) ?_
      refine z_l2i dX9_take_80 ?_
      refine z_eI (nI ((p + g) % 8)) (lN_i _) ?_
      refine z_isub dX9_take_81 ?_
      refine z_eI (nI (7 - (p + g) % 8)) (pk_sub (a := 7) (by omega)) ?_
      refine z_ishr dX9_take_82 ?_
      refine z_iconst dX9_take_83 ?_
      refine z_iand dX9_take_84 ?_
      refine z_eI (nI (bv T (p + g) 1)) (by
        rw [q_bitI (by omega)]
        show nI ((oct (D.2 60) ((p + g) / 8)).toBitVec.getLsbD (7 - (p + g) % 8)).toNat = _
        rw [oct_bit _ _ (by omega), r6 _ (by omega), show 8 * ((p + g) / 8) + (7 - (7 - (p + g) % 8)) = p + g by omega]
        show _ = nI (2 * 0 + (T (p + g + 0)).toNat)
        rw [Nat.mul_zero, Nat.zero_add, Nat.add_zero]) ?_
      refine z_i2l dX9_take_85 ?_
      refine z_lor dX9_take_86 ?_
      refine z_eJ (lN (bv T p (g + 1))) (q_joinbits (t := 1) (by omega) (by omega)) ?_
      refine z_lstore_n dX9_take_87 (Nat.le_of_ble_eq_true rfl) ?_
      refine z_aload_n dX9_take_88 (by exact rfl) ?_
      refine z_dup dX9_take_89 (by exact rfl) ?_
      refine z_gfL zfx_X9_267 (by exact rfl) dX9_take_90 ?_
      refine z_lconst dX9_take_93 ?_
      refine z_ladd dX9_take_94 ?_
      refine z_eJ (lN (p + (g + 1))) (lN_1 (p + g)) ?_
      refine z_pfL zfx_X9_267 (by exact rfl) dX9_take_95 ?_
      refine z_iinc dX9_take_98 (by exact rfl) ?_
      refine z_goto (tgt := 41) dX9_take_101 (by decide) ?_
      refine z_at [(0, .ref 19), (1, .int (nI w)), (2, .long (lN (bv T p (g + 1)))), (4, .int (nI (g + 1)))] ⟨rfl, rfl, rfl, congrArg (fun v => some (Value.int v)) (nI_1 g), trivial⟩ (z_eD (zuL_L _ 19 32 _ _) (ih (g + 1) (by omega)))
  refine z_aload_n dX9_take_0 (by exact rfl) ?_
  refine z_gfI zfx_X9_264 (by exact rfl) dX9_take_1 ?_
  refine z_if_le (tgt := 9) dX9_take_4 (by decide) (fun _ => ?_) (fun q9 => absurd ((by rw [r5]; decide)) q9)
  refine z_aload_n dX9_take_9 (by exact rfl) ?_
  refine z_gfL zfx_X9_267 (by exact rfl) dX9_take_10 ?_
  refine z_eJ (lN p) r3 ?_
  refine z_iload_n dX9_take_13 (by exact rfl) ?_
  refine z_i2l dX9_take_14 ?_
  refine z_eJ (lN w) (nI_l (by omega)) ?_
  refine z_ladd dX9_take_15 ?_
  refine z_eJ (lN (p + w)) (lN_add p w) ?_
  refine z_aload_n dX9_take_16 (by exact rfl) ?_
  refine z_gfL zfx_X9_270 (by exact rfl) dX9_take_17 ?_
  refine z_eJ (lN (8 * sz)) r1 ?_
  refine z_le (tgt := 36) dX9_take_20 dX9_take_21 (by decide) (fun c20 => ?_) (fun c20 => ?_)
  · refine z_lconst dX9_take_36 ?_
    refine z_lstore_n dX9_take_37 (Nat.le_of_ble_eq_true rfl) ?_
    refine z_iconst dX9_take_38 ?_
    refine z_istore dX9_take_39 (Nat.le_of_ble_eq_true rfl) ?_
    have hle : p + w ≤ 8 * sz := (pk_lLE (by omega) (by omega)).mp c20
    refine z_at [(0, .ref 19), (1, .int (nI w)), (2, .long (lN (bv T p 0))), (4, .int (nI 0))] ⟨rfl, rfl, rfl, rfl, trivial⟩ ?_
    refine z_eD ?_ (lp hle w 0 (by omega))
    exact (zuL_id D 19 32 (lN (p + 0)) r3).symm
  · refine z_aload_n dX9_take_24 (by exact rfl) ?_
    refine z_iconst dX9_take_25 ?_
    refine z_aload_n dX9_take_26 (by exact rfl) ?_
    refine z_gfL zfx_X9_267 (by exact rfl) dX9_take_27 ?_
    refine z_eJ (lN p) r3 ?_
    refine z_cV dX9_take_30 zk_X9_273 (by exact rfl) (by exact rfl) (by exact rfl) (Nat.le_of_ble_eq_true rfl) (Nat.le_of_ble_eq_true rfl) (Nat.le_refl _) ?_
    refine c_wrong (fun _ => ?_) (fun q => absurd r5 q)
    refine z_istore_n dX9_take_33 (Nat.le_of_ble_eq_true rfl) ?_
    refine z_lconst dX9_take_34 ?_
    exact z_lret (st := []) rfl dX9_take_35 (by
      rw [lN_i]
      exact h0 (fun q => c20 ((pk_lLE (by omega) (by omega)).mpr q)))
/-- behind a fault nothing is taken -/
theorem c_takeF {d : Nat} {w : Int32} {D : zD} {Q : zQ} (hf : ¬ D.1 19 22 ≤ 0) (hq : Q (.inl (some (.long (lN 0)))) 0 D) : ZM yX9_take iX9_take d [.ref 19, .int w] D Q := by
  refine z_method (by decide) rfl (Nat.le_of_ble_eq_true rfl) ?_
  refine z_at [(0, .ref 19), (1, .int w)] ⟨rfl, rfl, trivial⟩ ?_
  refine z_aload_n dX9_take_0 (by exact rfl) ?_
  refine z_gfI zfx_X9_264 (by exact rfl) dX9_take_1 ?_
  refine z_if_le (tgt := 9) dX9_take_4 (by decide) (fun q9 => absurd q9 (hf)) (fun _ => ?_)
  refine z_lconst dX9_take_7 ?_
  exact z_lret (st := []) rfl dX9_take_8 hq
theorem q_sg64 {w v : Nat} (hw : w ≤ 62) (hv : v < 2 ^ 62) : (if 0 < w ∧ v.testBit (w - 1) = true then lN v - (Int64.ofNat ((1 : Fin 2) : Nat) <<< ((nI w).toInt64 &&& 63)) else lN v) = Int64.ofInt (sgI w v) := by
  have ev : (lN v).toInt = v := pk_lT (by omega)
  have hp2 : (2 : Int) ^ w ≤ 2 ^ 62 := by
    have := Nat.pow_le_pow_right (n := 2) (by omega) hw
    exact_mod_cast this
  have hp3 : (0 : Int) < 2 ^ w := by
    have := Nat.pow_pos (a := 2) (n := w) (by omega)
    exact_mod_cast this
  apply Int64.toInt_inj.mp
  unfold sgI
  by_cases h : 0 < w ∧ v.testBit (w - 1) = true
  · rw [if_pos h, if_pos h, q_ofI (by omega) (by omega), Int64.toInt_sub, ev, q_pow w (by omega), Int.bmod_eq_of_le (by omega) (by omega)]
  · rw [if_neg h, if_neg h, q_ofI (by omega) (by omega), ev]
theorem sgI_0 (w : Nat) : sgI w 0 = 0 := by
  unfold sgI
  rw [if_neg (by simp)]
  rfl
/-- takeSigned, where take answers v -/
theorem z_takeSigned {d w v : Nat} {D' : zD} {Q : zQ} (hw : w ≤ 62) (hv : v < 2 ^ 62) (hq : Q (.inl (some (.long (Int64.ofInt (sgI w v))))) 0 D') : Z (zmk iX9_takeSigned d) 0 5 (zl [(0, .ref 19), (1, .int (nI w))]) [.long (lN v)] D' Q := by
  rw [← q_sg64 hw hv] at hq
  by_cases hw0 : w = 0
  · subst hw0
    rw [if_neg (by omega)] at hq
    refine z_lstore_n dX9_takeSigned_5 (Nat.le_of_ble_eq_true rfl) ?_
    refine z_iload_n dX9_takeSigned_6 (by exact rfl) ?_
    refine z_if_le (tgt := 30) dX9_takeSigned_7 (by decide) (fun _ => ?_) (fun q9 => absurd ((by decide)) q9)
    refine z_lload_n dX9_takeSigned_30 (by exact rfl) ?_
    exact z_lret (st := []) rfl dX9_takeSigned_31 hq
  · have e1 : nI w - Int32.ofInt 1 = nI (w - 1) := pk_sub (b := 1) (by omega)
    have hb := q_lbit1 (x := lN v) (k := w - 1) (by omega)
    rw [q_lNbit (by omega)] at hb
    refine z_lstore_n dX9_takeSigned_5 (Nat.le_of_ble_eq_true rfl) ?_
    refine z_iload_n dX9_takeSigned_6 (by exact rfl) ?_
    refine z_if_le (tgt := 30) dX9_takeSigned_7 (by decide) (fun q9 => absurd q9 ((nI_nle (by omega) (by omega)))) (fun _ => ?_)
    refine z_lload_n dX9_takeSigned_10 (by exact rfl) ?_
    refine z_iload_n dX9_takeSigned_11 (by exact rfl) ?_
    refine z_iconst dX9_takeSigned_12 ?_
    refine z_isub dX9_takeSigned_13 ?_
    refine z_eI (nI (w - 1)) e1 ?_
    refine z_lshr dX9_takeSigned_14 ?_
    refine z_lconst dX9_takeSigned_15 ?_
    refine z_land dX9_takeSigned_16 ?_
    refine z_lconst dX9_takeSigned_17 ?_
    refine z_ne (tgt := 30) dX9_takeSigned_18 dX9_takeSigned_19 (by decide) (fun c18 => ?_) (fun c18 => ?_)
    · refine z_lload_n dX9_takeSigned_30 (by exact rfl) ?_
      exact z_lret (st := []) rfl dX9_takeSigned_31 (by
        rw [if_neg (fun q => c18 (hb.mpr q.2))] at hq
        exact hq)
    · refine z_lload_n dX9_takeSigned_22 (by exact rfl) ?_
      refine z_lconst dX9_takeSigned_23 ?_
      refine z_iload_n dX9_takeSigned_24 (by exact rfl) ?_
      refine z_lshl dX9_takeSigned_25 ?_
      refine z_lsub dX9_takeSigned_26 ?_
      refine z_goto (tgt := 31) dX9_takeSigned_27 (by decide) ?_
      exact z_lret (st := []) rfl dX9_takeSigned_31 (by
        rw [if_pos ⟨by omega, hb.mp c18⟩] at hq
        exact hq)
theorem c_takeSigned {d w p sz : Nat} {D : zD} {T : Nat → Bool} {Q : zQ} (hw : w ≤ 62) (hR : rd9 D T sz p) (h1 : p + w ≤ 8 * sz → Q (.inl (some (.long (Int64.ofInt (sgI w (bv T p w)))))) 0 (zuL D 19 32 (lN (p + w)))) (h0 : ¬ p + w ≤ 8 * sz → Q (.inl (some (.long (Int64.ofInt 0)))) 0 (zfail9 D 1 (nI p))) :
    ZM yX9_takeSigned iX9_takeSigned (d + 2) [.ref 19, .int (nI w)] D Q := by
  refine z_method (by decide) rfl (Nat.le_of_ble_eq_true rfl) ?_
  refine z_at [(0, .ref 19), (1, .int (nI w))] ⟨rfl, rfl, trivial⟩ ?_
  have hb : bv T p w < 2 ^ 62 := Nat.lt_of_lt_of_le (bv_lt T p w) (Nat.pow_le_pow_right (by omega) hw)
  refine z_aload_n dX9_takeSigned_0 (by exact rfl) ?_
  refine z_iload_n dX9_takeSigned_1 (by exact rfl) ?_
  refine z_cV dX9_takeSigned_2 zk_X9_277 (by exact rfl) (by exact rfl) (by exact rfl) (Nat.le_of_ble_eq_true rfl) (Nat.le_of_ble_eq_true rfl) (Nat.le_refl _) ?_
  refine c_take hw hR (fun hle => z_takeSigned hw hb (h1 hle)) (fun hn => z_takeSigned hw (by omega) (by rw [sgI_0]; exact h0 hn))
theorem c_takeSignedF {d w : Nat} {D : zD} {Q : zQ} (hw : w ≤ 62) (hf : ¬ D.1 19 22 ≤ 0) (hq : Q (.inl (some (.long (Int64.ofInt 0)))) 0 D) : ZM yX9_takeSigned iX9_takeSigned (d + 1) [.ref 19, .int (nI w)] D Q := by
  refine z_method (by decide) rfl (Nat.le_of_ble_eq_true rfl) ?_
  refine z_at [(0, .ref 19), (1, .int (nI w))] ⟨rfl, rfl, trivial⟩ ?_
  refine z_aload_n dX9_takeSigned_0 (by exact rfl) ?_
  refine z_iload_n dX9_takeSigned_1 (by exact rfl) ?_
  refine z_cV dX9_takeSigned_2 zk_X9_277 (by exact rfl) (by exact rfl) (by exact rfl) (Nat.le_of_ble_eq_true rfl) (Nat.le_of_ble_eq_true rfl) (Nat.le_refl _) ?_
  exact c_takeF hf (z_takeSigned hw (by omega) (by rw [sgI_0]; exact hq))
theorem c_takeIn {d w p sz : Nat} {D : zD} {T : Nat → Bool} {Q : zQ} {lo hi : Int64} (hw : w ≤ 62) (hR : rd9 D T sz p) (h1 : p + w ≤ 8 * sz → lo ≤ lN (bv T p w) → lN (bv T p w) ≤ hi → Q (.inl (some (.long (lN (bv T p w))))) 0 (zuL D 19 32 (lN (p + w)))) (h2 : p + w ≤ 8 * sz → ¬ (lo ≤ lN (bv T p w) ∧ lN (bv T p w) ≤ hi) → Q (.inl (some (.long (lN (bv T p w))))) 0 (zfail9 (zuL D 19 32 (lN (p + w))) 2 (nI p))) (h0 : ¬ p + w ≤ 8 * sz → Q (.inl (some (.long (lN 0)))) 0 (zfail9 D 1 (nI p))) :
    ZM yX9_takeIn iX9_takeIn (d + 2) [.ref 19, .int (nI w), .long lo, .long hi] D Q := by
  refine z_method (by decide) rfl (Nat.le_of_ble_eq_true rfl) ?_
  refine z_at [(0, .ref 19), (1, .int (nI w)), (2, .long lo), (4, .long hi)] ⟨rfl, rfl, rfl, rfl, trivial⟩ ?_
  have r3 := hR.2.2.1
  have r5 := hR.2.2.2.2.1
  have good : p + w ≤ 8 * sz → Z (zmk iX9_takeIn (d + 2)) 0 11 (zl [(0, .ref 19), (1, .int (nI w)), (2, .long lo), (4, .long hi), (6, .long (lN p))]) [.long (lN (bv T p w))] (zuL D 19 32 (lN (p + w))) Q := by
    intro hle
    refine z_lstore dX9_takeIn_11 (Nat.le_of_ble_eq_true rfl) ?_
    refine z_aload_n dX9_takeIn_13 (by exact rfl) ?_
    refine z_gfI zfx_X9_264 (by exact rfl) dX9_takeIn_14 ?_
    refine z_if_ne (tgt := 40) dX9_takeIn_17 (by decide) (fun q9 => absurd (r5) q9) (fun _ => ?_)
    refine z_lload dX9_takeIn_20 (by exact rfl) ?_
    refine z_lload_n dX9_takeIn_22 (by exact rfl) ?_
    refine z_lload dX9_takeIn_23 (by exact rfl) ?_
    refine z_cS dX9_takeIn_25 zk_X9_75 (by exact rfl) (Nat.le_of_ble_eq_true rfl) (Nat.le_of_ble_eq_true rfl) (Nat.le_add_left _ _) ?_
    refine c_in (fun a25 b25 => ?_) (fun n25 => ?_)
    · refine z_if_ne (tgt := 40) dX9_takeIn_28 (by decide) (fun _ => ?_) (fun q9 => absurd q9 (by decide))
      refine z_lload dX9_takeIn_40 (by exact rfl) ?_
      exact z_lret (st := []) rfl dX9_takeIn_42 (h1 hle a25 b25)
    · refine z_if_ne (tgt := 40) dX9_takeIn_28 (by decide) (fun q9 => absurd rfl q9) (fun _ => ?_)
      refine z_aload_n dX9_takeIn_31 (by exact rfl) ?_
      refine z_iconst dX9_takeIn_32 ?_
      refine z_lload dX9_takeIn_33 (by exact rfl) ?_
      refine z_cV dX9_takeIn_35 zk_X9_273 (by exact rfl) (by exact rfl) (by exact rfl) (Nat.le_of_ble_eq_true rfl) (Nat.le_of_ble_eq_true rfl) (Nat.le_add_left _ _) ?_
      refine c_wrong (fun _ => ?_) (fun q => absurd r5 q)
      refine z_istore dX9_takeIn_38 (Nat.le_of_ble_eq_true rfl) ?_
      refine z_lload dX9_takeIn_40 (by exact rfl) ?_
      exact z_lret (st := []) rfl dX9_takeIn_42 (by
        rw [lN_i]
        exact h2 hle n25)
  have bad : ¬ p + w ≤ 8 * sz → Z (zmk iX9_takeIn (d + 2)) 0 11 (zl [(0, .ref 19), (1, .int (nI w)), (2, .long lo), (4, .long hi), (6, .long (lN p))]) [.long (lN 0)] (zfail9 D 1 (nI p)) Q := by
    intro hn
    refine z_lstore dX9_takeIn_11 (Nat.le_of_ble_eq_true rfl) ?_
    refine z_aload_n dX9_takeIn_13 (by exact rfl) ?_
    refine z_gfI zfx_X9_264 (by exact rfl) dX9_takeIn_14 ?_
    refine z_if_ne (tgt := 40) dX9_takeIn_17 (by decide) (fun _ => ?_) (fun q9 => absurd q9 ((by decide : ¬ (1 : Int32) = 0)))
    refine z_lload dX9_takeIn_40 (by exact rfl) ?_
    exact z_lret (st := []) rfl dX9_takeIn_42 (h0 hn)
  refine z_aload_n dX9_takeIn_0 (by exact rfl) ?_
  refine z_gfL zfx_X9_267 (by exact rfl) dX9_takeIn_1 ?_
  refine z_eJ (lN p) r3 ?_
  refine z_lstore dX9_takeIn_4 (Nat.le_of_ble_eq_true rfl) ?_
  refine z_aload_n dX9_takeIn_6 (by exact rfl) ?_
  refine z_iload_n dX9_takeIn_7 (by exact rfl) ?_
  refine z_cV dX9_takeIn_8 zk_X9_277 (by exact rfl) (by exact rfl) (by exact rfl) (Nat.le_of_ble_eq_true rfl) (Nat.le_of_ble_eq_true rfl) (Nat.le_refl _) ?_
  refine c_take hw hR (fun hle => z_at [(0, .ref 19), (1, .int (nI w)), (2, .long lo), (4, .long hi), (6, .long (lN p))] ⟨rfl, rfl, rfl, rfl, rfl, trivial⟩ (good hle)) (fun hn => z_at [(0, .ref 19), (1, .int (nI w)), (2, .long lo), (4, .long hi), (6, .long (lN p))] ⟨rfl, rfl, rfl, rfl, rfl, trivial⟩ (bad hn))
theorem c_takeInF {d w : Nat} {D : zD} {Q : zQ} {lo hi : Int64} (hf : ¬ D.1 19 22 ≤ 0) (hq : Q (.inl (some (.long (lN 0)))) 0 D) : ZM yX9_takeIn iX9_takeIn (d + 1) [.ref 19, .int (nI w), .long lo, .long hi] D Q := by
  refine z_method (by decide) rfl (Nat.le_of_ble_eq_true rfl) ?_
  refine z_at [(0, .ref 19), (1, .int (nI w)), (2, .long lo), (4, .long hi)] ⟨rfl, rfl, rfl, rfl, trivial⟩ ?_
  have hf0 : ¬ D.1 19 22 = 0 := fun q => hf (by rw [q]; decide)
  refine z_aload_n dX9_takeIn_0 (by exact rfl) ?_
  refine z_gfL zfx_X9_267 (by exact rfl) dX9_takeIn_1 ?_
  refine z_lstore dX9_takeIn_4 (Nat.le_of_ble_eq_true rfl) ?_
  refine z_aload_n dX9_takeIn_6 (by exact rfl) ?_
  refine z_iload_n dX9_takeIn_7 (by exact rfl) ?_
  refine z_cV dX9_takeIn_8 zk_X9_277 (by exact rfl) (by exact rfl) (by exact rfl) (Nat.le_of_ble_eq_true rfl) (Nat.le_of_ble_eq_true rfl) (Nat.le_refl _) ?_
  refine c_takeF hf ?_
  refine z_lstore dX9_takeIn_11 (Nat.le_of_ble_eq_true rfl) ?_
  refine z_aload_n dX9_takeIn_13 (by exact rfl) ?_
  refine z_gfI zfx_X9_264 (by exact rfl) dX9_takeIn_14 ?_
  refine z_if_ne (tgt := 40) dX9_takeIn_17 (by decide) (fun _ => ?_) (fun q9 => absurd q9 (hf0))
  refine z_lload dX9_takeIn_40 (by exact rfl) ?_
  exact z_lret (st := []) rfl dX9_takeIn_42 hq
theorem c_passOver {d w p sz : Nat} {D : zD} {T : Nat → Bool} {Q : zQ} (hw : w < 2 ^ 40) (hR : rd9 D T sz p) (h1 : p + w ≤ 8 * sz → Q (.inl none) 0 (zuL D 19 32 (lN (p + w)))) (h0 : ¬ p + w ≤ 8 * sz → Q (.inl none) 0 (zuL (zfail9 D 1 (nI p)) 19 32 (lN (p + w)))) :
    ZM yX9_passOver iX9_passOver (d + 1) [.ref 19, .long (lN w)] D Q := by
  refine z_method (by decide) rfl (Nat.le_of_ble_eq_true rfl) ?_
  refine z_at [(0, .ref 19), (1, .long (lN w))] ⟨rfl, rfl, trivial⟩ ?_
  obtain ⟨r1, r2, r3, r4, r5, r6, r7⟩ := hR
  refine z_aload_n dX9_passOver_0 (by exact rfl) ?_
  refine z_gfI zfx_X9_264 (by exact rfl) dX9_passOver_1 ?_
  refine z_if_ne (tgt := 31) dX9_passOver_4 (by decide) (fun q9 => absurd (r5) q9) (fun _ => ?_)
  refine z_aload_n dX9_passOver_7 (by exact rfl) ?_
  refine z_gfL zfx_X9_267 (by exact rfl) dX9_passOver_8 ?_
  refine z_eJ (lN p) r3 ?_
  refine z_lload_n dX9_passOver_11 (by exact rfl) ?_
  refine z_ladd dX9_passOver_12 ?_
  refine z_eJ (lN (p + w)) (lN_add p w) ?_
  refine z_aload_n dX9_passOver_13 (by exact rfl) ?_
  refine z_gfL zfx_X9_270 (by exact rfl) dX9_passOver_14 ?_
  refine z_eJ (lN (8 * sz)) r1 ?_
  refine z_le (tgt := 31) dX9_passOver_17 dX9_passOver_18 (by decide) (fun c17 => ?_) (fun c17 => ?_)
  · refine z_aload_n dX9_passOver_31 (by exact rfl) ?_
    refine z_dup dX9_passOver_32 (by exact rfl) ?_
    refine z_gfL zfx_X9_267 (by exact rfl) dX9_passOver_33 ?_
    refine z_eJ (lN p) r3 ?_
    refine z_lload_n dX9_passOver_36 (by exact rfl) ?_
    refine z_ladd dX9_passOver_37 ?_
    refine z_eJ (lN (p + w)) (lN_add p w) ?_
    refine z_pfL zfx_X9_267 (by exact rfl) dX9_passOver_38 ?_
    exact z_vret (st := []) rfl dX9_passOver_41 (h1 ((pk_lLE (by omega) (by omega)).mp c17))
  · refine z_aload_n dX9_passOver_21 (by exact rfl) ?_
    refine z_iconst dX9_passOver_22 ?_
    refine z_aload_n dX9_passOver_23 (by exact rfl) ?_
    refine z_gfL zfx_X9_267 (by exact rfl) dX9_passOver_24 ?_
    refine z_eJ (lN p) r3 ?_
    refine z_cV dX9_passOver_27 zk_X9_273 (by exact rfl) (by exact rfl) (by exact rfl) (Nat.le_of_ble_eq_true rfl) (Nat.le_of_ble_eq_true rfl) (Nat.le_refl _) ?_
    refine c_wrong (fun _ => ?_) (fun q => absurd r5 q)
    refine z_istore_n dX9_passOver_30 (Nat.le_of_ble_eq_true rfl) ?_
    refine z_aload_n dX9_passOver_31 (by exact rfl) ?_
    refine z_dup dX9_passOver_32 (by exact rfl) ?_
    refine z_gfL zfx_X9_267 (by exact rfl) dX9_passOver_33 ?_
    refine z_eJ (lN p) r3 ?_
    refine z_lload_n dX9_passOver_36 (by exact rfl) ?_
    refine z_ladd dX9_passOver_37 ?_
    refine z_eJ (lN (p + w)) (lN_add p w) ?_
    refine z_pfL zfx_X9_267 (by exact rfl) dX9_passOver_38 ?_
    exact z_vret (st := []) rfl dX9_passOver_41 (by
      rw [lN_i]
      exact h0 (fun q => c17 ((pk_lLE (by omega) (by omega)).mpr q)))
theorem c_passOverF {d : Nat} {w : Int64} {D : zD} {Q : zQ} (hf : ¬ D.1 19 22 ≤ 0) (hq : Q (.inl none) 0 (zuL D 19 32 (D.2 19 32 + w))) : ZM yX9_passOver iX9_passOver d [.ref 19, .long w] D Q := by
  refine z_method (by decide) rfl (Nat.le_of_ble_eq_true rfl) ?_
  refine z_at [(0, .ref 19), (1, .long w)] ⟨rfl, rfl, trivial⟩ ?_
  have hf0 : ¬ D.1 19 22 = 0 := fun q => hf (by rw [q]; decide)
  refine z_aload_n dX9_passOver_0 (by exact rfl) ?_
  refine z_gfI zfx_X9_264 (by exact rfl) dX9_passOver_1 ?_
  refine z_if_ne (tgt := 31) dX9_passOver_4 (by decide) (fun _ => ?_) (fun q9 => absurd q9 (hf0))
  refine z_aload_n dX9_passOver_31 (by exact rfl) ?_
  refine z_dup dX9_passOver_32 (by exact rfl) ?_
  refine z_gfL zfx_X9_267 (by exact rfl) dX9_passOver_33 ?_
  refine z_lload_n dX9_passOver_36 (by exact rfl) ?_
  refine z_ladd dX9_passOver_37 ?_
  refine z_pfL zfx_X9_267 (by exact rfl) dX9_passOver_38 ?_
  exact z_vret (st := []) rfl dX9_passOver_41 hq
