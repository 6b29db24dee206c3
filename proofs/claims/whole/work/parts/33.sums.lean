/-! ===== the sums of a frame, bit by bit ===== -/
def crTop (w : Nat) : Int32 := if w = 8 then 128 else 32768
def crMask (w : Nat) : Int32 := if w = 8 then 255 else 65535
def crStep (w : Nat) (poly s : Int32) (b : Bool) : Int32 := if (decide (s &&& crTop w ≠ 0)) ≠ b then ((s <<< (1 &&& 31)) &&& crMask w) ^^^ poly else (s <<< (1 &&& 31)) &&& crMask w
/-- the sum over m bits of B from a on -/
def crc (w : Nat) (poly : Int32) (B : Nat → Bool) (a : Nat) : Nat → Int32
  | 0 => 0
  | m + 1 => crStep w poly (crc w poly B a m) (B (a + m))
theorem q_xor (x y : Int32) (j : Nat) : (x ^^^ y).toBitVec.getLsbD j = (x.toBitVec.getLsbD j ^^ y.toBitVec.getLsbD j) := by
  rw [Int32.toBitVec_xor, BitVec.getLsbD_xor]
theorem q_ext {x y : Int32} (h : ∀ j, j < 32 → x.toBitVec.getLsbD j = y.toBitVec.getLsbD j) : x = y := by
  apply Int32.toBitVec_inj.mp
  apply BitVec.eq_of_getLsbD_eq
  intro i hi
  exact h i hi
theorem q_s1 (x : Int32) (j : Nat) : (x <<< (1 &&& 31)).toBitVec.getLsbD j = (decide (j < 32) && (!decide (j < 1) && x.toBitVec.getLsbD (j - 1))) := by
  have h := q_shl 1 (by omega) x
  have e : (x <<< ((1 : Int32) &&& 31)) = x <<< (nI 1 &&& 31) := rfl
  rw [e, h, BitVec.getLsbD_shiftLeft]
  simp [Bool.and_assoc]
theorem q_top {w : Nat} (hw : w = 8 ∨ w = 16) (s : Int32) : (s &&& crTop w ≠ 0) ↔ s.toBitVec.getLsbD (w - 1) = true := by
  have hb : ∀ j, j < 32 → (crTop w).toBitVec.getLsbD j = decide (j = w - 1) := by
    rcases hw with rfl | rfl <;> decide
  constructor
  · intro h
    cases hc : s.toBitVec.getLsbD (w - 1) with
    | true => rfl
    | false =>
      refine absurd (q_ext (fun j hj => ?_)) h
      rw [q_and, hb j hj]
      have e0 : (0 : Int32).toBitVec.getLsbD j = false := BitVec.getLsbD_zero
      rw [e0]
      by_cases hj2 : j = w - 1
      · rw [hj2, hc]; rfl
      · simp [hj2]
  · intro h q
    have h2 : (s &&& crTop w).toBitVec.getLsbD (w - 1) = false := by rw [q]; exact BitVec.getLsbD_zero
    rw [q_and, hb (w - 1) (by omega), h] at h2
    simp at h2
theorem q_crmask {w : Nat} (hw : w = 8 ∨ w = 16) : ∀ j, j < 32 → (crMask w).toBitVec.getLsbD j = decide (j < w) := by
  rcases hw with rfl | rfl <;> decide
/-- the class's step on a sum that bears the byte's rest is the step on the sum itself -/
theorem cr_one {w : Nat} (hw : w = 8 ∨ w = 16) (poly r b : Int32) (hb : ∀ j, 8 ≤ j → b.toBitVec.getLsbD j = false) {t : Nat} (ht : t < 8) :
    (if (r ^^^ ((b <<< (nI (w - 8 + t) &&& 31)) &&& crMask w)) &&& crTop w = 0 then ((r ^^^ ((b <<< (nI (w - 8 + t) &&& 31)) &&& crMask w)) <<< (1 &&& 31)) &&& crMask w else (((r ^^^ ((b <<< (nI (w - 8 + t) &&& 31)) &&& crMask w)) <<< (1 &&& 31)) &&& crMask w) ^^^ poly) = crStep w poly r (b.toBitVec.getLsbD (7 - t)) ^^^ ((b <<< (nI (w - 8 + (t + 1)) &&& 31)) &&& crMask w) := by
  have hw32 : w ≤ 16 := by omega
  have hm := q_crmask hw
  have key : ∀ j, j < 32 → (((r ^^^ ((b <<< (nI (w - 8 + t) &&& 31)) &&& crMask w)) <<< (1 &&& 31)) &&& crMask w).toBitVec.getLsbD j = ((((r <<< (1 &&& 31)) &&& crMask w)) ^^^ ((b <<< (nI (w - 8 + (t + 1)) &&& 31)) &&& crMask w)).toBitVec.getLsbD j := by
    intro j hj
    rw [q_and, hm j hj, q_s1, q_xor, q_xor, q_and, q_and, q_and, hm j hj, q_s1, q_shl _ (by omega), q_shl _ (by omega), BitVec.getLsbD_shiftLeft, BitVec.getLsbD_shiftLeft]
    by_cases h0 : j < 1
    · simp [h0, show j < w - 8 + (t + 1) by omega]
    · rw [hm (j - 1) (by omega)]
      by_cases hjw : j < w
      · have e1 : j - 1 - (w - 8 + t) = j - (w - 8 + (t + 1)) := by omega
        by_cases h2 : j - 1 < w - 8 + t
        · simp [h0, hj, hjw, h2, show j < w - 8 + (t + 1) by omega, show j - 1 < w by omega]
        · simp [h0, hj, hjw, h2, show ¬ j < w - 8 + (t + 1) by omega, show j - 1 < w by omega, e1, show j - 1 < 32 by omega]
      · simp [hjw]
  have key2 := q_ext key
  have tb : (r ^^^ ((b <<< (nI (w - 8 + t) &&& 31)) &&& crMask w)).toBitVec.getLsbD (w - 1) = (r.toBitVec.getLsbD (w - 1) ^^ b.toBitVec.getLsbD (7 - t)) := by
    rw [q_xor, q_and, hm (w - 1) (by omega), q_shl _ (by omega), BitVec.getLsbD_shiftLeft]
    by_cases h2 : w - 1 < w - 8 + t
    · omega
    · rw [show w - 1 - (w - 8 + t) = 7 - t by omega]
      simp [h2, show w - 1 < 32 by omega, show w - 1 < w by omega]
  have t1 := q_top hw (r ^^^ ((b <<< (nI (w - 8 + t) &&& 31)) &&& crMask w))
  have t2 := q_top hw r
  rw [tb] at t1
  rw [key2]
  unfold crStep
  have hx : ∀ (a b c : Int32), a ^^^ b ^^^ c = a ^^^ c ^^^ b := fun a b c => by
    apply q_ext
    intro j _
    rw [q_xor, q_xor, q_xor, q_xor]
    cases a.toBitVec.getLsbD j <;> cases b.toBitVec.getLsbD j <;> cases c.toBitVec.getLsbD j <;> rfl
  cases hr : r.toBitVec.getLsbD (w - 1) <;> cases hbb : b.toBitVec.getLsbD (7 - t) <;> rw [hr] at t1 t2 <;> rw [hbb] at t1 <;> simp at t1 t2 <;> simp [t1, t2, hx]
theorem q_255 (x : Int32) (j : Nat) (hj : j < 32) : (x &&& (Int16.ofInt 255).toInt32).toBitVec.getLsbD j = (x.toBitVec.getLsbD j && decide (j < 8)) := by
  have h : ∀ j, j < 32 → ((Int16.ofInt 255).toInt32).toBitVec.getLsbD j = decide (j < 8) := by decide
  rw [q_and, h j hj]
theorem q_255b (x : Int32) (j : Nat) (hj : 8 ≤ j) : (x &&& (Int16.ofInt 255).toInt32).toBitVec.getLsbD j = false := by
  by_cases h : j < 32
  · rw [q_255 x j h]
    simp [show ¬ j < 8 by omega]
  · exact BitVec.getLsbD_of_ge _ _ (by omega)
theorem cr_in {w : Nat} (hw : w = 8 ∨ w = 16) (b : Int32) (hb : ∀ j, 8 ≤ j → b.toBitVec.getLsbD j = false) : (b <<< (nI (w - 8 + 0) &&& 31)) &&& crMask w = b <<< (nI (w - 8) &&& 31) := by
  apply q_ext
  intro j hj
  rw [q_and, q_crmask hw j hj, q_shl _ (by omega), q_shl _ (by omega), BitVec.getLsbD_shiftLeft, Nat.add_zero]
  by_cases h : j < w
  · simp [h]
  · simp [h, hb (j - (w - 8)) (by omega)]
theorem cr_out {w : Nat} (hw : w = 8 ∨ w = 16) (b x : Int32) : x ^^^ ((b <<< (nI (w - 8 + 8) &&& 31)) &&& crMask w) = x := by
  apply q_ext
  intro j hj
  rw [q_xor, q_and, q_crmask hw j hj, q_shl _ (by omega), BitVec.getLsbD_shiftLeft]
  by_cases h : j < w
  · simp [show j < w - 8 + 8 by omega]
  · simp [h]
theorem c_sum8 {d a n from0 to0 w : Nat} {D : zD} {Q : zQ} {poly : Int32} (ha : zac a = some (2, n)) (hn : 8 * n < 2 ^ 31) (hw : w = 8 ∨ w = 16) (h1 : from0 ≤ to0) (h2 : to0 ≤ n) (hq : Q (.inl (some (.int (crc w poly (bt8 (D.1 a)) (8 * from0) (8 * (to0 - from0)))))) 0 D) :
    ZM yX8_sumOf iX8_sumOf d [.ref a, .int (nI from0), .int (nI to0), .int (nI w), .int poly] D Q := by
  refine z_method (by decide) rfl (Nat.le_of_ble_eq_true rfl) ?_
  refine z_at [(0, .ref a), (1, .int (nI from0)), (2, .int (nI to0)), (3, .int (nI w)), (4, .int poly)] ⟨rfl, rfl, rfl, rfl, rfl, trivial⟩ ?_
  have et : Int32.ofInt 1 <<< (nI w - Int32.ofInt 1 &&& 31) = crTop w := by rcases hw with rfl | rfl <;> rfl
  have em : (Int32.ofInt 1 <<< (nI w &&& 31)) - Int32.ofInt 1 = crMask w := by rcases hw with rfl | rfl <;> rfl
  have e8 : nI w - (Int8.ofInt 8).toInt32 = nI (w - 8) := pk_sub (b := 8) (by omega)
  have lp : ∀ (m i : Nat), i + m = to0 → from0 ≤ i → Z (zmk iX8_sumOf d) 0 20 (zl [(0, .ref a), (2, .int (nI to0)), (3, .int (nI w)), (4, .int poly), (5, .int (crTop w)), (6, .int (crMask w)), (7, .int (crc w poly (bt8 (D.1 a)) (8 * from0) (8 * (i - from0)))), (8, .int (nI i))]) [] D Q := by
    intro m
    induction m with
    | zero =>
      intro i hi hf
      have e : i = to0 := by omega
      subst e
      refine z_iload dX8_sumOf_20 (by exact rfl) ?_
      refine z_iload_n dX8_sumOf_22 (by exact rfl) ?_
      refine z_icmp_ge (tgt := 102) dX8_sumOf_23 (by decide) (fun _ => ?_) (fun q9 => absurd ((Int32.le_refl _)) q9)
      refine z_iload dX8_sumOf_102 (by exact rfl) ?_
      exact z_iret (st := []) rfl dX8_sumOf_104 hq
    | succ m ih =>
      intro i hi hf
      obtain ⟨b, hb⟩ : ∃ b, b = D.1 a i &&& (Int16.ofInt 255).toInt32 := ⟨_, rfl⟩
      have hbz : ∀ j, 8 ≤ j → b.toBitVec.getLsbD j = false := fun j hj => by rw [hb]; exact q_255b _ j hj
      have inner : ∀ (r t : Nat), t + r = 8 → ∀ x : Int32, x = crc w poly (bt8 (D.1 a)) (8 * from0) (8 * (i - from0) + t) ^^^ ((b <<< (nI (w - 8 + t) &&& 31)) &&& crMask w) → Z (zmk iX8_sumOf d) 0 47 (zl [(0, .ref a), (2, .int (nI to0)), (3, .int (nI w)), (4, .int poly), (5, .int (crTop w)), (6, .int (crMask w)), (7, .int x), (8, .int (nI i)), (9, .int (nI t))]) [] D Q := by
        intro r
        induction r with
        | zero =>
          intro t ht x hx
          have e : t = 8 := by omega
          subst e
          rw [cr_out hw] at hx
          refine z_iload dX8_sumOf_47 (by exact rfl) ?_
          refine z_bipush dX8_sumOf_49 ?_
          refine z_icmp_ge (tgt := 96) dX8_sumOf_51 (by decide) (fun _ => ?_) (fun q9 => absurd ((by decide)) q9)
          refine z_iinc dX8_sumOf_96 (by exact rfl) ?_
          refine z_goto (tgt := 20) dX8_sumOf_99 (by decide) ?_
          refine z_at [(0, .ref a), (2, .int (nI to0)), (3, .int (nI w)), (4, .int poly), (5, .int (crTop w)), (6, .int (crMask w)), (7, .int (crc w poly (bt8 (D.1 a)) (8 * from0) (8 * (i + 1 - from0)))), (8, .int (nI (i + 1)))] ⟨rfl, rfl, rfl, rfl, rfl, rfl, congrArg (fun v => some (Value.int v)) (by rw [hx, show 8 * (i + 1 - from0) = 8 * (i - from0) + 8 by omega]), congrArg (fun v => some (Value.int v)) (nI_1 i), trivial⟩ (ih (i + 1) (by omega) (by omega))
        | succ r ihr =>
          intro t ht x hx
          have hbit : bt8 (D.1 a) (8 * from0 + (8 * (i - from0) + t)) = b.toBitVec.getLsbD (7 - t) := by
            rw [hb, q_255 _ _ (by omega)]
            unfold bt8
            rw [show (8 * from0 + (8 * (i - from0) + t)) / 8 = i by omega, show 7 - (8 * from0 + (8 * (i - from0) + t)) % 8 = 7 - t by omega]
            simp [show 7 - t < 8 by omega]
          have hone := cr_one hw poly (crc w poly (bt8 (D.1 a)) (8 * from0) (8 * (i - from0) + t)) b hbz (t := t) (by omega)
          rw [← hx, ← hbit] at hone
          refine z_iload dX8_sumOf_47 (by exact rfl) ?_
          refine z_bipush dX8_sumOf_49 ?_
          refine z_icmp_ge (tgt := 96) dX8_sumOf_51 (by decide) (fun q9 => absurd q9 ((nI_ge (a := t) (b := 8) (by omega) (by omega)))) (fun _ => ?_)
          refine z_iload dX8_sumOf_54 (by exact rfl) ?_
          refine z_iload dX8_sumOf_56 (by exact rfl) ?_
          refine z_iand dX8_sumOf_58 ?_
          refine z_if_eq (tgt := 66) dX8_sumOf_59 (by decide) (fun c59 => ?_) (fun c59 => ?_)
          · refine z_iconst dX8_sumOf_66 ?_
            refine z_istore dX8_sumOf_67 (Nat.le_of_ble_eq_true rfl) ?_
            refine z_iload dX8_sumOf_69 (by exact rfl) ?_
            refine z_iconst dX8_sumOf_71 ?_
            refine z_ishl dX8_sumOf_72 ?_
            refine z_iload dX8_sumOf_73 (by exact rfl) ?_
            refine z_iand dX8_sumOf_75 ?_
            refine z_istore dX8_sumOf_76 (Nat.le_of_ble_eq_true rfl) ?_
            refine z_iload dX8_sumOf_78 (by exact rfl) ?_
            refine z_if_eq (tgt := 90) dX8_sumOf_80 (by decide) (fun _ => ?_) (fun q9 => absurd ((rfl : Int32.ofInt 0 = 0)) q9)
            refine z_iinc dX8_sumOf_90 (by exact rfl) ?_
            refine z_goto (tgt := 47) dX8_sumOf_93 (by decide) ?_
            refine z_at [(0, .ref a), (2, .int (nI to0)), (3, .int (nI w)), (4, .int poly), (5, .int (crTop w)), (6, .int (crMask w)), (7, .int ((x <<< (1 &&& 31)) &&& crMask w)), (8, .int (nI i)), (9, .int (nI (t + 1)))] ⟨rfl, rfl, rfl, rfl, rfl, rfl, rfl, rfl, congrArg (fun v => some (Value.int v)) (nI_1 t), trivial⟩ (ihr (t + 1) (by omega) _ ?_)
            rw [if_pos c59] at hone
            exact hone
          · refine z_iconst dX8_sumOf_62 ?_
            refine z_goto (tgt := 67) dX8_sumOf_63 (by decide) ?_
            refine z_istore dX8_sumOf_67 (Nat.le_of_ble_eq_true rfl) ?_
            refine z_iload dX8_sumOf_69 (by exact rfl) ?_
            refine z_iconst dX8_sumOf_71 ?_
            refine z_ishl dX8_sumOf_72 ?_
            refine z_iload dX8_sumOf_73 (by exact rfl) ?_
            refine z_iand dX8_sumOf_75 ?_
            refine z_istore dX8_sumOf_76 (Nat.le_of_ble_eq_true rfl) ?_
            refine z_iload dX8_sumOf_78 (by exact rfl) ?_
            refine z_if_eq (tgt := 90) dX8_sumOf_80 (by decide) (fun q9 => absurd q9 ((by decide : ¬ Int32.ofInt 1 = 0))) (fun _ => ?_)
            refine z_iload dX8_sumOf_83 (by exact rfl) ?_
            refine z_iload dX8_sumOf_85 (by exact rfl) ?_
            refine z_ixor dX8_sumOf_87 ?_
            refine z_istore dX8_sumOf_88 (Nat.le_of_ble_eq_true rfl) ?_
            refine z_iinc dX8_sumOf_90 (by exact rfl) ?_
            refine z_goto (tgt := 47) dX8_sumOf_93 (by decide) ?_
            refine z_at [(0, .ref a), (2, .int (nI to0)), (3, .int (nI w)), (4, .int poly), (5, .int (crTop w)), (6, .int (crMask w)), (7, .int (((x <<< (1 &&& 31)) &&& crMask w) ^^^ poly)), (8, .int (nI i)), (9, .int (nI (t + 1)))] ⟨rfl, rfl, rfl, rfl, rfl, rfl, rfl, rfl, congrArg (fun v => some (Value.int v)) (nI_1 t), trivial⟩ (ihr (t + 1) (by omega) _ ?_)
            rw [if_neg c59] at hone
            exact hone
      refine z_iload dX8_sumOf_20 (by exact rfl) ?_
      refine z_iload_n dX8_sumOf_22 (by exact rfl) ?_
      refine z_icmp_ge (tgt := 102) dX8_sumOf_23 (by decide) (fun q9 => absurd q9 ((nI_ge (by omega) (by omega)))) (fun _ => ?_)
      refine z_iload dX8_sumOf_26 (by exact rfl) ?_
      refine z_aload_n dX8_sumOf_28 (by exact rfl) ?_
      refine z_iload dX8_sumOf_29 (by exact rfl) ?_
      refine z_aB ha dX8_sumOf_31 (vp_in_nI (by omega) (by omega)) ?_
      rw [nI_clamp (show i < 2 ^ 31 by omega)]
      refine z_sipush dX8_sumOf_32 ?_
      refine z_iand dX8_sumOf_35 ?_
      rw [← hb]
      refine z_iload_n dX8_sumOf_36 (by exact rfl) ?_
      refine z_bipush dX8_sumOf_37 ?_
      refine z_isub dX8_sumOf_39 ?_
      refine z_eI (nI (w - 8)) e8 ?_
      refine z_ishl dX8_sumOf_40 ?_
      refine z_ixor dX8_sumOf_41 ?_
      refine z_istore dX8_sumOf_42 (Nat.le_of_ble_eq_true rfl) ?_
      refine z_iconst dX8_sumOf_44 ?_
      refine z_istore dX8_sumOf_45 (Nat.le_of_ble_eq_true rfl) ?_
      refine z_at [(0, .ref a), (2, .int (nI to0)), (3, .int (nI w)), (4, .int poly), (5, .int (crTop w)), (6, .int (crMask w)), (7, .int (crc w poly (bt8 (D.1 a)) (8 * from0) (8 * (i - from0)) ^^^ (b <<< (nI (w - 8) &&& 31)))), (8, .int (nI i)), (9, .int (nI 0))] ⟨rfl, rfl, rfl, rfl, rfl, rfl, rfl, rfl, rfl, trivial⟩ (inner 8 0 (by omega) _ ?_)
      rw [cr_in hw b hbz]
      rfl
  refine z_iconst dX8_sumOf_0 ?_
  refine z_iload_n dX8_sumOf_1 (by exact rfl) ?_
  refine z_iconst dX8_sumOf_2 ?_
  refine z_isub dX8_sumOf_3 ?_
  refine z_ishl dX8_sumOf_4 ?_
  refine z_eI (crTop w) et ?_
  refine z_istore dX8_sumOf_5 (Nat.le_of_ble_eq_true rfl) ?_
  refine z_iconst dX8_sumOf_7 ?_
  refine z_iload_n dX8_sumOf_8 (by exact rfl) ?_
  refine z_ishl dX8_sumOf_9 ?_
  refine z_iconst dX8_sumOf_10 ?_
  refine z_isub dX8_sumOf_11 ?_
  refine z_eI (crMask w) em ?_
  refine z_istore dX8_sumOf_12 (Nat.le_of_ble_eq_true rfl) ?_
  refine z_iconst dX8_sumOf_14 ?_
  refine z_istore dX8_sumOf_15 (Nat.le_of_ble_eq_true rfl) ?_
  refine z_iload_n dX8_sumOf_17 (by exact rfl) ?_
  refine z_istore dX8_sumOf_18 (Nat.le_of_ble_eq_true rfl) ?_
  refine z_at [(0, .ref a), (2, .int (nI to0)), (3, .int (nI w)), (4, .int poly), (5, .int (crTop w)), (6, .int (crMask w)), (7, .int (crc w poly (bt8 (D.1 a)) (8 * from0) (8 * (from0 - from0)))), (8, .int (nI from0))] ⟨rfl, rfl, rfl, rfl, rfl, rfl, congrArg (fun v => some (Value.int v)) (by rw [Nat.sub_self]; rfl), rfl, trivial⟩ (lp (to0 - from0) from0 (by omega) (Nat.le_refl _))
