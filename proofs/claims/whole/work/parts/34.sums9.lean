/-! ===== the reference's sums ===== -/
theorem q_ishr : ∀ s, s < 32 → ∀ (x : Int32), (x >>> (nI s &&& 31)).toBitVec = x.toBitVec.sshiftRight s := by
  intro s hs x
  have e : ((nI s &&& 31).toBitVec.smod 32).toNat = s := by
    have h := pk_andN (n := s) (by omega) (m := 31) 5 (by decide)
    rw [h, Nat.mod_eq_of_lt (by omega)]
    clear h
    revert s
    decide
  have h := Int32.toBitVec_shiftRight x (nI s &&& 31)
  rw [h]
  show BitVec.sshiftRight' _ _ = _
  rw [BitVec.sshiftRight', e]
theorem q_one32 (j : Nat) : ((1 : Int32).toBitVec).getLsbD j = decide (j = 0) := by
  show (1#32).getLsbD j = _
  rw [BitVec.getLsbD_one]
  simp
theorem q_bit1 {x : Int32} {k : Nat} (hk : k < 32) : ((x >>> (nI k &&& 31)) &&& Int32.ofInt 1 = Int32.ofInt 1) ↔ x.toBitVec.getLsbD k = true := by
  have hb : ∀ j, j < 32 → ((x >>> (nI k &&& 31)) &&& Int32.ofInt 1).toBitVec.getLsbD j = (decide (j = 0) && x.toBitVec.getLsbD k) := by
    intro j hj
    show ((x >>> (nI k &&& 31)) &&& (1 : Int32)).toBitVec.getLsbD j = _
    rw [q_and, q_one32, q_ishr k hk, BitVec.getLsbD_sshiftRight]
    by_cases h : j = 0
    · subst h; simp [hk]
    · simp [h]
  constructor
  · intro h
    have h0 := hb 0 (by omega)
    rw [h] at h0
    have e : (Int32.ofInt 1).toBitVec.getLsbD 0 = true := by decide
    rw [e] at h0
    simpa using h0.symm
  · intro h
    apply q_ext
    intro j hj
    rw [hb j hj, h]
    show _ = (1 : Int32).toBitVec.getLsbD j
    rw [q_one32]
    simp
theorem oct_bit (g : Nat → Int64) (i : Nat) {k : Nat} (hk : k < 8) : (oct g i).toBitVec.getLsbD k = bt64 g (8 * i + (7 - k)) := by
  unfold oct bt64
  have h255 : ∀ j, j < 32 → (255 : Int32).toBitVec.getLsbD j = decide (j < 8) := by decide
  rw [q_and, h255 k (by omega), Int64.toBitVec_toInt32, BitVec.getLsbD_signExtend, q_lshr _ (by omega), BitVec.getLsbD_sshiftRight]
  rw [show (8 * i + (7 - k)) / 64 = i / 8 by omega, show 63 - (8 * i + (7 - k)) % 64 = 56 - 8 * (i % 8) + k by omega]
  simp [hk, show k < 32 by omega, show k < 64 by omega, show ¬ 64 ≤ k by omega, show 56 - 8 * (i % 8) + k < 64 by omega]
def crPoly (w : Nat) : Int32 := if w = 8 then 7 else 32773
theorem c_sum9 {d a n from0 to0 w : Nat} {D : zD} {Q : zQ} {wd : Int32} (ha : zac a = some (1, n)) (hn : 8 * n < 2 ^ 31) (hw : w = 8 ∨ w = 16) (hwd : wd = 0 ↔ w = 8) (h1 : from0 ≤ to0) (h2 : to0 ≤ 8 * n) (hq : Q (.inl (some (.int (crc w (crPoly w) (bt64 (D.2 a)) (8 * from0) (8 * (to0 - from0)))))) 0 D) :
    ZM yX9_sumOf iX9_sumOf (d + 1) [.ref a, .int (nI from0), .int (nI to0), .int wd] D Q := by
  refine z_method (by decide) rfl (Nat.le_of_ble_eq_true rfl) ?_
  refine z_at [(0, .ref a), (1, .int (nI from0)), (2, .int (nI to0)), (3, .int wd)] ⟨rfl, rfl, rfl, rfl, trivial⟩ ?_
  have em : Int32.ofInt 2 * crTop w - Int32.ofInt 1 = crMask w := by rcases hw with rfl | rfl <;> rfl
  have lp : ∀ (m i : Nat), i + m = to0 → from0 ≤ i → Z (zmk iX9_sumOf (d + 1)) 0 20 (zl [(0, .ref a), (2, .int (nI to0)), (3, .int wd), (4, .int (crc w (crPoly w) (bt64 (D.2 a)) (8 * from0) (8 * (i - from0)))), (5, .int (crTop w)), (6, .int (nI i))]) [] D Q := by
    intro m
    induction m with
    | zero =>
      intro i hi hf
      have e : i = to0 := by omega
      subst e
      refine z_iload dX9_sumOf_20 (by exact rfl) ?_
      refine z_iload_n dX9_sumOf_22 (by exact rfl) ?_
      refine z_icmp_ge (tgt := 120) dX9_sumOf_23 (by decide) (fun _ => ?_) (fun q9 => absurd ((Int32.le_refl _)) q9)
      refine z_iload dX9_sumOf_120 (by exact rfl) ?_
      exact z_iret (st := []) rfl dX9_sumOf_122 hq
    | succ m ih =>
      intro i hi hf
      have inner : ∀ (r t : Nat), t + r = 8 → ∀ x : Int32, x = crc w (crPoly w) (bt64 (D.2 a)) (8 * from0) (8 * (i - from0) + t) → Z (zmk iX9_sumOf (d + 1)) 0 30 (zl [(0, .ref a), (2, .int (nI to0)), (3, .int wd), (4, .int x), (5, .int (crTop w)), (6, .int (nI i)), (7, .int (nI r - 1))]) [] D Q := by
        intro r
        induction r with
        | zero =>
          intro t ht x hx
          have e : t = 8 := by omega
          subst e
          refine z_iload dX9_sumOf_30 (by exact rfl) ?_
          refine z_if_lt (tgt := 114) dX9_sumOf_32 (by decide) (fun _ => ?_) (fun q9 => absurd ((by decide)) q9)
          refine z_iinc dX9_sumOf_114 (by exact rfl) ?_
          refine z_goto (tgt := 20) dX9_sumOf_117 (by decide) ?_
          refine z_at [(0, .ref a), (2, .int (nI to0)), (3, .int wd), (4, .int (crc w (crPoly w) (bt64 (D.2 a)) (8 * from0) (8 * (i + 1 - from0)))), (5, .int (crTop w)), (6, .int (nI (i + 1)))] ⟨rfl, rfl, rfl, congrArg (fun v => some (Value.int v)) (by rw [hx, show 8 * (i + 1 - from0) = 8 * (i - from0) + 8 by omega]), rfl, congrArg (fun v => some (Value.int v)) (nI_1 i), trivial⟩ (ih (i + 1) (by omega) (by omega))
        | succ r ihr =>
          intro t ht x hx
          have hbit : bt64 (D.2 a) (8 * from0 + (8 * (i - from0) + t)) = (oct (D.2 a) i).toBitVec.getLsbD r := by
            rw [oct_bit _ _ (by omega)]
            congr 1
            omega
          have hb1 := q_bit1 (x := oct (D.2 a) i) (k := r) (by omega)
          have hst : crc w (crPoly w) (bt64 (D.2 a)) (8 * from0) (8 * (i - from0) + (t + 1)) = crStep w (crPoly w) x ((oct (D.2 a) i).toBitVec.getLsbD r) := by rw [← hbit, hx]; rfl
          unfold crStep at hst
          have fin : ∀ (y : Int32), y = crc w (crPoly w) (bt64 (D.2 a)) (8 * from0) (8 * (i - from0) + (t + 1)) → Z (zmk iX9_sumOf (d + 1)) 0 30 (zl [(0, .ref a), (2, .int (nI to0)), (3, .int wd), (4, .int y), (5, .int (crTop w)), (6, .int (nI i)), (7, .int (nI r - 1))]) [] D Q := fun y hy => ihr (t + 1) (by omega) y hy
          refine z_at [(0, .ref a), (2, .int (nI to0)), (3, .int wd), (4, .int x), (5, .int (crTop w)), (6, .int (nI i)), (7, .int (nI r))] ⟨rfl, rfl, rfl, rfl, rfl, rfl, congrArg (fun v => some (Value.int v)) (nI_pred r), trivial⟩ ?_
          refine z_iload dX9_sumOf_30 (by exact rfl) ?_
          refine z_if_lt (tgt := 114) dX9_sumOf_32 (by decide) (fun q9 => absurd q9 ((nI_pos (by omega)))) (fun _ => ?_)
          refine z_iload dX9_sumOf_35 (by exact rfl) ?_
          refine z_iload dX9_sumOf_37 (by exact rfl) ?_
          refine z_iand dX9_sumOf_39 ?_
          refine z_if_eq (tgt := 47) dX9_sumOf_40 (by decide) (fun c40 => ?_) (fun c40 => ?_)
          · refine z_iconst dX9_sumOf_47 ?_
            refine z_istore dX9_sumOf_48 (Nat.le_of_ble_eq_true rfl) ?_
            refine z_aload_n dX9_sumOf_50 (by exact rfl) ?_
            refine z_iload dX9_sumOf_51 (by exact rfl) ?_
            refine z_cS dX9_sumOf_53 zk_X9_198 (by exact rfl) (Nat.le_of_ble_eq_true rfl) (Nat.le_of_ble_eq_true rfl) (Nat.le_refl _) ?_
            refine c_octetOf ha (by omega) hn ?_
            refine z_iload dX9_sumOf_56 (by exact rfl) ?_
            refine z_ishr dX9_sumOf_58 ?_
            refine z_iconst dX9_sumOf_59 ?_
            refine z_iand dX9_sumOf_60 ?_
            refine z_iconst dX9_sumOf_61 ?_
            refine z_icmp_ne (tgt := 69) dX9_sumOf_62 (by decide) (fun c62 => ?_) (fun c62 => ?_)
            · refine z_iconst dX9_sumOf_69 ?_
              refine z_istore dX9_sumOf_70 (Nat.le_of_ble_eq_true rfl) ?_
              refine z_iload dX9_sumOf_72 (by exact rfl) ?_
              refine z_iconst dX9_sumOf_74 ?_
              refine z_ishl dX9_sumOf_75 ?_
              refine z_iconst dX9_sumOf_76 ?_
              refine z_iload dX9_sumOf_77 (by exact rfl) ?_
              refine z_imul dX9_sumOf_79 ?_
              refine z_iconst dX9_sumOf_80 ?_
              refine z_isub dX9_sumOf_81 ?_
              refine z_eI (crMask w) em ?_
              refine z_iand dX9_sumOf_82 ?_
              refine z_istore dX9_sumOf_83 (Nat.le_of_ble_eq_true rfl) ?_
              refine z_iload dX9_sumOf_85 (by exact rfl) ?_
              refine z_iload dX9_sumOf_87 (by exact rfl) ?_
              refine z_icmp_eq (tgt := 108) dX9_sumOf_89 (by decide) (fun _ => ?_) (fun q9 => absurd ((rfl : Int32.ofInt 0 = Int32.ofInt 0)) q9)
              refine z_iinc dX9_sumOf_108 (by exact rfl) ?_
              refine z_goto (tgt := 30) dX9_sumOf_111 (by decide) ?_
              have hbf : (oct (D.2 a) i).toBitVec.getLsbD r = false := by
                cases hc : (oct (D.2 a) i).toBitVec.getLsbD r with
                | false => rfl
                | true => exact absurd (hb1.mpr hc) c62
              refine z_at [(0, .ref a), (2, .int (nI to0)), (3, .int wd), (4, .int ((x <<< (1 &&& 31)) &&& crMask w)), (5, .int (crTop w)), (6, .int (nI i)), (7, .int (nI r - 1))] ⟨rfl, rfl, rfl, rfl, rfl, rfl, congrArg (fun v => some (Value.int v)) (q_m1 (nI r)), trivial⟩ (fin _ ?_)
              rw [hst, hbf]
              simp [c40]
            · refine z_iconst dX9_sumOf_65 ?_
              refine z_goto (tgt := 70) dX9_sumOf_66 (by decide) ?_
              refine z_istore dX9_sumOf_70 (Nat.le_of_ble_eq_true rfl) ?_
              refine z_iload dX9_sumOf_72 (by exact rfl) ?_
              refine z_iconst dX9_sumOf_74 ?_
              refine z_ishl dX9_sumOf_75 ?_
              refine z_iconst dX9_sumOf_76 ?_
              refine z_iload dX9_sumOf_77 (by exact rfl) ?_
              refine z_imul dX9_sumOf_79 ?_
              refine z_iconst dX9_sumOf_80 ?_
              refine z_isub dX9_sumOf_81 ?_
              refine z_eI (crMask w) em ?_
              refine z_iand dX9_sumOf_82 ?_
              refine z_istore dX9_sumOf_83 (Nat.le_of_ble_eq_true rfl) ?_
              refine z_iload dX9_sumOf_85 (by exact rfl) ?_
              refine z_iload dX9_sumOf_87 (by exact rfl) ?_
              refine z_icmp_eq (tgt := 108) dX9_sumOf_89 (by decide) (fun q9 => absurd q9 ((by decide : ¬ Int32.ofInt 0 = Int32.ofInt 1))) (fun _ => ?_)
              refine z_iload dX9_sumOf_92 (by exact rfl) ?_
              refine z_iload_n dX9_sumOf_94 (by exact rfl) ?_
              refine z_if_eq (tgt := 103) dX9_sumOf_95 (by decide) (fun c95 => ?_) (fun c95 => ?_)
              · refine z_bipush dX9_sumOf_103 ?_
                refine z_eI (crPoly w) (by rw [hwd.mp c95]; rfl) ?_
                refine z_ixor dX9_sumOf_105 ?_
                refine z_istore dX9_sumOf_106 (Nat.le_of_ble_eq_true rfl) ?_
                refine z_iinc dX9_sumOf_108 (by exact rfl) ?_
                refine z_goto (tgt := 30) dX9_sumOf_111 (by decide) ?_
                have hbf : (oct (D.2 a) i).toBitVec.getLsbD r = true := hb1.mp c62
                refine z_at [(0, .ref a), (2, .int (nI to0)), (3, .int wd), (4, .int (((x <<< (1 &&& 31)) &&& crMask w) ^^^ crPoly w)), (5, .int (crTop w)), (6, .int (nI i)), (7, .int (nI r - 1))] ⟨rfl, rfl, rfl, rfl, rfl, rfl, congrArg (fun v => some (Value.int v)) (q_m1 (nI r)), trivial⟩ (fin _ ?_)
                rw [hst, hbf]
                simp [c40]
              · refine z_ldcI dX9_sumOf_98 zcix_X9_202 ?_
                refine z_eI (crPoly w) (by cases hw with | inl h8 => exact absurd (hwd.mpr h8) c95 | inr h16 => rw [h16]; rfl) ?_
                refine z_goto (tgt := 105) dX9_sumOf_100 (by decide) ?_
                refine z_ixor dX9_sumOf_105 ?_
                refine z_istore dX9_sumOf_106 (Nat.le_of_ble_eq_true rfl) ?_
                refine z_iinc dX9_sumOf_108 (by exact rfl) ?_
                refine z_goto (tgt := 30) dX9_sumOf_111 (by decide) ?_
                have hbf : (oct (D.2 a) i).toBitVec.getLsbD r = true := hb1.mp c62
                refine z_at [(0, .ref a), (2, .int (nI to0)), (3, .int wd), (4, .int (((x <<< (1 &&& 31)) &&& crMask w) ^^^ crPoly w)), (5, .int (crTop w)), (6, .int (nI i)), (7, .int (nI r - 1))] ⟨rfl, rfl, rfl, rfl, rfl, rfl, congrArg (fun v => some (Value.int v)) (q_m1 (nI r)), trivial⟩ (fin _ ?_)
                rw [hst, hbf]
                simp [c40]
          · refine z_iconst dX9_sumOf_43 ?_
            refine z_goto (tgt := 48) dX9_sumOf_44 (by decide) ?_
            refine z_istore dX9_sumOf_48 (Nat.le_of_ble_eq_true rfl) ?_
            refine z_aload_n dX9_sumOf_50 (by exact rfl) ?_
            refine z_iload dX9_sumOf_51 (by exact rfl) ?_
            refine z_cS dX9_sumOf_53 zk_X9_198 (by exact rfl) (Nat.le_of_ble_eq_true rfl) (Nat.le_of_ble_eq_true rfl) (Nat.le_refl _) ?_
            refine c_octetOf ha (by omega) hn ?_
            refine z_iload dX9_sumOf_56 (by exact rfl) ?_
            refine z_ishr dX9_sumOf_58 ?_
            refine z_iconst dX9_sumOf_59 ?_
            refine z_iand dX9_sumOf_60 ?_
            refine z_iconst dX9_sumOf_61 ?_
            refine z_icmp_ne (tgt := 69) dX9_sumOf_62 (by decide) (fun c62 => ?_) (fun c62 => ?_)
            · refine z_iconst dX9_sumOf_69 ?_
              refine z_istore dX9_sumOf_70 (Nat.le_of_ble_eq_true rfl) ?_
              refine z_iload dX9_sumOf_72 (by exact rfl) ?_
              refine z_iconst dX9_sumOf_74 ?_
              refine z_ishl dX9_sumOf_75 ?_
              refine z_iconst dX9_sumOf_76 ?_
              refine z_iload dX9_sumOf_77 (by exact rfl) ?_
              refine z_imul dX9_sumOf_79 ?_
              refine z_iconst dX9_sumOf_80 ?_
              refine z_isub dX9_sumOf_81 ?_
              refine z_eI (crMask w) em ?_
              refine z_iand dX9_sumOf_82 ?_
              refine z_istore dX9_sumOf_83 (Nat.le_of_ble_eq_true rfl) ?_
              refine z_iload dX9_sumOf_85 (by exact rfl) ?_
              refine z_iload dX9_sumOf_87 (by exact rfl) ?_
              refine z_icmp_eq (tgt := 108) dX9_sumOf_89 (by decide) (fun q9 => absurd q9 ((by decide : ¬ Int32.ofInt 1 = Int32.ofInt 0))) (fun _ => ?_)
              refine z_iload dX9_sumOf_92 (by exact rfl) ?_
              refine z_iload_n dX9_sumOf_94 (by exact rfl) ?_
              refine z_if_eq (tgt := 103) dX9_sumOf_95 (by decide) (fun c95 => ?_) (fun c95 => ?_)
              · refine z_bipush dX9_sumOf_103 ?_
                refine z_eI (crPoly w) (by rw [hwd.mp c95]; rfl) ?_
                refine z_ixor dX9_sumOf_105 ?_
                refine z_istore dX9_sumOf_106 (Nat.le_of_ble_eq_true rfl) ?_
                refine z_iinc dX9_sumOf_108 (by exact rfl) ?_
                refine z_goto (tgt := 30) dX9_sumOf_111 (by decide) ?_
                have hbf : (oct (D.2 a) i).toBitVec.getLsbD r = false := by
                  cases hc : (oct (D.2 a) i).toBitVec.getLsbD r with
                  | false => rfl
                  | true => exact absurd (hb1.mpr hc) c62
                refine z_at [(0, .ref a), (2, .int (nI to0)), (3, .int wd), (4, .int (((x <<< (1 &&& 31)) &&& crMask w) ^^^ crPoly w)), (5, .int (crTop w)), (6, .int (nI i)), (7, .int (nI r - 1))] ⟨rfl, rfl, rfl, rfl, rfl, rfl, congrArg (fun v => some (Value.int v)) (q_m1 (nI r)), trivial⟩ (fin _ ?_)
                rw [hst, hbf]
                simp [c40]
              · refine z_ldcI dX9_sumOf_98 zcix_X9_202 ?_
                refine z_eI (crPoly w) (by cases hw with | inl h8 => exact absurd (hwd.mpr h8) c95 | inr h16 => rw [h16]; rfl) ?_
                refine z_goto (tgt := 105) dX9_sumOf_100 (by decide) ?_
                refine z_ixor dX9_sumOf_105 ?_
                refine z_istore dX9_sumOf_106 (Nat.le_of_ble_eq_true rfl) ?_
                refine z_iinc dX9_sumOf_108 (by exact rfl) ?_
                refine z_goto (tgt := 30) dX9_sumOf_111 (by decide) ?_
                have hbf : (oct (D.2 a) i).toBitVec.getLsbD r = false := by
                  cases hc : (oct (D.2 a) i).toBitVec.getLsbD r with
                  | false => rfl
                  | true => exact absurd (hb1.mpr hc) c62
                refine z_at [(0, .ref a), (2, .int (nI to0)), (3, .int wd), (4, .int (((x <<< (1 &&& 31)) &&& crMask w) ^^^ crPoly w)), (5, .int (crTop w)), (6, .int (nI i)), (7, .int (nI r - 1))] ⟨rfl, rfl, rfl, rfl, rfl, rfl, congrArg (fun v => some (Value.int v)) (q_m1 (nI r)), trivial⟩ (fin _ ?_)
                rw [hst, hbf]
                simp [c40]
            · refine z_iconst dX9_sumOf_65 ?_
              refine z_goto (tgt := 70) dX9_sumOf_66 (by decide) ?_
              refine z_istore dX9_sumOf_70 (Nat.le_of_ble_eq_true rfl) ?_
              refine z_iload dX9_sumOf_72 (by exact rfl) ?_
              refine z_iconst dX9_sumOf_74 ?_
              refine z_ishl dX9_sumOf_75 ?_
              refine z_iconst dX9_sumOf_76 ?_
              refine z_iload dX9_sumOf_77 (by exact rfl) ?_
              refine z_imul dX9_sumOf_79 ?_
              refine z_iconst dX9_sumOf_80 ?_
              refine z_isub dX9_sumOf_81 ?_
              refine z_eI (crMask w) em ?_
              refine z_iand dX9_sumOf_82 ?_
              refine z_istore dX9_sumOf_83 (Nat.le_of_ble_eq_true rfl) ?_
              refine z_iload dX9_sumOf_85 (by exact rfl) ?_
              refine z_iload dX9_sumOf_87 (by exact rfl) ?_
              refine z_icmp_eq (tgt := 108) dX9_sumOf_89 (by decide) (fun _ => ?_) (fun q9 => absurd ((rfl : Int32.ofInt 1 = Int32.ofInt 1)) q9)
              refine z_iinc dX9_sumOf_108 (by exact rfl) ?_
              refine z_goto (tgt := 30) dX9_sumOf_111 (by decide) ?_
              have hbf : (oct (D.2 a) i).toBitVec.getLsbD r = true := hb1.mp c62
              refine z_at [(0, .ref a), (2, .int (nI to0)), (3, .int wd), (4, .int ((x <<< (1 &&& 31)) &&& crMask w)), (5, .int (crTop w)), (6, .int (nI i)), (7, .int (nI r - 1))] ⟨rfl, rfl, rfl, rfl, rfl, rfl, congrArg (fun v => some (Value.int v)) (q_m1 (nI r)), trivial⟩ (fin _ ?_)
              rw [hst, hbf]
              simp [c40]
      refine z_iload dX9_sumOf_20 (by exact rfl) ?_
      refine z_iload_n dX9_sumOf_22 (by exact rfl) ?_
      refine z_icmp_ge (tgt := 120) dX9_sumOf_23 (by decide) (fun q9 => absurd q9 ((nI_ge (by omega) (by omega)))) (fun _ => ?_)
      refine z_bipush dX9_sumOf_26 ?_
      refine z_istore dX9_sumOf_28 (Nat.le_of_ble_eq_true rfl) ?_
      refine z_at [(0, .ref a), (2, .int (nI to0)), (3, .int wd), (4, .int (crc w (crPoly w) (bt64 (D.2 a)) (8 * from0) (8 * (i - from0)))), (5, .int (crTop w)), (6, .int (nI i)), (7, .int (nI 8 - 1))] ⟨rfl, rfl, rfl, rfl, rfl, rfl, rfl, trivial⟩ (inner 8 0 (by omega) _ rfl)
  have h20 := lp (to0 - from0) from0 (by omega) (Nat.le_refl _)
  rw [Nat.sub_self] at h20
  refine z_iconst dX9_sumOf_0 ?_
  refine z_istore dX9_sumOf_1 (Nat.le_of_ble_eq_true rfl) ?_
  refine z_iload_n dX9_sumOf_3 (by exact rfl) ?_
  refine z_if_eq (tgt := 12) dX9_sumOf_4 (by decide) (fun c4 => ?_) (fun c4 => ?_)
  · refine z_sipush dX9_sumOf_12 ?_
    refine z_istore dX9_sumOf_15 (Nat.le_of_ble_eq_true rfl) ?_
    refine z_iload_n dX9_sumOf_17 (by exact rfl) ?_
    refine z_istore dX9_sumOf_18 (Nat.le_of_ble_eq_true rfl) ?_
    refine z_at [(0, .ref a), (2, .int (nI to0)), (3, .int wd), (4, .int (crc w (crPoly w) (bt64 (D.2 a)) (8 * from0) (8 * 0))), (5, .int (crTop w)), (6, .int (nI from0))] ⟨rfl, rfl, rfl, rfl, congrArg (fun v => some (Value.int v)) (by rw [hwd.mp c4]; rfl), rfl, trivial⟩ h20
  · refine z_ldcI dX9_sumOf_7 zcix_X9_197 ?_
    refine z_goto (tgt := 15) dX9_sumOf_9 (by decide) ?_
    refine z_istore dX9_sumOf_15 (Nat.le_of_ble_eq_true rfl) ?_
    refine z_iload_n dX9_sumOf_17 (by exact rfl) ?_
    refine z_istore dX9_sumOf_18 (Nat.le_of_ble_eq_true rfl) ?_
    refine z_at [(0, .ref a), (2, .int (nI to0)), (3, .int wd), (4, .int (crc w (crPoly w) (bt64 (D.2 a)) (8 * from0) (8 * 0))), (5, .int (crTop w)), (6, .int (nI from0))] ⟨rfl, rfl, rfl, rfl, congrArg (fun v => some (Value.int v)) (by cases hw with | inl h8 => exact absurd (hwd.mpr h8) c4 | inr h16 => rw [h16]; rfl), rfl, trivial⟩ h20
