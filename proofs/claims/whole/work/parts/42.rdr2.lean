/-! ===== a row of zeros and a one; numbers with a sign ===== -/
theorem q_bit0 {x : Int32} {k : Nat} (hk : k < 32) : ((x >>> (nI k &&& 31)) &&& Int32.ofInt 1 = 0) ↔ x.toBitVec.getLsbD k = false := by
  have hb : ∀ j, j < 32 → ((x >>> (nI k &&& 31)) &&& Int32.ofInt 1).toBitVec.getLsbD j = (decide (j = 0) && x.toBitVec.getLsbD k) := by
    intro j hj
    show ((x >>> (nI k &&& 31)) &&& (1 : Int32)).toBitVec.getLsbD j = _
    rw [q_and, q_one32, q_ishr k hk, BitVec.getLsbD_sshiftRight]
    by_cases h : j = 0
    · subst h; simp [hk]
    · simp [h]
  constructor
  · intro h
    have h0 := hb 0 (by omega)
    rw [h] at h0
    have e : (0 : Int32).toBitVec.getLsbD 0 = false := by decide
    rw [e] at h0
    simpa using h0.symm
  · intro h
    apply q_ext
    intro j hj
    rw [hb j hj, h]
    have e : (0 : Int32).toBitVec.getLsbD j = false := BitVec.getLsbD_zero
    rw [e]
    simp
theorem c_zerosAndOne {d p sz : Nat} {D : zD} {T : Nat → Bool} {Q : zQ} (hR : rd8 D T sz p) (h1 : ∀ z, p + z < 8 * sz → (∀ i, i < z → T (p + i) = false) → T (p + z) = true → Q (.inl (some (.int (nI z)))) 0 (zuI (zuI D 37 8 (nI p)) 37 7 (nI (p + z + 1)))) (h0 : (∀ i, p ≤ i → i < 8 * sz → T i = false) → Q (.inr zISE) 1 (zfail (zuI (zuI D 37 8 (nI p)) 37 7 (nI (8 * sz))) 1 (nI p))) :
    ZM yX4_zerosAndOne iX4_zerosAndOne (d + 1) [.ref 37] D Q := by
  refine z_method (by decide) rfl (Nat.le_of_ble_eq_true rfl) ?_
  refine z_at [(0, .ref 37)] ⟨rfl, trivial⟩ ?_
  obtain ⟨r1, r2, r3, r4, r5, r6⟩ := hR
  have e8 : (Int8.ofInt 8).toInt32 * nI sz = nI (8 * sz) := pk_mul 8 sz
  have lp : ∀ (m q : Nat), 8 * sz - q ≤ m → p ≤ q → q ≤ 8 * sz → (∀ i, p ≤ i → i < q → T i = false) → Z (zmk iX4_zerosAndOne (d + 1)) 0 16 (zl [(0, .ref 37), (1, .int (nI (8 * sz)))]) [] (zuI (zuI D 37 8 (nI p)) 37 7 (nI q)) Q := by
    intro m
    induction m with
    | zero =>
      intro q hm hpq hq hz
      have e : q = 8 * sz := by omega
      subst e
      refine z_aload_n dX4_zerosAndOne_16 (by exact rfl) ?_
      refine z_gfI zfx_X4_64 (by exact rfl) dX4_zerosAndOne_17 ?_
      refine z_iload_n dX4_zerosAndOne_20 (by exact rfl) ?_
      refine z_icmp_ge (tgt := 93) dX4_zerosAndOne_21 (by decide) (fun _ => ?_) (fun q9 => absurd ((Int32.le_refl _)) q9)
      refine z_aload_n dX4_zerosAndOne_93 (by exact rfl) ?_
      refine z_gfI zfx_X4_64 (by exact rfl) dX4_zerosAndOne_94 ?_
      refine z_iload_n dX4_zerosAndOne_97 (by exact rfl) ?_
      refine z_icmp_lt (tgt := 110) dX4_zerosAndOne_98 (by decide) (fun q9 => absurd q9 ((fun h => Int32.lt_irrefl h))) (fun _ => ?_)
      refine z_aload_n dX4_zerosAndOne_101 (by exact rfl) ?_
      refine z_iconst dX4_zerosAndOne_102 ?_
      refine z_aload_n dX4_zerosAndOne_103 (by exact rfl) ?_
      refine z_gfI zfx_X4_92 (by exact rfl) dX4_zerosAndOne_104 ?_
      refine z_cV dX4_zerosAndOne_107 zk_X4_95 (by exact rfl) (by exact rfl) (by exact rfl) (Nat.le_of_ble_eq_true rfl) (Nat.le_of_ble_eq_true rfl) (Nat.le_refl _) ?_
      exact c_fail (zx_out rfl (h0 hz))
    | succ m ih =>
      intro q hm hpq hq hz
      by_cases hqe : q = 8 * sz
      · exact ih q (by omega) hpq hq hz
      have hql : q < 8 * sz := by omega
      have hTq := r5 q hql
      have hb0 := q_bit0 (x := D.1 38 (q / 8)) (k := 7 - q % 8) (by omega)
      refine z_aload_n dX4_zerosAndOne_16 (by exact rfl) ?_
      refine z_gfI zfx_X4_64 (by exact rfl) dX4_zerosAndOne_17 ?_
      refine z_iload_n dX4_zerosAndOne_20 (by exact rfl) ?_
      refine z_icmp_ge (tgt := 93) dX4_zerosAndOne_21 (by decide) (fun q9 => absurd q9 ((nI_ge hql (by omega)))) (fun _ => ?_)
      refine z_aload_n dX4_zerosAndOne_24 (by exact rfl) ?_
      refine z_gfA zfx_X4_9 (by exact rfl) dX4_zerosAndOne_25 ?_
      refine z_aload_n dX4_zerosAndOne_28 (by exact rfl) ?_
      refine z_gfI zfx_X4_64 (by exact rfl) dX4_zerosAndOne_29 ?_
      refine z_iconst dX4_zerosAndOne_32 ?_
      refine z_ishr dX4_zerosAndOne_33 ?_
      refine z_eI (nI (q / 8)) (pk_shrN (n := q) (by omega) _ 3 (by decide)) ?_
      refine z_aB (by exact rfl) dX4_zerosAndOne_34 (vp_in_nI (by omega) (by omega)) ?_
      rw [nI_clamp (show q / 8 < 2 ^ 31 by omega)]
      refine z_bipush dX4_zerosAndOne_35 ?_
      refine z_aload_n dX4_zerosAndOne_37 (by exact rfl) ?_
      refine z_gfI zfx_X4_64 (by exact rfl) dX4_zerosAndOne_38 ?_
      refine z_bipush dX4_zerosAndOne_41 ?_
      refine z_iand dX4_zerosAndOne_43 ?_
      refine z_eI (nI (q % 8)) (pk_andN (n := q) (by omega) 3 (by decide)) ?_
      refine z_isub dX4_zerosAndOne_44 ?_
      refine z_eI (nI (7 - q % 8)) (pk_sub (a := 7) (by omega)) ?_
      refine z_ishr dX4_zerosAndOne_45 ?_
      refine z_iconst dX4_zerosAndOne_46 ?_
      refine z_iand dX4_zerosAndOne_47 ?_
      refine z_if_ne (tgt := 93) dX4_zerosAndOne_48 (by decide) (fun c48 => ?_) (fun c48 => ?_)
      · refine z_aload_n dX4_zerosAndOne_93 (by exact rfl) ?_
        refine z_gfI zfx_X4_64 (by exact rfl) dX4_zerosAndOne_94 ?_
        refine z_iload_n dX4_zerosAndOne_97 (by exact rfl) ?_
        refine z_icmp_lt (tgt := 110) dX4_zerosAndOne_98 (by decide) (fun _ => ?_) (fun q9 => absurd ((nI_lt hql (by omega))) q9)
        refine z_aload_n dX4_zerosAndOne_110 (by exact rfl) ?_
        refine z_dup dX4_zerosAndOne_111 (by exact rfl) ?_
        refine z_gfI zfx_X4_64 (by exact rfl) dX4_zerosAndOne_112 ?_
        refine z_iconst dX4_zerosAndOne_115 ?_
        refine z_iadd dX4_zerosAndOne_116 ?_
        refine z_eI (nI (q + 1)) (nI_1 q) ?_
        refine z_pfI zfx_X4_64 (by exact rfl) dX4_zerosAndOne_117 ?_
        refine z_aload_n dX4_zerosAndOne_120 (by exact rfl) ?_
        refine z_gfI zfx_X4_64 (by exact rfl) dX4_zerosAndOne_121 ?_
        refine z_iconst dX4_zerosAndOne_124 ?_
        refine z_isub dX4_zerosAndOne_125 ?_
        refine z_eI (nI q) (nI_pred q) ?_
        refine z_aload_n dX4_zerosAndOne_126 (by exact rfl) ?_
        refine z_gfI zfx_X4_92 (by exact rfl) dX4_zerosAndOne_127 ?_
        refine z_isub dX4_zerosAndOne_130 ?_
        refine z_eI (nI (q - p)) (pk_sub hpq) ?_
        exact z_iret (st := []) rfl dX4_zerosAndOne_131 (by
          have h9 := h1 (q - p) (by omega) (fun i hi => hz (p + i) (by omega) (by omega)) (by
            rw [show p + (q - p) = q by omega, ← hTq]
            unfold bt8
            cases hc : (D.1 38 (q / 8)).toBitVec.getLsbD (7 - q % 8) with
            | true => rfl
            | false => exact absurd (hb0.mpr hc) c48)
          rw [show p + (q - p) + 1 = q + 1 by omega] at h9
          have e : zuI (zuI (zuI D 37 8 (nI p)) 37 7 (nI q)) 37 7 (nI (q + 1)) = zuI (zuI D 37 8 (nI p)) 37 7 (nI (q + 1)) := zuI_I _ 37 7 _ _
          rw [e]
          exact h9)
      · have hT0 : T q = false := by rw [← hTq]; exact hb0.mp c48
        refine z_aload_n dX4_zerosAndOne_51 (by exact rfl) ?_
        refine z_dup dX4_zerosAndOne_52 (by exact rfl) ?_
        refine z_gfI zfx_X4_64 (by exact rfl) dX4_zerosAndOne_53 ?_
        refine z_aload_n dX4_zerosAndOne_56 (by exact rfl) ?_
        refine z_gfI zfx_X4_64 (by exact rfl) dX4_zerosAndOne_57 ?_
        refine z_bipush dX4_zerosAndOne_60 ?_
        refine z_iand dX4_zerosAndOne_62 ?_
        refine z_eI (nI (q % 8)) (pk_andN (n := q) (by omega) 3 (by decide)) ?_
        refine z_if_ne (tgt := 85) dX4_zerosAndOne_63 (by decide) (fun c63 => ?_) (fun c63 => ?_)
        · refine z_iconst dX4_zerosAndOne_85 ?_
          refine z_iadd dX4_zerosAndOne_86 ?_
          refine z_eI (nI (q + 1)) (nI_1 q) ?_
          refine z_pfI zfx_X4_64 (by exact rfl) dX4_zerosAndOne_87 ?_
          refine z_goto (tgt := 16) dX4_zerosAndOne_90 (by decide) ?_
          refine z_at [(0, .ref 37), (1, .int (nI (8 * sz)))] ⟨rfl, rfl, trivial⟩ (z_eD (zuI_I _ 37 7 _ _) (ih (q + 1) (by omega) (by omega) (by omega) (fun i a b => ?_)))
          by_cases hi : i = q
          · rw [hi]; exact hT0
          · exact hz i a (by omega)
        · refine z_aload_n dX4_zerosAndOne_66 (by exact rfl) ?_
          refine z_gfA zfx_X4_9 (by exact rfl) dX4_zerosAndOne_67 ?_
          refine z_aload_n dX4_zerosAndOne_70 (by exact rfl) ?_
          refine z_gfI zfx_X4_64 (by exact rfl) dX4_zerosAndOne_71 ?_
          refine z_iconst dX4_zerosAndOne_74 ?_
          refine z_ishr dX4_zerosAndOne_75 ?_
          refine z_eI (nI (q / 8)) (pk_shrN (n := q) (by omega) _ 3 (by decide)) ?_
          refine z_aB (by exact rfl) dX4_zerosAndOne_76 (vp_in_nI (by omega) (by omega)) ?_
          rw [nI_clamp (show q / 8 < 2 ^ 31 by omega)]
          refine z_if_ne (tgt := 85) dX4_zerosAndOne_77 (by decide) (fun c77 => ?_) (fun c77 => ?_)
          · refine z_iconst dX4_zerosAndOne_85 ?_
            refine z_iadd dX4_zerosAndOne_86 ?_
            refine z_eI (nI (q + 1)) (nI_1 q) ?_
            refine z_pfI zfx_X4_64 (by exact rfl) dX4_zerosAndOne_87 ?_
            refine z_goto (tgt := 16) dX4_zerosAndOne_90 (by decide) ?_
            refine z_at [(0, .ref 37), (1, .int (nI (8 * sz)))] ⟨rfl, rfl, trivial⟩ (z_eD (zuI_I _ 37 7 _ _) (ih (q + 1) (by omega) (by omega) (by omega) (fun i a b => ?_)))
            by_cases hi : i = q
            · rw [hi]; exact hT0
            · exact hz i a (by omega)
          · refine z_bipush dX4_zerosAndOne_80 ?_
            refine z_goto (tgt := 86) dX4_zerosAndOne_82 (by decide) ?_
            refine z_iadd dX4_zerosAndOne_86 ?_
            refine z_eI (nI (q + 8)) (nI_add q 8) ?_
            refine z_pfI zfx_X4_64 (by exact rfl) dX4_zerosAndOne_87 ?_
            refine z_goto (tgt := 16) dX4_zerosAndOne_90 (by decide) ?_
            have hq8 : q % 8 = 0 := (nI_eq (a := q % 8) (b := 0) (by omega) (by omega)).mp c63
            refine z_at [(0, .ref 37), (1, .int (nI (8 * sz)))] ⟨rfl, rfl, trivial⟩ (z_eD (zuI_I _ 37 7 _ _) (ih (q + 8) (by omega) (by omega) (by omega) (fun i a b => ?_)))
            by_cases hi : i < q
            · exact hz i a hi
            · rw [← r5 i (by omega)]
              unfold bt8
              rw [show i / 8 = q / 8 by omega]
              have e0 : D.1 38 (q / 8) = 0 := c77
              rw [e0]
              exact BitVec.getLsbD_zero
  refine z_aload_n dX4_zerosAndOne_0 (by exact rfl) ?_
  refine z_aload_n dX4_zerosAndOne_1 (by exact rfl) ?_
  refine z_gfI zfx_X4_64 (by exact rfl) dX4_zerosAndOne_2 ?_
  refine z_eI (nI p) r3 ?_
  refine z_pfI zfx_X4_92 (by exact rfl) dX4_zerosAndOne_5 ?_
  refine z_bipush dX4_zerosAndOne_8 ?_
  refine z_aload_n dX4_zerosAndOne_10 (by exact rfl) ?_
  refine z_gfI zfx_X4_15 (by exact rfl) dX4_zerosAndOne_11 ?_
  refine z_eI (nI sz) r1 ?_
  refine z_imul dX4_zerosAndOne_14 ?_
  refine z_eI (nI (8 * sz)) e8 ?_
  refine z_istore_n dX4_zerosAndOne_15 (Nat.le_of_ble_eq_true rfl) ?_
  refine z_at [(0, .ref 37), (1, .int (nI (8 * sz)))] ⟨rfl, rfl, trivial⟩ ?_
  refine z_eD ?_ (lp (8 * sz) p (by omega) (Nat.le_refl _) r4 (fun i a b => absurd a (by omega)))
  exact (zuI_id (zuI D 37 8 (nI p)) 37 7 (nI p) r3).symm
/-- v of w bits, as a number that may be below 0 -/
def sgI (w v : Nat) : Int := if 0 < w ∧ v.testBit (w - 1) = true then (v : Int) - 2 ^ w else v
theorem q_pow : ∀ w, w < 63 → (Int64.ofNat ((1 : Fin 2) : Nat) <<< ((nI w).toInt64 &&& 63)).toInt = 2 ^ w := by decide +kernel
theorem q_l2i {x : Int64} {n : Int} (h : x.toInt = n) : x.toInt32 = Int32.ofInt n := by
  apply Int32.toInt_inj.mp
  rw [Int64.toInt_toInt32, Int32.toInt_ofInt, h]
theorem q_lbit1 {x : Int64} {k : Nat} (hk : k < 64) : ((x >>> ((nI k).toInt64 &&& 63)) &&& Int64.ofNat ((1 : Fin 2) : Nat) = Int64.ofNat ((1 : Fin 2) : Nat)) ↔ x.toBitVec.getLsbD k = true := by
  have hb : ∀ j, j < 64 → ((x >>> ((nI k).toInt64 &&& 63)) &&& Int64.ofNat ((1 : Fin 2) : Nat)).toBitVec.getLsbD j = (decide (j = 0) && x.toBitVec.getLsbD k) := by
    intro j hj
    rw [q_land, q_one, q_lshr k hk, BitVec.getLsbD_sshiftRight]
    by_cases h : j = 0
    · subst h; simp [hk]
    · simp [h]
  constructor
  · intro h
    have h0 := hb 0 (by omega)
    rw [h, q_one] at h0
    simpa using h0.symm
  · intro h
    apply q_ext64
    intro j hj
    rw [hb j hj, h, q_one]
    simp
theorem c_signed {d w v : Nat} {D : zD} {Q : zQ} (hw : w ≤ 62) (hv : v < 2 ^ 62) (hq : Q (.inl (some (.int (Int32.ofInt (sgI w v))))) 0 D) : ZM yX4_signed iX4_signed d [.long (lN v), .int (nI w)] D Q := by
  refine z_method (by decide) rfl (Nat.le_of_ble_eq_true rfl) ?_
  refine z_at [(0, .long (lN v)), (2, .int (nI w))] ⟨rfl, rfl, trivial⟩ ?_
  have ev : (lN v).toInt = v := pk_lT (by omega)
  have eq0 : (lN v).toInt32 = Int32.ofInt v := q_l2i ev
  unfold sgI at hq
  by_cases hw0 : w = 0
  · subst hw0
    rw [if_neg (by omega), ← eq0] at hq
    refine z_iload_n dX4_signed_0 (by exact rfl) ?_
    refine z_if_le (tgt := 25) dX4_signed_1 (by decide) (fun _ => ?_) (fun q9 => absurd ((by decide)) q9)
    refine z_lload_n dX4_signed_25 (by exact rfl) ?_
    refine z_l2i dX4_signed_26 ?_
    exact z_iret (st := []) rfl dX4_signed_27 hq
  · have e1 : nI w - Int32.ofInt 1 = nI (w - 1) := pk_sub (b := 1) (by omega)
    have hb := q_lbit1 (x := lN v) (k := w - 1) (by omega)
    rw [q_lNbit (by omega)] at hb
    refine z_iload_n dX4_signed_0 (by exact rfl) ?_
    refine z_if_le (tgt := 25) dX4_signed_1 (by decide) (fun q9 => absurd q9 ((nI_nle (by omega) (by omega)))) (fun _ => ?_)
    refine z_lload_n dX4_signed_4 (by exact rfl) ?_
    refine z_iload_n dX4_signed_5 (by exact rfl) ?_
    refine z_iconst dX4_signed_6 ?_
    refine z_isub dX4_signed_7 ?_
    refine z_eI (nI (w - 1)) e1 ?_
    refine z_lshr dX4_signed_8 ?_
    refine z_lconst dX4_signed_9 ?_
    refine z_land dX4_signed_10 ?_
    refine z_lconst dX4_signed_11 ?_
    refine z_ne (tgt := 25) dX4_signed_12 dX4_signed_13 (by decide) (fun c12 => ?_) (fun c12 => ?_)
    · refine z_lload_n dX4_signed_25 (by exact rfl) ?_
      refine z_l2i dX4_signed_26 ?_
      exact z_iret (st := []) rfl dX4_signed_27 (by
        rw [if_neg (fun q => c12 (hb.mpr q.2)), ← eq0] at hq
        exact hq)
    · refine z_lload_n dX4_signed_16 (by exact rfl) ?_
      refine z_lconst dX4_signed_17 ?_
      refine z_iload_n dX4_signed_18 (by exact rfl) ?_
      refine z_lshl dX4_signed_19 ?_
      refine z_lsub dX4_signed_20 ?_
      refine z_l2i dX4_signed_21 ?_
      refine z_goto (tgt := 27) dX4_signed_22 (by decide) ?_
      exact z_iret (st := []) rfl dX4_signed_27 (by
        rw [if_pos ⟨by omega, hb.mp c12⟩] at hq
        rw [q_l2i (n := (v : Int) - 2 ^ w) (by
          have hp := q_pow w (by omega)
          have hp2 : (2 : Int) ^ w ≤ 2 ^ 62 := by
            have := Nat.pow_le_pow_right (n := 2) (by omega) hw
            exact_mod_cast this
          have hp3 : (0 : Int) < 2 ^ w := by
            have := Nat.pow_pos (a := 2) (n := w) (by omega)
            exact_mod_cast this
          rw [Int64.toInt_sub, ev, hp, Int.bmod_eq_of_le (by omega) (by omega)])]
        exact hq)
theorem q_ofI {n : Int} (h1 : -2 ^ 63 ≤ n) (h2 : n < 2 ^ 63) : (Int64.ofInt n).toInt = n := by
  rw [Int64.toInt_ofInt]
  show n.bmod (2 ^ 64) = n
  rw [Int.bmod_eq_of_le (by omega) (by omega)]
/-- a number out of its folded form -/
def unfI (u : Nat) : Int := if u % 2 = 0 then (u / 2 : Nat) else -((u / 2 : Nat) : Int) - 1
theorem c_unfolded8 {d u : Nat} {D : zD} {Q : zQ} (hu : u < 2 ^ 62) (hq : Q (.inl (some (.long (Int64.ofInt (unfI u))))) 0 D) : ZM yX4_unfolded iX4_unfolded d [.long (lN u)] D Q := by
  refine z_method (by decide) rfl (Nat.le_of_ble_eq_true rfl) ?_
  refine z_at [(0, .long (lN u))] ⟨rfl, trivial⟩ ?_
  have es : lN u >>> ((Int32.ofInt 1).toInt64 &&& 63) = lN (u / 2) := by
    apply q_ext64
    intro j hj
    have e : lN u >>> ((Int32.ofInt 1).toInt64 &&& 63) = lN u >>> ((nI 1).toInt64 &&& 63) := rfl
    rw [e, q_lshr 1 (by omega), BitVec.getLsbD_sshiftRight, q_lNbit (n := u / 2) (by omega), Nat.testBit_div_two, q_lNbit (n := u) (by omega)]
    by_cases h : 1 + j < 64
    · rw [if_pos h, Nat.add_comm 1 j]
      simp [show ¬ 64 ≤ j by omega]
    · have hj63 : j = 63 := by omega
      subst hj63
      have hm : (lN u).toBitVec.msb = false := by
        rw [BitVec.msb_eq_getLsbD_last, q_lNbit (by omega)]
        exact Nat.testBit_lt_two_pow (by omega)
      simp [hm, Nat.testBit_lt_two_pow (show u < 2 ^ 64 by omega)]
  have hb : (lN u &&& Int64.ofNat ((1 : Fin 2) : Nat) = Int64.ofNat ((0 : Fin 2) : Nat)) ↔ u % 2 = 0 := by
    have h1 : lN u &&& Int64.ofNat ((1 : Fin 2) : Nat) = lN (u % 2) := by
      apply q_ext64
      intro j hj
      rw [q_land, q_one, q_lNbit (by omega), q_lNbit (by omega)]
      by_cases h : j = 0
      · subst h
        simp [Nat.testBit_zero]
      · simp [h, Nat.testBit_lt_two_pow (show u % 2 < 2 ^ j by
          have : 2 ≤ 2 ^ j := by
            calc 2 = 2 ^ 1 := rfl
              _ ≤ 2 ^ j := Nat.pow_le_pow_right (by omega) (by omega)
          omega)]
    rw [h1]
    exact pk_lEQ (a := u % 2) (b := 0) (by omega) (by omega)
  have ei : ∀ n : Nat, n < 2 ^ 62 → Int64.ofInt (n : Int) = lN n := fun n hn => by
    apply Int64.toInt_inj.mp
    rw [q_ofI (by omega) (by omega), pk_lT (by omega)]
  unfold unfI at hq
  refine z_lload_n dX4_unfolded_0 (by exact rfl) ?_
  refine z_lconst dX4_unfolded_1 ?_
  refine z_land dX4_unfolded_2 ?_
  refine z_lconst dX4_unfolded_3 ?_
  refine z_ne (tgt := 14) dX4_unfolded_4 dX4_unfolded_5 (by decide) (fun c4 => ?_) (fun c4 => ?_)
  · refine z_lload_n dX4_unfolded_14 (by exact rfl) ?_
    refine z_iconst dX4_unfolded_15 ?_
    refine z_lshr dX4_unfolded_16 ?_
    refine z_eJ (lN (u / 2)) es ?_
    refine z_lneg dX4_unfolded_17 ?_
    refine z_lconst dX4_unfolded_18 ?_
    refine z_lsub dX4_unfolded_19 ?_
    exact z_lret (st := []) rfl dX4_unfolded_20 (by
      rw [if_neg (fun q => c4 (hb.mpr q))] at hq
      have e : -lN (u / 2) - Int64.ofNat ((1 : Fin 2) : Nat) = Int64.ofInt (-((u / 2 : Nat) : Int) - 1) := by
        apply Int64.toInt_inj.mp
        have e1 : (Int64.ofNat ((1 : Fin 2) : Nat)).toInt = 1 := rfl
        rw [Int64.toInt_sub, Int64.toInt_neg, pk_lT (by omega), e1, q_ofI (by omega) (by omega), Int.bmod_eq_of_le (n := -((u / 2 : Nat) : Int)) (by omega) (by omega), Int.bmod_eq_of_le (by omega) (by omega)]
      rw [e]
      exact hq)
  · refine z_lload_n dX4_unfolded_8 (by exact rfl) ?_
    refine z_iconst dX4_unfolded_9 ?_
    refine z_lshr dX4_unfolded_10 ?_
    refine z_eJ (lN (u / 2)) es ?_
    refine z_goto (tgt := 20) dX4_unfolded_11 (by decide) ?_
    exact z_lret (st := []) rfl dX4_unfolded_20 (by
      rw [if_pos (hb.mp c4), ei _ (by omega)] at hq
      exact hq)
