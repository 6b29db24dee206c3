/-! ===== Residuals.bitsInParts, joinPairs, measure ===== -/
def f17 (a _ : Nat) : Bool := a == 17
theorem bkR_s (f : Nat → Nat) (m : Nat) : bkR f (m + 1) = if f (m + 1) < f (bkR f m) then m + 1 else bkR f m := rfl
theorem c_bitsInParts {d n o q : Nat} {D : zD} {Q : zQ} {u : Nat → Nat} (h1 : D.1 13 1 = nI n) (h2 : D.1 13 2 = nI o) (hn : n ≤ 256) (hv : vq n o q) (hu : ∀ i, o ≤ i → i < n → u i < 4294967296) (hs : sumsOf D u n o q) (hq : ∀ D', (∀ p, p < 2 ^ q → D'.1 17 p = nI (pK u n o q p)) → zfr f17 D D' → Q (.inl (some (.long (lN (pcs u n o q))))) 0 D') : ZM yX5_bitsInParts iX5_bitsInParts d [.ref 13, .int (nI q)] D Q := by
  refine z_method (by decide) rfl (Nat.le_of_ble_eq_true rfl) ?_
  refine z_at [(0, .ref 13), (1, .int (nI q))] ⟨rfl, rfl, trivial⟩ ?_
  have hq3 := hv.1
  have h8 : 2 ^ q ≤ 2 ^ 3 := Nat.pow_le_pow_right (by omega) hq3
  have hset : ∀ {D1 : zD}, zfr f17 D D1 → D1.1 13 1 = nI n ∧ D1.1 13 2 = nI o ∧ sumsOf D1 u n o q := fun hF => ⟨(hF.1 13 1 rfl).trans h1, (hF.1 13 2 rfl).trans h2, fun p hp k hk => (hF.2 15 _ rfl).trans (hs p hp k hk)⟩
  have keys : ∀ (p : Nat), p < 2 ^ q → ∀ (x : Nat), (∀ (D1 : zD), D1.1 17 p = nI (pK u n o q p) → (∀ p', p' < p → D1.1 17 p' = nI (pK u n o q p')) → zfr f17 D D1 → Z (zmk iX5_bitsInParts d) 0 108 (zl [(0, .ref 13), (1, .int (nI q)), (2, .long (lN x)), (4, .int (nI p)), (6, .long (lN (pC u n o q p)))]) [] D1 Q) →
      ∀ (j k : Nat) (D1 : zD), k + j = 15 → ∀ (least : Nat), ((k = 0 ∧ least = 9223372036854775807) ∨ (1 ≤ k ∧ least = 4 + cst u (pst n o q p) (pln n o q p) (bkR (cst u (pst n o q p) (pln n o q p)) (k - 1)) ∧ D1.1 17 p = nI (bkR (cst u (pst n o q p) (pln n o q p)) (k - 1)))) → (∀ p', p' < p → D1.1 17 p' = nI (pK u n o q p')) → zfr f17 D D1 → Z (zmk iX5_bitsInParts d) 0 45 (zl [(0, .ref 13), (1, .int (nI q)), (2, .long (lN x)), (4, .int (nI p)), (5, .int (nI (pln n o q p))), (6, .long (lN least)), (8, .int (nI k))]) [] D1 Q := by
    intro p hp x next j
    obtain ⟨q1, q2, q3, q4⟩ := part_in hv hp
    have hp8 := p2_le hq3 hp
    induction j with
    | zero =>
      intro k D1 hk least hl g hF
      have hk : k = 15 := by omega
      subst hk
      obtain ⟨e1, e2⟩ : least = pC u n o q p ∧ D1.1 17 p = nI (pK u n o q p) := by
        rcases hl with ⟨h, _⟩ | ⟨_, h2, h3⟩
        · omega
        · rw [show (15 : Nat) - 1 = 14 from rfl] at h2 h3
          unfold pC pK bk
          exact ⟨h2, h3⟩
      rw [e1]
      refine z_iload dX5_bitsInParts_45 (by exact rfl) ?_
      refine z_bipush dX5_bitsInParts_47 ?_
      refine z_icmp_ge (tgt := 108) dX5_bitsInParts_49 (by decide) (fun _ => ?_) (fun q9 => absurd ((by decide)) q9)
      exact z_at [(0, .ref 13), (1, .int (nI q)), (2, .long (lN x)), (4, .int (nI p)), (6, .long (lN (pC u n o q p)))] ⟨rfl, rfl, rfl, rfl, rfl, trivial⟩ (next D1 e2 g hF)
    | succ j ih =>
      intro k D1 hk least hl g hF
      have hix : nI p * (Int8.ofInt 15).toInt32 + nI k = nI (15 * p + k) := by
        rw [show (Int8.ofInt 15).toInt32 = nI 15 from rfl, pk_mul, nI_add, Nat.mul_comm]
      have cl : (nI (15 * p + k)).toNatClampNeg = 15 * p + k := nI_clamp (by omega)
      have clp : (nI p).toNatClampNeg = p := nI_clamp (by omega)
      obtain ⟨tr, htr⟩ : ∃ tr, tr = 4 + cst u (pst n o q p) (pln n o q p) k := ⟨_, rfl⟩
      have hcb := cst_bd hv hp hn hu (k := k) (by omega)
      have hlb : least < 2 ^ 63 := by
        rcases hl with ⟨_, h⟩ | ⟨h, h2, _⟩
        · omega
        · have := cst_bd hv hp hn hu (k := bkR (cst u (pst n o q p) (pln n o q p)) (k - 1)) (by
            have := bkR_le (cst u (pst n o q p) (pln n o q p)) (k - 1)
            omega)
          omega
      have hpl : pln n o q p ≤ 256 := by omega
      have hml : (nI (pln n o q p)).toInt64 * (Int32.ofInt 1 + nI k).toInt64 = lN (pln n o q p * (1 + k)) := by
        rw [show Int32.ofInt 1 + nI k = nI (1 + k) from nI_add 1 k, nI_l (by omega), nI_l (by omega), lN_mul]
      have tl : ∀ (D2 : zD) (least2 : Nat), least2 = 4 + cst u (pst n o q p) (pln n o q p) (bkR (cst u (pst n o q p) (pln n o q p)) k) → D2.1 17 p = nI (bkR (cst u (pst n o q p) (pln n o q p)) k) → (∀ p', p' < p → D2.1 17 p' = nI (pK u n o q p')) → zfr f17 D D2 → Z (zmk iX5_bitsInParts d) 0 102 (zl [(0, .ref 13), (1, .int (nI q)), (2, .long (lN x)), (4, .int (nI p)), (5, .int (nI (pln n o q p))), (6, .long (lN least2)), (8, .int (nI k))]) [] D2 Q := by
        intro D2 least2 e1 e2 g2 hF2
        refine z_iinc dX5_bitsInParts_102 (by exact rfl) ?_
        refine z_at [(0, .ref 13), (1, .int (nI q)), (2, .long (lN x)), (4, .int (nI p)), (5, .int (nI (pln n o q p))), (6, .long (lN least2)), (8, .int (nI (k + 1)))] ⟨rfl, rfl, rfl, rfl, rfl, rfl, congrArg (fun x => some (Value.int x)) (nI_1 k), trivial⟩ ?_
        refine z_goto (tgt := 45) dX5_bitsInParts_105 (by decide) ?_
        exact ih (k + 1) D2 (by omega) least2 (.inr ⟨by omega, by rw [Nat.add_sub_cancel]; exact e1, by rw [Nat.add_sub_cancel]; exact e2⟩) g2 hF2
      refine z_iload dX5_bitsInParts_45 (by exact rfl) ?_
      refine z_bipush dX5_bitsInParts_47 ?_
      refine z_icmp_ge (tgt := 108) dX5_bitsInParts_49 (by decide) (fun q9 => absurd q9 ((nI_ge (a := k) (b := 15) (by omega) (by omega)))) (fun _ => ?_)
      refine z_ldcL dX5_bitsInParts_52 zclx_X5_95 ?_
      refine z_aload_n dX5_bitsInParts_55 (by exact rfl) ?_
      refine z_gfA zfx_X5_15 (by exact rfl) dX5_bitsInParts_56 ?_
      refine z_iload dX5_bitsInParts_59 (by exact rfl) ?_
      refine z_bipush dX5_bitsInParts_61 ?_
      refine z_imul dX5_bitsInParts_63 ?_
      refine z_iload dX5_bitsInParts_64 (by exact rfl) ?_
      refine z_iadd dX5_bitsInParts_66 ?_
      refine z_eI (nI (15 * p + k)) hix ?_
      refine z_aJ (by exact rfl) dX5_bitsInParts_67 (vp_in_nI (by omega) (by omega)) ?_
      refine z_eJ (lN (ssum u k (pst n o q p) (pln n o q p))) (by
        rw [cl]
        exact (hset hF).2.2 p hp k (by omega)) ?_
      refine z_ladd dX5_bitsInParts_68 ?_
      refine z_eJ (lN (4 + ssum u k (pst n o q p) (pln n o q p))) (lN_add 4 _) ?_
      refine z_iload dX5_bitsInParts_69 (by exact rfl) ?_
      refine z_i2l dX5_bitsInParts_71 ?_
      refine z_iconst dX5_bitsInParts_72 ?_
      refine z_iload dX5_bitsInParts_73 (by exact rfl) ?_
      refine z_iadd dX5_bitsInParts_75 ?_
      refine z_i2l dX5_bitsInParts_76 ?_
      refine z_lmul dX5_bitsInParts_77 ?_
      refine z_eJ (lN (pln n o q p * (1 + k))) hml ?_
      refine z_ladd dX5_bitsInParts_78 ?_
      refine z_eJ (lN tr) (by
        rw [lN_add, htr, Nat.add_assoc]
        rfl) ?_
      refine z_lstore dX5_bitsInParts_79 (Nat.le_of_ble_eq_true rfl) ?_
      refine z_lload dX5_bitsInParts_81 (by exact rfl) ?_
      refine z_lload dX5_bitsInParts_83 (by exact rfl) ?_
      refine z_ge (tgt := 102) dX5_bitsInParts_85 dX5_bitsInParts_86 (by decide) (fun c85 => ?_) (fun c85 => ?_)
      · exact z_at [(0, .ref 13), (1, .int (nI q)), (2, .long (lN x)), (4, .int (nI p)), (5, .int (nI (pln n o q p))), (6, .long (lN least)), (8, .int (nI k))] ⟨rfl, rfl, rfl, rfl, rfl, rfl, rfl, trivial⟩ (by
          have hge : least ≤ tr := (pk_lLE (by omega) (by omega)).mp c85
          rcases hl with ⟨hk0, hl0⟩ | ⟨hk1, hl1, hl2⟩
          · omega
          · obtain ⟨k', rfl⟩ : ∃ k', k = k' + 1 := ⟨k - 1, by omega⟩
            rw [Nat.add_sub_cancel] at hl1 hl2
            have hno : ¬ cst u (pst n o q p) (pln n o q p) (k' + 1) < cst u (pst n o q p) (pln n o q p) (bkR (cst u (pst n o q p) (pln n o q p)) k') := by omega
            exact tl D1 least (by rw [bkR_s, if_neg hno]; exact hl1) (by rw [bkR_s, if_neg hno]; exact hl2) g hF)
      · refine z_lload dX5_bitsInParts_89 (by exact rfl) ?_
        refine z_lstore dX5_bitsInParts_91 (Nat.le_of_ble_eq_true rfl) ?_
        refine z_aload_n dX5_bitsInParts_93 (by exact rfl) ?_
        refine z_gfA zfx_X5_22 (by exact rfl) dX5_bitsInParts_94 ?_
        refine z_iload dX5_bitsInParts_97 (by exact rfl) ?_
        refine z_iload dX5_bitsInParts_99 (by exact rfl) ?_
        refine z_sI (by exact rfl) dX5_bitsInParts_101 (vp_in_nI (by omega) (by omega)) ?_
        rw [clp]
        exact z_at [(0, .ref 13), (1, .int (nI q)), (2, .long (lN x)), (4, .int (nI p)), (5, .int (nI (pln n o q p))), (6, .long (lN tr)), (8, .int (nI k))] ⟨rfl, rfl, rfl, rfl, rfl, rfl, rfl, trivial⟩ (by
          have hlt : ¬ least ≤ tr := fun q => c85 ((pk_lLE (by omega) (by omega)).mpr q)
          have hbk : bkR (cst u (pst n o q p) (pln n o q p)) k = k := by
            rcases hl with ⟨hk0, hl0⟩ | ⟨hk1, hl1, hl2⟩
            · subst hk0
              rfl
            · obtain ⟨k', rfl⟩ : ∃ k', k = k' + 1 := ⟨k - 1, by omega⟩
              rw [Nat.add_sub_cancel] at hl1 hl2
              rw [bkR_s, if_pos (by omega)]
          exact tl _ tr (by rw [hbk, htr]) (by rw [hbk]; exact zuI_at _ _ _ _) (fun p' hp' => by
            rw [zuI_ne (by omega)]
            exact g p' hp') (hF.uI _ rfl))
  have parts : ∀ (j p : Nat) (D1 : zD), p + j = 2 ^ q → (∀ p', p' < p → D1.1 17 p' = nI (pK u n o q p')) → zfr f17 D D1 → Z (zmk iX5_bitsInParts d) 0 7 (zl [(0, .ref 13), (1, .int (nI q)), (2, .long (lN (6 + nsum (pC u n o q) 0 p))), (4, .int (nI p))]) [] D1 Q := by
    intro j
    induction j with
    | zero =>
      intro p D1 hp g hF
      have hp : p = 2 ^ q := by omega
      subst hp
      refine z_iload dX5_bitsInParts_7 (by exact rfl) ?_
      refine z_iconst dX5_bitsInParts_9 ?_
      refine z_iload_n dX5_bitsInParts_10 (by exact rfl) ?_
      refine z_ishl dX5_bitsInParts_11 ?_
      refine z_eI (nI (2 ^ q)) (q_p2 q (by omega)) ?_
      refine z_icmp_ge (tgt := 119) dX5_bitsInParts_12 (by decide) (fun _ => ?_) (fun q9 => absurd ((nI_le (Nat.le_refl _) (by omega))) q9)
      refine z_lload_n dX5_bitsInParts_119 (by exact rfl) ?_
      exact z_lret (st := []) rfl dX5_bitsInParts_120 (hq D1 g hF)
    | succ j ih =>
      intro p D1 hp g hF
      have hp2 : p < 2 ^ q := by omega
      obtain ⟨q1, q2, q3, q4⟩ := part_in hv hp2
      have hLn : n / 2 ^ q ≤ n := Nat.div_le_self _ _
      have hsm : (p + 1) * (n / 2 ^ q) = p * (n / 2 ^ q) + n / 2 ^ q := Nat.succ_mul _ _
      have hb1 := pcs_bd hv hn hu (m := p) (by omega)
      have hb2 := pC_bd hv hp2 hn hu
      have tl : Z (zmk iX5_bitsInParts d) 0 35 (zl [(0, .ref 13), (1, .int (nI q)), (2, .long (lN (6 + nsum (pC u n o q) 0 p))), (4, .int (nI p))]) [.int (nI (pln n o q p))] D1 Q := by
        refine z_istore dX5_bitsInParts_35 (Nat.le_of_ble_eq_true rfl) ?_
        refine z_ldcL dX5_bitsInParts_37 zclx_X5_61 ?_
        refine z_eJ (lN 9223372036854775807) (by decide) ?_
        refine z_lstore dX5_bitsInParts_40 (Nat.le_of_ble_eq_true rfl) ?_
        refine z_iconst dX5_bitsInParts_42 ?_
        refine z_istore dX5_bitsInParts_43 (Nat.le_of_ble_eq_true rfl) ?_
        exact z_at [(0, .ref 13), (1, .int (nI q)), (2, .long (lN (6 + nsum (pC u n o q) 0 p))), (4, .int (nI p)), (5, .int (nI (pln n o q p))), (6, .long (lN 9223372036854775807)), (8, .int (nI 0))] ⟨rfl, rfl, rfl, rfl, rfl, rfl, rfl, trivial⟩ (keys p hp2 _ (fun D2 k1 k2 hF2 => by
          refine z_lload_n dX5_bitsInParts_108 (by exact rfl) ?_
          refine z_lload dX5_bitsInParts_109 (by exact rfl) ?_
          refine z_ladd dX5_bitsInParts_111 ?_
          refine z_eJ (lN (6 + nsum (pC u n o q) 0 (p + 1))) (by rw [lN_add, nsum_r, Nat.zero_add, Nat.add_assoc]) ?_
          refine z_lstore_n dX5_bitsInParts_112 (Nat.le_of_ble_eq_true rfl) ?_
          refine z_iinc dX5_bitsInParts_113 (by exact rfl) ?_
          refine z_at [(0, .ref 13), (1, .int (nI q)), (2, .long (lN (6 + nsum (pC u n o q) 0 (p + 1)))), (4, .int (nI (p + 1)))] ⟨rfl, rfl, rfl, congrArg (fun x => some (Value.int x)) (nI_1 p), trivial⟩ ?_
          refine z_goto (tgt := 7) dX5_bitsInParts_116 (by decide) ?_
          exact ih (p + 1) D2 (by omega) (fun p' hp' => by
            obtain e | e : p' = p ∨ p' < p := by omega
            · subst e
              exact k1
            · exact k2 p' e) hF2
          ) 15 0 D1 (by omega) 9223372036854775807 (.inl ⟨rfl, rfl⟩) g hF)
      refine z_iload dX5_bitsInParts_7 (by exact rfl) ?_
      refine z_iconst dX5_bitsInParts_9 ?_
      refine z_iload_n dX5_bitsInParts_10 (by exact rfl) ?_
      refine z_ishl dX5_bitsInParts_11 ?_
      refine z_eI (nI (2 ^ q)) (q_p2 q (by omega)) ?_
      refine z_icmp_ge (tgt := 119) dX5_bitsInParts_12 (by decide) (fun q9 => absurd q9 ((nI_ge (a := p) (b := 2 ^ q) (by omega) (by omega)))) (fun _ => ?_)
      refine z_aload_n dX5_bitsInParts_15 (by exact rfl) ?_
      refine z_gfI zfx_X5_25 (by exact rfl) dX5_bitsInParts_16 ?_
      refine z_eI (nI n) (hset hF).1 ?_
      refine z_iload_n dX5_bitsInParts_19 (by exact rfl) ?_
      refine z_ishr dX5_bitsInParts_20 ?_
      refine z_eI (nI (n / 2 ^ q)) (pk_shrN (by omega) _ q (sm31 q (by omega))) ?_
      refine z_iload dX5_bitsInParts_21 (by exact rfl) ?_
      refine z_if_ne (tgt := 33) dX5_bitsInParts_23 (by decide) (fun c23 => ?_) (fun c23 => ?_)
      · refine z_iconst dX5_bitsInParts_33 ?_
        refine z_isub dX5_bitsInParts_34 ?_
        refine z_eI (nI (pln n o q p)) (by
          have hp0 : ¬ p = 0 := fun q => c23 (by rw [q]; rfl)
          have h5 : pst n o q p = p * (n / 2 ^ q) := if_neg hp0
          rw [show nI (n / 2 ^ q) - Int32.ofInt 0 = nI (n / 2 ^ q - 0) from pk_sub (a := n / 2 ^ q) (b := 0) (by omega)]
          congr 1
          omega) ?_
        exact z_at [(0, .ref 13), (1, .int (nI q)), (2, .long (lN (6 + nsum (pC u n o q) 0 p))), (4, .int (nI p))] ⟨rfl, rfl, rfl, rfl, trivial⟩ tl
      · refine z_aload_n dX5_bitsInParts_26 (by exact rfl) ?_
        refine z_gfI zfx_X5_34 (by exact rfl) dX5_bitsInParts_27 ?_
        refine z_eI (nI o) (hset hF).2.1 ?_
        refine z_goto (tgt := 34) dX5_bitsInParts_30 (by decide) ?_
        refine z_isub dX5_bitsInParts_34 ?_
        refine z_eI (nI (pln n o q p)) (by
          have hp0 : p = 0 := (nI_eq (a := p) (b := 0) (by have := p2_le hq3 hp2; omega) (by omega)).mp c23
          have h5 : pst n o q p = o := if_pos hp0
          subst hp0
          rw [pk_sub (a := n / 2 ^ q) (b := o) (by omega)]
          congr 1
          omega) ?_
        exact z_at [(0, .ref 13), (1, .int (nI q)), (2, .long (lN (6 + nsum (pC u n o q) 0 p))), (4, .int (nI p))] ⟨rfl, rfl, rfl, rfl, trivial⟩ tl
  refine z_ldcL dX5_bitsInParts_0 zclx_X5_93 ?_
  refine z_lstore_n dX5_bitsInParts_3 (Nat.le_of_ble_eq_true rfl) ?_
  refine z_iconst dX5_bitsInParts_4 ?_
  refine z_istore dX5_bitsInParts_5 (Nat.le_of_ble_eq_true rfl) ?_
  exact z_at [(0, .ref 13), (1, .int (nI q)), (2, .long (lN (6 + nsum (pC u n o q) 0 0))), (4, .int (nI 0))] ⟨rfl, rfl, rfl, rfl, trivial⟩ (parts (2 ^ q) 0 D (by omega) (fun p' hp' => by omega) zfr.rf)
theorem part_join {u : Nat → Nat} {n o q p k : Nat} (h : vld n o (q + 1)) (hp : p < 2 ^ q) : ssum u k (pst n o (q + 1) (2 * p)) (pln n o (q + 1) (2 * p)) + ssum u k (pst n o (q + 1) (2 * p + 1)) (pln n o (q + 1) (2 * p + 1)) = ssum u k (pst n o q p) (pln n o q p) := by
  have hL : n / 2 ^ q = 2 * (n / 2 ^ (q + 1)) := by
    have h1 : n % 2 ^ (q + 1) = 0 := h.1
    have h2 := Nat.div_add_mod n (2 ^ (q + 1))
    rw [h1, Nat.add_zero, Nat.pow_succ, Nat.mul_assoc] at h2
    have h3 : n / 2 ^ q = 2 * (n / (2 ^ q * 2)) := by
      conv => lhs; rw [← h2]
      exact Nat.mul_div_cancel_left _ (Nat.two_pow_pos q)
    rw [Nat.pow_succ]
    exact h3
  obtain ⟨L, eL⟩ : ∃ L, L = n / 2 ^ (q + 1) := ⟨_, rfl⟩
  have hoL : o < L := by
    rw [eL]
    exact h.2
  have e1 : pst n o (q + 1) (2 * p) = pst n o q p := by
    unfold pst
    by_cases hp0 : p = 0
    · subst hp0
      rfl
    · rw [if_neg (by omega), if_neg hp0, hL, ← eL, Nat.mul_comm 2 p, Nat.mul_assoc]
  have e2 : pst n o (q + 1) (2 * p + 1) = (2 * p + 1) * L := by
    unfold pst
    rw [if_neg (by omega), eL]
  have e3 : (2 * p + 1) * L = p * (2 * L) + L := by
    rw [Nat.succ_mul, Nat.mul_comm 2 p, Nat.mul_assoc]
  have e4 : (2 * p + 1 + 1) * L = p * (2 * L) + L + L := by
    rw [Nat.succ_mul, e3]
  have e5 : (p + 1) * (2 * L) = p * (2 * L) + 2 * L := Nat.succ_mul _ _
  have hle : pst n o q p ≤ p * (2 * L) + o := by
    unfold pst
    rw [hL, ← eL]
    split <;> omega
  have l1 : pln n o (q + 1) (2 * p) = p * (2 * L) + L - pst n o q p := by
    unfold pln
    rw [e1, ← eL, e3]
  have l2 : pln n o (q + 1) (2 * p + 1) = L := by
    unfold pln
    rw [e2, ← eL, e4, e3]
    omega
  have l3 : pln n o q p = (p * (2 * L) + L - pst n o q p) + L := by
    unfold pln
    rw [hL, ← eL, e5]
    omega
  rw [l1, l2, l3, e1, e2, e3]
  unfold ssum
  rw [nsum_add, show pst n o q p + (p * (2 * L) + L - pst n o q p) = p * (2 * L) + L by omega]
theorem c_joinPairs {d n o q : Nat} {D : zD} {Q : zQ} {u : Nat → Nat} (hn : n ≤ 256) (hv : vq n o q) (hs : sumsOf D u n o q) (hq : ∀ D', (1 ≤ q → sumsOf D' u n o (q - 1)) → zfr f15 D D' → Q (.inl none) 0 D') : ZM yX5_joinPairs iX5_joinPairs d [.ref 13, .int (nI q)] D Q := by
  refine z_method (by decide) rfl (Nat.le_of_ble_eq_true rfl) ?_
  refine z_at [(0, .ref 13), (1, .int (nI q))] ⟨rfl, rfl, trivial⟩ ?_
  have hq3 := hv.1
  have q_half : ∀ q, q ≤ 3 → (Int32.ofInt 1 <<< (nI q &&& 31)) >>> (Int32.ofInt 1 &&& 31) = nI (2 ^ q / 2) := by decide
  have hh : 2 ^ q / 2 ≤ 4 := by
    have : 2 ^ q ≤ 2 ^ 3 := Nat.pow_le_pow_right (by omega) hq3
    omega
  have keys : ∀ (p : Nat), p < 2 ^ q / 2 → (∀ (D1 : zD), (∀ p', p' < p + 1 → ∀ k, k < 15 → D1.2 15 (15 * p' + k) = D.2 15 (15 * (2 * p') + k) + D.2 15 (15 * (2 * p' + 1) + k)) → (∀ i, 15 * (p + 1) ≤ i → D1.2 15 i = D.2 15 i) → zfr f15 D D1 → Z (zmk iX5_joinPairs d) 0 65 (zl [(0, .ref 13), (1, .int (nI q)), (2, .int (nI p))]) [] D1 Q) →
      ∀ (j k : Nat) (D1 : zD), k + j = 15 → (∀ p', p' < p → ∀ k, k < 15 → D1.2 15 (15 * p' + k) = D.2 15 (15 * (2 * p') + k) + D.2 15 (15 * (2 * p' + 1) + k)) → (∀ k', k' < k → D1.2 15 (15 * p + k') = D.2 15 (15 * (2 * p) + k') + D.2 15 (15 * (2 * p + 1) + k')) → (∀ i, 15 * p + k ≤ i → D1.2 15 i = D.2 15 i) → zfr f15 D D1 → Z (zmk iX5_joinPairs d) 0 13 (zl [(0, .ref 13), (1, .int (nI q)), (2, .int (nI p)), (3, .int (nI k))]) [] D1 Q := by
    intro p hp next j
    induction j with
    | zero =>
      intro k D1 hk g1 g2 g3 hF
      have hk : k = 15 := by omega
      subst hk
      refine z_iload_n dX5_joinPairs_13 (by exact rfl) ?_
      refine z_bipush dX5_joinPairs_14 ?_
      refine z_icmp_ge (tgt := 65) dX5_joinPairs_16 (by decide) (fun _ => ?_) (fun q9 => absurd ((by decide)) q9)
      exact z_at [(0, .ref 13), (1, .int (nI q)), (2, .int (nI p))] ⟨rfl, rfl, rfl, trivial⟩ (next D1 (fun p' hp' k hk => by
        obtain e | e : p' = p ∨ p' < p := by omega
        · subst e
          exact g2 k hk
        · exact g1 p' e k hk) (fun i hi => g3 i (by omega)) hF)
    | succ j ih =>
      intro k D1 hk g1 g2 g3 hF
      have i1 : nI p * (Int8.ofInt 15).toInt32 + nI k = nI (15 * p + k) := by
        rw [show (Int8.ofInt 15).toInt32 = nI 15 from rfl, pk_mul, nI_add, Nat.mul_comm]
      have i2 : Int32.ofInt 2 * nI p * (Int8.ofInt 15).toInt32 + nI k = nI (15 * (2 * p) + k) := by
        rw [show (Int8.ofInt 15).toInt32 = nI 15 from rfl, show Int32.ofInt 2 = nI 2 from rfl, pk_mul, pk_mul, nI_add, Nat.mul_comm 15]
      have i3 : (Int32.ofInt 2 * nI p + Int32.ofInt 1) * (Int8.ofInt 15).toInt32 + nI k = nI (15 * (2 * p + 1) + k) := by
        rw [show (Int8.ofInt 15).toInt32 = nI 15 from rfl, show Int32.ofInt 2 = nI 2 from rfl, show Int32.ofInt 1 = nI 1 from rfl, pk_mul, nI_add, pk_mul, nI_add, Nat.mul_comm 15]
      refine z_iload_n dX5_joinPairs_13 (by exact rfl) ?_
      refine z_bipush dX5_joinPairs_14 ?_
      refine z_icmp_ge (tgt := 65) dX5_joinPairs_16 (by decide) (fun q9 => absurd q9 ((nI_ge (a := k) (b := 15) (by omega) (by omega)))) (fun _ => ?_)
      refine z_aload_n dX5_joinPairs_19 (by exact rfl) ?_
      refine z_gfA zfx_X5_15 (by exact rfl) dX5_joinPairs_20 ?_
      refine z_iload_n dX5_joinPairs_23 (by exact rfl) ?_
      refine z_bipush dX5_joinPairs_24 ?_
      refine z_imul dX5_joinPairs_26 ?_
      refine z_iload_n dX5_joinPairs_27 (by exact rfl) ?_
      refine z_iadd dX5_joinPairs_28 ?_
      refine z_eI (nI (15 * p + k)) i1 ?_
      refine z_aload_n dX5_joinPairs_29 (by exact rfl) ?_
      refine z_gfA zfx_X5_15 (by exact rfl) dX5_joinPairs_30 ?_
      refine z_iconst dX5_joinPairs_33 ?_
      refine z_iload_n dX5_joinPairs_34 (by exact rfl) ?_
      refine z_imul dX5_joinPairs_35 ?_
      refine z_bipush dX5_joinPairs_36 ?_
      refine z_imul dX5_joinPairs_38 ?_
      refine z_iload_n dX5_joinPairs_39 (by exact rfl) ?_
      refine z_iadd dX5_joinPairs_40 ?_
      refine z_eI (nI (15 * (2 * p) + k)) i2 ?_
      refine z_aJ (by exact rfl) dX5_joinPairs_41 (vp_in_nI (by omega) (by omega)) ?_
      refine z_eJ (D.2 15 (15 * (2 * p) + k)) (by
        rw [nI_clamp (n := 15 * (2 * p) + k) (by omega)]
        exact g3 _ (by omega)) ?_
      refine z_aload_n dX5_joinPairs_42 (by exact rfl) ?_
      refine z_gfA zfx_X5_15 (by exact rfl) dX5_joinPairs_43 ?_
      refine z_iconst dX5_joinPairs_46 ?_
      refine z_iload_n dX5_joinPairs_47 (by exact rfl) ?_
      refine z_imul dX5_joinPairs_48 ?_
      refine z_iconst dX5_joinPairs_49 ?_
      refine z_iadd dX5_joinPairs_50 ?_
      refine z_bipush dX5_joinPairs_51 ?_
      refine z_imul dX5_joinPairs_53 ?_
      refine z_iload_n dX5_joinPairs_54 (by exact rfl) ?_
      refine z_iadd dX5_joinPairs_55 ?_
      refine z_eI (nI (15 * (2 * p + 1) + k)) i3 ?_
      refine z_aJ (by exact rfl) dX5_joinPairs_56 (vp_in_nI (by omega) (by omega)) ?_
      refine z_eJ (D.2 15 (15 * (2 * p + 1) + k)) (by
        rw [nI_clamp (n := 15 * (2 * p + 1) + k) (by omega)]
        exact g3 _ (by omega)) ?_
      refine z_ladd dX5_joinPairs_57 ?_
      refine z_sJ (by exact rfl) dX5_joinPairs_58 (vp_in_nI (by omega) (by omega)) ?_
      rw [nI_clamp (n := 15 * p + k) (by omega)]
      refine z_iinc dX5_joinPairs_59 (by exact rfl) ?_
      refine z_at [(0, .ref 13), (1, .int (nI q)), (2, .int (nI p)), (3, .int (nI (k + 1)))] ⟨rfl, rfl, rfl, congrArg (fun x => some (Value.int x)) (nI_1 k), trivial⟩ ?_
      refine z_goto (tgt := 13) dX5_joinPairs_62 (by decide) ?_
      exact ih (k + 1) _ (by omega) (fun p' hp' k' hk' => by
        rw [zuL_ne (by omega)]
        exact g1 p' hp' k' hk') (fun k' hk' => by
        obtain e | e : k' = k ∨ k' < k := by omega
        · subst e
          exact zuL_at _ _ _ _
        · rw [zuL_ne (by omega)]
          exact g2 k' e) (fun i hi => by
        rw [zuL_ne (by omega)]
        exact g3 i (by omega)) (hF.uL _ rfl)
  have parts : ∀ (j p : Nat) (D1 : zD), p + j = 2 ^ q / 2 → (∀ p', p' < p → ∀ k, k < 15 → D1.2 15 (15 * p' + k) = D.2 15 (15 * (2 * p') + k) + D.2 15 (15 * (2 * p' + 1) + k)) → (∀ i, 15 * p ≤ i → D1.2 15 i = D.2 15 i) → zfr f15 D D1 → Z (zmk iX5_joinPairs d) 0 2 (zl [(0, .ref 13), (1, .int (nI q)), (2, .int (nI p))]) [] D1 Q := by
    intro j
    induction j with
    | zero =>
      intro p D1 hp g1 g2 hF
      have hp : p = 2 ^ q / 2 := by omega
      subst hp
      refine z_iload_n dX5_joinPairs_2 (by exact rfl) ?_
      refine z_iconst dX5_joinPairs_3 ?_
      refine z_iload_n dX5_joinPairs_4 (by exact rfl) ?_
      refine z_ishl dX5_joinPairs_5 ?_
      refine z_iconst dX5_joinPairs_6 ?_
      refine z_ishr dX5_joinPairs_7 ?_
      refine z_eI (nI (2 ^ q / 2)) (q_half q hq3) ?_
      refine z_icmp_ge (tgt := 71) dX5_joinPairs_8 (by decide) (fun _ => ?_) (fun q9 => absurd ((nI_le (Nat.le_refl _) (by omega))) q9)
      exact z_vret (st := []) rfl dX5_joinPairs_71 (hq D1 (fun h1 p hp k hk => by
        obtain ⟨q', rfl⟩ : ∃ q', q = q' + 1 := ⟨q - 1, by omega⟩
        rw [Nat.add_sub_cancel] at hp ⊢
        have e2 : 2 ^ (q' + 1) = 2 ^ q' * 2 := Nat.pow_succ _ _
        have hv2 : vld n o (q' + 1) := by
          rcases hv.2 with ⟨h, _⟩ | h
          · omega
          · exact h
        rw [g1 p (by omega) k hk, hs (2 * p) (by omega) k hk, hs (2 * p + 1) (by omega) k hk, lN_add, part_join hv2 hp]) hF)
    | succ j ih =>
      intro p D1 hp g1 g2 hF
      refine z_iload_n dX5_joinPairs_2 (by exact rfl) ?_
      refine z_iconst dX5_joinPairs_3 ?_
      refine z_iload_n dX5_joinPairs_4 (by exact rfl) ?_
      refine z_ishl dX5_joinPairs_5 ?_
      refine z_iconst dX5_joinPairs_6 ?_
      refine z_ishr dX5_joinPairs_7 ?_
      refine z_eI (nI (2 ^ q / 2)) (q_half q hq3) ?_
      refine z_icmp_ge (tgt := 71) dX5_joinPairs_8 (by decide) (fun q9 => absurd q9 ((nI_ge (a := p) (b := 2 ^ q / 2) (by omega) (by omega)))) (fun _ => ?_)
      refine z_iconst dX5_joinPairs_11 ?_
      refine z_istore_n dX5_joinPairs_12 (Nat.le_of_ble_eq_true rfl) ?_
      exact z_at [(0, .ref 13), (1, .int (nI q)), (2, .int (nI p)), (3, .int (nI 0))] ⟨rfl, rfl, rfl, rfl, trivial⟩ (keys p (by omega) (fun D2 k1 k2 hF2 => by
        refine z_iinc dX5_joinPairs_65 (by exact rfl) ?_
        refine z_at [(0, .ref 13), (1, .int (nI q)), (2, .int (nI (p + 1)))] ⟨rfl, rfl, congrArg (fun x => some (Value.int x)) (nI_1 p), trivial⟩ ?_
        refine z_goto (tgt := 2) dX5_joinPairs_68 (by decide) ?_
        exact ih (p + 1) D2 (by omega) k1 k2 hF2
        ) 15 0 D1 (by omega) g1 (fun k' hk' => by omega) (fun i hi => g2 i (by omega)) hF)
  refine z_iconst dX5_joinPairs_0 ?_
  refine z_istore_n dX5_joinPairs_1 (Nat.le_of_ble_eq_true rfl) ?_
  exact z_at [(0, .ref 13), (1, .int (nI q)), (2, .int (nI 0))] ⟨rfl, rfl, rfl, trivial⟩ (parts (2 ^ q / 2) 0 D (by omega) (fun p' hp' => by omega) (fun i _ => rfl) zfr.rf)
