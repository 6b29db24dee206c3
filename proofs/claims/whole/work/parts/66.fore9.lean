/-! ===== the reference's fixed, foretold, readWeights ===== -/
theorem kIn_0 {lo hi v : Nat} (h : kIn lo hi v = 0) : lo ≤ v ∧ v ≤ hi := by
  unfold kIn at h
  split at h
  next q => exact q
  · cases h
theorem kIn_2 {lo hi v : Nat} (h : ¬ (lo ≤ v ∧ v ≤ hi)) : kIn lo hi v = 2 := if_neg h
theorem zuL_at (D : zD) (a k : Nat) (v : Int64) : (zuL D a k v).2 a k = v := by
  unfold zuL
  simp only
  rw [if_true]
  exact pk_uLs
theorem zuL_ne {D : zD} {a k a' k' : Nat} {v : Int64} (h : ¬ (a' = a ∧ k' = k)) : (zuL D a k v).2 a' k' = D.2 a' k' := by
  unfold zuL
  simp only
  split
  next e =>
    subst e
    exact pk_uLn (fun q => h ⟨rfl, q⟩)
  next => rfl
/-- takeIn's check in the reading's words -/
theorem kIn_c {w lo hi : Nat} (hw : w ≤ 36) (hlo : lo < 2 ^ 40) (hhi : hi < 2 ^ 40) : ∀ v, v < 2 ^ w → (lN lo ≤ lN v ∧ lN v ≤ lN hi → kIn lo hi v = 0) ∧ (¬ (lN lo ≤ lN v ∧ lN v ≤ lN hi) → kIn lo hi v = 2) := fun v hv => by
  have hv2 : v < 2 ^ 40 := Nat.lt_of_lt_of_le hv (Nat.pow_le_pow_right (by omega) (by omega))
  have e1 : lN lo ≤ lN v ↔ lo ≤ v := pk_lLE (by omega) (by omega)
  have e2 : lN v ≤ lN hi ↔ v ≤ hi := pk_lLE (by omega) (by omega)
  rw [e1, e2]
  exact ⟨fun q => if_pos q, fun q => if_neg q⟩
theorem kEq_c {w due : Nat} (hw : w ≤ 36) (hd : due < 2 ^ 40) : ∀ v, v < 2 ^ w → (lN due ≤ lN v ∧ lN v ≤ lN due → kEq due v = 0) ∧ (¬ (lN due ≤ lN v ∧ lN v ≤ lN due) → kEq due v = 2) := fun v hv => by
  have hv2 : v < 2 ^ 40 := Nat.lt_of_lt_of_le hv (Nat.pow_le_pow_right (by omega) (by omega))
  have e1 : lN due ≤ lN v ↔ due ≤ v := pk_lLE (by omega) (by omega)
  have e2 : lN v ≤ lN due ↔ v ≤ due := pk_lLE (by omega) (by omega)
  rw [e1, e2]
  exact ⟨fun q => if_pos (by omega), fun q => if_neg (by omega)⟩
theorem shr0 (x : Int) : x >>> 0 = x := by
  rw [Int.shiftRight_eq_div_pow]
  omega
theorem c_fixed {d k o : Nat} {D : zD} {Q : zQ} {a : zRow} (ho : o ≤ 4) (hok : o ≤ k) (hk : k ≤ 256) (ha : ∀ j, j < o → D.2 61 (k - 1 - j) = lI (a (k - 1 - j))) (hq : Q (.inl (some (.long (lI (fore (fxC o) 0 o a k))))) 0 D) :
    ZM yX9_fixed iX9_fixed d [.ref 19, .ref 61, .int (nI k), .int (nI o)] D Q := by
  refine z_method (by decide) rfl (Nat.le_of_ble_eq_true rfl) ?_
  refine z_at [(0, .ref 19), (1, .ref 61), (2, .int (nI k)), (3, .int (nI o))] ⟨rfl, rfl, rfl, rfl, trivial⟩ ?_
  have ec : ∀ n, n < 5 → (nI o = nI n ↔ o = n) := fun n hn => nI_eq (by omega) (by omega)
  have fin : ∀ {x : Int64}, lI (fore (fxC o) 0 o a k) = x → Q (.inl (some (.long x))) 0 D := fun e => by rw [← e]; exact hq
  unfold fore at fin
  rw [shr0] at fin
  refine z_iload_n dX9_fixed_0 (by exact rfl) ?_
  refine z_if_ne (tgt := 6) dX9_fixed_1 (by decide) (fun c1 => ?_) (fun c1 => ?_)
  · refine z_aload_n dX9_fixed_6 (by exact rfl) ?_
    refine z_iload_n dX9_fixed_7 (by exact rfl) ?_
    refine z_iconst dX9_fixed_8 ?_
    refine z_isub dX9_fixed_9 ?_
    refine z_eI (nI (k - 1)) (pk_sub (a := k) (b := 1) (by
      have : ¬ o = 0 := fun q => c1 ((ec 0 (by omega)).mpr q)
      omega)) ?_
    refine z_aJ (by exact rfl) dX9_fixed_10 (vp_in_nI (by
      have : ¬ o = 0 := fun q => c1 ((ec 0 (by omega)).mpr q)
      omega) (by omega)) ?_
    refine z_eJ (lI (a (k - 1))) (by
      have : ¬ o = 0 := fun q => c1 ((ec 0 (by omega)).mpr q)
      rw [nI_clamp (n := k - 1) (by omega)]
      exact ha 0 (by omega)) ?_
    refine z_lstore dX9_fixed_11 (Nat.le_of_ble_eq_true rfl) ?_
    refine z_iload_n dX9_fixed_13 (by exact rfl) ?_
    refine z_iconst dX9_fixed_14 ?_
    refine z_icmp_ne (tgt := 21) dX9_fixed_15 (by decide) (fun c15 => ?_) (fun c15 => ?_)
    · refine z_aload_n dX9_fixed_21 (by exact rfl) ?_
      refine z_iload_n dX9_fixed_22 (by exact rfl) ?_
      refine z_iconst dX9_fixed_23 ?_
      refine z_isub dX9_fixed_24 ?_
      refine z_eI (nI (k - 2)) (pk_sub (a := k) (b := 2) (by
        have : ¬ o = 0 := fun q => c1 ((ec 0 (by omega)).mpr q)
        have : ¬ o = 1 := fun q => c15 ((ec 1 (by omega)).mpr q)
        omega)) ?_
      refine z_aJ (by exact rfl) dX9_fixed_25 (vp_in_nI (by
        have : ¬ o = 0 := fun q => c1 ((ec 0 (by omega)).mpr q)
        omega) (by omega)) ?_
      refine z_eJ (lI (a (k - 1 - 1))) (by
        have : ¬ o = 0 := fun q => c1 ((ec 0 (by omega)).mpr q)
        have : ¬ o = 1 := fun q => c15 ((ec 1 (by omega)).mpr q)
        rw [nI_clamp (n := k - 2) (by omega)]
        exact ha 1 (by omega)) ?_
      refine z_lstore dX9_fixed_26 (Nat.le_of_ble_eq_true rfl) ?_
      refine z_iload_n dX9_fixed_28 (by exact rfl) ?_
      refine z_iconst dX9_fixed_29 ?_
      refine z_icmp_ne (tgt := 43) dX9_fixed_30 (by decide) (fun c30 => ?_) (fun c30 => ?_)
      · refine z_aload_n dX9_fixed_43 (by exact rfl) ?_
        refine z_iload_n dX9_fixed_44 (by exact rfl) ?_
        refine z_iconst dX9_fixed_45 ?_
        refine z_isub dX9_fixed_46 ?_
        refine z_eI (nI (k - 3)) (pk_sub (a := k) (b := 3) (by
          have : ¬ o = 0 := fun q => c1 ((ec 0 (by omega)).mpr q)
          have : ¬ o = 1 := fun q => c15 ((ec 1 (by omega)).mpr q)
          have : ¬ o = 2 := fun q => c30 ((ec 2 (by omega)).mpr q)
          omega)) ?_
        refine z_aJ (by exact rfl) dX9_fixed_47 (vp_in_nI (by
          have : ¬ o = 0 := fun q => c1 ((ec 0 (by omega)).mpr q)
          omega) (by omega)) ?_
        refine z_eJ (lI (a (k - 1 - 2))) (by
          have : ¬ o = 0 := fun q => c1 ((ec 0 (by omega)).mpr q)
          have : ¬ o = 1 := fun q => c15 ((ec 1 (by omega)).mpr q)
          have : ¬ o = 2 := fun q => c30 ((ec 2 (by omega)).mpr q)
          rw [nI_clamp (n := k - 3) (by omega)]
          exact ha 2 (by omega)) ?_
        refine z_lstore dX9_fixed_48 (Nat.le_of_ble_eq_true rfl) ?_
        refine z_iload_n dX9_fixed_50 (by exact rfl) ?_
        refine z_iconst dX9_fixed_51 ?_
        refine z_icmp_ne (tgt := 74) dX9_fixed_52 (by decide) (fun c52 => ?_) (fun c52 => ?_)
        · refine z_ldcL dX9_fixed_74 zclx_X9_79 ?_
          refine z_lload dX9_fixed_77 (by exact rfl) ?_
          refine z_lmul dX9_fixed_79 ?_
          refine z_ldcL dX9_fixed_80 zclx_X9_115 ?_
          refine z_lload dX9_fixed_83 (by exact rfl) ?_
          refine z_lmul dX9_fixed_85 ?_
          refine z_lsub dX9_fixed_86 ?_
          refine z_ldcL dX9_fixed_87 zclx_X9_79 ?_
          refine z_lload dX9_fixed_90 (by exact rfl) ?_
          refine z_lmul dX9_fixed_92 ?_
          refine z_ladd dX9_fixed_93 ?_
          refine z_aload_n dX9_fixed_94 (by exact rfl) ?_
          refine z_iload_n dX9_fixed_95 (by exact rfl) ?_
          refine z_iconst dX9_fixed_96 ?_
          refine z_isub dX9_fixed_97 ?_
          refine z_eI (nI (k - 4)) (pk_sub (a := k) (b := 4) (by
            have : ¬ o = 0 := fun q => c1 ((ec 0 (by omega)).mpr q)
            have : ¬ o = 1 := fun q => c15 ((ec 1 (by omega)).mpr q)
            have : ¬ o = 2 := fun q => c30 ((ec 2 (by omega)).mpr q)
            have : ¬ o = 3 := fun q => c52 ((ec 3 (by omega)).mpr q)
            omega)) ?_
          refine z_aJ (by exact rfl) dX9_fixed_98 (vp_in_nI (by
            have : ¬ o = 0 := fun q => c1 ((ec 0 (by omega)).mpr q)
            omega) (by omega)) ?_
          refine z_eJ (lI (a (k - 1 - 3))) (by
            have : ¬ o = 0 := fun q => c1 ((ec 0 (by omega)).mpr q)
            have : ¬ o = 1 := fun q => c15 ((ec 1 (by omega)).mpr q)
            have : ¬ o = 2 := fun q => c30 ((ec 2 (by omega)).mpr q)
            have : ¬ o = 3 := fun q => c52 ((ec 3 (by omega)).mpr q)
            rw [nI_clamp (n := k - 4) (by omega)]
            exact ha 3 (by omega)) ?_
          refine z_lsub dX9_fixed_99 ?_
          exact z_lret (st := []) rfl dX9_fixed_100 (fin (by
            have : ¬ o = 0 := fun q => c1 ((ec 0 (by omega)).mpr q)
            have : ¬ o = 1 := fun q => c15 ((ec 1 (by omega)).mpr q)
            have : ¬ o = 2 := fun q => c30 ((ec 2 (by omega)).mpr q)
            have : ¬ o = 3 := fun q => c52 ((ec 3 (by omega)).mpr q)
            have : o = 4 := by omega
            subst this
            show lI (0 + 4 * a (k - 1 - 0) + -6 * a (k - 1 - 1) + 4 * a (k - 1 - 2) + -1 * a (k - 1 - 3)) = lI 4 * lI (a (k - 1)) - lI 6 * lI (a (k - 1 - 1)) + lI 4 * lI (a (k - 1 - 2)) - lI (a (k - 1 - 3))
            rw [lI_mul, lI_mul, lI_mul, lI_sub, lI_add, lI_sub, Nat.sub_zero]
            congr 1
            omega))
        · refine z_ldcL dX9_fixed_55 zclx_X9_113 ?_
          refine z_lload dX9_fixed_58 (by exact rfl) ?_
          refine z_lmul dX9_fixed_60 ?_
          refine z_ldcL dX9_fixed_61 zclx_X9_113 ?_
          refine z_lload dX9_fixed_64 (by exact rfl) ?_
          refine z_lmul dX9_fixed_66 ?_
          refine z_lsub dX9_fixed_67 ?_
          refine z_lload dX9_fixed_68 (by exact rfl) ?_
          refine z_ladd dX9_fixed_70 ?_
          refine z_goto (tgt := 100) dX9_fixed_71 (by decide) ?_
          exact z_lret (st := []) rfl dX9_fixed_100 (fin (by
            have : o = 3 := (ec 3 (by omega)).mp c52
            subst this
            show lI (0 + 3 * a (k - 1 - 0) + -3 * a (k - 1 - 1) + 1 * a (k - 1 - 2)) = lI 3 * lI (a (k - 1)) - lI 3 * lI (a (k - 1 - 1)) + lI (a (k - 1 - 2))
            rw [lI_mul, lI_mul, lI_sub, lI_add, Nat.sub_zero]
            congr 1
            omega))
      · refine z_ldcL dX9_fixed_33 zclx_X9_111 ?_
        refine z_lload dX9_fixed_36 (by exact rfl) ?_
        refine z_lmul dX9_fixed_38 ?_
        refine z_lload dX9_fixed_39 (by exact rfl) ?_
        refine z_lsub dX9_fixed_41 ?_
        exact z_lret (st := []) rfl dX9_fixed_42 (fin (by
          have : o = 2 := (ec 2 (by omega)).mp c30
          subst this
          show lI (0 + 2 * a (k - 1 - 0) + -1 * a (k - 1 - 1)) = lI 2 * lI (a (k - 1)) - lI (a (k - 1 - 1))
          rw [lI_mul, lI_sub, Nat.sub_zero]
          congr 1
          omega))
    · refine z_lload dX9_fixed_18 (by exact rfl) ?_
      exact z_lret (st := []) rfl dX9_fixed_20 (fin (by
        have : o = 1 := (ec 1 (by omega)).mp c15
        subst this
        show lI (0 + 1 * a (k - 1 - 0)) = _
        congr 1
        rw [Nat.sub_zero]
        omega))
  · refine z_lconst dX9_fixed_4 ?_
    exact z_lret (st := []) rfl dX9_fixed_5 (fin (by
      have : o = 0 := (ec 0 (by omega)).mp c1
      subst this
      rfl))
def row9 (D : zD) (c : Nat) (a : zRow) (n : Nat) : Prop := ∀ i, i < n → D.2 64 (256 * c + i) = lI (a i) ∧ smI (a i)
def wts9 (D : zD) (o : Nat) (pr : zPr) : Prop := D.1 19 43 = nI pr.1 ∧ pr.1 ≤ 15 ∧ ∀ j, j < o → D.1 65 j = iI (pr.2 j) ∧ wtI (pr.2 j)
def pred9 (D : zD) (t : Nat) (pr : zPr) : Prop := (t ≤ 31 → pr = (0, fxC (t - 8))) ∧ (32 ≤ t → wts9 D (t - 31) pr)
def f61 (a _ : Nat) : Bool := a == 61
theorem lI_self (x : Int64) : x = lI x.toInt := (Int64.ofInt_toInt x).symm
theorem c_foretold {d c k t : Nat} {D : zD} {Q : zQ} {a : zRow} {pr : zPr} (hc : c < 8) (hk : k < 256) (ht : (8 ≤ t ∧ t ≤ 12) ∨ (32 ≤ t ∧ t < 64)) (hok : ordN t ≤ k) (hq : ∀ D' x, (pred9 D t pr → row9 D c a k → x = lI (fore pr.2 pr.1 (ordN t) a k)) → zfr f61 D D' → Q (.inl (some (.long x))) 0 D') :
    ZM yX9_foretold iX9_foretold (d + 1) [.ref 19, .int (nI c), .int (nI k), .int (nI t)] D Q := by
  refine z_method (by decide) rfl (Nat.le_of_ble_eq_true rfl) ?_
  refine z_at [(0, .ref 19), (1, .int (nI c)), (2, .int (nI k)), (3, .int (nI t))] ⟨rfl, rfl, rfl, rfl, trivial⟩ ?_
  rcases ht with ht | ht
  · have ho : ordN t = t - 8 := by
      unfold ordN
      rw [if_neg (by omega), if_pos (by omega)]
    have lp : ∀ (m i : Nat) (D1 : zD), i + m = 4 → (∀ i', i' < i → 4 ≤ k + i' → D1.2 61 i' = D.2 64 (256 * c + (k + i' - 4))) → zfr f61 D D1 → Z (zmk iX9_foretold (d + 1)) 0 9 (zl [(0, .ref 19), (1, .int (nI c)), (2, .int (nI k)), (3, .int (nI t)), (4, .int (nI i))]) [] D1 Q := by
      intro m
      induction m with
      | zero =>
        intro i D1 hi e1 hF
        have hi : i = 4 := by omega
        subst hi
        have ge : ∀ j, j < t - 8 → D1.2 61 (4 - 1 - j) = lI ((fun i => (D.2 64 (256 * c + (k + i - 4))).toInt) (4 - 1 - j)) := fun j hj => by
          rw [e1 (4 - 1 - j) (by omega) (by omega)]
          exact lI_self _
        refine z_iload dX9_foretold_9 (by exact rfl) ?_
        refine z_iconst dX9_foretold_11 ?_
        refine z_icmp_ge (tgt := 57) dX9_foretold_12 (by decide) (fun _ => ?_) (fun q9 => absurd ((by decide)) q9)
        refine z_aload_n dX9_foretold_57 (by exact rfl) ?_
        refine z_aload_n dX9_foretold_58 (by exact rfl) ?_
        refine z_gfA zfx_X9_55 (by exact rfl) dX9_foretold_59 ?_
        refine z_iconst dX9_foretold_62 ?_
        refine z_iload_n dX9_foretold_63 (by exact rfl) ?_
        refine z_bipush dX9_foretold_64 ?_
        refine z_isub dX9_foretold_66 ?_
        refine z_eI (nI (t - 8)) (pk_sub (a := t) (b := 8) (by omega)) ?_
        refine z_cV dX9_foretold_67 zk_X9_125 (by exact rfl) (by exact rfl) (by exact rfl) (Nat.le_of_ble_eq_true rfl) (Nat.le_of_ble_eq_true rfl) (Nat.le_refl _) ?_
        refine c_fixed (k := 4) (a := fun i => (D.2 64 (256 * c + (k + i - 4))).toInt) (by omega) (by omega) (by omega) ge ?_
        exact z_lret (st := []) rfl dX9_foretold_70 (hq D1 _ (fun hp hr => by
          rw [hp.1 (by omega), ho]
          unfold fore
          rw [shr0, shr0]
          congr 1
          refine sm_congr (fun j hj => ?_)
          have h9 := (hr (k - 1 - j) (by omega)).1
          have h10 := (hr (k - 1 - j) (by omega)).2
          show _ * (D.2 64 (256 * c + (k + (4 - 1 - j) - 4))).toInt = _
          rw [show k + (4 - 1 - j) - 4 = k - 1 - j by omega, h9, lI_toInt (by unfold smI bd at h10; omega) (by unfold smI bd at h10; omega)]) hF)
      | succ m ih =>
        intro i D1 hi e1 hF
        have nx : ∀ x : Int64, (4 ≤ k + i → x = D.2 64 (256 * c + (k + i - 4))) → Z (zmk iX9_foretold (d + 1)) 0 50 (zl [(0, .ref 19), (1, .int (nI c)), (2, .int (nI k)), (3, .int (nI t)), (4, .int (nI i))]) [.long x, .int (nI i), .ref 61] D1 Q := by
          intro x hx
          refine z_sJ (by exact rfl) dX9_foretold_50 (vp_in_nI (by omega) (by omega)) ?_
          rw [nI_clamp (n := i) (by omega)]
          refine z_iinc dX9_foretold_51 (by exact rfl) ?_
          refine z_at [(0, .ref 19), (1, .int (nI c)), (2, .int (nI k)), (3, .int (nI t)), (4, .int (nI (i + 1)))] ⟨rfl, rfl, rfl, rfl, congrArg (fun x => some (Value.int x)) (nI_1 i), trivial⟩ ?_
          refine z_goto (tgt := 9) dX9_foretold_54 (by decide) ?_
          exact ih (i + 1) _ (by omega) (fun i' hi' h4 => by
            obtain q | q : i' = i ∨ i' < i := by omega
            · subst q
              rw [zuL_at]
              exact hx h4
            · rw [zuL_ne (by omega)]
              exact e1 i' q h4) (hF.uL _ rfl)
        refine z_iload dX9_foretold_9 (by exact rfl) ?_
        refine z_iconst dX9_foretold_11 ?_
        refine z_icmp_ge (tgt := 57) dX9_foretold_12 (by decide) (fun q9 => absurd q9 ((nI_ge (a := i) (b := 4) (by omega) (by omega)))) (fun _ => ?_)
        refine z_aload_n dX9_foretold_15 (by exact rfl) ?_
        refine z_gfA zfx_X9_55 (by exact rfl) dX9_foretold_16 ?_
        refine z_iload dX9_foretold_19 (by exact rfl) ?_
        refine z_iload_n dX9_foretold_21 (by exact rfl) ?_
        refine z_iload dX9_foretold_22 (by exact rfl) ?_
        refine z_iadd dX9_foretold_24 ?_
        refine z_eI (nI (k + i)) (nI_add _ _) ?_
        refine z_iconst dX9_foretold_25 ?_
        refine z_icmp_lt (tgt := 49) dX9_foretold_26 (by decide) (fun c26 => ?_) (fun c26 => ?_)
        · refine z_lconst dX9_foretold_49 ?_
          exact z_at [(0, .ref 19), (1, .int (nI c)), (2, .int (nI k)), (3, .int (nI t)), (4, .int (nI i))] ⟨rfl, rfl, rfl, rfl, rfl, trivial⟩ (nx _ (fun q => absurd ((nI_ltI (a := k + i) (b := 4) (by omega) (by omega)).mp c26) (by omega)))
        · have hki : 4 ≤ k + i := by
            rcases Nat.lt_or_ge (k + i) 4 with q | q
            · exact absurd (nI_lt q (by omega)) c26
            · exact q
          refine z_aload_n dX9_foretold_29 (by exact rfl) ?_
          refine z_gfA zfx_X9_64 (by exact rfl) dX9_foretold_30 ?_
          refine z_sipush dX9_foretold_33 ?_
          refine z_iload_n dX9_foretold_36 (by exact rfl) ?_
          refine z_imul dX9_foretold_37 ?_
          refine z_iload_n dX9_foretold_38 (by exact rfl) ?_
          refine z_iadd dX9_foretold_39 ?_
          refine z_iconst dX9_foretold_40 ?_
          refine z_isub dX9_foretold_41 ?_
          refine z_iload dX9_foretold_42 (by exact rfl) ?_
          refine z_iadd dX9_foretold_44 ?_
          refine z_eI (nI (256 * c + (k + i - 4))) (by
            rw [show (Int16.ofInt 256).toInt32 = nI 256 from rfl, pk_mul, nI_add, show nI (256 * c + k) - Int32.ofInt 4 + nI i = nI (256 * c + k) + nI i - nI 4 by
              show nI (256 * c + k) - nI 4 + nI i = _
              rw [Int32.sub_eq_add_neg, Int32.sub_eq_add_neg, Int32.add_assoc, Int32.add_assoc, Int32.add_comm (-nI 4)], nI_add, pk_sub (by omega)]
            congr 1
            omega) ?_
          refine z_aJ (by exact rfl) dX9_foretold_45 (vp_in_nI (by omega) (by omega)) ?_
          refine z_goto (tgt := 50) dX9_foretold_46 (by decide) ?_
          exact z_at [(0, .ref 19), (1, .int (nI c)), (2, .int (nI k)), (3, .int (nI t)), (4, .int (nI i))] ⟨rfl, rfl, rfl, rfl, rfl, trivial⟩ (nx _ (fun q => by
            rw [nI_clamp (n := 256 * c + (k + i - 4)) (by omega)]
            exact hF.2 64 _ rfl))
    refine z_iload_n dX9_foretold_0 (by exact rfl) ?_
    refine z_bipush dX9_foretold_1 ?_
    refine z_icmp_ge (tgt := 71) dX9_foretold_3 (by decide) (fun q9 => absurd q9 ((nI_ge (a := t) (b := 32) (by omega) (by omega)))) (fun _ => ?_)
    refine z_iconst dX9_foretold_6 ?_
    refine z_istore dX9_foretold_7 (Nat.le_of_ble_eq_true rfl) ?_
    exact z_at [(0, .ref 19), (1, .int (nI c)), (2, .int (nI k)), (3, .int (nI t)), (4, .int (nI 0))] ⟨rfl, rfl, rfl, rfl, rfl, trivial⟩ (lp 4 0 D (by omega) (fun i hi => by omega) zfr.rf)
  · have ho : ordN t = t - 31 := by
      unfold ordN
      rw [if_neg (by omega), if_neg (by omega)]
    have lp : ∀ (m i : Nat) (x : Int64), i + m = ordN t → (pred9 D t pr → row9 D c a k → x = lI (sm (fun j => pr.2 j * a (k - 1 - j)) i)) → Z (zmk iX9_foretold (d + 1)) 0 77 (zl [(0, .ref 19), (1, .int (nI c)), (2, .int (nI k)), (3, .int (nI t)), (4, .long x), (6, .int (nI i))]) [] D Q := by
      intro m
      induction m with
      | zero =>
        intro i x hi hx
        have hi : i = ordN t := by omega
        subst hi
        refine z_iload dX9_foretold_77 (by exact rfl) ?_
        refine z_iload_n dX9_foretold_79 (by exact rfl) ?_
        refine z_cS dX9_foretold_80 zk_X9_117 (by exact rfl) (Nat.le_of_ble_eq_true rfl) (Nat.le_of_ble_eq_true rfl) (Nat.le_refl _) ?_
        refine c_o (by omega) ?_
        refine z_icmp_ge (tgt := 123) dX9_foretold_83 (by decide) (fun _ => ?_) (fun q9 => absurd ((nI_le (Nat.le_refl _) (by omega))) q9)
        refine z_lload dX9_foretold_123 (by exact rfl) ?_
        refine z_aload_n dX9_foretold_125 (by exact rfl) ?_
        refine z_gfI zfx_X9_358 (by exact rfl) dX9_foretold_126 ?_
        refine z_lshr dX9_foretold_129 ?_
        exact z_lret (st := []) rfl dX9_foretold_130 (hq D _ (fun hp hr => by
          have hw := hp.2 (by omega)
          have hb := fsum_bd (i := k) (j := ordN t) (by omega) (fun j hj => (hw.2.2 j (by omega)).2) (fun j hj => (hr (k - 1 - j) (by omega)).2)
          unfold bd at hb
          have hs := hw.2.1
          rw [hx hp hr, hw.1, lI_shr (by omega) (by omega) (by omega)]
          rfl) zfr.rf)
      | succ m ih =>
        intro i x hi hx
        refine z_iload dX9_foretold_77 (by exact rfl) ?_
        refine z_iload_n dX9_foretold_79 (by exact rfl) ?_
        refine z_cS dX9_foretold_80 zk_X9_117 (by exact rfl) (Nat.le_of_ble_eq_true rfl) (Nat.le_of_ble_eq_true rfl) (Nat.le_refl _) ?_
        refine c_o (by omega) ?_
        refine z_icmp_ge (tgt := 123) dX9_foretold_83 (by decide) (fun q9 => absurd q9 ((nI_ge (a := i) (b := ordN t) (by omega) (by omega)))) (fun _ => ?_)
        refine z_lload dX9_foretold_86 (by exact rfl) ?_
        refine z_aload_n dX9_foretold_88 (by exact rfl) ?_
        refine z_gfA zfx_X9_67 (by exact rfl) dX9_foretold_89 ?_
        refine z_iload dX9_foretold_92 (by exact rfl) ?_
        refine z_aI (by exact rfl) dX9_foretold_94 (vp_in_nI (by omega) (by omega)) ?_
        rw [nI_clamp (n := i) (by omega)]
        refine z_i2l dX9_foretold_95 ?_
        refine z_aload_n dX9_foretold_96 (by exact rfl) ?_
        refine z_gfA zfx_X9_64 (by exact rfl) dX9_foretold_97 ?_
        refine z_sipush dX9_foretold_100 ?_
        refine z_iload_n dX9_foretold_103 (by exact rfl) ?_
        refine z_imul dX9_foretold_104 ?_
        refine z_iload_n dX9_foretold_105 (by exact rfl) ?_
        refine z_iadd dX9_foretold_106 ?_
        refine z_iconst dX9_foretold_107 ?_
        refine z_isub dX9_foretold_108 ?_
        refine z_iload dX9_foretold_109 (by exact rfl) ?_
        refine z_isub dX9_foretold_111 ?_
        refine z_eI (nI (256 * c + (k - 1 - i))) (by
          rw [show (Int16.ofInt 256).toInt32 = nI 256 from rfl, pk_mul, nI_add, show nI (256 * c + k) - Int32.ofInt 1 = nI (256 * c + k - 1) from pk_sub (a := 256 * c + k) (b := 1) (by omega), pk_sub (by omega)]
          congr 1
          omega) ?_
        refine z_aJ (by exact rfl) dX9_foretold_112 (vp_in_nI (by omega) (by omega)) ?_
        rw [nI_clamp (n := 256 * c + (k - 1 - i)) (by omega)]
        refine z_lmul dX9_foretold_113 ?_
        refine z_ladd dX9_foretold_114 ?_
        refine z_lstore dX9_foretold_115 (Nat.le_of_ble_eq_true rfl) ?_
        refine z_iinc dX9_foretold_117 (by exact rfl) ?_
        refine z_at [(0, .ref 19), (1, .int (nI c)), (2, .int (nI k)), (3, .int (nI t)), (4, .long (x + (D.1 65 i).toInt64 * D.2 64 (256 * c + (k - 1 - i)))), (6, .int (nI (i + 1)))] ⟨rfl, rfl, rfl, rfl, rfl, congrArg (fun x => some (Value.int x)) (nI_1 i), trivial⟩ ?_
        refine z_goto (tgt := 77) dX9_foretold_120 (by decide) ?_
        exact ih (i + 1) _ (by omega) (fun hp hr => by
          obtain ⟨g1, g2⟩ := (hp.2 (by omega)).2.2 i (by omega)
          have g3 := (hr (k - 1 - i) (by omega)).1
          rw [hx hp hr, g1, g3, iI_l (by unfold wtI bd at g2; omega) (by unfold wtI bd at g2; omega), lI_mul, lI_add]
          rfl)
    refine z_iload_n dX9_foretold_0 (by exact rfl) ?_
    refine z_bipush dX9_foretold_1 ?_
    refine z_icmp_ge (tgt := 71) dX9_foretold_3 (by decide) (fun _ => ?_) (fun q9 => absurd ((nI_le (a := 32) (b := t) (by omega) (by omega))) q9)
    refine z_lconst dX9_foretold_71 ?_
    refine z_lstore dX9_foretold_72 (Nat.le_of_ble_eq_true rfl) ?_
    refine z_iconst dX9_foretold_74 ?_
    refine z_istore dX9_foretold_75 (Nat.le_of_ble_eq_true rfl) ?_
    exact z_at [(0, .ref 19), (1, .int (nI c)), (2, .int (nI k)), (3, .int (nI t)), (4, .long (lI 0)), (6, .int (nI 0))] ⟨rfl, rfl, rfl, rfl, rfl, rfl, trivial⟩ (lp (ordN t) 0 _ (by omega) (fun _ _ => rfl))
def fW9 (a k : Nat) : Bool := f9 a k || ((a == 19 && k == 43) || a == 65)
theorem c_readWeights {β : Type} {d o sz : Nat} {D : zD} {T : Nat → Bool} {Q : zQ} {K : zPr → RS β} {sp : RT β} {P : Prop} (ho : o ≤ 32) (h : rs9 D T sz (rbind (rit T (8 * sz) 4 (kIn 0 14)) fun pr => rbind (rit T (8 * sz) 5 (kIn 0 15)) fun sh => rbind (sNums T (8 * sz) (pr + 1) 0 o (fun _ => 0)) fun c => K (sh, c)) sp P)
    (hq : ∀ D' pr, rs9 D' T sz (K pr) sp (P ∧ wts9 D' o pr) → zfr fW9 D D' → Q (.inl none) 0 D') : ZM yX9_readWeights iX9_readWeights (d + 3) [.ref 19, .int (nI o)] D Q := by
  refine z_method (by decide) rfl (Nat.le_of_ble_eq_true rfl) ?_
  refine z_at [(0, .ref 19), (1, .int (nI o))] ⟨rfl, rfl, trivial⟩ ?_
  have wk : ∀ {X Y : zD}, zfr f9 X Y → zfr fW9 X Y := fun h => h.wk (fun _ _ q => or_l q)
  have le64 : ∀ a b : Nat, a < 2000000 → b < 2000000 → (lN a ≤ lN b ↔ a ≤ b) := fun a b ha hb => pk_lLE (by omega) (by omega)
  have lp : ∀ (p sh : Nat) (P2 : Prop), p < 16 → (P2 → P ∧ p < 15 ∧ sh ≤ 15) → ∀ (m i : Nat) (D1 : zD) (c : zRow), i + m = o → D1.1 19 43 = nI sh → (∀ j, j < i → D1.1 65 j = iI (c j) ∧ inB (p + 1) (c j)) → rs9 D1 T sz (rbind (sNums T (8 * sz) (p + 1) i m c) fun c => K (sh, c)) sp P2 → zfr fW9 D D1 → Z (zmk iX9_readWeights (d + 3)) 0 29 (zl [(0, .ref 19), (1, .int (nI o)), (2, .int (nI (p + 1))), (3, .int (nI i))]) [] D1 Q := by
    intro p sh P2 hp16 hP2 m
    induction m with
    | zero =>
      intro i D1 c hi e1 e2 h1 hF
      have hi : i = o := by omega
      subst hi
      refine z_iload_n dX9_readWeights_29 (by exact rfl) ?_
      refine z_iload_n dX9_readWeights_30 (by exact rfl) ?_
      refine z_icmp_ge (tgt := 52) dX9_readWeights_31 (by decide) (fun _ => ?_) (fun q9 => absurd ((nI_le (Nat.le_refl _) (by omega))) q9)
      exact z_vret (st := []) rfl dX9_readWeights_52 (hq D1 (sh, c) (h1.mp (fun _ hp => ⟨(hP2 hp).1, e1, (hP2 hp).2.2, fun j hj => ⟨(e2 j hj).1, inB_le (B := 14) (e2 j hj).2 (by have := (hP2 hp).2.1; omega)⟩⟩)) hF)
    | succ m ih =>
      intro i D1 c hi e1 e2 h1 hF
      rw [sNums_s, rassoc] at h1
      refine z_iload_n dX9_readWeights_29 (by exact rfl) ?_
      refine z_iload_n dX9_readWeights_30 (by exact rfl) ?_
      refine z_icmp_ge (tgt := 52) dX9_readWeights_31 (by decide) (fun q9 => absurd q9 ((nI_ge (a := i) (b := o) (by omega) (by omega)))) (fun _ => ?_)
      refine z_aload_n dX9_readWeights_34 (by exact rfl) ?_
      refine z_gfA zfx_X9_67 (by exact rfl) dX9_readWeights_35 ?_
      refine z_iload_n dX9_readWeights_38 (by exact rfl) ?_
      refine z_aload_n dX9_readWeights_39 (by exact rfl) ?_
      refine z_iload_n dX9_readWeights_40 (by exact rfl) ?_
      refine z_cV dX9_readWeights_41 zk_X9_351 (by exact rfl) (by exact rfl) (by exact rfl) (Nat.le_of_ble_eq_true rfl) (Nat.le_of_ble_eq_true rfl) (Nat.le_refl _) ?_
      refine c_takeSignedU (by omega) h1 (fun D2 v hv h2 hf2 => ?_)
      have hin := sgI_in hv (by omega)
      have hb := inB_le (B := 16) hin (by omega)
      unfold bd at hb
      refine z_l2i dX9_readWeights_44 ?_
      refine z_eI (iI (sgI (p + 1) v)) (lI_i (by omega) (by omega)) ?_
      refine z_sI (by exact rfl) dX9_readWeights_45 (vp_in_nI (by omega) (by omega)) ?_
      rw [nI_clamp (n := i) (by omega)]
      refine z_iinc dX9_readWeights_46 (by exact rfl) ?_
      refine z_at [(0, .ref 19), (1, .int (nI o)), (2, .int (nI (p + 1))), (3, .int (nI (i + 1)))] ⟨rfl, rfl, rfl, congrArg (fun x => some (Value.int x)) (nI_1 i), trivial⟩ ?_
      refine z_goto (tgt := 29) dX9_readWeights_49 (by decide) ?_
      exact ih (i + 1) _ _ (by omega) ((hf2.1 19 43 rfl).trans e1) (fun j hj => by
        obtain q | q : j = i ∨ j < i := by omega
        · subst q
          rw [uN_s, zuI_at]
          exact ⟨rfl, hin⟩
        · rw [uN_n (by omega), zuI_ne (by omega), hf2.1 65 j rfl]
          exact e2 j q) (h2.fr (F := fun a _ => a == 65) (zfr.rf.uI _ rfl) rfl rfl rfl rfl (fun _ => rfl)) ((hF.tr (wk hf2)).uI _ rfl)
  refine z_aload_n dX9_readWeights_0 (by exact rfl) ?_
  refine z_iconst dX9_readWeights_1 ?_
  refine z_lconst dX9_readWeights_2 ?_
  refine z_ldcL dX9_readWeights_3 zclx_X9_92 ?_
  refine z_cV dX9_readWeights_6 zk_X9_280 (by exact rfl) (by exact rfl) (by exact rfl) (Nat.le_of_ble_eq_true rfl) (Nat.le_of_ble_eq_true rfl) (Nat.le_refl _) ?_
  refine c_takeInU (w := 4) (by omega) (fun _ => kIn_c (lo := 0) (hi := 14) (by omega) (by omega) (by omega)) h (fun D1 p hp h1 hf1 => ?_)
  have hp16 : p < 16 := hp
  refine z_l2i dX9_readWeights_9 ?_
  refine z_eI (nI p) (lN_i p) ?_
  refine z_iconst dX9_readWeights_10 ?_
  refine z_iadd dX9_readWeights_11 ?_
  refine z_eI (nI (p + 1)) (nI_1 p) ?_
  refine z_istore_n dX9_readWeights_12 (Nat.le_of_ble_eq_true rfl) ?_
  refine z_aload_n dX9_readWeights_13 (by exact rfl) ?_
  refine z_aload_n dX9_readWeights_14 (by exact rfl) ?_
  refine z_iconst dX9_readWeights_15 ?_
  refine z_lconst dX9_readWeights_16 ?_
  refine z_ldcL dX9_readWeights_17 zclx_X9_190 ?_
  refine z_cV dX9_readWeights_20 zk_X9_280 (by exact rfl) (by exact rfl) (by exact rfl) (Nat.le_of_ble_eq_true rfl) (Nat.le_of_ble_eq_true rfl) (Nat.le_refl _) ?_
  refine c_takeInU (w := 5) (by omega) (fun _ => kIn_c (lo := 0) (hi := 15) (by omega) (by omega) (by omega)) h1 (fun D2 sh hsh h2 hf2 => ?_)
  refine z_l2i dX9_readWeights_23 ?_
  refine z_eI (nI sh) (lN_i sh) ?_
  refine z_pfI zfx_X9_358 (by exact rfl) dX9_readWeights_24 ?_
  refine z_iconst dX9_readWeights_27 ?_
  refine z_istore_n dX9_readWeights_28 (Nat.le_of_ble_eq_true rfl) ?_
  exact z_at [(0, .ref 19), (1, .int (nI o)), (2, .int (nI (p + 1))), (3, .int (nI 0))] ⟨rfl, rfl, rfl, rfl, trivial⟩ (lp p sh _ hp16 (fun hp => ⟨hp.1.1, by have := kIn_0 hp.1.2; omega, (kIn_0 hp.2).2⟩) o 0 _ (fun _ => 0) (by omega) rfl (fun j hj => by omega) (h2.fr (F := fun a k => a == 19 && k == 43) (zfr.rf.uI _ rfl) rfl rfl rfl rfl (fun _ => rfl)) ((wk (hf1.tr hf2)).uI _ rfl))
