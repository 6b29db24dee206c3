/-! ===== the reference's making: bestK, partsCost, leftCost, offer, measure ===== -/
theorem cst_bd9 {u : Nat → Nat} {i m k : Nat} (hu : ∀ j, i ≤ j → j < i + m → u j < 4294967296) (hm : m ≤ 256) (hk : k < 15) : cst u i m k < 2000000000000 := by
  have h1 := nsum_le (f := fun i => u i / 2 ^ k) (B := 4294967296) (m := m) (i := i) (fun j h4 h5 => by
    have h6 := hu j h4 h5
    have h7 : u j / 2 ^ k ≤ u j := Nat.div_le_self _ _
    show u j / 2 ^ k ≤ _
    omega)
  have h2 : m * 4294967296 ≤ 256 * 4294967296 := Nat.mul_le_mul_right _ hm
  have h3 : m * (1 + k) ≤ 256 * 15 := Nat.mul_le_mul hm (by omega)
  unfold cst ssum
  omega
theorem c_bestK {d o n i m : Nat} {D : zD} {Q : zQ} {u : Nat → Nat} (hu : leftU D u o n) (hi : o ≤ i) (hm : i + m ≤ n) (hn : n ≤ 256) (hq : Q (.inl (some (.int (nI (bk u i m))))) 0 D) : ZM yX9_bestK iX9_bestK (d + 2) [.ref 19, .int (nI i), .int (nI (i + m))] D Q := by
  refine z_method (by decide) rfl (Nat.le_of_ble_eq_true rfl) ?_
  refine z_at [(0, .ref 19), (1, .int (nI i)), (2, .int (nI (i + m)))] ⟨rfl, rfl, rfl, trivial⟩ ?_
  unfold bk at hq
  have hbd : ∀ k, k < 15 → cst u i m k < 2000000000000 := fun k hk => cst_bd9 (fun j h1 h2 => hu.bd j (by omega) (by omega)) (by omega) hk
  have lp : ∀ (j k : Nat), k + j = 14 → ∀ b, b = bkR (cst u i m) k → Z (zmk iX9_bestK (d + 2)) 0 5 (zl [(0, .ref 19), (1, .int (nI i)), (2, .int (nI (i + m))), (3, .int (nI b)), (4, .int (nI (k + 1)))]) [] D Q := by
    intro j
    induction j with
    | zero =>
      intro k hk b hb
      have hk : k = 14 := by omega
      subst hk
      rw [← hb] at hq
      refine z_iload dX9_bestK_5 (by exact rfl) ?_
      refine z_bipush dX9_bestK_7 ?_
      refine z_icmp_ge (tgt := 40) dX9_bestK_9 (by decide) (fun _ => ?_) (fun q9 => absurd ((by decide)) q9)
      refine z_iload_n dX9_bestK_40 (by exact rfl) ?_
      exact z_iret (st := []) rfl dX9_bestK_41 hq
    | succ j ih =>
      intro k hk b hb
      have hbl : b < 15 := by
        have := bkR_le (cst u i m) k
        omega
      have h1 := hbd (k + 1) (by omega)
      have h2 := hbd b hbl
      refine z_iload dX9_bestK_5 (by exact rfl) ?_
      refine z_bipush dX9_bestK_7 ?_
      refine z_icmp_ge (tgt := 40) dX9_bestK_9 (by decide) (fun q9 => absurd q9 ((nI_ge (a := k + 1) (b := 15) (by omega) (by omega)))) (fun _ => ?_)
      refine z_aload_n dX9_bestK_12 (by exact rfl) ?_
      refine z_iload_n dX9_bestK_13 (by exact rfl) ?_
      refine z_iload_n dX9_bestK_14 (by exact rfl) ?_
      refine z_iload dX9_bestK_15 (by exact rfl) ?_
      refine z_cV dX9_bestK_17 zk_X9_139 (by exact rfl) (by exact rfl) (by exact rfl) (Nat.le_of_ble_eq_true rfl) (Nat.le_of_ble_eq_true rfl) (Nat.le_refl _) ?_
      refine c_costOf hu hi hm hn (k := k + 1) (by omega) ?_
      refine z_aload_n dX9_bestK_20 (by exact rfl) ?_
      refine z_iload_n dX9_bestK_21 (by exact rfl) ?_
      refine z_iload_n dX9_bestK_22 (by exact rfl) ?_
      refine z_iload_n dX9_bestK_23 (by exact rfl) ?_
      refine z_cV dX9_bestK_24 zk_X9_139 (by exact rfl) (by exact rfl) (by exact rfl) (Nat.le_of_ble_eq_true rfl) (Nat.le_of_ble_eq_true rfl) (Nat.le_refl _) ?_
      refine c_costOf hu hi hm hn hbl ?_
      refine z_ge (tgt := 34) dX9_bestK_27 dX9_bestK_28 (by decide) (fun c27 => ?_) (fun c27 => ?_)
      · refine z_iinc dX9_bestK_34 (by exact rfl) ?_
        refine z_at [(0, .ref 19), (1, .int (nI i)), (2, .int (nI (i + m))), (3, .int (nI b)), (4, .int (nI (k + 1 + 1)))] ⟨rfl, rfl, rfl, rfl, congrArg (fun x => some (Value.int x)) (nI_1 _), trivial⟩ ?_
        refine z_goto (tgt := 5) dX9_bestK_37 (by decide) ?_
        exact ih (k + 1) (by omega) b (by
          have hge : ¬ cst u i m (k + 1) < cst u i m b := fun q => by
            have := (pk_lLE (a := cst u i m b) (b := cst u i m (k + 1)) (by omega) (by omega)).mp c27
            omega
          rw [bkR_s, ← hb, if_neg hge])
      · refine z_iload dX9_bestK_31 (by exact rfl) ?_
        refine z_istore_n dX9_bestK_33 (Nat.le_of_ble_eq_true rfl) ?_
        refine z_iinc dX9_bestK_34 (by exact rfl) ?_
        refine z_at [(0, .ref 19), (1, .int (nI i)), (2, .int (nI (i + m))), (3, .int (nI (k + 1))), (4, .int (nI (k + 1 + 1)))] ⟨rfl, rfl, rfl, rfl, congrArg (fun x => some (Value.int x)) (nI_1 _), trivial⟩ ?_
        refine z_goto (tgt := 5) dX9_bestK_37 (by decide) ?_
        exact ih (k + 1) (by omega) (k + 1) (by
          have hlt : cst u i m (k + 1) < cst u i m b := by
            rcases Nat.lt_or_ge (cst u i m (k + 1)) (cst u i m b) with h | h
            · exact h
            · exact absurd ((pk_lLE (a := cst u i m b) (b := cst u i m (k + 1)) (by omega) (by omega)).mpr h) c27
          rw [bkR_s, ← hb, if_pos hlt])
  refine z_iconst dX9_bestK_0 ?_
  refine z_istore_n dX9_bestK_1 (Nat.le_of_ble_eq_true rfl) ?_
  refine z_iconst dX9_bestK_2 ?_
  refine z_istore dX9_bestK_3 (Nat.le_of_ble_eq_true rfl) ?_
  exact z_at [(0, .ref 19), (1, .int (nI i)), (2, .int (nI (i + m))), (3, .int (nI 0)), (4, .int (nI (0 + 1)))] ⟨rfl, rfl, rfl, rfl, rfl, trivial⟩ (lp 14 0 (by omega) 0 rfl)
theorem c_partsCost {d o n q : Nat} {D : zD} {Q : zQ} {u : Nat → Nat} (h24 : D.1 19 24 = nI n) (hu : leftU D u o n) (hv : vq n o q) (hn : n ≤ 256) (hq : Q (.inl (some (.long (lN (pcs u n o q))))) 0 D) : ZM yX9_partsCost iX9_partsCost (d + 3) [.ref 19, .int (nI q), .int (nI o)] D Q := by
  refine z_method (by decide) rfl (Nat.le_of_ble_eq_true rfl) ?_
  refine z_at [(0, .ref 19), (1, .int (nI q)), (2, .int (nI o))] ⟨rfl, rfl, rfl, trivial⟩ ?_
  have hq3 := hv.1
  have h8 : 2 ^ q ≤ 2 ^ 3 := Nat.pow_le_pow_right (by omega) hq3
  have lp : ∀ (j p : Nat), p + j = 2 ^ q → Z (zmk iX9_partsCost (d + 3)) 0 15 (zl [(0, .ref 19), (1, .int (nI q)), (2, .int (nI o)), (3, .int (nI (n / 2 ^ q))), (4, .long (lN (6 + nsum (pC u n o q) 0 p))), (6, .int (nI p))]) [] D Q := by
    intro j
    induction j with
    | zero =>
      intro p hp
      have hp : p = 2 ^ q := by omega
      subst hp
      refine z_iload dX9_partsCost_15 (by exact rfl) ?_
      refine z_iconst dX9_partsCost_17 ?_
      refine z_iload_n dX9_partsCost_18 (by exact rfl) ?_
      refine z_ishl dX9_partsCost_19 ?_
      refine z_eI (nI (2 ^ q)) (q_p2 q (by omega)) ?_
      refine z_icmp_ge (tgt := 77) dX9_partsCost_20 (by decide) (fun _ => ?_) (fun q9 => absurd ((nI_le (Nat.le_refl _) (by omega))) q9)
      refine z_lload dX9_partsCost_77 (by exact rfl) ?_
      exact z_lret (st := []) rfl dX9_partsCost_79 hq
    | succ j ih =>
      intro p hp
      have hp2 : p < 2 ^ q := by omega
      obtain ⟨q1, q2, q3, q4⟩ := part_in hv hp2
      have hp8 := p2_le hq3 hp2
      have tl : Z (zmk iX9_partsCost (d + 3)) 0 36 (zl [(0, .ref 19), (1, .int (nI q)), (2, .int (nI o)), (3, .int (nI (n / 2 ^ q))), (4, .long (lN (6 + nsum (pC u n o q) 0 p))), (6, .int (nI p))]) [.int (nI (pst n o q p))] D Q := by
        refine z_istore dX9_partsCost_36 (Nat.le_of_ble_eq_true rfl) ?_
        refine z_iload dX9_partsCost_38 (by exact rfl) ?_
        refine z_iconst dX9_partsCost_40 ?_
        refine z_iadd dX9_partsCost_41 ?_
        refine z_iload_n dX9_partsCost_42 (by exact rfl) ?_
        refine z_imul dX9_partsCost_43 ?_
        refine z_eI (nI (pst n o q p + pln n o q p)) (by
          rw [show nI p + Int32.ofInt 1 = nI (p + 1) from nI_1 p, pk_mul, q2]) ?_
        refine z_istore dX9_partsCost_44 (Nat.le_of_ble_eq_true rfl) ?_
        refine z_lload dX9_partsCost_46 (by exact rfl) ?_
        refine z_ldcL dX9_partsCost_48 zclx_X9_79 ?_
        refine z_aload_n dX9_partsCost_51 (by exact rfl) ?_
        refine z_iload dX9_partsCost_52 (by exact rfl) ?_
        refine z_iload dX9_partsCost_54 (by exact rfl) ?_
        refine z_aload_n dX9_partsCost_56 (by exact rfl) ?_
        refine z_iload dX9_partsCost_57 (by exact rfl) ?_
        refine z_iload dX9_partsCost_59 (by exact rfl) ?_
        refine z_cV dX9_partsCost_61 zk_X9_143 (by exact rfl) (by exact rfl) (by exact rfl) (Nat.le_of_ble_eq_true rfl) (Nat.le_of_ble_eq_true rfl) (Nat.le_refl _) ?_
        refine c_bestK hu q1 (by omega) hn ?_
        refine z_cV dX9_partsCost_64 zk_X9_139 (by exact rfl) (by exact rfl) (by exact rfl) (Nat.le_of_ble_eq_true rfl) (Nat.le_of_ble_eq_true rfl) (Nat.le_refl _) ?_
        refine c_costOf hu q1 (by omega) hn (bk_lt _ _ _) ?_
        refine z_ladd dX9_partsCost_67 ?_
        refine z_eJ (lN (pC u n o q p)) (lN_add 4 _) ?_
        refine z_ladd dX9_partsCost_68 ?_
        refine z_eJ (lN (6 + nsum (pC u n o q) 0 (p + 1))) (by rw [lN_add, nsum_r, Nat.zero_add, Nat.add_assoc]) ?_
        refine z_lstore dX9_partsCost_69 (Nat.le_of_ble_eq_true rfl) ?_
        refine z_iinc dX9_partsCost_71 (by exact rfl) ?_
        refine z_at [(0, .ref 19), (1, .int (nI q)), (2, .int (nI o)), (3, .int (nI (n / 2 ^ q))), (4, .long (lN (6 + nsum (pC u n o q) 0 (p + 1)))), (6, .int (nI (p + 1)))] ⟨rfl, rfl, rfl, rfl, rfl, congrArg (fun x => some (Value.int x)) (nI_1 p), trivial⟩ ?_
        refine z_goto (tgt := 15) dX9_partsCost_74 (by decide) ?_
        exact ih (p + 1) (by omega)
      refine z_iload dX9_partsCost_15 (by exact rfl) ?_
      refine z_iconst dX9_partsCost_17 ?_
      refine z_iload_n dX9_partsCost_18 (by exact rfl) ?_
      refine z_ishl dX9_partsCost_19 ?_
      refine z_eI (nI (2 ^ q)) (q_p2 q (by omega)) ?_
      refine z_icmp_ge (tgt := 77) dX9_partsCost_20 (by decide) (fun q9 => absurd q9 ((nI_ge (a := p) (b := 2 ^ q) (by omega) (by omega)))) (fun _ => ?_)
      refine z_iload dX9_partsCost_23 (by exact rfl) ?_
      refine z_if_ne (tgt := 32) dX9_partsCost_25 (by decide) (fun c25 => ?_) (fun c25 => ?_)
      · refine z_iload dX9_partsCost_32 (by exact rfl) ?_
        refine z_iload_n dX9_partsCost_34 (by exact rfl) ?_
        refine z_imul dX9_partsCost_35 ?_
        refine z_eI (nI (pst n o q p)) (by
          have hp0 : ¬ p = 0 := fun q => c25 (by rw [q]; rfl)
          have h5 : pst n o q p = p * (n / 2 ^ q) := if_neg hp0
          rw [pk_mul, h5]) ?_
        exact z_at [(0, .ref 19), (1, .int (nI q)), (2, .int (nI o)), (3, .int (nI (n / 2 ^ q))), (4, .long (lN (6 + nsum (pC u n o q) 0 p))), (6, .int (nI p))] ⟨rfl, rfl, rfl, rfl, rfl, rfl, trivial⟩ tl
      · refine z_iload_n dX9_partsCost_28 (by exact rfl) ?_
        refine z_eI (nI (pst n o q p)) (by
          have hp0 : p = 0 := (nI_eq (a := p) (b := 0) (by omega) (by omega)).mp c25
          have h5 : pst n o q p = o := if_pos hp0
          rw [h5]) ?_
        refine z_goto (tgt := 36) dX9_partsCost_29 (by decide) ?_
        exact z_at [(0, .ref 19), (1, .int (nI q)), (2, .int (nI o)), (3, .int (nI (n / 2 ^ q))), (4, .long (lN (6 + nsum (pC u n o q) 0 p))), (6, .int (nI p))] ⟨rfl, rfl, rfl, rfl, rfl, rfl, trivial⟩ tl
  refine z_aload_n dX9_partsCost_0 (by exact rfl) ?_
  refine z_gfI zfx_X9_108 (by exact rfl) dX9_partsCost_1 ?_
  refine z_eI (nI n) h24 ?_
  refine z_iload_n dX9_partsCost_4 (by exact rfl) ?_
  refine z_ishr dX9_partsCost_5 ?_
  refine z_eI (nI (n / 2 ^ q)) (pk_shrN (by omega) _ q (sm31 q (by omega))) ?_
  refine z_istore_n dX9_partsCost_6 (Nat.le_of_ble_eq_true rfl) ?_
  refine z_ldcL dX9_partsCost_7 zclx_X9_115 ?_
  refine z_lstore dX9_partsCost_10 (Nat.le_of_ble_eq_true rfl) ?_
  refine z_iconst dX9_partsCost_12 ?_
  refine z_istore dX9_partsCost_13 (Nat.le_of_ble_eq_true rfl) ?_
  exact z_at [(0, .ref 19), (1, .int (nI q)), (2, .int (nI o)), (3, .int (nI (n / 2 ^ q))), (4, .long (lN (6 + nsum (pC u n o q) 0 0))), (6, .int (nI 0))] ⟨rfl, rfl, rfl, rfl, rfl, rfl, trivial⟩ (lp (2 ^ q) 0 (by omega))
theorem bqR_vq {u : Nat → Nat} {n o : Nat} (hon : o ≤ n) : ∀ m, m ≤ 3 → vq n o (bqR u n o m) ∧ bqR u n o m ≤ m
  | 0, _ => ⟨⟨by show 0 ≤ 3; omega, .inl ⟨rfl, hon⟩⟩, Nat.le_refl _⟩
  | m + 1, hm => by
    obtain ⟨h1, h2⟩ := bqR_vq (u := u) hon m (by omega)
    have e : bqR u n o (m + 1) = if (n % 2 ^ (m + 1) = 0 ∧ o < n / 2 ^ (m + 1)) ∧ pcs u n o (m + 1) < pcs u n o (bqR u n o m) then m + 1 else bqR u n o m := rfl
    by_cases hc : (n % 2 ^ (m + 1) = 0 ∧ o < n / 2 ^ (m + 1)) ∧ pcs u n o (m + 1) < pcs u n o (bqR u n o m)
    · rw [e, if_pos hc]
      exact ⟨⟨hm, .inr hc.1⟩, Nat.le_refl _⟩
    · rw [e, if_neg hc]
      exact ⟨h1, by omega⟩
def f31 (a k : Nat) : Bool := a == 19 && k == 31
theorem c_leftCost {d o n : Nat} {D : zD} {Q : zQ} {u : Nat → Nat} (h24 : D.1 19 24 = nI n) (hu : leftU D u o n) (hon : o ≤ n) (hn : n ≤ 256) (hq : ∀ D', D'.1 19 31 = nI (bq u n o) → zfr f31 D D' → Q (.inl (some (.long (lN (lc u n o))))) 0 D') : ZM yX9_leftCost iX9_leftCost (d + 4) [.ref 19, .int (nI o)] D Q := by
  refine z_method (by decide) rfl (Nat.le_of_ble_eq_true rfl) ?_
  refine z_at [(0, .ref 19), (1, .int (nI o))] ⟨rfl, rfl, trivial⟩ ?_
  have hub := hu.bd
  have hb9 : ∀ q, vq n o q → pcs u n o q < 20000000000000 := fun q hv => pcs_bd hv hn hub (Nat.le_refl _)
  have hu1 : ∀ {D1 : zD}, zfr f31 D D1 → leftU D1 u o n := fun hF i h1 h2 => by
    obtain ⟨e, e1, e2, e3⟩ := hu i h1 h2
    exact ⟨e, (hF.2 62 i rfl).trans e1, e2, e3⟩
  have p28 : ∀ q, q < 4 → Int32.ofInt 1 <<< (nI q &&& 31) = nI (2 ^ q) := fun q hq => q_p2 q (by omega)
  have lp : ∀ (j k : Nat) (D1 : zD), k + j = 3 → ∀ b, b = bqR u n o k → D1.1 19 31 = nI b → zfr f31 D D1 → Z (zmk iX9_leftCost (d + 4)) 0 15 (zl [(0, .ref 19), (1, .int (nI o)), (2, .long (lN (pcs u n o b))), (4, .int (nI (k + 1)))]) [] D1 Q := by
    intro j
    induction j with
    | zero =>
      intro k D1 hk b hb h31 hF
      have hk : k = 3 := by omega
      subst hk
      unfold lc bq at hq
      rw [← hb] at hq
      refine z_iload dX9_leftCost_15 (by exact rfl) ?_
      refine z_iconst dX9_leftCost_17 ?_
      refine z_icmp_ge (tgt := 78) dX9_leftCost_18 (by decide) (fun _ => ?_) (fun q9 => absurd ((by decide)) q9)
      refine z_lload_n dX9_leftCost_78 (by exact rfl) ?_
      exact z_lret (st := []) rfl dX9_leftCost_79 (hq D1 h31 hF)
    | succ j ih =>
      intro k D1 hk b hb h31 hF
      obtain ⟨v1, v2⟩ := bqR_vq (u := u) hon k (by omega)
      rw [← hb] at v1 v2
      have hbs : bqR u n o (k + 1) = if (n % 2 ^ (k + 1) = 0 ∧ o < n / 2 ^ (k + 1)) ∧ pcs u n o (k + 1) < pcs u n o b then k + 1 else b := by
        rw [hb]
        rfl
      have g24 : D1.1 19 24 = nI n := (hF.1 19 24 rfl).trans h24
      have h2p : 0 < 2 ^ (k + 1) ∧ 2 ^ (k + 1) ≤ 8 := ⟨Nat.two_pow_pos _, Nat.pow_le_pow_right (n := 2) (i := k + 1) (j := 3) (by omega) (by omega)⟩
      have hml : n % 2 ^ (k + 1) < 2 ^ (k + 1) := Nat.mod_lt _ h2p.1
      have hdl : n / 2 ^ (k + 1) ≤ n := Nat.div_le_self _ _
      have skip : ¬ ((n % 2 ^ (k + 1) = 0 ∧ o < n / 2 ^ (k + 1)) ∧ pcs u n o (k + 1) < pcs u n o b) → Z (zmk iX9_leftCost (d + 4)) 0 72 (zl [(0, .ref 19), (1, .int (nI o)), (2, .long (lN (pcs u n o b))), (4, .int (nI (k + 1)))]) [] D1 Q := by
        intro hno
        refine z_iinc dX9_leftCost_72 (by exact rfl) ?_
        refine z_at [(0, .ref 19), (1, .int (nI o)), (2, .long (lN (pcs u n o b))), (4, .int (nI (k + 1 + 1)))] ⟨rfl, rfl, rfl, congrArg (fun x => some (Value.int x)) (nI_1 _), trivial⟩ ?_
        refine z_goto (tgt := 15) dX9_leftCost_75 (by decide) ?_
        exact ih (k + 1) D1 (by omega) b (by rw [hbs, if_neg hno]) h31 hF
      have t47 : vld n o (k + 1) → Z (zmk iX9_leftCost (d + 4)) 0 47 (zl [(0, .ref 19), (1, .int (nI o)), (2, .long (lN (pcs u n o b))), (4, .int (nI (k + 1)))]) [] D1 Q := by
        intro hvl
        have hv1 : vq n o (k + 1) := ⟨by omega, .inr hvl⟩
        have l1 := hb9 _ hv1
        have l2 := hb9 _ v1
        refine z_aload_n dX9_leftCost_47 (by exact rfl) ?_
        refine z_iload dX9_leftCost_48 (by exact rfl) ?_
        refine z_iload_n dX9_leftCost_50 (by exact rfl) ?_
        refine z_cV dX9_leftCost_51 zk_X9_150 (by exact rfl) (by exact rfl) (by exact rfl) (Nat.le_of_ble_eq_true rfl) (Nat.le_of_ble_eq_true rfl) (Nat.le_refl _) ?_
        refine c_partsCost g24 (hu1 hF) hv1 hn ?_
        refine z_lstore dX9_leftCost_54 (Nat.le_of_ble_eq_true rfl) ?_
        refine z_lload dX9_leftCost_56 (by exact rfl) ?_
        refine z_lload_n dX9_leftCost_58 (by exact rfl) ?_
        refine z_ge (tgt := 72) dX9_leftCost_59 dX9_leftCost_60 (by decide) (fun c59 => ?_) (fun c59 => ?_)
        · exact z_at [(0, .ref 19), (1, .int (nI o)), (2, .long (lN (pcs u n o b))), (4, .int (nI (k + 1)))] ⟨rfl, rfl, rfl, rfl, trivial⟩ (skip (fun q => by
            have := (pk_lLE (a := pcs u n o b) (b := pcs u n o (k + 1)) (by omega) (by omega)).mp c59
            omega))
        · refine z_lload dX9_leftCost_63 (by exact rfl) ?_
          refine z_lstore_n dX9_leftCost_65 (Nat.le_of_ble_eq_true rfl) ?_
          refine z_aload_n dX9_leftCost_66 (by exact rfl) ?_
          refine z_iload dX9_leftCost_67 (by exact rfl) ?_
          refine z_pfI zfx_X9_147 (by exact rfl) dX9_leftCost_69 ?_
          skip
          refine z_iinc dX9_leftCost_72 (by exact rfl) ?_
          refine z_at [(0, .ref 19), (1, .int (nI o)), (2, .long (lN (pcs u n o (k + 1)))), (4, .int (nI (k + 1 + 1)))] ⟨rfl, rfl, rfl, congrArg (fun x => some (Value.int x)) (nI_1 _), trivial⟩ ?_
          refine z_goto (tgt := 15) dX9_leftCost_75 (by decide) ?_
          exact ih (k + 1) _ (by omega) (k + 1) (by
            have hlt : pcs u n o (k + 1) < pcs u n o b := by
              rcases Nat.lt_or_ge (pcs u n o (k + 1)) (pcs u n o b) with h | h
              · exact h
              · exact absurd ((pk_lLE (a := pcs u n o b) (b := pcs u n o (k + 1)) (by omega) (by omega)).mpr h) c59
            rw [hbs, if_pos ⟨hvl, hlt⟩]) rfl (hF.uI _ rfl)
      refine z_iload dX9_leftCost_15 (by exact rfl) ?_
      refine z_iconst dX9_leftCost_17 ?_
      refine z_icmp_ge (tgt := 78) dX9_leftCost_18 (by decide) (fun q9 => absurd q9 ((nI_ge (a := k + 1) (b := 4) (by omega) (by omega)))) (fun _ => ?_)
      refine z_aload_n dX9_leftCost_21 (by exact rfl) ?_
      refine z_gfI zfx_X9_108 (by exact rfl) dX9_leftCost_22 ?_
      refine z_eI (nI n) g24 ?_
      refine z_iconst dX9_leftCost_25 ?_
      refine z_iload dX9_leftCost_26 (by exact rfl) ?_
      refine z_ishl dX9_leftCost_28 ?_
      refine z_eI (nI (2 ^ (k + 1))) (p28 (k + 1) (by omega)) ?_
      refine z_irem dX9_leftCost_29 (nI_ne0 (by omega) (by omega)) ?_
      refine z_eI (nI (n % 2 ^ (k + 1))) (pk_rem (by omega) (by omega) (by omega)) ?_
      refine z_if_ne (tgt := 72) dX9_leftCost_30 (by decide) (fun c30 => ?_) (fun c30 => ?_)
      · exact z_at [(0, .ref 19), (1, .int (nI o)), (2, .long (lN (pcs u n o b))), (4, .int (nI (k + 1)))] ⟨rfl, rfl, rfl, rfl, trivial⟩ (skip (fun q => c30 (by rw [q.1.1]; rfl)))
      · refine z_aload_n dX9_leftCost_33 (by exact rfl) ?_
        refine z_gfI zfx_X9_108 (by exact rfl) dX9_leftCost_34 ?_
        refine z_eI (nI n) g24 ?_
        refine z_iload dX9_leftCost_37 (by exact rfl) ?_
        refine z_ishr dX9_leftCost_39 ?_
        refine z_eI (nI (n / 2 ^ (k + 1))) (pk_shrN (by omega) _ (k + 1) (sm31 (k + 1) (by omega))) ?_
        refine z_iload_n dX9_leftCost_40 (by exact rfl) ?_
        refine z_icmp_gt (tgt := 47) dX9_leftCost_41 (by decide) (fun c41 => ?_) (fun c41 => ?_)
        · exact z_at [(0, .ref 19), (1, .int (nI o)), (2, .long (lN (pcs u n o b))), (4, .int (nI (k + 1)))] ⟨rfl, rfl, rfl, rfl, trivial⟩ (t47 ⟨(nI_eq (a := n % 2 ^ (k + 1)) (b := 0) (by omega) (by omega)).mp c30, (nI_ltI (a := o) (b := n / 2 ^ (k + 1)) (by omega) (by omega)).mp c41⟩)
        · refine z_goto (tgt := 72) dX9_leftCost_44 (by decide) ?_
          exact z_at [(0, .ref 19), (1, .int (nI o)), (2, .long (lN (pcs u n o b))), (4, .int (nI (k + 1)))] ⟨rfl, rfl, rfl, rfl, trivial⟩ (skip (fun q => c41 (nI_lt q.1.2 (by omega))))
  refine z_aload_n dX9_leftCost_0 (by exact rfl) ?_
  refine z_iconst dX9_leftCost_1 ?_
  refine z_pfI zfx_X9_147 (by exact rfl) dX9_leftCost_2 ?_
  refine z_aload_n dX9_leftCost_5 (by exact rfl) ?_
  refine z_iconst dX9_leftCost_6 ?_
  refine z_iload_n dX9_leftCost_7 (by exact rfl) ?_
  refine z_cV dX9_leftCost_8 zk_X9_150 (by exact rfl) (by exact rfl) (by exact rfl) (Nat.le_of_ble_eq_true rfl) (Nat.le_of_ble_eq_true rfl) (Nat.le_refl _) ?_
  refine c_partsCost (q := 0) (D := zuI D 19 31 (Int32.ofInt 0)) h24 (hu1 (zfr.rf.uI _ rfl)) ⟨by omega, .inl ⟨rfl, hon⟩⟩ hn ?_
  refine z_lstore_n dX9_leftCost_11 (Nat.le_of_ble_eq_true rfl) ?_
  refine z_iconst dX9_leftCost_12 ?_
  refine z_istore dX9_leftCost_13 (Nat.le_of_ble_eq_true rfl) ?_
  exact z_at [(0, .ref 19), (1, .int (nI o)), (2, .long (lN (pcs u n o 0))), (4, .int (nI (0 + 1)))] ⟨rfl, rfl, rfl, rfl, trivial⟩ (lp 3 0 _ (by omega) 0 rfl rfl (zfr.rf.uI _ rfl))
