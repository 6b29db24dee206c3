/-! ===== parts of a row; Residuals.finestOrder, addUp ===== -/
def vq (n o q : Nat) : Prop := q ≤ 3 ∧ ((q = 0 ∧ o ≤ n) ∨ vld n o q)
theorem p2_le {p q : Nat} (hq : q ≤ 3) (hp : p < 2 ^ q) : p < 8 := Nat.lt_of_lt_of_le hp (Nat.pow_le_pow_right (n := 2) (i := q) (j := 3) (by omega) hq)
theorem part_in {n o q p : Nat} (h : vq n o q) (hp : p < 2 ^ q) : o ≤ pst n o q p ∧ pst n o q p + pln n o q p = (p + 1) * (n / 2 ^ q) ∧ (p + 1) * (n / 2 ^ q) ≤ n ∧ p * (n / 2 ^ q) ≤ n := by
  have h1 : (p + 1) * (n / 2 ^ q) ≤ 2 ^ q * (n / 2 ^ q) := Nat.mul_le_mul_right _ hp
  have h2 : 2 ^ q * (n / 2 ^ q) ≤ n := by
    rw [Nat.mul_comm]
    exact Nat.div_mul_le_self _ _
  have h3 : (p + 1) * (n / 2 ^ q) = p * (n / 2 ^ q) + n / 2 ^ q := Nat.succ_mul _ _
  have h4 : ¬ p = 0 → n / 2 ^ q ≤ p * (n / 2 ^ q) := fun q => Nat.le_mul_of_pos_left _ (by omega)
  unfold pln
  have h5 : pst n o q p = if p = 0 then o else p * (n / 2 ^ q) := rfl
  rcases h with ⟨_, ⟨hq, ho⟩ | ⟨hv, ho⟩⟩
  · subst hq
    have : p = 0 := by
      have : p < 1 := hp
      omega
    subst this
    rw [if_pos rfl] at h5
    rw [h5, Nat.pow_zero, Nat.div_one]
    omega
  · by_cases hp0 : p = 0
    · subst hp0
      rw [if_pos rfl] at h5
      omega
    · rw [if_neg hp0] at h5
      have := h4 hp0
      omega
theorem ssum_bd {u : Nat → Nat} {n o q p k : Nat} (h : vq n o q) (hp : p < 2 ^ q) (hn : n ≤ 256) (hu : ∀ i, o ≤ i → i < n → u i < 4294967296) {m : Nat} (hm : m ≤ pln n o q p) : ssum u k (pst n o q p) m ≤ 256 * 4294967296 := by
  obtain ⟨h1, h2, h3, _⟩ := part_in h hp
  have := nsum_le (f := fun i => u i / 2 ^ k) (B := 4294967296) (m := m) (i := pst n o q p) (fun j h4 h5 => by
    have h6 := hu j (by omega) (by omega)
    have h7 : u j / 2 ^ k ≤ u j := Nat.div_le_self _ _
    show u j / 2 ^ k ≤ _
    omega)
  have h8 : m * 4294967296 ≤ 256 * 4294967296 := Nat.mul_le_mul_right _ (by omega)
  exact Nat.le_trans this h8
theorem cst_bd {u : Nat → Nat} {n o q p k : Nat} (h : vq n o q) (hp : p < 2 ^ q) (hn : n ≤ 256) (hu : ∀ i, o ≤ i → i < n → u i < 4294967296) (hk : k < 15) : cst u (pst n o q p) (pln n o q p) k < 2000000000000 := by
  have h1 := ssum_bd (k := k) h hp hn hu (Nat.le_refl _)
  obtain ⟨h2, h3, h4, _⟩ := part_in h hp
  have h5 : pln n o q p * (1 + k) ≤ 256 * 15 := Nat.mul_le_mul (by omega) (by omega)
  unfold cst
  omega
theorem bkR_le (f : Nat → Nat) : ∀ m, bkR f m ≤ m
  | 0 => Nat.le_refl _
  | m + 1 => by
    have := bkR_le f m
    unfold bkR
    split <;> omega
theorem bk_lt (u : Nat → Nat) (i m : Nat) : bk u i m < 15 := Nat.lt_succ_of_le (bkR_le _ 14)
theorem pC_bd {u : Nat → Nat} {n o q p : Nat} (h : vq n o q) (hp : p < 2 ^ q) (hn : n ≤ 256) (hu : ∀ i, o ≤ i → i < n → u i < 4294967296) : pC u n o q p < 2000000000004 := by
  have := cst_bd h hp hn hu (bk_lt u (pst n o q p) (pln n o q p))
  unfold pC pK
  omega
theorem pcs_bd {u : Nat → Nat} {n o q : Nat} (h : vq n o q) (hn : n ≤ 256) (hu : ∀ i, o ≤ i → i < n → u i < 4294967296) {m : Nat} (hm : m ≤ 2 ^ q) : 6 + nsum (pC u n o q) 0 m < 20000000000000 := by
  have h1 := nsum_le (f := pC u n o q) (B := 2000000000004) (m := m) (i := 0) (fun j _ h2 => by
    have := pC_bd h (show j < 2 ^ q by omega) hn hu
    omega)
  have h2 : 2 ^ q ≤ 2 ^ 3 := Nat.pow_le_pow_right (by omega) h.1
  have h3 : m * 2000000000004 ≤ 8 * 2000000000004 := Nat.mul_le_mul_right _ (by omega)
  omega
theorem vld_dn {n o q : Nat} (h : vld n o (q + 1)) : vld n o q := by
  obtain ⟨h1, h2⟩ := h
  have e : 2 ^ (q + 1) = 2 ^ q * 2 := Nat.pow_succ _ _
  rw [e] at h1 h2
  rw [← Nat.div_div_eq_div_mul] at h2
  refine ⟨?_, by omega⟩
  have h3 : n % (2 ^ q * 2) % 2 ^ q = n % 2 ^ q := Nat.mod_mul_right_mod _ _ _
  rw [h1, Nat.zero_mod] at h3
  exact h3.symm
theorem vld_up {n o q : Nat} (h : n % 2 ^ q = 0) : vld n o (q + 1) ↔ (n / 2 ^ q % 2 = 0 ∧ o < n / 2 ^ (q + 1)) := by
  have e : 2 ^ (q + 1) = 2 ^ q * 2 := Nat.pow_succ _ _
  unfold vld
  have h1 : n % (2 ^ q * 2) = n % 2 ^ q + 2 ^ q * (n / 2 ^ q % 2) := Nat.mod_mul
  rw [e, h1, h, Nat.zero_add]
  have h2 : 0 < 2 ^ q := Nat.two_pow_pos q
  constructor
  · rintro ⟨h3, h4⟩
    exact ⟨(Nat.mul_eq_zero.mp h3).resolve_left (by omega), h4⟩
  · rintro ⟨h3, h4⟩
    rw [h3]
    exact ⟨rfl, h4⟩
theorem lN_shr {n s : Nat} (hs : s < 64) (h : n < 2 ^ 63) : lN n >>> ((nI s).toInt64 &&& 63) = lN (n / 2 ^ s) := by
  rw [lI_N, lI_shr hs (by omega) (by omega), lI_N, Int.shiftRight_eq_div_pow]
  congr 1
theorem sm31 : ∀ q, q < 31 → ((nI q &&& 31).toBitVec.smod 32).toNat = q := by decide
theorem c_finestOrder {d n o : Nat} {D : zD} {Q : zQ} (h1 : D.1 13 1 = nI n) (h2 : D.1 13 2 = nI o) (hn : n ≤ 256) (hon : o ≤ n) (hq : ∀ F, vq n o F → (∀ q, 1 ≤ q → q ≤ 3 → (vld n o q ↔ q ≤ F)) → Q (.inl (some (.int (nI F)))) 0 D) : ZM yX5_finestOrder iX5_finestOrder d [.ref 13] D Q := by
  refine z_method (by decide) rfl (Nat.le_of_ble_eq_true rfl) ?_
  refine z_at [(0, .ref 13)] ⟨rfl, trivial⟩ ?_
  have lp : ∀ (m q : Nat), q + m = 3 → n % 2 ^ q = 0 → vq n o q → (∀ q', 1 ≤ q' → q' ≤ q → vld n o q') → Z (zmk iX5_finestOrder d) 0 2 (zl [(0, .ref 13), (1, .int (nI q))]) [] D Q := by
    intro m
    induction m with
    | zero =>
      intro q hm hmod hv hall
      have hm : q = 3 := by omega
      subst hm
      refine z_iload_n dX5_finestOrder_2 (by exact rfl) ?_
      refine z_iconst dX5_finestOrder_3 ?_
      refine z_icmp_ge (tgt := 39) dX5_finestOrder_4 (by decide) (fun _ => ?_) (fun q9 => absurd ((by decide)) q9)
      refine z_iload_n dX5_finestOrder_39 (by exact rfl) ?_
      exact z_iret (st := []) rfl dX5_finestOrder_40 (hq 3 hv (fun q a b => ⟨fun _ => b, fun _ => hall q a b⟩))
    | succ m ih =>
      intro q hm hmod hv hall
      have up := vld_up (n := n) (o := o) hmod
      have stop : ¬ vld n o (q + 1) → Q (.inl (some (.int (nI q)))) 0 D := fun hno => hq q hv (fun q' a b => ⟨fun h => by
        rcases Nat.lt_or_ge q q' with hl | hl
        · exfalso
          have : ∀ t, vld n o (q + 1 + t) → vld n o (q + 1) := fun t => by
            induction t with
            | zero => exact id
            | succ t ih => exact fun h => ih (vld_dn h)
          apply hno
          apply this (q' - (q + 1))
          rw [show q + 1 + (q' - (q + 1)) = q' by omega]
          exact h
        · exact hl, fun h => hall q' a h⟩)
      have hdl : n / 2 ^ q ≤ n := Nat.div_le_self _ _
      have hdl2 : n / 2 ^ (q + 1) ≤ n := Nat.div_le_self _ _
      refine z_iload_n dX5_finestOrder_2 (by exact rfl) ?_
      refine z_iconst dX5_finestOrder_3 ?_
      refine z_icmp_ge (tgt := 39) dX5_finestOrder_4 (by decide) (fun q9 => absurd q9 ((nI_ge (a := q) (b := 3) (by omega) (by omega)))) (fun _ => ?_)
      refine z_aload_n dX5_finestOrder_7 (by exact rfl) ?_
      refine z_gfI zfx_X5_25 (by exact rfl) dX5_finestOrder_8 ?_
      refine z_eI (nI n) h1 ?_
      refine z_iload_n dX5_finestOrder_11 (by exact rfl) ?_
      refine z_ishr dX5_finestOrder_12 ?_
      refine z_eI (nI (n / 2 ^ q)) (pk_shrN (by omega) _ q (sm31 q (by omega))) ?_
      refine z_iconst dX5_finestOrder_13 ?_
      refine z_iand dX5_finestOrder_14 ?_
      refine z_eI (nI (n / 2 ^ q % 2)) (pk_andN (by omega) 1 (by decide)) ?_
      refine z_if_ne (tgt := 39) dX5_finestOrder_15 (by decide) (fun c15 => ?_) (fun c15 => ?_)
      · refine z_iload_n dX5_finestOrder_39 (by exact rfl) ?_
        exact z_iret (st := []) rfl dX5_finestOrder_40 (stop (fun h => c15 (by rw [(up.mp h).1]; rfl)))
      · refine z_aload_n dX5_finestOrder_18 (by exact rfl) ?_
        refine z_gfI zfx_X5_25 (by exact rfl) dX5_finestOrder_19 ?_
        refine z_eI (nI n) h1 ?_
        refine z_iload_n dX5_finestOrder_22 (by exact rfl) ?_
        refine z_iconst dX5_finestOrder_23 ?_
        refine z_iadd dX5_finestOrder_24 ?_
        refine z_eI (nI (q + 1)) (nI_1 q) ?_
        refine z_ishr dX5_finestOrder_25 ?_
        refine z_eI (nI (n / 2 ^ (q + 1))) (pk_shrN (by omega) _ (q + 1) (sm31 (q + 1) (by omega))) ?_
        refine z_aload_n dX5_finestOrder_26 (by exact rfl) ?_
        refine z_gfI zfx_X5_34 (by exact rfl) dX5_finestOrder_27 ?_
        refine z_eI (nI o) h2 ?_
        refine z_icmp_le (tgt := 39) dX5_finestOrder_30 (by decide) (fun c30 => ?_) (fun c30 => ?_)
        · refine z_iload_n dX5_finestOrder_39 (by exact rfl) ?_
          exact z_iret (st := []) rfl dX5_finestOrder_40 (stop (fun h => absurd ((nI_leI (a := n / 2 ^ (q + 1)) (b := o) (by omega) (by omega)).mp c30) (by
            have := (up.mp h).2
            omega)))
        · refine z_iinc dX5_finestOrder_33 (by exact rfl) ?_
          refine z_at [(0, .ref 13), (1, .int (nI (q + 1)))] ⟨rfl, congrArg (fun x => some (Value.int x)) (nI_1 q), trivial⟩ ?_
          refine z_goto (tgt := 2) dX5_finestOrder_36 (by decide) ?_
          exact (by
            have hz : n / 2 ^ q % 2 = 0 := by
              have := (nI_eq (a := n / 2 ^ q % 2) (b := 0) (by omega) (by omega)).mp c15
              exact this
            have hlt : o < n / 2 ^ (q + 1) := by
              rcases Nat.lt_or_ge o (n / 2 ^ (q + 1)) with h | h
              · exact h
              · exact absurd (nI_le h (by omega)) c30
            have hv1 : vld n o (q + 1) := up.mpr ⟨hz, hlt⟩
            exact ih (q + 1) (by omega) hv1.1 ⟨by omega, .inr hv1⟩ (fun q' a b => by
              obtain e | e : q' = q + 1 ∨ q' ≤ q := by omega
              · subst e
                exact hv1
              · exact hall q' a e))
  refine z_iconst dX5_finestOrder_0 ?_
  refine z_istore_n dX5_finestOrder_1 (Nat.le_of_ble_eq_true rfl) ?_
  exact z_at [(0, .ref 13), (1, .int (nI 0))] ⟨rfl, rfl, trivial⟩ (lp 3 0 (by omega) (by rw [Nat.pow_zero, Nat.mod_one]) ⟨by omega, .inl ⟨rfl, hon⟩⟩ (fun q' a b => by omega))
theorem c_fillL {d c n : Nat} {D : zD} {Q : zQ} {v : Int64} (hc : zac c = some (1, n)) (hn : n < 2 ^ 31) (hq : ∀ D', (∀ i, i < n → D'.2 c i = v) → zfr (fun a _ => a == c) D D' → Q (.inl none) 0 D') : ZM yJ7_fill_d0a16 iJ7_fill_d0a16 d [.ref c, .long v] D Q := by
  refine z_method (by decide) rfl (Nat.le_of_ble_eq_true rfl) ?_
  refine z_at [(0, .ref c), (1, .long v)] ⟨rfl, rfl, trivial⟩ ?_
  have lp : ∀ (m i : Nat) (D1 : zD), i + m = n → (∀ j, j < i → D1.2 c j = v) → zfr (fun a _ => a == c) D D1 → Z (zmk iJ7_fill_d0a16 d) 0 6 (zl [(0, .ref c), (1, .long v), (3, .int (nI i)), (4, .int (nI n))]) [] D1 Q := by
    intro m
    induction m with
    | zero =>
      intro i D1 hi h1 hF
      have hi : i = n := by omega
      subst hi
      refine z_iload_n dJ7_fill_d0a16_6 (by exact rfl) ?_
      refine z_iload dJ7_fill_d0a16_7 (by exact rfl) ?_
      refine z_icmp_ge (tgt := 22) dJ7_fill_d0a16_9 (by decide) (fun _ => ?_) (fun q9 => absurd ((nI_le (Nat.le_refl _) (by omega))) q9)
      exact z_vret (st := []) rfl dJ7_fill_d0a16_22 (hq D1 h1 hF)
    | succ m ih =>
      intro i D1 hi h1 hF
      refine z_iload_n dJ7_fill_d0a16_6 (by exact rfl) ?_
      refine z_iload dJ7_fill_d0a16_7 (by exact rfl) ?_
      refine z_icmp_ge (tgt := 22) dJ7_fill_d0a16_9 (by decide) (fun q9 => absurd q9 ((nI_ge (a := i) (b := n) (by omega) (by omega)))) (fun _ => ?_)
      refine z_aload_n dJ7_fill_d0a16_12 (by exact rfl) ?_
      refine z_iload_n dJ7_fill_d0a16_13 (by exact rfl) ?_
      refine z_lload_n dJ7_fill_d0a16_14 (by exact rfl) ?_
      refine z_sJ hc dJ7_fill_d0a16_15 (vp_in_nI (by omega) (by omega)) ?_
      rw [nI_clamp (n := i) (by omega)]
      refine z_iinc dJ7_fill_d0a16_16 (by exact rfl) ?_
      refine z_at [(0, .ref c), (1, .long v), (3, .int (nI (i + 1))), (4, .int (nI n))] ⟨rfl, rfl, congrArg (fun x => some (Value.int x)) (nI_1 i), rfl, trivial⟩ ?_
      refine z_goto (tgt := 6) dJ7_fill_d0a16_19 (by decide) ?_
      exact ih (i + 1) _ (by omega) (fun j hj => by
        obtain q | q : j = i ∨ j < i := by omega
        · subst q
          exact zuL_at _ _ _ _
        · rw [zuL_ne (by omega)]
          exact h1 j q) (hF.uL _ (by simp))
  refine z_iconst dJ7_fill_d0a16_0 ?_
  refine z_istore_n dJ7_fill_d0a16_1 (Nat.le_of_ble_eq_true rfl) ?_
  refine z_aload_n dJ7_fill_d0a16_2 (by exact rfl) ?_
  refine z_alenJ hc dJ7_fill_d0a16_3 ?_
  refine z_istore dJ7_fill_d0a16_4 (Nat.le_of_ble_eq_true rfl) ?_
  exact z_at [(0, .ref c), (1, .long v), (3, .int (nI 0)), (4, .int (nI n))] ⟨rfl, rfl, rfl, rfl, trivial⟩ (lp n 0 D (by omega) (fun j hj => by omega) zfr.rf)
def f15 (a _ : Nat) : Bool := a == 15
theorem zx_X5_87 : zmaxw RX5 87 = true := by decide +kernel
theorem pst_max {n o q p : Nat} (h : vq n o q) (hp : p < 2 ^ q) (hn : n ≤ 256) : (if nI o < nI (p * (n / 2 ^ q)) then nI (p * (n / 2 ^ q)) else nI o) = nI (pst n o q p) := by
  obtain ⟨h1, h2, h3, h4⟩ := part_in h hp
  have h5 : pst n o q p = if p = 0 then o else p * (n / 2 ^ q) := rfl
  by_cases hp0 : p = 0
  · subst hp0
    rw [if_pos rfl] at h5
    rw [h5, if_neg (fun q => by
      have := (nI_ltI (a := o) (b := 0 * (n / 2 ^ _)) (by omega) (by omega)).mp q
      omega)]
  · rw [if_neg hp0] at h5
    rw [h5] at h1 ⊢
    by_cases e : o < p * (n / 2 ^ q)
    · rw [if_pos (nI_lt e (by omega))]
    · rw [if_neg (fun q => e ((nI_ltI (by omega) (by omega)).mp q))]
      congr 1
      omega
def sumsOf (D : zD) (u : Nat → Nat) (n o q : Nat) : Prop := ∀ p, p < 2 ^ q → ∀ k, k < 15 → D.2 15 (15 * p + k) = lN (ssum u k (pst n o q p) (pln n o q p))
theorem c_addUp {d n o q : Nat} {D : zD} {Q : zQ} {u : Nat → Nat} (h1 : D.1 13 1 = nI n) (h2 : D.1 13 2 = nI o) (hn : n ≤ 256) (hv : vq n o q) (hu : ∀ i, o ≤ i → i < n → D.2 14 i = lN (u i) ∧ u i < 4294967296) (hq : ∀ D', sumsOf D' u n o q → zfr f15 D D' → Q (.inl none) 0 D') : ZM yX5_addUp iX5_addUp (d + 1) [.ref 13, .int (nI q)] D Q := by
  refine z_method (by decide) rfl (Nat.le_of_ble_eq_true rfl) ?_
  refine z_at [(0, .ref 13), (1, .int (nI q))] ⟨rfl, rfl, trivial⟩ ?_
  have hub : ∀ i, o ≤ i → i < n → u i < 4294967296 := fun i a b => (hu i a b).2
  have hq3 := hv.1
  have hLn : n / 2 ^ q ≤ n := Nat.div_le_self _ _
  have h8 : 2 ^ q ≤ 2 ^ 3 := Nat.pow_le_pow_right (by omega) hq3
  -- parts ahead of p are done; of part p, m numbers; the others 0
  have hset : ∀ {D1 : zD}, zfr f15 D D1 → D1.1 13 1 = nI n ∧ D1.1 13 2 = nI o ∧ ∀ i, o ≤ i → i < n → D1.2 14 i = lN (u i) := fun hF => ⟨(hF.1 13 1 rfl).trans h1, (hF.1 13 2 rfl).trans h2, fun i a b => (hF.2 14 i rfl).trans (hu i a b).1⟩
  have keys : ∀ (p m : Nat), p < 2 ^ q → m < pln n o q p → (∀ (D1 : zD), (∀ p', p' < p → ∀ k, k < 15 → D1.2 15 (15 * p' + k) = lN (ssum u k (pst n o q p') (pln n o q p'))) → (∀ k, k < 15 → D1.2 15 (15 * p + k) = lN (ssum u k (pst n o q p) (m + 1))) → (∀ p', p < p' → p' < 2 ^ q → ∀ k, k < 15 → D1.2 15 (15 * p' + k) = lN 0) → zfr f15 D D1 → Z (zmk iX5_addUp (d + 1)) 0 101 (zl [(0, .ref 13), (1, .int (nI q)), (2, .int (nI (n / 2 ^ q))), (3, .int (nI p)), (4, .int (nI (pst n o q p + m)))]) [] D1 Q) →
      ∀ (j k : Nat) (D1 : zD), k + j = 15 → (∀ p', p' < p → ∀ k, k < 15 → D1.2 15 (15 * p' + k) = lN (ssum u k (pst n o q p') (pln n o q p'))) → (∀ k', k' < 15 → D1.2 15 (15 * p + k') = lN (ssum u k' (pst n o q p) (if k' < k then m + 1 else m))) → (∀ p', p < p' → p' < 2 ^ q → ∀ k, k < 15 → D1.2 15 (15 * p' + k) = lN 0) → zfr f15 D D1 → Z (zmk iX5_addUp (d + 1)) 0 58 (zl [(0, .ref 13), (1, .int (nI q)), (2, .int (nI (n / 2 ^ q))), (3, .int (nI p)), (4, .int (nI (pst n o q p + m))), (5, .long (lN (u (pst n o q p + m) / 2 ^ k))), (7, .int (nI k))]) [] D1 Q := by
    intro p m hp hm next j
    obtain ⟨q1, q2, q3, q4⟩ := part_in hv hp
    have hp8 := p2_le hq3 hp
    have hui := (hu (pst n o q p + m) (by omega) (by omega)).2
    have hst : ∀ k, ssum u k (pst n o q p) (m + 1) = ssum u k (pst n o q p) m + u (pst n o q p + m) / 2 ^ k := fun k => nsum_r _ _ _
    induction j with
    | zero =>
      intro k D1 hk g1 g2 g3 hF
      have hk : k = 15 := by omega
      subst hk
      refine z_iload dX5_addUp_58 (by exact rfl) ?_
      refine z_bipush dX5_addUp_60 ?_
      refine z_icmp_ge (tgt := 101) dX5_addUp_62 (by decide) (fun _ => ?_) (fun q9 => absurd ((by decide)) q9)
      exact z_at [(0, .ref 13), (1, .int (nI q)), (2, .int (nI (n / 2 ^ q))), (3, .int (nI p)), (4, .int (nI (pst n o q p + m)))] ⟨rfl, rfl, rfl, rfl, rfl, trivial⟩ (next D1 g1 (fun k hk => by
        have := g2 k hk
        rw [if_pos hk] at this
        exact this) g3 hF)
    | succ j ih =>
      intro k D1 hk g1 g2 g3 hF
      have hdv : ∀ k, u (pst n o q p + m) / 2 ^ k ≤ u (pst n o q p + m) := fun k => Nat.div_le_self _ _
      have hdk := hdv k
      have hix : nI p * (Int8.ofInt 15).toInt32 + nI k = nI (15 * p + k) := by
        rw [show (Int8.ofInt 15).toInt32 = nI 15 from rfl, pk_mul, nI_add, Nat.mul_comm]
      have cl : (nI (15 * p + k)).toNatClampNeg = 15 * p + k := nI_clamp (by omega)
      have hsb := ssum_bd (k := k) hv hp hn hub (m := m) (by omega)
      refine z_iload dX5_addUp_58 (by exact rfl) ?_
      refine z_bipush dX5_addUp_60 ?_
      refine z_icmp_ge (tgt := 101) dX5_addUp_62 (by decide) (fun q9 => absurd q9 ((nI_ge (a := k) (b := 15) (by omega) (by omega)))) (fun _ => ?_)
      refine z_lload dX5_addUp_65 (by exact rfl) ?_
      refine z_lconst dX5_addUp_67 ?_
      refine z_le (tgt := 101) dX5_addUp_68 dX5_addUp_69 (by decide) (fun c68 => ?_) (fun c68 => ?_)
      · exact z_at [(0, .ref 13), (1, .int (nI q)), (2, .int (nI (n / 2 ^ q))), (3, .int (nI p)), (4, .int (nI (pst n o q p + m)))] ⟨rfl, rfl, rfl, rfl, rfl, trivial⟩ (next D1 g1 (fun k' hk' => by
          have h0 : u (pst n o q p + m) / 2 ^ k = 0 := by
            exact Nat.le_zero.mp ((pk_lLE (a := u (pst n o q p + m) / 2 ^ k) (b := 0) (Nat.lt_of_le_of_lt hdk (by omega)) (by omega)).mp c68)
          have g := g2 k' hk'
          by_cases e : k' < k
          · rw [if_pos e] at g
            exact g
          · rw [if_neg e] at g
            have h7 : u (pst n o q p + m) / 2 ^ k' ≤ u (pst n o q p + m) / 2 ^ k := Nat.div_le_div_left (Nat.pow_le_pow_right (by omega) (by omega)) (Nat.two_pow_pos k)
            rw [h0] at h7
            rw [g, hst, Nat.le_zero.mp h7, Nat.add_zero]) g3 hF)
      · refine z_aload_n dX5_addUp_72 (by exact rfl) ?_
        refine z_gfA zfx_X5_15 (by exact rfl) dX5_addUp_73 ?_
        refine z_iload_n dX5_addUp_76 (by exact rfl) ?_
        refine z_bipush dX5_addUp_77 ?_
        refine z_imul dX5_addUp_79 ?_
        refine z_iload dX5_addUp_80 (by exact rfl) ?_
        refine z_iadd dX5_addUp_82 ?_
        refine z_eI (nI (15 * p + k)) hix ?_
        refine z_dup2 dX5_addUp_83 (by exact rfl) (by exact rfl) ?_
        refine z_aJ (by exact rfl) dX5_addUp_84 (vp_in_nI (by omega) (by omega)) ?_
        refine z_eJ (lN (ssum u k (pst n o q p) m)) (by
          rw [cl, g2 k (by omega), if_neg (by omega)]) ?_
        refine z_lload dX5_addUp_85 (by exact rfl) ?_
        refine z_ladd dX5_addUp_87 ?_
        refine z_eJ (lN (ssum u k (pst n o q p) (m + 1))) (by rw [lN_add, hst]) ?_
        refine z_sJ (by exact rfl) dX5_addUp_88 (vp_in_nI (by omega) (by omega)) ?_
        rw [cl]
        refine z_lload dX5_addUp_89 (by exact rfl) ?_
        refine z_iconst dX5_addUp_91 ?_
        refine z_lshr dX5_addUp_92 ?_
        refine z_eJ (lN (u (pst n o q p + m) / 2 ^ (k + 1))) (by
          rw [show Int32.ofInt 1 = nI 1 from rfl, lN_shr (s := 1) (by omega) (Nat.lt_of_le_of_lt hdk (by omega)), Nat.pow_one, Nat.div_div_eq_div_mul, ← Nat.pow_succ]) ?_
        refine z_lstore dX5_addUp_93 (Nat.le_of_ble_eq_true rfl) ?_
        refine z_iinc dX5_addUp_95 (by exact rfl) ?_
        refine z_at [(0, .ref 13), (1, .int (nI q)), (2, .int (nI (n / 2 ^ q))), (3, .int (nI p)), (4, .int (nI (pst n o q p + m))), (5, .long (lN (u (pst n o q p + m) / 2 ^ (k + 1)))), (7, .int (nI (k + 1)))] ⟨rfl, rfl, rfl, rfl, rfl, rfl, congrArg (fun x => some (Value.int x)) (nI_1 k), trivial⟩ ?_
        refine z_goto (tgt := 58) dX5_addUp_98 (by decide) ?_
        exact ih (k + 1) _ (by omega) (fun p' hp' k' hk' => by
          rw [zuL_ne (by omega)]
          exact g1 p' hp' k' hk') (fun k' hk' => by
          by_cases e : k' = k
          · subst e
            rw [zuL_at, if_pos (by omega)]
          · rw [zuL_ne (by omega), g2 k' hk']
            by_cases e2 : k' < k
            · rw [if_pos e2, if_pos (by omega)]
            · rw [if_neg e2, if_neg (by omega)]) (fun p' hp' hp2 k' hk' => by
          rw [zuL_ne (by omega)]
          exact g3 p' hp' hp2 k' hk') (hF.uL _ rfl)
  have nums : ∀ (p : Nat), p < 2 ^ q → (∀ (D1 : zD), (∀ p', p' < p + 1 → ∀ k, k < 15 → D1.2 15 (15 * p' + k) = lN (ssum u k (pst n o q p') (pln n o q p'))) → (∀ p', p + 1 ≤ p' → p' < 2 ^ q → ∀ k, k < 15 → D1.2 15 (15 * p' + k) = lN 0) → zfr f15 D D1 → Z (zmk iX5_addUp (d + 1)) 0 107 (zl [(0, .ref 13), (1, .int (nI q)), (2, .int (nI (n / 2 ^ q))), (3, .int (nI p))]) [] D1 Q) →
      ∀ (j m : Nat) (D1 : zD), m + j = pln n o q p → (∀ p', p' < p → ∀ k, k < 15 → D1.2 15 (15 * p' + k) = lN (ssum u k (pst n o q p') (pln n o q p'))) → (∀ k, k < 15 → D1.2 15 (15 * p + k) = lN (ssum u k (pst n o q p) m)) → (∀ p', p < p' → p' < 2 ^ q → ∀ k, k < 15 → D1.2 15 (15 * p' + k) = lN 0) → zfr f15 D D1 → Z (zmk iX5_addUp (d + 1)) 0 36 (zl [(0, .ref 13), (1, .int (nI q)), (2, .int (nI (n / 2 ^ q))), (3, .int (nI p)), (4, .int (nI (pst n o q p + m)))]) [] D1 Q := by
    intro p hp next j
    obtain ⟨q1, q2, q3, q4⟩ := part_in hv hp
    have hend : (nI p + Int32.ofInt 1) * nI (n / 2 ^ q) = nI ((p + 1) * (n / 2 ^ q)) := by
      rw [show nI p + Int32.ofInt 1 = nI (p + 1) from nI_1 p, pk_mul]
    induction j with
    | zero =>
      intro m D1 hm g1 g2 g3 hF
      have hm : m = pln n o q p := by omega
      subst hm
      refine z_iload dX5_addUp_36 (by exact rfl) ?_
      refine z_iload_n dX5_addUp_38 (by exact rfl) ?_
      refine z_iconst dX5_addUp_39 ?_
      refine z_iadd dX5_addUp_40 ?_
      refine z_iload_n dX5_addUp_41 (by exact rfl) ?_
      refine z_imul dX5_addUp_42 ?_
      refine z_eI (nI ((p + 1) * (n / 2 ^ q))) hend ?_
      refine z_icmp_ge (tgt := 107) dX5_addUp_43 (by decide) (fun _ => ?_) (fun q9 => absurd ((nI_le (by omega) (by omega))) q9)
      exact z_at [(0, .ref 13), (1, .int (nI q)), (2, .int (nI (n / 2 ^ q))), (3, .int (nI p))] ⟨rfl, rfl, rfl, rfl, trivial⟩ (next D1 (fun p' hp' k hk => by
        obtain e | e : p' = p ∨ p' < p := by omega
        · subst e
          exact g2 k hk
        · exact g1 p' e k hk) g3 hF)
    | succ j ih =>
      intro m D1 hm g1 g2 g3 hF
      refine z_iload dX5_addUp_36 (by exact rfl) ?_
      refine z_iload_n dX5_addUp_38 (by exact rfl) ?_
      refine z_iconst dX5_addUp_39 ?_
      refine z_iadd dX5_addUp_40 ?_
      refine z_iload_n dX5_addUp_41 (by exact rfl) ?_
      refine z_imul dX5_addUp_42 ?_
      refine z_eI (nI ((p + 1) * (n / 2 ^ q))) hend ?_
      refine z_icmp_ge (tgt := 107) dX5_addUp_43 (by decide) (fun q9 => absurd q9 ((nI_ge (by omega) (by omega)))) (fun _ => ?_)
      refine z_aload_n dX5_addUp_46 (by exact rfl) ?_
      refine z_gfA zfx_X5_9 (by exact rfl) dX5_addUp_47 ?_
      refine z_iload dX5_addUp_50 (by exact rfl) ?_
      refine z_aJ (by exact rfl) dX5_addUp_52 (vp_in_nI (by omega) (by omega)) ?_
      refine z_eJ (lN (u (pst n o q p + m) / 2 ^ 0)) (by
        rw [nI_clamp (n := pst n o q p + m) (by omega), Nat.pow_zero, Nat.div_one]
        exact (hset hF).2.2 _ (by omega) (by omega)) ?_
      refine z_lstore dX5_addUp_53 (Nat.le_of_ble_eq_true rfl) ?_
      refine z_iconst dX5_addUp_55 ?_
      refine z_istore dX5_addUp_56 (Nat.le_of_ble_eq_true rfl) ?_
      exact z_at [(0, .ref 13), (1, .int (nI q)), (2, .int (nI (n / 2 ^ q))), (3, .int (nI p)), (4, .int (nI (pst n o q p + m))), (5, .long (lN (u (pst n o q p + m) / 2 ^ 0))), (7, .int (nI 0))] ⟨rfl, rfl, rfl, rfl, rfl, rfl, rfl, trivial⟩ (keys p m hp (by omega) (fun D2 k1 k2 k3 hF2 => by
        refine z_iinc dX5_addUp_101 (by exact rfl) ?_
        refine z_at [(0, .ref 13), (1, .int (nI q)), (2, .int (nI (n / 2 ^ q))), (3, .int (nI p)), (4, .int (nI (pst n o q p + (m + 1))))] ⟨rfl, rfl, rfl, rfl, congrArg (fun x => some (Value.int x)) (nI_1 _), trivial⟩ ?_
        refine z_goto (tgt := 36) dX5_addUp_104 (by decide) ?_
        exact ih (m + 1) D2 (by omega) k1 k2 k3 hF2
        ) 15 0 D1 (by omega) g1 (fun k' hk' => by
        rw [if_neg (by omega)]
        exact g2 k' hk') g3 hF)
  have parts : ∀ (j p : Nat) (D1 : zD), p + j = 2 ^ q → (∀ p', p' < p → ∀ k, k < 15 → D1.2 15 (15 * p' + k) = lN (ssum u k (pst n o q p') (pln n o q p'))) → (∀ p', p ≤ p' → p' < 2 ^ q → ∀ k, k < 15 → D1.2 15 (15 * p' + k) = lN 0) → zfr f15 D D1 → Z (zmk iX5_addUp (d + 1)) 0 17 (zl [(0, .ref 13), (1, .int (nI q)), (2, .int (nI (n / 2 ^ q))), (3, .int (nI p))]) [] D1 Q := by
    intro j
    induction j with
    | zero =>
      intro p D1 hp g1 g2 hF
      have hp : p = 2 ^ q := by omega
      subst hp
      refine z_iload_n dX5_addUp_17 (by exact rfl) ?_
      refine z_iconst dX5_addUp_18 ?_
      refine z_iload_n dX5_addUp_19 (by exact rfl) ?_
      refine z_ishl dX5_addUp_20 ?_
      refine z_eI (nI (2 ^ q)) (q_p2 q (by omega)) ?_
      refine z_icmp_ge (tgt := 113) dX5_addUp_21 (by decide) (fun _ => ?_) (fun q9 => absurd ((nI_le (Nat.le_refl _) (by omega))) q9)
      exact z_vret (st := []) rfl dX5_addUp_113 (hq D1 g1 hF)
    | succ j ih =>
      intro p D1 hp g1 g2 hF
      have hp2 : p < 2 ^ q := by omega
      obtain ⟨q1, q2, q3, q4⟩ := part_in hv hp2
      refine z_iload_n dX5_addUp_17 (by exact rfl) ?_
      refine z_iconst dX5_addUp_18 ?_
      refine z_iload_n dX5_addUp_19 (by exact rfl) ?_
      refine z_ishl dX5_addUp_20 ?_
      refine z_eI (nI (2 ^ q)) (q_p2 q (by omega)) ?_
      refine z_icmp_ge (tgt := 113) dX5_addUp_21 (by decide) (fun q9 => absurd q9 ((nI_ge (a := p) (b := 2 ^ q) (by omega) (by omega)))) (fun _ => ?_)
      refine z_aload_n dX5_addUp_24 (by exact rfl) ?_
      refine z_gfI zfx_X5_34 (by exact rfl) dX5_addUp_25 ?_
      refine z_eI (nI o) (hset hF).2.1 ?_
      refine z_iload_n dX5_addUp_28 (by exact rfl) ?_
      refine z_iload_n dX5_addUp_29 (by exact rfl) ?_
      refine z_imul dX5_addUp_30 ?_
      refine z_eI (nI (p * (n / 2 ^ q))) (pk_mul _ _) ?_
      refine z_max dX5_addUp_31 zx_X5_87 (Nat.le_of_ble_eq_true rfl) (Nat.le_of_ble_eq_true rfl) ?_
      refine z_eI (nI (pst n o q p)) (pst_max hv hp2 hn) ?_
      refine z_istore dX5_addUp_34 (Nat.le_of_ble_eq_true rfl) ?_
      exact z_at [(0, .ref 13), (1, .int (nI q)), (2, .int (nI (n / 2 ^ q))), (3, .int (nI p)), (4, .int (nI (pst n o q p + 0)))] ⟨rfl, rfl, rfl, rfl, rfl, trivial⟩ (nums p hp2 (fun D2 k1 k2 hF2 => by
        refine z_iinc dX5_addUp_107 (by exact rfl) ?_
        refine z_at [(0, .ref 13), (1, .int (nI q)), (2, .int (nI (n / 2 ^ q))), (3, .int (nI (p + 1)))] ⟨rfl, rfl, rfl, congrArg (fun x => some (Value.int x)) (nI_1 _), trivial⟩ ?_
        refine z_goto (tgt := 17) dX5_addUp_110 (by decide) ?_
        exact ih (p + 1) D2 (by omega) k1 k2 hF2
        ) (pln n o q p) 0 D1 (by omega) g1 (fun k hk => g2 p (Nat.le_refl _) hp2 k hk) (fun p' a b => g2 p' (by omega) b) hF)
  refine z_aload_n dX5_addUp_0 (by exact rfl) ?_
  refine z_gfA zfx_X5_15 (by exact rfl) dX5_addUp_1 ?_
  refine z_lconst dX5_addUp_4 ?_
  refine z_cS dX5_addUp_5 zk_X5_81 (by exact rfl) (Nat.le_of_ble_eq_true rfl) (Nat.le_of_ble_eq_true rfl) (Nat.le_refl _) ?_
  refine c_fillL (n := 120) rfl (by omega) (fun D1 g hF => ?_)
  refine z_aload_n dX5_addUp_8 (by exact rfl) ?_
  refine z_gfI zfx_X5_25 (by exact rfl) dX5_addUp_9 ?_
  refine z_eI (nI n) (hset hF).1 ?_
  refine z_iload_n dX5_addUp_12 (by exact rfl) ?_
  refine z_ishr dX5_addUp_13 ?_
  refine z_eI (nI (n / 2 ^ q)) (pk_shrN (by omega) _ q (sm31 q (by omega))) ?_
  refine z_istore_n dX5_addUp_14 (Nat.le_of_ble_eq_true rfl) ?_
  refine z_iconst dX5_addUp_15 ?_
  refine z_istore_n dX5_addUp_16 (Nat.le_of_ble_eq_true rfl) ?_
  exact z_at [(0, .ref 13), (1, .int (nI q)), (2, .int (nI (n / 2 ^ q))), (3, .int (nI 0))] ⟨rfl, rfl, rfl, rfl, trivial⟩ (parts (2 ^ q) 0 D1 (by omega) (fun p' hp' => by omega) (fun p' _ hp' k hk => by
    have := p2_le hq3 hp'
    exact g _ (by omega)) hF)
