/-! ===== Residuals.measure ===== -/
theorem bqR_best {u : Nat → Nat} {n o F : Nat} (hF : ∀ q, 1 ≤ q → q ≤ 3 → (vld n o q ↔ q ≤ F)) : ∀ m, m ≤ 3 → bqR u n o m ≤ m ∧ bqR u n o m ≤ F ∧ (∀ q, q ≤ m → q ≤ F → pcs u n o (bqR u n o m) ≤ pcs u n o q) ∧ (∀ q, q < bqR u n o m → pcs u n o (bqR u n o m) < pcs u n o q)
  | 0, _ => ⟨Nat.le_refl _, Nat.zero_le _, fun q h _ => by
      have : q = 0 := by omega
      subst this
      exact Nat.le_refl _, fun q h => absurd h (Nat.not_lt_zero _)⟩
  | m + 1, hm => by
    obtain ⟨h1, h2, h3, h4⟩ := bqR_best (u := u) hF m (by omega)
    have hv := hF (m + 1) (by omega) hm
    unfold vld at hv
    have e : bqR u n o (m + 1) = if (n % 2 ^ (m + 1) = 0 ∧ o < n / 2 ^ (m + 1)) ∧ pcs u n o (m + 1) < pcs u n o (bqR u n o m) then m + 1 else bqR u n o m := rfl
    by_cases hc : (n % 2 ^ (m + 1) = 0 ∧ o < n / 2 ^ (m + 1)) ∧ pcs u n o (m + 1) < pcs u n o (bqR u n o m)
    · rw [e, if_pos hc]
      have hmF := hv.mp hc.1
      refine ⟨Nat.le_refl _, hmF, fun q a b => ?_, fun q a => ?_⟩
      · obtain e2 | e2 : q = m + 1 ∨ q ≤ m := by omega
        · subst e2
          exact Nat.le_refl _
        · have := h3 q e2 b
          omega
      · have := h3 q (by omega) (by omega)
        omega
    · rw [e, if_neg hc]
      refine ⟨by omega, h2, fun q a b => ?_, h4⟩
      obtain e2 | e2 : q = m + 1 ∨ q ≤ m := by omega
      · subst e2
        have := hv.mpr b
        rcases Nat.lt_or_ge (pcs u n o (m + 1)) (pcs u n o (bqR u n o m)) with hl | hl
        · exact absurd ⟨this, hl⟩ hc
        · exact hl
      · exact h3 q e2 b
theorem vq_of {n o F q : Nat} (hv : vq n o F) (hF : ∀ q, 1 ≤ q → q ≤ 3 → (vld n o q ↔ q ≤ F)) (hon : o ≤ n) (h : q ≤ F) : vq n o q := by
  have := hv.1
  refine ⟨by omega, ?_⟩
  rcases Nat.eq_zero_or_pos q with h0 | h0
  · exact .inl ⟨h0, hon⟩
  · exact .inr ((hF q h0 (by omega)).mpr h)
theorem bq_vq {u : Nat → Nat} {n o F : Nat} (hv : vq n o F) (hF : ∀ q, 1 ≤ q → q ≤ 3 → (vld n o q ↔ q ≤ F)) (hon : o ≤ n) : vq n o (bq u n o) := vq_of hv hF hon (bqR_best hF 3 (Nat.le_refl _)).2.1
theorem bq_u {u : Nat → Nat} {n o F b : Nat} (hv : vq n o F) (hF : ∀ q, 1 ≤ q → q ≤ 3 → (vld n o q ↔ q ≤ F)) (h1 : b ≤ F) (h2 : ∀ q, q ≤ F → pcs u n o b ≤ pcs u n o q) (h3 : ∀ q, q < b → pcs u n o b < pcs u n o q) : b = bq u n o := by
  obtain ⟨g1, g2, g3, g4⟩ := bqR_best (u := u) hF 3 (Nat.le_refl _)
  have h4 := hv.1
  have e1 := g3 b (by omega) h1
  have e2 := h2 _ g2
  unfold bq
  rcases Nat.lt_trichotomy b (bqR u n o 3) with h | h | h
  · have := g4 b h
    omega
  · exact h
  · have := h3 _ h
    omega
def fM8 (a k : Nat) : Bool := a == 15 || (a == 16 || (a == 17 || (a == 13 && (k == 6 || k == 7))))
theorem fM8_15 (a k : Nat) (h : fM8 a k = false) : f15 a k = false := or_l h
theorem fM8_17 (a k : Nat) (h : fM8 a k = false) : f17 a k = false := or_l (or_r (or_r h))
theorem zc_X5_72 : zcpyw RX5 72 = true := by decide +kernel
theorem c_measure8 {d n o : Nat} {D : zD} {Q : zQ} {u : Nat → Nat} (h1 : D.1 13 1 = nI n) (h2 : D.1 13 2 = nI o) (hn : n ≤ 256) (hon : o ≤ n) (hu : ∀ i, o ≤ i → i < n → D.2 14 i = lN (u i) ∧ u i < 4294967296) (hq : ∀ D', vq n o (bq u n o) → D'.1 13 6 = nI (bq u n o) → D'.2 13 7 = lN (lc u n o) → (∀ p, p < 2 ^ bq u n o → D'.1 16 p = nI (pK u n o (bq u n o) p)) → zfr fM8 D D' → Q (.inl none) 0 D') : ZM yX5_measure iX5_measure (d + 2) [.ref 13] D Q := by
  refine z_method (by decide) rfl (Nat.le_of_ble_eq_true rfl) ?_
  refine z_at [(0, .ref 13)] ⟨rfl, trivial⟩ ?_
  have hub : ∀ i, o ≤ i → i < n → u i < 4294967296 := fun i a b => (hu i a b).2
  have hset : ∀ {D1 : zD}, zfr fM8 D D1 → D1.1 13 1 = nI n ∧ D1.1 13 2 = nI o := fun hF => ⟨(hF.1 13 1 rfl).trans h1, (hF.1 13 2 rfl).trans h2⟩
  have lp : ∀ F, vq n o F → (∀ q, 1 ≤ q → q ≤ 3 → (vld n o q ↔ q ≤ F)) → ∀ (m : Nat) (D1 : zD) (z : Nat), m ≤ F + 1 → D1.2 13 7 = lN z → ((m = F + 1 ∧ z = 9223372036854775807) ∨ (∃ b, m ≤ b ∧ b ≤ F ∧ z = pcs u n o b ∧ (∀ q, m ≤ q → q ≤ F → pcs u n o b ≤ pcs u n o q) ∧ (∀ q, m ≤ q → q < b → pcs u n o b < pcs u n o q) ∧ D1.1 13 6 = nI b ∧ (∀ p, p < 2 ^ b → D1.1 16 p = nI (pK u n o b p)))) → (1 ≤ m → sumsOf D1 u n o (m - 1)) → zfr fM8 D D1 → Z (zmk iX5_measure (d + 2)) 0 19 (zl [(0, .ref 13), (2, .int (iI ((m : Int) - 1)))]) [] D1 Q := by
    intro F hv hF m
    have hF3 := hv.1
    induction m with
    | zero =>
      intro D1 z hm hz hb hs hFr
      obtain ⟨b, b1, b2, b3, b4, b5, b6, b7⟩ : ∃ b, 0 ≤ b ∧ b ≤ F ∧ z = pcs u n o b ∧ (∀ q, 0 ≤ q → q ≤ F → pcs u n o b ≤ pcs u n o q) ∧ (∀ q, 0 ≤ q → q < b → pcs u n o b < pcs u n o q) ∧ D1.1 13 6 = nI b ∧ (∀ p, p < 2 ^ b → D1.1 16 p = nI (pK u n o b p)) := by
        rcases hb with ⟨h, _⟩ | h
        · omega
        · exact h
      have eb : b = bq u n o := bq_u hv hF b2 (fun q h => b4 q (Nat.zero_le _) h) (fun q h => b5 q (Nat.zero_le _) h)
      subst eb
      refine z_iload_n dX5_measure_19 (by exact rfl) ?_
      refine z_if_lt (tgt := 75) dX5_measure_20 (by decide) (fun _ => ?_) (fun q9 => absurd ((by decide)) q9)
      exact z_vret (st := []) rfl dX5_measure_75 (hq D1 (bq_vq hv hF hon) b6 (by rw [hz, b3]; rfl) b7 hFr)
    | succ m ih =>
      intro D1 z hm hz hb hs hFr
      have hvm : vq n o m := vq_of hv hF hon (by omega)
      have hpb := pcs_bd hvm hn hub (Nat.le_refl _)
      have hsm := hs (by omega)
      rw [Nat.add_sub_cancel] at hsm
      have ex : iI (((m + 1 : Nat) : Int) - 1) = nI m := by
        rw [iI_N]
        congr 1
        omega
      have ey : nI m + Int32.ofInt (-1) = iI ((m : Int) - 1) := by
        rw [iI_N]
        exact iI_add _ _
      have hzb : z < 2 ^ 63 := by
        rcases hb with ⟨_, h⟩ | ⟨b, b1, b2, b3, _⟩
        · omega
        · have := pcs_bd (vq_of hv hF hon b2) hn hub (Nat.le_refl _)
          have e : pcs u n o b = 6 + nsum (pC u n o b) 0 (2 ^ b) := rfl
          omega
      have epc : pcs u n o m = 6 + nsum (pC u n o m) 0 (2 ^ m) := rfl
      have tl : ∀ (D2 : zD) (z2 : Nat), D2.2 13 7 = lN z2 → (∃ b, m ≤ b ∧ b ≤ F ∧ z2 = pcs u n o b ∧ (∀ q, m ≤ q → q ≤ F → pcs u n o b ≤ pcs u n o q) ∧ (∀ q, m ≤ q → q < b → pcs u n o b < pcs u n o q) ∧ D2.1 13 6 = nI b ∧ (∀ p, p < 2 ^ b → D2.1 16 p = nI (pK u n o b p))) → sumsOf D2 u n o m → zfr fM8 D D2 → Z (zmk iX5_measure (d + 2)) 0 64 (zl [(0, .ref 13), (2, .int (nI m))]) [] D2 Q := by
        intro D2 z2 e1 hb2 hs2 hF2
        refine z_aload_n dX5_measure_64 (by exact rfl) ?_
        refine z_iload_n dX5_measure_65 (by exact rfl) ?_
        refine z_cV dX5_measure_66 zk_X5_78 (by exact rfl) (by exact rfl) (by exact rfl) (Nat.le_of_ble_eq_true rfl) (Nat.le_of_ble_eq_true rfl) (Nat.le_refl _) ?_
        refine c_joinPairs hn hvm hs2 (fun D3 k3 hf3 => ?_)
        refine z_iinc dX5_measure_69 (by exact rfl) ?_
        refine z_at [(0, .ref 13), (2, .int (iI ((m : Int) - 1)))] ⟨rfl, congrArg (fun x => some (Value.int x)) ey, trivial⟩ ?_
        refine z_goto (tgt := 19) dX5_measure_72 (by decide) ?_
        exact ih D3 z2 (by omega) ((hf3.2 13 7 rfl).trans e1) (.inr (by
          obtain ⟨b, b1, b2, b3, b4, b5, b6, b7⟩ := hb2
          exact ⟨b, b1, b2, b3, b4, b5, (hf3.1 13 6 rfl).trans b6, fun p hp => (hf3.1 16 p rfl).trans (b7 p hp)⟩)) k3 (hF2.tr (hf3.wk fM8_15))
      refine z_at [(0, .ref 13), (2, .int (nI m))] ⟨rfl, congrArg (fun x => some (Value.int x)) ex, trivial⟩ ?_
      refine z_iload_n dX5_measure_19 (by exact rfl) ?_
      refine z_if_lt (tgt := 75) dX5_measure_20 (by decide) (fun q9 => absurd q9 ((nI_pos (by omega)))) (fun _ => ?_)
      refine z_aload_n dX5_measure_23 (by exact rfl) ?_
      refine z_iload_n dX5_measure_24 (by exact rfl) ?_
      refine z_cV dX5_measure_25 zk_X5_67 (by exact rfl) (by exact rfl) (by exact rfl) (Nat.le_of_ble_eq_true rfl) (Nat.le_of_ble_eq_true rfl) (Nat.le_refl _) ?_
      refine c_bitsInParts (hset hFr).1 (hset hFr).2 hn hvm hub hsm (fun D2 k2 hf2 => ?_)
      have hF2 := hFr.tr (hf2.wk fM8_17)
      have hs2 : sumsOf D2 u n o m := fun p hp k hk => (hf2.2 15 _ rfl).trans (hsm p hp k hk)
      refine z_lstore_n dX5_measure_28 (Nat.le_of_ble_eq_true rfl) ?_
      refine z_lload_n dX5_measure_29 (by exact rfl) ?_
      refine z_aload_n dX5_measure_30 (by exact rfl) ?_
      refine z_gfL zfx_X5_63 (by exact rfl) dX5_measure_31 ?_
      refine z_eJ (lN z) ((hf2.2 13 7 rfl).trans hz) ?_
      refine z_gt (tgt := 64) dX5_measure_34 dX5_measure_35 (by decide) (fun c34 => ?_) (fun c34 => ?_)
      · exact z_at [(0, .ref 13), (2, .int (nI m))] ⟨rfl, rfl, trivial⟩ (by
          have hlt : z < pcs u n o m := (pk_lLT (a := z) (b := pcs u n o m) (by omega) (by omega)).mp c34
          refine tl D2 z ((hf2.2 13 7 rfl).trans hz) ?_ hs2 hF2
          rcases hb with ⟨_, h⟩ | ⟨b, b1, b2, b3, b4, b5, b6, b7⟩
          · omega
          · refine ⟨b, by omega, b2, b3, fun q a c => ?_, fun q a c => ?_, (hf2.1 13 6 rfl).trans b6, fun p hp => (hf2.1 16 p rfl).trans (b7 p hp)⟩
            · obtain e | e : q = m ∨ m + 1 ≤ q := by omega
              · subst e
                omega
              · exact b4 q e c
            · obtain e | e : q = m ∨ m + 1 ≤ q := by omega
              · subst e
                omega
              · exact b5 q e c)
      · refine z_aload_n dX5_measure_38 (by exact rfl) ?_
        refine z_lload_n dX5_measure_39 (by exact rfl) ?_
        refine z_pfL zfx_X5_63 (by exact rfl) dX5_measure_40 ?_
        refine z_aload_n dX5_measure_43 (by exact rfl) ?_
        refine z_iload_n dX5_measure_44 (by exact rfl) ?_
        refine z_pfI zfx_X5_71 (by exact rfl) dX5_measure_45 ?_
        refine z_aload_n dX5_measure_48 (by exact rfl) ?_
        refine z_gfA zfx_X5_22 (by exact rfl) dX5_measure_49 ?_
        refine z_iconst dX5_measure_52 ?_
        refine z_aload_n dX5_measure_53 (by exact rfl) ?_
        refine z_gfA zfx_X5_18 (by exact rfl) dX5_measure_54 ?_
        refine z_iconst dX5_measure_57 ?_
        refine z_iconst dX5_measure_58 ?_
        refine z_iload_n dX5_measure_59 (by exact rfl) ?_
        refine z_ishl dX5_measure_60 ?_
        have e8 : Int32.ofInt 1 <<< (nI m &&& 31) = nI (2 ^ m) := q_p2 m (by omega)
        have h28 : 2 ^ m ≤ 2 ^ 3 := Nat.pow_le_pow_right (by omega) (by omega)
        have ec : (nI (2 ^ m)).toNatClampNeg = 2 ^ m := nI_clamp (by omega)
        refine z_eI (nI (2 ^ m)) e8 ?_
        refine z_copyI (a0 := 17) (a1 := 16) (n0 := 8) (n1 := 8) rfl rfl dX5_measure_61 zc_X5_72 (by decide) (by decide) (nI_pos (by omega)) (by rw [ec]; show 0 + 2 ^ m ≤ 8; omega) (by rw [ec]; show 0 + 2 ^ m ≤ 8; omega) (Nat.le_of_ble_eq_true rfl) ?_
        exact z_at [(0, .ref 13), (2, .int (nI m))] ⟨rfl, rfl, trivial⟩ (by
          have hge : pcs u n o m ≤ z := by
            rcases Nat.lt_or_ge z (pcs u n o m) with h | h
            · exact absurd ((pk_lLT (a := z) (b := pcs u n o m) (by omega) (by omega)).mpr h) c34
            · exact h
          refine tl _ (pcs u n o m) rfl ⟨m, Nat.le_refl _, by omega, rfl, fun q a c => ?_, fun q a c => by omega, rfl, fun p hp => ?_⟩ hs2 (((hF2.uL _ rfl).uI _ rfl).uR _ (fun _ => rfl))
          · rcases hb with ⟨h, _⟩ | ⟨b, b1, b2, b3, b4, b5, b6, b7⟩
            · have : q = m := by omega
              subst this
              exact Nat.le_refl _
            · obtain e | e : q = m ∨ m + 1 ≤ q := by omega
              · subst e
                exact Nat.le_refl _
              · have := b4 q e c
                omega
          · rw [zuR_s, ec]
            refine (pk_cpy_in (Nat.zero_le _) (by show p < 0 + _; omega)).trans ?_
            show D2.1 17 (0 + (p - 0)) = _
            rw [Nat.zero_add, Nat.sub_zero]
            exact k2 p hp)
  refine z_aload_n dX5_measure_0 (by exact rfl) ?_
  refine z_cV dX5_measure_1 zk_X5_53 (by exact rfl) (by exact rfl) (by exact rfl) (Nat.le_of_ble_eq_true rfl) (Nat.le_of_ble_eq_true rfl) (Nat.le_refl _) ?_
  refine c_finestOrder h1 h2 hn hon (fun F hv hF => ?_)
  refine z_istore_n dX5_measure_4 (Nat.le_of_ble_eq_true rfl) ?_
  refine z_aload_n dX5_measure_5 (by exact rfl) ?_
  refine z_iload_n dX5_measure_6 (by exact rfl) ?_
  refine z_cV dX5_measure_7 zk_X5_57 (by exact rfl) (by exact rfl) (by exact rfl) (Nat.le_of_ble_eq_true rfl) (Nat.le_of_ble_eq_true rfl) (Nat.le_refl _) ?_
  refine c_addUp h1 h2 hn hv hu (fun D1 hs hf1 => ?_)
  refine z_aload_n dX5_measure_10 (by exact rfl) ?_
  refine z_ldcL dX5_measure_11 zclx_X5_61 ?_
  refine z_eJ (lN 9223372036854775807) (by decide) ?_
  refine z_pfL zfx_X5_63 (by exact rfl) dX5_measure_14 ?_
  refine z_iload_n dX5_measure_17 (by exact rfl) ?_
  refine z_istore_n dX5_measure_18 (Nat.le_of_ble_eq_true rfl) ?_
  exact z_at [(0, .ref 13), (2, .int (iI (((F + 1 : Nat) : Int) - 1)))] ⟨rfl, congrArg (fun x => some (Value.int x)) (by
    rw [iI_N]
    congr 1
    omega), trivial⟩ (lp F hv hF (F + 1) _ 9223372036854775807 (Nat.le_refl _) rfl (.inl ⟨rfl, rfl⟩) (fun _ => hs) ((hf1.wk fM8_15).uL _ rfl))
