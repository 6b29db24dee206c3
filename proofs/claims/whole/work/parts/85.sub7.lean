/-! ===== Subframe ===== -/
def isSf (X : Nat) : Prop := (zfc X 7 0 = some (X + 1 + 2) ∧ zfc X 7 1 = some 0 ∧ zfc X 7 2 = some 0 ∧ zfc X 7 3 = some 0 ∧ zfc X 7 4 = some 0 ∧ zfc X 7 5 = some 0 ∧ zfc X 7 6 = some 1) ∧ zac (X + 1) = some (0, 256) ∧ (∃ fl, zSH[X]? = some (5, 7, fl)) ∧ (21 ≤ X ∧ X ≤ 35)
theorem isSf_at : ∀ s, s < 8 → isSf (21 + 2 * s)
  | 0, _ => ⟨⟨rfl, rfl, rfl, rfl, rfl, rfl, rfl⟩, rfl, ⟨_, rfl⟩, by omega, by omega⟩
  | 1, _ => ⟨⟨rfl, rfl, rfl, rfl, rfl, rfl, rfl⟩, rfl, ⟨_, rfl⟩, by omega, by omega⟩
  | 2, _ => ⟨⟨rfl, rfl, rfl, rfl, rfl, rfl, rfl⟩, rfl, ⟨_, rfl⟩, by omega, by omega⟩
  | 3, _ => ⟨⟨rfl, rfl, rfl, rfl, rfl, rfl, rfl⟩, rfl, ⟨_, rfl⟩, by omega, by omega⟩
  | 4, _ => ⟨⟨rfl, rfl, rfl, rfl, rfl, rfl, rfl⟩, rfl, ⟨_, rfl⟩, by omega, by omega⟩
  | 5, _ => ⟨⟨rfl, rfl, rfl, rfl, rfl, rfl, rfl⟩, rfl, ⟨_, rfl⟩, by omega, by omega⟩
  | 6, _ => ⟨⟨rfl, rfl, rfl, rfl, rfl, rfl, rfl⟩, rfl, ⟨_, rfl⟩, by omega, by omega⟩
  | 7, _ => ⟨⟨rfl, rfl, rfl, rfl, rfl, rfl, rfl⟩, rfl, ⟨_, rfl⟩, by omega, by omega⟩
def fSf (X a k : Nat) : Bool := a == X && decide (1 ≤ k)
theorem fSf_t {X k : Nat} (h : 1 ≤ k) : fSf X X k = true := by
  unfold fSf
  simp
  omega
theorem fSf_n {X a k : Nat} (h : ¬ a = X) : fSf X a k = false := by
  unfold fSf
  simp
  omega
def sf7 (D : zD) (X n b w : Nat) : Prop := D.1 X 1 = nI n ∧ D.1 X 2 = nI b ∧ D.1 X 3 = nI w
def sfW (D : zD) (X hd : Nat) (s : Option zWay) : Prop := match s with
  | none => D.2 X 6 = lN 9223372036854775807
  | some w => D.1 X 4 = nI w.1 ∧ D.1 X 5 = iI w.2.1 ∧ D.2 X 6 = lN (hd + w.2.2) ∧ hd + w.2.2 < 2 ^ 62
theorem c_begin7 {d X n b : Nat} {D : zD} {Q : zQ} (hX : isSf X) (hq : ∀ D', sf7 D' X n b 0 → sfW D' X 0 none → zfr (fSf X) D D' → Q (.inl none) 0 D') : ZM yX7_begin iX7_begin d [.ref X, .int (nI n), .int (nI b)] D Q := by
  obtain ⟨⟨x0, x1, x2, x3, x4, x5, x6⟩, hr, ⟨fl, hs⟩, hl⟩ := hX
  refine z_method (by decide) rfl (Nat.le_of_ble_eq_true rfl) ?_
  refine z_at [(0, .ref X), (1, .int (nI n)), (2, .int (nI b))] ⟨rfl, rfl, rfl, trivial⟩ ?_
  refine z_aload_n dX7_begin_0 (by exact rfl) ?_
  refine z_iload_n dX7_begin_1 (by exact rfl) ?_
  refine z_pfI zfx_X7_15 x1 dX7_begin_2 ?_
  refine z_aload_n dX7_begin_5 (by exact rfl) ?_
  refine z_iload_n dX7_begin_6 (by exact rfl) ?_
  refine z_pfI zfx_X7_19 x2 dX7_begin_7 ?_
  refine z_aload_n dX7_begin_10 (by exact rfl) ?_
  refine z_iconst dX7_begin_11 ?_
  refine z_pfI zfx_X7_22 x3 dX7_begin_12 ?_
  refine z_aload_n dX7_begin_15 (by exact rfl) ?_
  refine z_ldcL dX7_begin_16 zclx_X7_25 ?_
  refine z_eJ (lN 9223372036854775807) (by decide) ?_
  refine z_pfL zfx_X7_27 x6 dX7_begin_19 ?_
  exact z_vret (st := []) rfl dX7_begin_22 (hq _ ⟨by
    show (zuI (zuI (zuI D X 1 (nI n)) X 2 (nI b)) X 3 _).1 X 1 = _
    rw [zuI_ne (by omega), zuI_ne (by omega), zuI_at], by
    show (zuI (zuI (zuI D X 1 (nI n)) X 2 (nI b)) X 3 _).1 X 2 = _
    rw [zuI_ne (by omega), zuI_at], by
    show (zuI (zuI (zuI D X 1 (nI n)) X 2 (nI b)) X 3 _).1 X 3 = _
    rw [zuI_at]
    rfl⟩ (zuL_at _ _ _ _) ((((zfr.rf.uI _ (fSf_t (by omega))).uI _ (fSf_t (by omega))).uI _ (fSf_t (by omega))).uL _ (fSf_t (by omega))))
theorem c_offer7 {d X hd t z : Nat} {q : Int} {D : zD} {Q : zQ} {s : Option zWay} (hX : isSf X) (hz : hd + z < 2 ^ 62) (hs : sfW D X hd s) (hq : ∀ D', sfW D' X hd (off t q z s) → zfr (fun a k => a == X && decide (4 ≤ k)) D D' → Q (.inl none) 0 D') : ZM yX7_offer iX7_offer d [.ref X, .int (nI t), .long (lN (hd + z)), .int (iI q)] D Q := by
  obtain ⟨⟨x0, x1, x2, x3, x4, x5, x6⟩, hr, ⟨fl, _⟩, hl⟩ := hX
  refine z_method (by decide) rfl (Nat.le_of_ble_eq_true rfl) ?_
  refine z_at [(0, .ref X), (1, .int (nI t)), (2, .long (lN (hd + z))), (4, .int (iI q))] ⟨rfl, rfl, rfl, rfl, trivial⟩ ?_
  obtain ⟨z0, e0, hz0, hs2⟩ : ∃ z0, D.2 X 6 = lN z0 ∧ z0 < 2 ^ 63 ∧ ((hd + z < z0 ∧ off t q z s = some (t, q, z)) ∨ (¬ hd + z < z0 ∧ off t q z s = s)) := by
    cases s with
    | none => exact ⟨9223372036854775807, hs, by omega, .inl ⟨by omega, rfl⟩⟩
    | some w =>
      refine ⟨hd + w.2.2, hs.2.2.1, by have := hs.2.2.2; omega, ?_⟩
      unfold off
      by_cases h : z < w.2.2
      · exact .inl ⟨by omega, if_pos h⟩
      · exact .inr ⟨by omega, if_neg h⟩
  refine z_lload_n dX7_offer_0 (by exact rfl) ?_
  refine z_aload_n dX7_offer_1 (by exact rfl) ?_
  refine z_gfL zfx_X7_27 x6 dX7_offer_2 ?_
  refine z_eJ (lN z0) e0 ?_
  refine z_ge (tgt := 25) dX7_offer_5 dX7_offer_6 (by decide) (fun c5 => ?_) (fun c5 => ?_)
  · exact z_vret (st := []) rfl dX7_offer_25 (by
      have h : z0 ≤ hd + z := (pk_lLE (by omega) (by omega)).mp c5
      rcases hs2 with ⟨h2, _⟩ | ⟨_, h2⟩
      · omega
      · refine hq D ?_ zfr.rf
        rw [h2]
        exact hs)
  · refine z_aload_n dX7_offer_9 (by exact rfl) ?_
    refine z_iload_n dX7_offer_10 (by exact rfl) ?_
    refine z_pfI zfx_X7_31 x4 dX7_offer_11 ?_
    refine z_aload_n dX7_offer_14 (by exact rfl) ?_
    refine z_lload_n dX7_offer_15 (by exact rfl) ?_
    refine z_pfL zfx_X7_27 x6 dX7_offer_16 ?_
    refine z_aload_n dX7_offer_19 (by exact rfl) ?_
    refine z_iload dX7_offer_20 (by exact rfl) ?_
    refine z_pfI zfx_X7_34 x5 dX7_offer_22 ?_
    exact z_vret (st := []) rfl dX7_offer_25 (by
      have h : ¬ z0 ≤ hd + z := fun q => c5 ((pk_lLE (by omega) (by omega)).mpr q)
      rcases hs2 with ⟨_, h2⟩ | ⟨h2, _⟩
      · refine hq _ ?_ (((zfr.rf.uI _ (by simp)).uL _ (by simp)).uI _ (by simp))
        rw [h2]
        refine ⟨?_, zuI_at _ _ _ _, zuL_at _ _ _ _, hz⟩
        rw [zuI_ne (by omega)]
        exact zuI_at _ _ _ _
      · omega)
theorem c_isOneNumber {d X n b w : Nat} {D : zD} {Q : zQ} {a : zRow} (hX : isSf X) (hn : n ≤ 256) (hs : sf7 D X n b w) (ha : row8 D (X + 1) a n) (h1 : (∀ i, i < n → a i = a 0) → Q (.inl (some (.int 1))) 0 D) (h0 : ¬ (∀ i, i < n → a i = a 0) → Q (.inl (some (.int 0))) 0 D) : ZM yX7_isOneNumber iX7_isOneNumber d [.ref X] D Q := by
  obtain ⟨⟨x0, x1, x2, x3, x4, x5, x6⟩, hr, ⟨fl, _⟩, hl⟩ := hX
  refine z_method (by decide) rfl (Nat.le_of_ble_eq_true rfl) ?_
  refine z_at [(0, .ref X)] ⟨rfl, trivial⟩ ?_
  have lp : ∀ (m i : Nat), i + m = max n 1 → 1 ≤ i → (∀ j, j < i → a j = a 0) → Z (zmk iX7_isOneNumber d) 0 2 (zl [(0, .ref X), (1, .int (nI i))]) [] D Q := by
    intro m
    induction m with
    | zero =>
      intro i hi hi1 hall
      refine z_iload_n dX7_isOneNumber_2 (by exact rfl) ?_
      refine z_aload_n dX7_isOneNumber_3 (by exact rfl) ?_
      refine z_gfI zfx_X7_15 x1 dX7_isOneNumber_4 ?_
      refine z_eI (nI n) hs.1 ?_
      refine z_icmp_ge (tgt := 33) dX7_isOneNumber_7 (by decide) (fun _ => ?_) (fun q9 => absurd ((nI_le (by omega) (by omega))) q9)
      refine z_iconst dX7_isOneNumber_33 ?_
      exact z_zret (st := []) (by decide) rfl dX7_isOneNumber_34 (h1 (fun j hj => hall j (by omega)))
    | succ m ih =>
      intro i hi hi1 hall
      obtain ⟨e1, b1⟩ := ha i (by omega)
      obtain ⟨e2, b2⟩ := ha 0 (by omega)
      unfold smI bd at b1 b2
      have inj : iI (a i) = iI (a 0) ↔ a i = a 0 := iI_inj (by omega) (by omega) (by omega) (by omega)
      refine z_iload_n dX7_isOneNumber_2 (by exact rfl) ?_
      refine z_aload_n dX7_isOneNumber_3 (by exact rfl) ?_
      refine z_gfI zfx_X7_15 x1 dX7_isOneNumber_4 ?_
      refine z_eI (nI n) hs.1 ?_
      refine z_icmp_ge (tgt := 33) dX7_isOneNumber_7 (by decide) (fun q9 => absurd q9 ((nI_ge (a := i) (b := n) (by omega) (by omega)))) (fun _ => ?_)
      refine z_aload_n dX7_isOneNumber_10 (by exact rfl) ?_
      refine z_gfA zfx_X7_9 x0 dX7_isOneNumber_11 ?_
      refine z_iload_n dX7_isOneNumber_14 (by exact rfl) ?_
      refine z_aI hr dX7_isOneNumber_15 (vp_in_nI (by omega) (by omega)) ?_
      refine z_eI (iI (a i)) (by rw [nI_clamp (n := i) (by omega)]; exact e1) ?_
      refine z_aload_n dX7_isOneNumber_16 (by exact rfl) ?_
      refine z_gfA zfx_X7_9 x0 dX7_isOneNumber_17 ?_
      refine z_iconst dX7_isOneNumber_20 ?_
      refine z_aI hr dX7_isOneNumber_21 (vp_in_nI (n := 0) (N := 256) (by omega) (by omega)) ?_
      refine z_eI (iI (a 0)) e2 ?_
      refine z_icmp_eq (tgt := 27) dX7_isOneNumber_22 (by decide) (fun c22 => ?_) (fun c22 => ?_)
      · refine z_iinc dX7_isOneNumber_27 (by exact rfl) ?_
        refine z_at [(0, .ref X), (1, .int (nI (i + 1)))] ⟨rfl, congrArg (fun x => some (Value.int x)) (nI_1 i), trivial⟩ ?_
        refine z_goto (tgt := 2) dX7_isOneNumber_30 (by decide) ?_
        exact ih (i + 1) (by omega) (by omega) (fun j hj => by
          obtain q | q : j = i ∨ j < i := by omega
          · subst q
            exact inj.mp c22
          · exact hall j q)
      · refine z_iconst dX7_isOneNumber_25 ?_
        exact z_zret (st := []) (by decide) rfl dX7_isOneNumber_26 (h0 (fun q => c22 (inj.mpr (q i (by omega)))))
  refine z_iconst dX7_isOneNumber_0 ?_
  refine z_istore_n dX7_isOneNumber_1 (Nat.le_of_ble_eq_true rfl) ?_
  exact z_at [(0, .ref X), (1, .int (nI 1))] ⟨rfl, rfl, trivial⟩ (lp (max n 1 - 1) 1 (by omega) (by omega) (fun j hj => by
    have : j = 0 := by omega
    rw [this]))
