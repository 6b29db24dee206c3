/-! ===== Subframe.dropWasted; rows put together by or ===== -/
def orI (f : Nat → Int32) : Nat → Int32
  | 0 => 0
  | i + 1 => orI f i ||| f i
theorem or0I {x y : Int32} : x ||| y = 0 ↔ x = 0 ∧ y = 0 := by
  constructor
  · intro h
    have hb : ∀ j, (x.toBitVec.getLsbD j || y.toBitVec.getLsbD j) = false := fun j => by
      rw [← q_or, h]
      simp
    constructor
    · apply q_ext
      intro j _
      rw [(Bool.or_eq_false_iff.mp (hb j)).1]
      simp
    · apply q_ext
      intro j _
      rw [(Bool.or_eq_false_iff.mp (hb j)).2]
      simp
  · rintro ⟨h1, h2⟩
    rw [h1, h2]
    rfl
theorem orI_0 {f : Nat → Int32} : ∀ {n : Nat}, orI f n = 0 ↔ ∀ i, i < n → f i = 0
  | 0 => ⟨fun _ i hi => by omega, fun _ => rfl⟩
  | n + 1 => by
    unfold orI
    rw [or0I, orI_0]
    constructor
    · rintro ⟨h1, h2⟩ i hi
      obtain e | e : i = n ∨ i < n := by omega
      · subst e
        exact h2
      · exact h1 i e
    · intro h
      exact ⟨fun i hi => h i (by omega), h n (by omega)⟩
theorem orI_op {f : Nat → Int32} {op : Int32 → Int32} (h0 : op 0 = 0) (ho : ∀ x y, op (x ||| y) = op x ||| op y) : ∀ (n : Nat), op (orI f n) = orI (fun i => op (f i)) n
  | 0 => h0
  | n + 1 => by
    show op (orI f n ||| f n) = _
    rw [ho, orI_op h0 ho n]
    rfl
theorem orI_and (n : Nat) (f : Nat → Int32) : orI f n &&& Int32.ofInt 1 = orI (fun i => f i &&& Int32.ofInt 1) n := orI_op (op := fun x => x &&& Int32.ofInt 1) (by decide) (fun x y => by
  apply q_ext
  intro j _
  rw [q_or, q_and, q_and, q_and, q_or]
  cases x.toBitVec.getLsbD j <;> cases y.toBitVec.getLsbD j <;> simp) n
theorem orI_shr1 (n : Nat) (f : Nat → Int32) : orI f n >>> (Int32.ofInt 1 &&& 31) = orI (fun i => f i >>> (Int32.ofInt 1 &&& 31)) n := orI_op (op := fun x => x >>> (Int32.ofInt 1 &&& 31)) (by decide) (fun x y => by
  have e : ∀ z : Int32, (z >>> (Int32.ofInt 1 &&& 31)).toBitVec = z.toBitVec.sshiftRight 1 := fun z => q_ishr 1 (by omega) z
  apply q_ext
  intro j _
  rw [q_or]
  show ((x ||| y) >>> (Int32.ofInt 1 &&& 31)).toBitVec.getLsbD j = ((x >>> (Int32.ofInt 1 &&& 31)).toBitVec.getLsbD j || (y >>> (Int32.ofInt 1 &&& 31)).toBitVec.getLsbD j)
  rw [e, e, e]
  simp only [BitVec.getLsbD_sshiftRight, Int32.toBitVec_or, BitVec.getLsbD_or, BitVec.msb_or]
  cases decide (32 ≤ j) <;> by_cases h : 1 + j < 32 <;> simp [h]) n
theorem orI_congr {f g : Nat → Int32} : ∀ {n : Nat}, (∀ i, i < n → f i = g i) → orI f n = orI g n
  | 0, _ => rfl
  | n + 1, h => by
    show orI f n ||| f n = orI g n ||| g n
    rw [orI_congr (fun i hi => h i (by omega)), h n (by omega)]
theorem mod_up {a : Int} {w : Nat} : a % 2 ^ (w + 1) = 0 ↔ a % 2 ^ w = 0 ∧ (a >>> w) % 2 = 0 := by
  rw [Int.shiftRight_eq_div_pow]
  have hm : (0 : Int) < 2 ^ w := Int.pow_pos (by omega)
  obtain ⟨M, hM⟩ : ∃ M : Int, M = 2 ^ w := ⟨_, rfl⟩
  have e2 : ((2 : Int) ^ (w + 1)) = M * 2 := by rw [hM, Int.pow_succ]
  have e3 : ((2 ^ w : Nat) : Int) = M := by rw [hM]; simp
  rw [e2, e3, ← hM]
  rw [← hM] at hm
  have h1 := Int.mul_ediv_add_emod a M
  constructor
  · intro h
    have h2 : a % M = 0 := by
      have := Int.emod_emod_of_dvd a (show M ∣ M * 2 from Int.dvd_mul_right _ _)
      rw [h, Int.zero_emod] at this
      exact this.symm
    refine ⟨h2, ?_⟩
    rw [h2, Int.add_zero] at h1
    rw [← h1, Int.mul_emod_mul_of_pos _ _ hm] at h
    exact (Int.mul_eq_zero.mp h).resolve_left (by omega)
  · rintro ⟨h2, h3⟩
    rw [h2, Int.add_zero] at h1
    rw [← h1, Int.mul_emod_mul_of_pos _ _ hm, h3, Int.mul_zero]
theorem inB_mod0 {b : Nat} {x : Int} (hb : 1 ≤ b) (h : inB b x) (h0 : x % 2 ^ b = 0) : x = 0 := by
  unfold inB at h
  obtain ⟨c, rfl⟩ : ∃ c, b = c + 1 := ⟨b - 1, by omega⟩
  rw [Nat.add_sub_cancel] at h
  rw [Int.pow_succ] at h0
  have hm : (0 : Int) < 2 ^ c := Int.pow_pos (by omega)
  obtain ⟨M, hM⟩ : ∃ M : Int, M = 2 ^ c := ⟨_, rfl⟩
  rw [← hM] at h h0 hm
  rcases Int.lt_or_le x 0 with hl | hl
  · have e : (x + M * 2) % (M * 2) = x + M * 2 := Int.emod_eq_of_lt (by omega) (by omega)
    rw [Int.add_emod_right] at e
    omega
  · have e : x % (M * 2) = x := Int.emod_eq_of_lt (by omega) (by omega)
    omega
theorem shr_0 {a : Int} {w : Nat} (h : a % 2 ^ w = 0) : a >>> w = 0 ↔ a = 0 := by
  rw [Int.shiftRight_eq_div_pow]
  have hm : (0 : Int) < 2 ^ w := Int.pow_pos (by omega)
  obtain ⟨M, hM⟩ : ∃ M : Int, M = 2 ^ w := ⟨_, rfl⟩
  have e3 : ((2 ^ w : Nat) : Int) = M := by rw [hM]; simp
  rw [e3]
  rw [← hM] at h hm
  have h1 := Int.mul_ediv_add_emod a M
  rw [h, Int.add_zero] at h1
  constructor
  · intro h2
    rw [h2, Int.mul_zero] at h1
    exact h1.symm
  · intro h2
    rw [h2]
    exact Int.zero_ediv _
theorem shr_shr (a : Int) (w : Nat) : (a >>> w) >>> 1 = a >>> (w + 1) := (Int.shiftRight_add a w 1).symm
theorem smI_shr {a : Int} (s : Nat) (h : smI a) : smI (a >>> s) := by
  unfold smI bd at *
  have := shr_bd (a := a) (B := 16777217) s (by omega) (by omega) (by omega)
  have h2 : a ≤ 16777216 → a >>> s ≤ 16777216 := fun h => by
    rw [Int.shiftRight_eq_div_pow]
    have h3 : (0 : Int) < ((2 ^ s : Nat) : Int) := by
      have := Nat.two_pow_pos s
      omega
    have h4 : a / ((2 ^ s : Nat) : Int) ≤ 16777216 := by
      rcases Int.lt_or_le a 0 with hl | hl
      · have := Int.ediv_neg_of_neg_of_pos hl h3
        omega
      · exact Int.le_trans (Int.ediv_le_self _ hl) h
    exact h4
  have h3 : -16777216 ≤ a → -16777216 ≤ a >>> s := fun h => by
    rw [Int.shiftRight_eq_div_pow]
    have h3 : (0 : Int) < ((2 ^ s : Nat) : Int) := by
      have := Nat.two_pow_pos s
      omega
    rw [Int.le_ediv_iff_mul_le h3]
    have h4 : (1 : Int) ≤ ((2 ^ s : Nat) : Int) := by omega
    have h5 : (-16777216 : Int) * ((2 ^ s : Nat) : Int) ≤ -16777216 * 1 := Int.mul_le_mul_of_nonpos_left (by omega) h4
    omega
  exact ⟨h3 h.1, h2 h.2⟩
def fDr (X a k : Nat) : Bool := a == X + 1 || (a == X && (k == 2 || k == 3))
theorem c_dropWasted {d X n b : Nat} {D : zD} {Q : zQ} {a : zRow} (hX : isSf X) (hn : n ≤ 256) (hb : 1 ≤ b ∧ b ≤ 25) (hs : sf7 D X n b 0) (ha : row8 D (X + 1) a n) (hab : allB b n a) (hq : ∀ D' w, w = wst n a → w < b → sf7 D' X n (b - w) w → row8 D' (X + 1) (shR w a) n → zfr (fDr X) D D' → Q (.inl none) 0 D') : ZM yX7_dropWasted iX7_dropWasted d [.ref X] D Q := by
  obtain ⟨⟨x0, x1, x2, x3, x4, x5, x6⟩, hr, ⟨fl, _⟩, hl⟩ := hX
  refine z_method (by decide) rfl (Nat.le_of_ble_eq_true rfl) ?_
  refine z_at [(0, .ref X)] ⟨rfl, trivial⟩ ?_
  have fr : ∀ {D1 : zD} {k : Nat} {v : Int32}, (k = 2 ∨ k = 3) → zfr (fDr X) D D1 → zfr (fDr X) D (zuI D1 X k v) := fun hk hF => hF.uI _ (by
    unfold fDr
    rcases hk with hk | hk <;> subst hk <;> simp)
  -- the end
  have en : ∀ (D1 : zD) (w : Nat), w = wst n a → w < b → sf7 D1 X n b w → row8 D1 (X + 1) (shR w a) n → zfr (fDr X) D D1 → Z (zmk iX7_dropWasted d) 0 103 (zl [(0, .ref X)]) [] D1 Q := by
    intro D1 w hw hwb hs1 hr1 hF
    refine z_aload_n dX7_dropWasted_103 (by exact rfl) ?_
    refine z_dup dX7_dropWasted_104 (by exact rfl) ?_
    refine z_gfI zfx_X7_19 x2 dX7_dropWasted_105 ?_
    refine z_eI (nI b) hs1.2.1 ?_
    refine z_aload_n dX7_dropWasted_108 (by exact rfl) ?_
    refine z_gfI zfx_X7_22 x3 dX7_dropWasted_109 ?_
    refine z_eI (nI w) hs1.2.2 ?_
    refine z_isub dX7_dropWasted_112 ?_
    refine z_eI (nI (b - w)) (pk_sub (by omega)) ?_
    refine z_pfI zfx_X7_19 x2 dX7_dropWasted_113 ?_
    exact z_vret (st := []) rfl dX7_dropWasted_116 (hq _ w hw hwb ⟨by
      rw [zuI_ne (by omega)]
      exact hs1.1, zuI_at _ _ _ _, by
      rw [zuI_ne (by omega)]
      exact hs1.2.2⟩ (fun i hi => by
      rw [zuI_ne (by omega)]
      exact hr1 i hi) (fr (.inl rfl) hF))
  have sft : ∀ (w : Nat), w = wst n a → w < b → ∀ (m i : Nat) (D1 : zD), i + m = n → sf7 D1 X n b w → (∀ j, j < n → D1.1 (X + 1) j = iI (if j < i then a j >>> w else a j)) → zfr (fDr X) D D1 → Z (zmk iX7_dropWasted d) 0 69 (zl [(0, .ref X), (2, .int (nI i))]) [] D1 Q := by
    intro w hw hwb m
    induction m with
    | zero =>
      intro i D1 hi hs1 hr1 hF
      have hi : i = n := by omega
      subst hi
      refine z_iload_n dX7_dropWasted_69 (by exact rfl) ?_
      refine z_aload_n dX7_dropWasted_70 (by exact rfl) ?_
      refine z_gfI zfx_X7_15 x1 dX7_dropWasted_71 ?_
      refine z_eI (nI i) hs1.1 ?_
      refine z_icmp_ge (tgt := 103) dX7_dropWasted_74 (by decide) (fun _ => ?_) (fun q9 => absurd ((nI_le (Nat.le_refl _) (by omega))) q9)
      exact z_at [(0, .ref X)] ⟨rfl, trivial⟩ (en D1 w hw hwb hs1 (fun j hj => ⟨by
        rw [hr1 j hj, if_pos hj]
        rfl, smI_shr w (ha j hj).2⟩) hF)
    | succ m ih =>
      intro i D1 hi hs1 hr1 hF
      have b1 := (ha i (by omega)).2
      unfold smI bd at b1
      have cl : (nI i).toNatClampNeg = i := nI_clamp (by omega)
      refine z_iload_n dX7_dropWasted_69 (by exact rfl) ?_
      refine z_aload_n dX7_dropWasted_70 (by exact rfl) ?_
      refine z_gfI zfx_X7_15 x1 dX7_dropWasted_71 ?_
      refine z_eI (nI n) hs1.1 ?_
      refine z_icmp_ge (tgt := 103) dX7_dropWasted_74 (by decide) (fun q9 => absurd q9 ((nI_ge (a := i) (b := n) (by omega) (by omega)))) (fun _ => ?_)
      refine z_aload_n dX7_dropWasted_77 (by exact rfl) ?_
      refine z_gfI zfx_X7_22 x3 dX7_dropWasted_78 ?_
      refine z_eI (nI w) hs1.2.2 ?_
      refine z_if_le (tgt := 103) dX7_dropWasted_81 (by decide) (fun c81 => ?_) (fun c81 => ?_)
      · exact z_at [(0, .ref X)] ⟨rfl, trivial⟩ (en D1 w hw hwb hs1 (fun j hj => by
          have hw0 : w = 0 := by
            have := (nI_leI (a := w) (b := 0) (by omega) (by omega)).mp c81
            omega
          refine ⟨?_, smI_shr w (ha j hj).2⟩
          rw [hr1 j hj]
          unfold shR
          rw [hw0, shr0]
          split <;> rfl) hF)
      · refine z_aload_n dX7_dropWasted_84 (by exact rfl) ?_
        refine z_gfA zfx_X7_9 x0 dX7_dropWasted_85 ?_
        refine z_iload_n dX7_dropWasted_88 (by exact rfl) ?_
        refine z_dup2 dX7_dropWasted_89 (by exact rfl) (by exact rfl) ?_
        refine z_aI hr dX7_dropWasted_90 (vp_in_nI (by omega) (by omega)) ?_
        refine z_eI (iI (a i)) (by
          rw [cl, hr1 i (by omega), if_neg (by omega)]) ?_
        refine z_aload_n dX7_dropWasted_91 (by exact rfl) ?_
        refine z_gfI zfx_X7_22 x3 dX7_dropWasted_92 ?_
        refine z_eI (nI w) hs1.2.2 ?_
        refine z_ishr dX7_dropWasted_95 ?_
        refine z_eI (iI (a i >>> w)) (iI_shr (by omega) (by omega) (by omega)) ?_
        refine z_sI hr dX7_dropWasted_96 (vp_in_nI (by omega) (by omega)) ?_
        rw [cl]
        refine z_iinc dX7_dropWasted_97 (by exact rfl) ?_
        refine z_at [(0, .ref X), (2, .int (nI (i + 1)))] ⟨rfl, congrArg (fun x => some (Value.int x)) (nI_1 i), trivial⟩ ?_
        refine z_goto (tgt := 69) dX7_dropWasted_100 (by decide) ?_
        exact ih (i + 1) _ (by omega) ⟨by
          rw [zuI_ne (by omega)]
          exact hs1.1, by
          rw [zuI_ne (by omega)]
          exact hs1.2.1, by
          rw [zuI_ne (by omega)]
          exact hs1.2.2⟩ (fun j hj => by
          by_cases e : j = i
          · subst e
            rw [zuI_at, if_pos (by omega)]
          · rw [zuI_ne (by omega), hr1 j hj]
            by_cases e2 : j < i
            · rw [if_pos e2, if_pos (by omega)]
            · rw [if_neg e2, if_neg (by omega)]) (hF.uI _ (by unfold fDr; simp))
  have s0 : ∀ (w : Nat), w = wst n a → w < b → ∀ (D1 : zD), sf7 D1 X n b w → row8 D1 (X + 1) a n → zfr (fDr X) D D1 → Z (zmk iX7_dropWasted d) 0 67 (zl [(0, .ref X)]) [] D1 Q := by
    intro w hw hwb D1 hs1 hr1 hF
    refine z_iconst dX7_dropWasted_67 ?_
    refine z_istore_n dX7_dropWasted_68 (Nat.le_of_ble_eq_true rfl) ?_
    exact z_at [(0, .ref X), (2, .int (nI 0))] ⟨rfl, rfl, trivial⟩ (sft w hw hwb n 0 D1 (by omega) hs1 (fun j hj => by
      rw [if_neg (by omega)]
      exact (hr1 j hj).1) hF)
  -- counting
  have z0 : ∀ (w : Nat), (∀ i, i < n → a i % 2 ^ w = 0) → (orI (fun i => iI (a i >>> w)) n = 0 ↔ ∀ i, i < n → a i = 0) := by
    intro w hmod
    rw [orI_0]
    constructor
    · intro h i hi
      have hb1 := smI_shr w (ha i hi).2
      unfold smI bd at hb1
      exact (shr_0 (hmod i hi)).mp ((iI_inj (a := a i >>> w) (b := 0) (by omega) (by omega) (by omega) (by omega)).mp (h i hi))
    · intro h i hi
      show iI (a i >>> w) = 0
      rw [(shr_0 (hmod i hi)).mpr (h i hi)]
      rfl
  have o0 : ∀ (w : Nat), (∀ i, i < n → a i % 2 ^ w = 0) → (orI (fun i => iI (a i >>> w)) n &&& Int32.ofInt 1 = 0 ↔ ∀ i, i < n → a i % 2 ^ (w + 1) = 0) := by
    intro w hmod
    rw [orI_and, orI_0]
    constructor
    · intro h i hi
      have h2 := h i hi
      have h2 : iI (a i >>> w) &&& Int32.ofInt 1 = 0 := h2
      rw [iI_and1] at h2
      exact mod_up.mpr ⟨hmod i hi, (iI_inj (a := a i >>> w % 2) (b := 0) (by omega) (by omega) (by omega) (by omega)).mp h2⟩
    · intro h i hi
      show iI (a i >>> w) &&& Int32.ofInt 1 = 0
      rw [iI_and1, (mod_up.mp (h i hi)).2]
      rfl
  have e0 : ∀ (w : Nat) (D1 : zD), w < b → (∀ i, i < n → a i % 2 ^ w = 0) → (w = 0 ∨ ¬ ∀ i, i < n → a i = 0) → orI (fun i => iI (a i >>> w)) n = 0 → sf7 D1 X n b w → row8 D1 (X + 1) a n → zfr (fDr X) D D1 → Z (zmk iX7_dropWasted d) 0 67 (zl [(0, .ref X)]) [] D1 Q := by
    intro w D1 hwb hmod hnz c28 hs1 hr1 hF
    have hz := (z0 w hmod).mp c28
    have hw0 : wst n a = 0 := wst_eq (.inl ⟨hz, rfl⟩)
    rcases hnz with h | h
    · exact s0 w (by omega) hwb D1 hs1 hr1 hF
    · exact absurd hz h
  have e1 : ∀ (w : Nat) (D1 : zD), w < b → (∀ i, i < n → a i % 2 ^ w = 0) → ¬ orI (fun i => iI (a i >>> w)) n &&& Int32.ofInt 1 = 0 → sf7 D1 X n b w → row8 D1 (X + 1) a n → zfr (fDr X) D D1 → Z (zmk iX7_dropWasted d) 0 67 (zl [(0, .ref X)]) [] D1 Q := by
    intro w D1 hwb hmod c34 hs1 hr1 hF
    have : ¬ ∀ i, i < n → a i % 2 ^ (w + 1) = 0 := fun q => c34 ((o0 w hmod).mpr q)
    exact s0 w (wst_eq (.inr ⟨hmod, Classical.byContradiction fun q => this (fun i hi => Classical.byContradiction fun q2 => q ⟨i, hi, q2⟩)⟩)).symm hwb D1 hs1 hr1 hF
  have cnt : ∀ (m w : Nat) (D1 : zD), w + m = b - 1 → (∀ i, i < n → a i % 2 ^ w = 0) → (w = 0 ∨ ¬ ∀ i, i < n → a i = 0) → sf7 D1 X n b w → row8 D1 (X + 1) a n → zfr (fDr X) D D1 → Z (zmk iX7_dropWasted d) 0 27 (zl [(0, .ref X), (1, .int (orI (fun i => iI (a i >>> w)) n))]) [] D1 Q := by
    intro m
    induction m with
    | zero =>
      intro w D1 hm hmod hnz hs1 hr1 hF
      refine z_iload_n dX7_dropWasted_27 (by exact rfl) ?_
      refine z_if_eq (tgt := 67) dX7_dropWasted_28 (by decide) (fun c28 => ?_) (fun c28 => ?_)
      · exact z_at [(0, .ref X)] ⟨rfl, trivial⟩ (e0 w D1 (by omega) hmod hnz c28 hs1 hr1 hF)
      · refine z_iload_n dX7_dropWasted_31 (by exact rfl) ?_
        refine z_iconst dX7_dropWasted_32 ?_
        refine z_iand dX7_dropWasted_33 ?_
        refine z_if_ne (tgt := 67) dX7_dropWasted_34 (by decide) (fun c34 => ?_) (fun c34 => ?_)
        · exact z_at [(0, .ref X)] ⟨rfl, trivial⟩ (e1 w D1 (by omega) hmod c34 hs1 hr1 hF)
        · exact absurd ((z0 w hmod).mpr (fun i hi => inB_mod0 hb.1 (hab i hi) (by
            have := (o0 w hmod).mp c34 i hi
            rw [show w + 1 = b by omega] at this
            exact this))) c28
    | succ m ih =>
      intro w D1 hm hmod hnz hs1 hr1 hF
      refine z_iload_n dX7_dropWasted_27 (by exact rfl) ?_
      refine z_if_eq (tgt := 67) dX7_dropWasted_28 (by decide) (fun c28 => ?_) (fun c28 => ?_)
      · exact z_at [(0, .ref X)] ⟨rfl, trivial⟩ (e0 w D1 (by omega) hmod hnz c28 hs1 hr1 hF)
      · refine z_iload_n dX7_dropWasted_31 (by exact rfl) ?_
        refine z_iconst dX7_dropWasted_32 ?_
        refine z_iand dX7_dropWasted_33 ?_
        refine z_if_ne (tgt := 67) dX7_dropWasted_34 (by decide) (fun c34 => ?_) (fun c34 => ?_)
        · exact z_at [(0, .ref X)] ⟨rfl, trivial⟩ (e1 w D1 (by omega) hmod c34 hs1 hr1 hF)
        · refine z_aload_n dX7_dropWasted_37 (by exact rfl) ?_
          refine z_gfI zfx_X7_22 x3 dX7_dropWasted_38 ?_
          refine z_eI (nI w) hs1.2.2 ?_
          refine z_aload_n dX7_dropWasted_41 (by exact rfl) ?_
          refine z_gfI zfx_X7_19 x2 dX7_dropWasted_42 ?_
          refine z_eI (nI b) hs1.2.1 ?_
          refine z_iconst dX7_dropWasted_45 ?_
          refine z_isub dX7_dropWasted_46 ?_
          refine z_eI (nI (b - 1)) (pk_sub (a := b) (b := 1) (by omega)) ?_
          refine z_icmp_ge (tgt := 67) dX7_dropWasted_47 (by decide) (fun q9 => absurd q9 ((nI_ge (a := w) (b := b - 1) (by omega) (by omega)))) (fun _ => ?_)
          refine z_iload_n dX7_dropWasted_50 (by exact rfl) ?_
          refine z_iconst dX7_dropWasted_51 ?_
          refine z_ishr dX7_dropWasted_52 ?_
          refine z_eI (orI (fun i => iI (a i >>> (w + 1))) n) (by
            rw [orI_shr1]
            exact orI_congr (fun i hi => by
              have hb1 := smI_shr w (ha i hi).2
              unfold smI bd at hb1
              show iI (a i >>> w) >>> (nI 1 &&& 31) = _
              rw [iI_shr (by omega) (by omega) (by omega), shr_shr])) ?_
          refine z_istore_n dX7_dropWasted_53 (Nat.le_of_ble_eq_true rfl) ?_
          refine z_aload_n dX7_dropWasted_54 (by exact rfl) ?_
          refine z_dup dX7_dropWasted_55 (by exact rfl) ?_
          refine z_gfI zfx_X7_22 x3 dX7_dropWasted_56 ?_
          refine z_eI (nI w) hs1.2.2 ?_
          refine z_iconst dX7_dropWasted_59 ?_
          refine z_iadd dX7_dropWasted_60 ?_
          refine z_eI (nI (w + 1)) (nI_1 w) ?_
          refine z_pfI zfx_X7_22 x3 dX7_dropWasted_61 ?_
          refine z_goto (tgt := 27) dX7_dropWasted_64 (by decide) ?_
          exact z_at [(0, .ref X), (1, .int (orI (fun i => iI (a i >>> (w + 1))) n))] ⟨rfl, rfl, trivial⟩ (ih (w + 1) _ (by omega) ((o0 w hmod).mp c34) (.inr (fun q => c28 ((z0 w hmod).mpr q))) ⟨by
            rw [zuI_ne (by omega)]
            exact hs1.1, by
            rw [zuI_ne (by omega)]
            exact hs1.2.1, zuI_at _ _ _ _⟩ (fun i hi => by
            rw [zuI_ne (by omega)]
            exact hr1 i hi) (fr (.inr rfl) hF))
  have orl : ∀ (m i : Nat), i + m = n → Z (zmk iX7_dropWasted d) 0 4 (zl [(0, .ref X), (1, .int (orI (fun i => iI (a i >>> 0)) i)), (2, .int (nI i))]) [] D Q := by
    intro m
    induction m with
    | zero =>
      intro i hi
      have hi : i = n := by omega
      subst hi
      refine z_iload_n dX7_dropWasted_4 (by exact rfl) ?_
      refine z_aload_n dX7_dropWasted_5 (by exact rfl) ?_
      refine z_gfI zfx_X7_15 x1 dX7_dropWasted_6 ?_
      refine z_eI (nI i) hs.1 ?_
      refine z_icmp_ge (tgt := 27) dX7_dropWasted_9 (by decide) (fun _ => ?_) (fun q9 => absurd ((nI_le (Nat.le_refl _) (by omega))) q9)
      exact z_at [(0, .ref X), (1, .int (orI (fun j => iI (a j >>> 0)) i))] ⟨rfl, rfl, trivial⟩ (cnt (b - 1) 0 D (by omega) (fun j hj => by rw [Int.pow_zero]; exact Int.emod_one _) (.inl rfl) hs ha zfr.rf)
    | succ m ih =>
      intro i hi
      refine z_iload_n dX7_dropWasted_4 (by exact rfl) ?_
      refine z_aload_n dX7_dropWasted_5 (by exact rfl) ?_
      refine z_gfI zfx_X7_15 x1 dX7_dropWasted_6 ?_
      refine z_eI (nI n) hs.1 ?_
      refine z_icmp_ge (tgt := 27) dX7_dropWasted_9 (by decide) (fun q9 => absurd q9 ((nI_ge (a := i) (b := n) (by omega) (by omega)))) (fun _ => ?_)
      refine z_iload_n dX7_dropWasted_12 (by exact rfl) ?_
      refine z_aload_n dX7_dropWasted_13 (by exact rfl) ?_
      refine z_gfA zfx_X7_9 x0 dX7_dropWasted_14 ?_
      refine z_iload_n dX7_dropWasted_17 (by exact rfl) ?_
      refine z_aI hr dX7_dropWasted_18 (vp_in_nI (by omega) (by omega)) ?_
      refine z_eI (iI (a i >>> 0)) (by
        rw [nI_clamp (n := i) (by omega), shr0]
        exact (ha i (by omega)).1) ?_
      refine z_ior dX7_dropWasted_19 ?_
      refine z_istore_n dX7_dropWasted_20 (Nat.le_of_ble_eq_true rfl) ?_
      refine z_iinc dX7_dropWasted_21 (by exact rfl) ?_
      refine z_at [(0, .ref X), (1, .int (orI (fun i => iI (a i >>> 0)) (i + 1))), (2, .int (nI (i + 1)))] ⟨rfl, rfl, congrArg (fun x => some (Value.int x)) (nI_1 i), trivial⟩ ?_
      refine z_goto (tgt := 4) dX7_dropWasted_24 (by decide) ?_
      exact ih (i + 1) (by omega)
  refine z_iconst dX7_dropWasted_0 ?_
  refine z_istore_n dX7_dropWasted_1 (Nat.le_of_ble_eq_true rfl) ?_
  refine z_iconst dX7_dropWasted_2 ?_
  refine z_istore_n dX7_dropWasted_3 (Nat.le_of_ble_eq_true rfl) ?_
  exact z_at [(0, .ref X), (1, .int (orI (fun i => iI (a i >>> 0)) 0)), (2, .int (nI 0))] ⟨rfl, rfl, rfl, trivial⟩ (orl n 0 (by omega))
