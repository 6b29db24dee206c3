/-! ===== the reference's making: isConstant, takeWaste ===== -/
def rowL (D : zD) (a : zRow) (n : Nat) : Prop := ∀ i, i < n → D.2 61 i = lI (a i) ∧ smI (a i)
theorem c_isConstant {d n : Nat} {D : zD} {Q : zQ} {a : zRow} (h24 : D.1 19 24 = nI n) (hn : 1 ≤ n ∧ n ≤ 256) (ha : rowL D a n) (hq : ∀ b : Bool, (b = true ↔ ∀ i, i < n → a i = a 0) → Q (.inl (some (.int (nI b.toNat)))) 0 D) : ZM yX9_isConstant iX9_isConstant d [.ref 19] D Q := by
  refine z_method (by decide) rfl (Nat.le_of_ble_eq_true rfl) ?_
  refine z_at [(0, .ref 19)] ⟨rfl, trivial⟩ ?_
  have lp : ∀ (m i : Nat) (b : Bool), i + m = n → 1 ≤ i → (b = true ↔ ∀ j, j < i → a j = a 0) → Z (zmk iX9_isConstant d) 0 4 (zl [(0, .ref 19), (1, .int (nI b.toNat)), (2, .int (nI i))]) [] D Q := by
    intro m
    induction m with
    | zero =>
      intro i b hi h1 hb
      have hi : i = n := by omega
      subst hi
      cases b with
      | true =>
        refine z_iload_n dX9_isConstant_4 (by exact rfl) ?_
        refine z_aload_n dX9_isConstant_5 (by exact rfl) ?_
        refine z_gfI zfx_X9_108 (by exact rfl) dX9_isConstant_6 ?_
        refine z_eI (nI i) h24 ?_
        refine z_icmp_ge (tgt := 44) dX9_isConstant_9 (by decide) (fun _ => ?_) (fun q9 => absurd ((nI_le (Nat.le_refl _) (by omega))) q9)
        refine z_iload_n dX9_isConstant_44 (by exact rfl) ?_
        exact z_zret (st := []) (by decide) rfl dX9_isConstant_45 (hq true hb)
      | false =>
        refine z_iload_n dX9_isConstant_4 (by exact rfl) ?_
        refine z_aload_n dX9_isConstant_5 (by exact rfl) ?_
        refine z_gfI zfx_X9_108 (by exact rfl) dX9_isConstant_6 ?_
        refine z_eI (nI i) h24 ?_
        refine z_icmp_ge (tgt := 44) dX9_isConstant_9 (by decide) (fun _ => ?_) (fun q9 => absurd ((nI_le (Nat.le_refl _) (by omega))) q9)
        refine z_iload_n dX9_isConstant_44 (by exact rfl) ?_
        exact z_zret (st := []) (by decide) rfl dX9_isConstant_45 (hq false hb)
    | succ m ih =>
      intro i b hi h1 hb
      obtain ⟨e1, b1⟩ := ha i (by omega)
      obtain ⟨e2, b2⟩ := ha 0 (by omega)
      unfold smI bd at b1 b2
      have inj : lI (a i) = lI (a 0) ↔ a i = a 0 := lI_inj (by omega) (by omega) (by omega) (by omega)
      have nx : ∀ b' : Bool, (b' = true ↔ (b = true ∧ a i = a 0)) → Z (zmk iX9_isConstant d) 0 38 (zl [(0, .ref 19), (1, .int (nI b'.toNat)), (2, .int (nI i))]) [] D Q := by
        intro b' hb'
        refine z_iinc dX9_isConstant_38 (by exact rfl) ?_
        refine z_at [(0, .ref 19), (1, .int (nI b'.toNat)), (2, .int (nI (i + 1)))] ⟨rfl, rfl, congrArg (fun x => some (Value.int x)) (nI_1 i), trivial⟩ ?_
        refine z_goto (tgt := 4) dX9_isConstant_41 (by decide) ?_
        exact ih (i + 1) b' (by omega) (by omega) (by
          rw [hb', hb]
          constructor
          · rintro ⟨q1, q2⟩ j hj
            obtain q | q : j = i ∨ j < i := by omega
            · subst q
              exact q2
            · exact q1 j q
          · intro q
            exact ⟨fun j hj => q j (by omega), q i (by omega)⟩)
      cases b with
      | false =>
        refine z_iload_n dX9_isConstant_4 (by exact rfl) ?_
        refine z_aload_n dX9_isConstant_5 (by exact rfl) ?_
        refine z_gfI zfx_X9_108 (by exact rfl) dX9_isConstant_6 ?_
        refine z_eI (nI n) h24 ?_
        refine z_icmp_ge (tgt := 44) dX9_isConstant_9 (by decide) (fun q9 => absurd q9 ((nI_ge (a := i) (b := n) (by omega) (by omega)))) (fun _ => ?_)
        refine z_iload_n dX9_isConstant_12 (by exact rfl) ?_
        refine z_if_eq (tgt := 36) dX9_isConstant_13 (by decide) (fun _ => ?_) (fun q9 => absurd (rfl) q9)
        refine z_iconst dX9_isConstant_36 ?_
        refine z_istore_n dX9_isConstant_37 (Nat.le_of_ble_eq_true rfl) ?_
        exact z_at [(0, .ref 19), (1, .int (nI false.toNat)), (2, .int (nI i))] ⟨rfl, rfl, rfl, trivial⟩ (nx false (by simp))
      | true =>
        refine z_iload_n dX9_isConstant_4 (by exact rfl) ?_
        refine z_aload_n dX9_isConstant_5 (by exact rfl) ?_
        refine z_gfI zfx_X9_108 (by exact rfl) dX9_isConstant_6 ?_
        refine z_eI (nI n) h24 ?_
        refine z_icmp_ge (tgt := 44) dX9_isConstant_9 (by decide) (fun q9 => absurd q9 ((nI_ge (a := i) (b := n) (by omega) (by omega)))) (fun _ => ?_)
        refine z_iload_n dX9_isConstant_12 (by exact rfl) ?_
        refine z_if_eq (tgt := 36) dX9_isConstant_13 (by decide) (fun q9 => absurd q9 ((by decide))) (fun _ => ?_)
        refine z_aload_n dX9_isConstant_16 (by exact rfl) ?_
        refine z_gfA zfx_X9_55 (by exact rfl) dX9_isConstant_17 ?_
        refine z_iload_n dX9_isConstant_20 (by exact rfl) ?_
        refine z_aJ (by exact rfl) dX9_isConstant_21 (vp_in_nI (by omega) (by omega)) ?_
        refine z_eJ (lI (a i)) (by rw [nI_clamp (n := i) (by omega)]; exact e1) ?_
        refine z_aload_n dX9_isConstant_22 (by exact rfl) ?_
        refine z_gfA zfx_X9_55 (by exact rfl) dX9_isConstant_23 ?_
        refine z_iconst dX9_isConstant_26 ?_
        refine z_aJ (by exact rfl) dX9_isConstant_27 (vp_in_nI (n := 0) (N := 256) (by omega) (by omega)) ?_
        refine z_eJ (lI (a 0)) e2 ?_
        refine z_ne (tgt := 36) dX9_isConstant_28 dX9_isConstant_29 (by decide) (fun c28 => ?_) (fun c28 => ?_)
        · refine z_iconst dX9_isConstant_36 ?_
          refine z_istore_n dX9_isConstant_37 (Nat.le_of_ble_eq_true rfl) ?_
          exact z_at [(0, .ref 19), (1, .int (nI false.toNat)), (2, .int (nI i))] ⟨rfl, rfl, rfl, trivial⟩ (nx false (by
            constructor
            · intro q
              cases q
            · rintro ⟨_, q⟩
              exact absurd (inj.mpr q) c28))
        · refine z_iconst dX9_isConstant_32 ?_
          refine z_goto (tgt := 37) dX9_isConstant_33 (by decide) ?_
          refine z_istore_n dX9_isConstant_37 (Nat.le_of_ble_eq_true rfl) ?_
          exact z_at [(0, .ref 19), (1, .int (nI true.toNat)), (2, .int (nI i))] ⟨rfl, rfl, rfl, trivial⟩ (nx true ⟨fun _ => ⟨rfl, inj.mp c28⟩, fun _ => rfl⟩)
  refine z_iconst dX9_isConstant_0 ?_
  refine z_istore_n dX9_isConstant_1 (Nat.le_of_ble_eq_true rfl) ?_
  refine z_iconst dX9_isConstant_2 ?_
  refine z_istore_n dX9_isConstant_3 (Nat.le_of_ble_eq_true rfl) ?_
  exact z_at [(0, .ref 19), (1, .int (nI true.toNat)), (2, .int (nI 1))] ⟨rfl, rfl, rfl, trivial⟩ (lp (n - 1) 1 true (by omega) (by omega) ⟨fun _ j hj => by
    have : j = 0 := by omega
    rw [this], fun _ => rfl⟩)
def orL (f : Nat → Int64) : Nat → Int64
  | 0 => Int64.ofNat ((0 : Fin 2) : Nat)
  | i + 1 => orL f i ||| f i
theorem or0L {x y : Int64} : x ||| y = 0 ↔ x = 0 ∧ y = 0 := by
  constructor
  · intro h
    have hb : ∀ j, (x.toBitVec.getLsbD j || y.toBitVec.getLsbD j) = false := fun j => by
      rw [← q_lor, h]
      simp
    constructor
    · apply q_ext64
      intro j _
      rw [(Bool.or_eq_false_iff.mp (hb j)).1]
      simp
    · apply q_ext64
      intro j _
      rw [(Bool.or_eq_false_iff.mp (hb j)).2]
      simp
  · rintro ⟨h1, h2⟩
    rw [h1, h2]
    rfl
theorem orL_0 {f : Nat → Int64} : ∀ {n : Nat}, orL f n = 0 ↔ ∀ i, i < n → f i = 0
  | 0 => ⟨fun _ i hi => by omega, fun _ => rfl⟩
  | n + 1 => by
    unfold orL
    rw [or0L, orL_0]
    constructor
    · rintro ⟨h1, h2⟩ i hi
      obtain e | e : i = n ∨ i < n := by omega
      · subst e
        exact h2
      · exact h1 i e
    · intro h
      exact ⟨fun i hi => h i (by omega), h n (by omega)⟩
theorem orL_op {f : Nat → Int64} {op : Int64 → Int64} (h0 : op (Int64.ofNat ((0 : Fin 2) : Nat)) = Int64.ofNat ((0 : Fin 2) : Nat)) (ho : ∀ x y, op (x ||| y) = op x ||| op y) : ∀ (n : Nat), op (orL f n) = orL (fun i => op (f i)) n
  | 0 => h0
  | n + 1 => by
    show op (orL f n ||| f n) = _
    rw [ho, orL_op h0 ho n]
    rfl
theorem orL_and (n : Nat) (f : Nat → Int64) : orL f n &&& Int64.ofNat ((1 : Fin 2) : Nat) = orL (fun i => f i &&& Int64.ofNat ((1 : Fin 2) : Nat)) n := orL_op (op := fun x => x &&& Int64.ofNat ((1 : Fin 2) : Nat)) (by decide) (fun x y => by
  apply q_ext64
  intro j _
  rw [q_lor, q_land, q_land, q_land, q_lor]
  cases x.toBitVec.getLsbD j <;> cases y.toBitVec.getLsbD j <;> simp) n
theorem orL_shr {s : Nat} (hs : s < 64) (n : Nat) (f : Nat → Int64) : orL f n >>> ((nI s).toInt64 &&& 63) = orL (fun i => f i >>> ((nI s).toInt64 &&& 63)) n := orL_op (op := fun x => x >>> ((nI s).toInt64 &&& 63)) (by
  apply Int64.toBitVec_inj.mp
  show (Int64.ofNat ((0 : Fin 2) : Nat) >>> ((nI s).toInt64 &&& 63)).toBitVec = _
  rw [q_lshr s hs]
  show BitVec.sshiftRight 0#64 s = 0#64
  simp) (fun x y => by
  have e : ∀ z : Int64, (z >>> ((nI s).toInt64 &&& 63)).toBitVec = z.toBitVec.sshiftRight s := fun z => q_lshr s hs z
  apply q_ext64
  intro j _
  rw [q_lor]
  show ((x ||| y) >>> ((nI s).toInt64 &&& 63)).toBitVec.getLsbD j = ((x >>> ((nI s).toInt64 &&& 63)).toBitVec.getLsbD j || (y >>> ((nI s).toInt64 &&& 63)).toBitVec.getLsbD j)
  rw [e, e, e]
  simp only [BitVec.getLsbD_sshiftRight, Int64.toBitVec_or, BitVec.getLsbD_or, BitVec.msb_or]
  cases decide (64 ≤ j) <;> by_cases h : s + j < 64 <;> simp [h]) n
theorem orL_congr {f g : Nat → Int64} : ∀ {n : Nat}, (∀ i, i < n → f i = g i) → orL f n = orL g n
  | 0, _ => rfl
  | n + 1, h => by
    show orL f n ||| f n = orL g n ||| g n
    rw [orL_congr (fun i hi => h i (by omega)), h n (by omega)]
theorem c_takeWaste {d n b : Nat} {D : zD} {Q : zQ} {a : zRow} (h24 : D.1 19 24 = nI n) (hn : n ≤ 256) (hb : 1 ≤ b ∧ b ≤ 25) (ha : rowL D a n) (hab : allB b n a) (hq : ∀ D', wst n a < b → rowL D' (shR (wst n a) a) n → zfr f61 D D' → Q (.inl (some (.int (nI (wst n a))))) 0 D') : ZM yX9_takeWaste iX9_takeWaste d [.ref 19] D Q := by
  refine z_method (by decide) rfl (Nat.le_of_ble_eq_true rfl) ?_
  refine z_at [(0, .ref 19)] ⟨rfl, trivial⟩ ?_
  have sft : ∀ (w : Nat), w = wst n a → w < b → ∀ (m i : Nat) (D1 : zD), i + m = n → (∀ j, j < n → D1.2 61 j = lI (if j < i then a j >>> w else a j)) → zfr f61 D D1 → Z (zmk iX9_takeWaste d) 0 54 (zl [(0, .ref 19), (3, .int (nI w)), (4, .int (nI i))]) [] D1 Q := by
    intro w hw hwb m
    induction m with
    | zero =>
      intro i D1 hi hr1 hF
      have hi : i = n := by omega
      subst hi
      refine z_iload dX9_takeWaste_54 (by exact rfl) ?_
      refine z_aload_n dX9_takeWaste_56 (by exact rfl) ?_
      refine z_gfI zfx_X9_108 (by exact rfl) dX9_takeWaste_57 ?_
      refine z_eI (nI i) ((hF.1 19 24 rfl).trans h24) ?_
      refine z_icmp_ge (tgt := 85) dX9_takeWaste_60 (by decide) (fun _ => ?_) (fun q9 => absurd ((nI_le (Nat.le_refl _) (by omega))) q9)
      refine z_iload_n dX9_takeWaste_85 (by exact rfl) ?_
      exact z_iret (st := []) rfl dX9_takeWaste_86 (by
        rw [hw]
        exact hq D1 (hw ▸ hwb) (fun j hj => ⟨by
          rw [hr1 j hj, if_pos hj, hw]
          rfl, smI_shr _ (ha j hj).2⟩) hF)
    | succ m ih =>
      intro i D1 hi hr1 hF
      have b1 := (ha i (by omega)).2
      unfold smI bd at b1
      have cl : (nI i).toNatClampNeg = i := nI_clamp (by omega)
      refine z_iload dX9_takeWaste_54 (by exact rfl) ?_
      refine z_aload_n dX9_takeWaste_56 (by exact rfl) ?_
      refine z_gfI zfx_X9_108 (by exact rfl) dX9_takeWaste_57 ?_
      refine z_eI (nI n) ((hF.1 19 24 rfl).trans h24) ?_
      refine z_icmp_ge (tgt := 85) dX9_takeWaste_60 (by decide) (fun q9 => absurd q9 ((nI_ge (a := i) (b := n) (by omega) (by omega)))) (fun _ => ?_)
      refine z_aload_n dX9_takeWaste_63 (by exact rfl) ?_
      refine z_gfA zfx_X9_55 (by exact rfl) dX9_takeWaste_64 ?_
      refine z_iload dX9_takeWaste_67 (by exact rfl) ?_
      refine z_aload_n dX9_takeWaste_69 (by exact rfl) ?_
      refine z_gfA zfx_X9_55 (by exact rfl) dX9_takeWaste_70 ?_
      refine z_iload dX9_takeWaste_73 (by exact rfl) ?_
      refine z_aJ (by exact rfl) dX9_takeWaste_75 (vp_in_nI (by omega) (by omega)) ?_
      refine z_eJ (lI (a i)) (by rw [cl, hr1 i (by omega), if_neg (by omega)]) ?_
      refine z_iload_n dX9_takeWaste_76 (by exact rfl) ?_
      refine z_lshr dX9_takeWaste_77 ?_
      refine z_eJ (lI (a i >>> w)) (lI_shr (by omega) (by omega) (by omega)) ?_
      refine z_sJ (by exact rfl) dX9_takeWaste_78 (vp_in_nI (by omega) (by omega)) ?_
      rw [cl]
      refine z_iinc dX9_takeWaste_79 (by exact rfl) ?_
      refine z_at [(0, .ref 19), (3, .int (nI w)), (4, .int (nI (i + 1)))] ⟨rfl, rfl, congrArg (fun x => some (Value.int x)) (nI_1 i), trivial⟩ ?_
      refine z_goto (tgt := 54) dX9_takeWaste_82 (by decide) ?_
      exact ih (i + 1) _ (by omega) (fun j hj => by
        by_cases e : j = i
        · subst e
          rw [zuL_at, if_pos (by omega)]
        · rw [zuL_ne (by omega), hr1 j hj]
          by_cases e2 : j < i
          · rw [if_pos e2, if_pos (by omega)]
          · rw [if_neg e2, if_neg (by omega)]) (hF.uL _ rfl)
  have s0 : ∀ (w : Nat), w = wst n a → w < b → Z (zmk iX9_takeWaste d) 0 51 (zl [(0, .ref 19), (3, .int (nI w))]) [] D Q := by
    intro w hw hwb
    refine z_iconst dX9_takeWaste_51 ?_
    refine z_istore dX9_takeWaste_52 (Nat.le_of_ble_eq_true rfl) ?_
    exact z_at [(0, .ref 19), (3, .int (nI w)), (4, .int (nI 0))] ⟨rfl, rfl, rfl, trivial⟩ (sft w hw hwb n 0 D (by omega) (fun j hj => by
      rw [if_neg (by omega)]
      exact (ha j hj).1) zfr.rf)
  have z0 : orL (fun i => lI (a i)) n = 0 ↔ ∀ i, i < n → a i = 0 := by
    rw [orL_0]
    constructor
    · intro h i hi
      have hb1 := (ha i hi).2
      unfold smI bd at hb1
      exact (lI_inj (a := a i) (b := 0) (by omega) (by omega) (by omega) (by omega)).mp (h i hi)
    · intro h i hi
      show lI (a i) = 0
      rw [h i hi]
      rfl
  have o0 : ∀ (w : Nat), w < 64 → (∀ i, i < n → a i % 2 ^ w = 0) → ((orL (fun i => lI (a i)) n >>> ((nI w).toInt64 &&& 63)) &&& Int64.ofNat ((1 : Fin 2) : Nat) = 0 ↔ ∀ i, i < n → a i % 2 ^ (w + 1) = 0) := by
    intro w hw hmod
    have e : ∀ i, i < n → (lI (a i) >>> ((nI w).toInt64 &&& 63)) &&& Int64.ofNat ((1 : Fin 2) : Nat) = lI ((a i >>> w) % 2) := fun i hi => by
      have hb1 := (ha i hi).2
      unfold smI bd at hb1
      rw [lI_shr hw (by omega) (by omega), lI_and1]
    rw [orL_shr hw, orL_and, orL_0]
    constructor
    · intro h i hi
      have h2 : (lI (a i) >>> ((nI w).toInt64 &&& 63)) &&& Int64.ofNat ((1 : Fin 2) : Nat) = 0 := h i hi
      rw [e i hi] at h2
      exact mod_up.mpr ⟨hmod i hi, (lI_inj (a := a i >>> w % 2) (b := 0) (by omega) (by omega) (by omega) (by omega)).mp h2⟩
    · intro h i hi
      show (lI (a i) >>> ((nI w).toInt64 &&& 63)) &&& Int64.ofNat ((1 : Fin 2) : Nat) = 0
      rw [e i hi, (mod_up.mp (h i hi)).2]
      rfl
  have cnt : ∀ (m w : Nat), w + m = b - 1 → (∀ i, i < n → a i % 2 ^ w = 0) → (w = 0 ∨ ¬ ∀ i, i < n → a i = 0) → Z (zmk iX9_takeWaste d) 0 29 (zl [(0, .ref 19), (1, .long (orL (fun i => lI (a i)) n)), (3, .int (nI w))]) [] D Q := by
    intro m
    induction m with
    | zero =>
      intro w hm hmod hnz
      refine z_lload_n dX9_takeWaste_29 (by exact rfl) ?_
      refine z_lconst dX9_takeWaste_30 ?_
      refine z_eq (tgt := 51) dX9_takeWaste_31 dX9_takeWaste_32 (by decide) (fun c31 => ?_) (fun c31 => ?_)
      · exact z_at [(0, .ref 19), (3, .int (nI w))] ⟨rfl, rfl, trivial⟩ (by
          have hz := z0.mp c31
          have hw0 : wst n a = 0 := wst_eq (.inl ⟨hz, rfl⟩)
          rcases hnz with h | h
          · exact s0 w (by omega) (by omega)
          · exact absurd hz h)
      · refine z_lload_n dX9_takeWaste_35 (by exact rfl) ?_
        refine z_iload_n dX9_takeWaste_36 (by exact rfl) ?_
        refine z_lshr dX9_takeWaste_37 ?_
        refine z_lconst dX9_takeWaste_38 ?_
        refine z_land dX9_takeWaste_39 ?_
        refine z_lconst dX9_takeWaste_40 ?_
        refine z_ne (tgt := 51) dX9_takeWaste_41 dX9_takeWaste_42 (by decide) (fun c41 => ?_) (fun c41 => ?_)
        · exact z_at [(0, .ref 19), (3, .int (nI w))] ⟨rfl, rfl, trivial⟩ (by
            have : ¬ ∀ i, i < n → a i % 2 ^ (w + 1) = 0 := fun q => c41 ((o0 w (by omega) hmod).mpr q)
            exact s0 w (wst_eq (.inr ⟨hmod, Classical.byContradiction fun q => this (fun i hi => Classical.byContradiction fun q2 => q ⟨i, hi, q2⟩)⟩)).symm (by omega))
        · exact absurd (z0.mpr (fun i hi => inB_mod0 hb.1 (hab i hi) (by
            have := (o0 w (by omega) hmod).mp c41 i hi
            rw [show w + 1 = b by omega] at this
            exact this))) c31
    | succ m ih =>
      intro w hm hmod hnz
      refine z_lload_n dX9_takeWaste_29 (by exact rfl) ?_
      refine z_lconst dX9_takeWaste_30 ?_
      refine z_eq (tgt := 51) dX9_takeWaste_31 dX9_takeWaste_32 (by decide) (fun c31 => ?_) (fun c31 => ?_)
      · exact z_at [(0, .ref 19), (3, .int (nI w))] ⟨rfl, rfl, trivial⟩ (by
          have hz := z0.mp c31
          have hw0 : wst n a = 0 := wst_eq (.inl ⟨hz, rfl⟩)
          rcases hnz with h | h
          · exact s0 w (by omega) (by omega)
          · exact absurd hz h)
      · refine z_lload_n dX9_takeWaste_35 (by exact rfl) ?_
        refine z_iload_n dX9_takeWaste_36 (by exact rfl) ?_
        refine z_lshr dX9_takeWaste_37 ?_
        refine z_lconst dX9_takeWaste_38 ?_
        refine z_land dX9_takeWaste_39 ?_
        refine z_lconst dX9_takeWaste_40 ?_
        refine z_ne (tgt := 51) dX9_takeWaste_41 dX9_takeWaste_42 (by decide) (fun c41 => ?_) (fun c41 => ?_)
        · exact z_at [(0, .ref 19), (3, .int (nI w))] ⟨rfl, rfl, trivial⟩ (by
            have : ¬ ∀ i, i < n → a i % 2 ^ (w + 1) = 0 := fun q => c41 ((o0 w (by omega) hmod).mpr q)
            exact s0 w (wst_eq (.inr ⟨hmod, Classical.byContradiction fun q => this (fun i hi => Classical.byContradiction fun q2 => q ⟨i, hi, q2⟩)⟩)).symm (by omega))
        · refine z_iinc dX9_takeWaste_45 (by exact rfl) ?_
          refine z_at [(0, .ref 19), (1, .long (orL (fun i => lI (a i)) n)), (3, .int (nI (w + 1)))] ⟨rfl, rfl, congrArg (fun x => some (Value.int x)) (nI_1 w), trivial⟩ ?_
          refine z_goto (tgt := 29) dX9_takeWaste_48 (by decide) ?_
          exact ih (w + 1) (by omega) ((o0 w (by omega) hmod).mp c41) (.inr (fun q => c31 (z0.mpr q)))
  have orl : ∀ (m i : Nat), i + m = n → Z (zmk iX9_takeWaste d) 0 4 (zl [(0, .ref 19), (1, .long (orL (fun i => lI (a i)) i)), (3, .int (nI i))]) [] D Q := by
    intro m
    induction m with
    | zero =>
      intro i hi
      have hi : i = n := by omega
      subst hi
      refine z_iload_n dX9_takeWaste_4 (by exact rfl) ?_
      refine z_aload_n dX9_takeWaste_5 (by exact rfl) ?_
      refine z_gfI zfx_X9_108 (by exact rfl) dX9_takeWaste_6 ?_
      refine z_eI (nI i) h24 ?_
      refine z_icmp_ge (tgt := 27) dX9_takeWaste_9 (by decide) (fun _ => ?_) (fun q9 => absurd ((nI_le (Nat.le_refl _) (by omega))) q9)
      refine z_iconst dX9_takeWaste_27 ?_
      refine z_istore_n dX9_takeWaste_28 (Nat.le_of_ble_eq_true rfl) ?_
      exact z_at [(0, .ref 19), (1, .long (orL (fun j => lI (a j)) i)), (3, .int (nI 0))] ⟨rfl, rfl, rfl, trivial⟩ (cnt (b - 1) 0 (by omega) (fun j hj => by rw [Int.pow_zero]; exact Int.emod_one _) (.inl rfl))
    | succ m ih =>
      intro i hi
      refine z_iload_n dX9_takeWaste_4 (by exact rfl) ?_
      refine z_aload_n dX9_takeWaste_5 (by exact rfl) ?_
      refine z_gfI zfx_X9_108 (by exact rfl) dX9_takeWaste_6 ?_
      refine z_eI (nI n) h24 ?_
      refine z_icmp_ge (tgt := 27) dX9_takeWaste_9 (by decide) (fun q9 => absurd q9 ((nI_ge (a := i) (b := n) (by omega) (by omega)))) (fun _ => ?_)
      refine z_lload_n dX9_takeWaste_12 (by exact rfl) ?_
      refine z_aload_n dX9_takeWaste_13 (by exact rfl) ?_
      refine z_gfA zfx_X9_55 (by exact rfl) dX9_takeWaste_14 ?_
      refine z_iload_n dX9_takeWaste_17 (by exact rfl) ?_
      refine z_aJ (by exact rfl) dX9_takeWaste_18 (vp_in_nI (by omega) (by omega)) ?_
      refine z_eJ (lI (a i)) (by
        rw [nI_clamp (n := i) (by omega)]
        exact (ha i (by omega)).1) ?_
      refine z_lor dX9_takeWaste_19 ?_
      refine z_lstore_n dX9_takeWaste_20 (Nat.le_of_ble_eq_true rfl) ?_
      refine z_iinc dX9_takeWaste_21 (by exact rfl) ?_
      refine z_at [(0, .ref 19), (1, .long (orL (fun i => lI (a i)) (i + 1))), (3, .int (nI (i + 1)))] ⟨rfl, rfl, congrArg (fun x => some (Value.int x)) (nI_1 i), trivial⟩ ?_
      refine z_goto (tgt := 4) dX9_takeWaste_24 (by decide) ?_
      exact ih (i + 1) (by omega)
  refine z_lconst dX9_takeWaste_0 ?_
  refine z_lstore_n dX9_takeWaste_1 (Nat.le_of_ble_eq_true rfl) ?_
  refine z_iconst dX9_takeWaste_2 ?_
  refine z_istore_n dX9_takeWaste_3 (Nat.le_of_ble_eq_true rfl) ?_
  exact z_at [(0, .ref 19), (1, .long (orL (fun i => lI (a i)) 0)), (3, .int (nI 0))] ⟨rfl, rfl, rfl, trivial⟩ (orl n 0 (by omega))
