/-! ===== rows of numbers ===== -/
theorem zuR_id (D : zD) (a : Nat) : zuR D a (D.1 a) = D := by
  unfold zuR
  refine Prod.ext (funext fun b => ?_) rfl
  show (if b = a then D.1 a else D.1 b) = D.1 b
  split
  next h => rw [h]
  next => rfl
theorem zuM_id (D : zD) (a : Nat) : zuM D a (D.2 a) = D := by
  unfold zuM
  refine Prod.ext rfl (funext fun b => ?_)
  show (if b = a then D.2 a else D.2 b) = D.2 b
  split
  next h => rw [h]
  next => rfl
theorem zuI_zuR (D : zD) (a k : Nat) (f : Nat → Int32) (v : Int32) : zuI (zuR D a f) a k v = zuR D a (upd f k v) := by
  unfold zuI zuR
  refine Prod.ext (funext fun b => ?_) rfl
  show (if b = a then upd (if a = a then f else D.1 a) k v else if b = a then f else D.1 b) = if b = a then upd f k v else D.1 b
  rw [if_pos rfl]
  split <;> rfl
theorem zuL_zuM (D : zD) (a k : Nat) (f : Nat → Int64) (v : Int64) : zuL (zuM D a f) a k v = zuM D a (vp_updL f k v) := by
  unfold zuL zuM
  refine Prod.ext rfl (funext fun b => ?_)
  show (if b = a then vp_updL (if a = a then f else D.2 a) k v else if b = a then f else D.2 b) = if b = a then vp_updL f k v else D.2 b
  rw [if_pos rfl]
  split <;> rfl
theorem z_eD {M : zM} {k pc : Nat} {L : zLo} {st : List Value} {D D' : zD} {Q : zQ} (h : D = D') (kk : Z M k pc L st D' Q) : Z M k pc L st D Q := h ▸ kk
theorem zuI_I (D : zD) (a k : Nat) (t v : Int32) : zuI (zuI D a k t) a k v = zuI D a k v := by
  unfold zuI
  refine Prod.ext (funext fun b => ?_) rfl
  show (if b = a then upd (if a = a then upd (D.1 a) k t else D.1 a) k v else if b = a then upd (D.1 a) k t else D.1 b) = if b = a then upd (D.1 a) k v else D.1 b
  rw [if_pos rfl]
  split
  next =>
    funext j
    unfold upd
    split <;> rfl
  next => rfl
theorem zuL_I (D : zD) (a k b j : Nat) (t : Int32) (v : Int64) : zuL (zuI D a k t) b j v = zuI (zuL D b j v) a k t := rfl
theorem zuI_id (D : zD) (a k : Nat) (v : Int32) (h : D.1 a k = v) : zuI D a k v = D := by
  unfold zuI
  refine Prod.ext (funext fun b => ?_) rfl
  show (if b = a then upd (D.1 a) k v else D.1 b) = D.1 b
  split
  next hb =>
    funext j
    unfold upd
    rw [hb]
    split
    next hj => rw [hj, h]
    next => rfl
  next => rfl
/-! ===== feed ===== -/
/-- byte i of w, from the highest on, as the class stores it -/
def wB (w : Int64) (i : Nat) : Int32 := (w >>> ((nI (56 - 8 * i)).toInt64 &&& 63)).toInt32.toInt8.toInt32
def apF (f : Nat → Int32) (sz n : Nat) (w : Int64) : Nat → Int32 := fun j => if sz ≤ j ∧ j < sz + n then wB w (j - sz) else f j
theorem apF_0 (f : Nat → Int32) (sz : Nat) (w : Int64) : apF f sz 0 w = f := by
  funext j
  unfold apF
  rw [if_neg (by omega)]
theorem apF_s (f : Nat → Int32) (sz i : Nat) (w : Int64) : upd (apF f sz i w) (sz + i) (wB w i) = apF f sz (i + 1) w := by
  funext j
  unfold upd apF
  by_cases h : j = sz + i
  · rw [if_pos h, if_pos (by omega), show j - sz = i by omega]
  · rw [if_neg h]
    by_cases h2 : sz ≤ j ∧ j < sz + i
    · rw [if_pos h2, if_pos (by omega)]
    · rw [if_neg h2, if_neg (by omega)]
theorem q_56 {i : Nat} (h : i ≤ 7) : (Int8.ofInt 56).toInt32 - (Int8.ofInt 8).toInt32 * nI i = nI (56 - 8 * i) := by
  have e : (Int8.ofInt 8).toInt32 * nI i = nI (8 * i) := pk_mul 8 i
  rw [e]
  exact pk_sub (a := 56) (by omega)
theorem wB_narrow (w : Int64) (i : Nat) : (wB w i).toInt8.toInt32 = wB w i := by
  unfold wB
  have := pk_nb (w >>> ((nI (56 - 8 * i)).toInt64 &&& 63)).toInt32
  rw [narrow_byte] at this
  exact Value.int.inj this
theorem c_append {d sz n : Nat} {D : zD} {Q : zQ} {w : Int64} (hsz : D.1 37 1 = nI sz) (h : sz ≤ 20000) (hn : n ≤ 8) (h1 : sz + n ≤ 20000 → Q (.inl (some (.int 1))) 0 (zuI (zuR D 38 (apF (D.1 38) sz n w)) 37 1 (nI (sz + n)))) (h0 : ¬ sz + n ≤ 20000 → Q (.inl (some (.int 0))) 0 D) :
    ZM yX4_append iX4_append d [.ref 37, .long w, .int (nI n)] D Q := by
  refine z_method (by decide) rfl (Nat.le_of_ble_eq_true rfl) ?_
  refine z_at [(0, .ref 37), (1, .long w), (3, .int (nI n))] ⟨rfl, rfl, rfl, trivial⟩ ?_
  have lp : sz + n ≤ 20000 → ∀ (m i : Nat), i + m = n → Z (zmk iX4_append d) 0 17 (zl [(0, .ref 37), (1, .long w), (3, .int (nI n)), (4, .int (nI i))]) [] (zuR D 38 (apF (D.1 38) sz i w)) Q := by
    intro hle m
    induction m with
    | zero =>
      intro i hi
      refine z_iload dX4_append_17 (by exact rfl) ?_
      refine z_iload_n dX4_append_19 (by exact rfl) ?_
      refine z_icmp_ge (tgt := 53) dX4_append_20 (by decide) (fun _ => ?_) (fun q9 => absurd ((by rw [show i = n by omega]; exact Int32.le_refl _)) q9)
      refine z_aload_n dX4_append_53 (by exact rfl) ?_
      refine z_dup dX4_append_54 (by exact rfl) ?_
      refine z_gfI zfx_X4_15 (by exact rfl) dX4_append_55 ?_
      refine z_eI (nI sz) hsz ?_
      refine z_iload_n dX4_append_58 (by exact rfl) ?_
      refine z_iadd dX4_append_59 ?_
      refine z_eI (nI (sz + n)) (nI_add sz n) ?_
      refine z_pfI zfx_X4_15 (by exact rfl) dX4_append_60 ?_
      refine z_iconst dX4_append_63 ?_
      exact z_zret (st := []) (by decide) rfl dX4_append_64 (by rw [show i = n by omega]; exact h1 hle)
    | succ m ih =>
      intro i hi
      refine z_iload dX4_append_17 (by exact rfl) ?_
      refine z_iload_n dX4_append_19 (by exact rfl) ?_
      refine z_icmp_ge (tgt := 53) dX4_append_20 (by decide) (fun q9 => absurd q9 ((nI_ge (by omega) (by omega)))) (fun _ => ?_)
      refine z_aload_n dX4_append_23 (by exact rfl) ?_
      refine z_gfA zfx_X4_9 (by exact rfl) dX4_append_24 ?_
      refine z_aload_n dX4_append_27 (by exact rfl) ?_
      refine z_gfI zfx_X4_15 (by exact rfl) dX4_append_28 ?_
      refine z_eI (nI sz) hsz ?_
      refine z_iload dX4_append_31 (by exact rfl) ?_
      refine z_iadd dX4_append_33 ?_
      refine z_eI (nI (sz + i)) (nI_add sz i) ?_
      refine z_lload_n dX4_append_34 (by exact rfl) ?_
      refine z_bipush dX4_append_35 ?_
      refine z_bipush dX4_append_37 ?_
      refine z_iload dX4_append_39 (by exact rfl) ?_
      refine z_imul dX4_append_41 ?_
      refine z_isub dX4_append_42 ?_
      refine z_eI (nI (56 - 8 * i)) (q_56 (by omega)) ?_
      refine z_lshr dX4_append_43 ?_
      refine z_l2i dX4_append_44 ?_
      refine z_i2b dX4_append_45 ?_
      refine z_eI (wB w i) rfl ?_
      refine z_sB (by exact rfl) dX4_append_46 (vp_in_nI (by omega) (by omega)) ?_
      rw [nI_clamp (show sz + i < 2 ^ 31 by omega), wB_narrow, zuI_zuR, apF_s]
      refine z_iinc dX4_append_47 (by exact rfl) ?_
      refine z_goto (tgt := 17) dX4_append_50 (by decide) ?_
      refine z_at [(0, .ref 37), (1, .long w), (3, .int (nI n)), (4, .int (nI (i + 1)))] ⟨rfl, rfl, rfl, congrArg (fun v => some (Value.int v)) (nI_1 i), trivial⟩ (ih (i + 1) (by omega))
  refine z_aload_n dX4_append_0 (by exact rfl) ?_
  refine z_gfI zfx_X4_15 (by exact rfl) dX4_append_1 ?_
  refine z_eI (nI sz) hsz ?_
  refine z_iload_n dX4_append_4 (by exact rfl) ?_
  refine z_iadd dX4_append_5 ?_
  refine z_eI (nI (sz + n)) (nI_add sz n) ?_
  refine z_sipush dX4_append_6 ?_
  refine z_icmp_le (tgt := 14) dX4_append_9 (by decide) (fun c9 => ?_) (fun c9 => ?_)
  · refine z_iconst dX4_append_14 ?_
    refine z_istore dX4_append_15 (Nat.le_of_ble_eq_true rfl) ?_
    have hle : sz + n ≤ 20000 := (nI_leI (a := sz + n) (b := 20000) (by omega) (by omega)).mp c9
    have h9 := lp hle n 0 (by omega)
    rw [apF_0, zuR_id] at h9
    exact z_at [(0, .ref 37), (1, .long w), (3, .int (nI n)), (4, .int (nI 0))] ⟨rfl, rfl, rfl, rfl, trivial⟩ h9
  · refine z_iconst dX4_append_12 ?_
    exact z_zret (st := []) (by decide) rfl dX4_append_13 (h0 (fun q => c9 ((nI_leI (a := sz + n) (b := 20000) (by omega) (by omega)).mpr q)))
theorem zN_in18 {i : Int32} : (Int64.ofNat ((1 : Fin 2) : Nat) ≤ i.toInt64 ∧ i.toInt64 ≤ 8) ↔ ∃ j, 1 ≤ j ∧ j ≤ 8 ∧ i = nI j := by
  have e1 : (Int64.ofNat ((1 : Fin 2) : Nat)).toInt = 1 := rfl
  have e2 : (8 : Int64).toInt = 8 := rfl
  rw [Int64.le_iff_toInt_le, Int64.le_iff_toInt_le, Int32.toInt_toInt64, e1, e2]
  constructor
  · rintro ⟨h1, h2⟩
    refine ⟨i.toInt.toNat, by omega, by omega, ?_⟩
    apply Int32.toInt_inj.mp
    rw [nI_toInt (by omega)]
    omega
  · rintro ⟨j, h1, h2, rfl⟩
    rw [nI_toInt (by omega)]
    omega
/-- feed takes n bytes of w: the tape has tp -/
def okFeed (tp : Nat) (n : Int32) : Prop := ∃ j, 1 ≤ j ∧ j ≤ 8 ∧ n = nI j ∧ tp + j ≤ 20000
theorem c_feed8 {d sz : Nat} {D : zD} {Q : zQ} {w : Int64} {n : Int32} (hsz : D.1 37 1 = nI sz) (h : sz ≤ 20000) (h1 : ∀ j, 1 ≤ j → j ≤ 8 → n = nI j → sz + j ≤ 20000 → Q (.inl (some (.int 1))) 0 (zuI (zuR D 38 (apF (D.1 38) sz j w)) 37 1 (nI (sz + j)))) (h0 : ¬ okFeed sz n → Q (.inl (some (.int 0))) 0 D) :
    ZM yX8_feed iX8_feed (d + 1) [.ref 0, .long w, .int n] D Q := by
  refine z_method (by decide) rfl (Nat.le_of_ble_eq_true rfl) ?_
  refine z_at [(0, .ref 0), (1, .long w), (3, .int n)] ⟨rfl, rfl, rfl, trivial⟩ ?_
  refine z_iload_n dX8_feed_0 (by exact rfl) ?_
  refine z_i2l dX8_feed_1 ?_
  refine z_lconst dX8_feed_2 ?_
  refine z_ldcL dX8_feed_3 zclx_X8_47 ?_
  refine z_cS dX8_feed_6 zk_X8_49 (by exact rfl) (Nat.le_of_ble_eq_true rfl) (Nat.le_of_ble_eq_true rfl) (Nat.le_refl _) ?_
  refine c_within (fun a6 b6 => ?_) (fun n6 => ?_)
  · refine z_if_eq (tgt := 28) dX8_feed_9 (by decide) (fun q9 => absurd q9 (by decide)) (fun _ => ?_)
    obtain ⟨j, hj1, hj2, rfl⟩ := zN_in18.mp ⟨a6, b6⟩
    refine z_aload_n dX8_feed_12 (by exact rfl) ?_
    refine z_gfA zfx_X8_43 (by exact rfl) dX8_feed_13 ?_
    refine z_lload_n dX8_feed_16 (by exact rfl) ?_
    refine z_iload_n dX8_feed_17 (by exact rfl) ?_
    refine z_cV dX8_feed_18 zk_X8_131 (by exact rfl) (by exact rfl) (by exact rfl) (Nat.le_of_ble_eq_true rfl) (Nat.le_of_ble_eq_true rfl) (Nat.le_refl _) ?_
    refine c_append hsz h hj2 (fun a18 => ?_) (fun n18 => ?_)
    · refine z_if_eq (tgt := 28) dX8_feed_21 (by decide) (fun q9 => absurd q9 (by decide)) (fun _ => ?_)
      refine z_iconst dX8_feed_24 ?_
      refine z_goto (tgt := 29) dX8_feed_25 (by decide) ?_
      exact z_zret (st := []) (by decide) rfl dX8_feed_29 (h1 j hj1 hj2 rfl a18)
    · refine z_if_eq (tgt := 28) dX8_feed_21 (by decide) (fun _ => ?_) (fun q9 => absurd q9 (by decide))
      refine z_iconst dX8_feed_28 ?_
      exact z_zret (st := []) (by decide) rfl dX8_feed_29 (h0 (fun q => by
        obtain ⟨i, i1, i2, i3, i4⟩ := q
        have := (nI_eq (a := j) (b := i) (by omega) (by omega)).mp i3
        exact n18 (by omega)))
  · refine z_if_eq (tgt := 28) dX8_feed_9 (by decide) (fun _ => ?_) (fun q9 => absurd q9 (by decide))
    refine z_iconst dX8_feed_28 ?_
    exact z_zret (st := []) (by decide) rfl dX8_feed_29 (h0 (fun q => by
      obtain ⟨i, i1, i2, i3, i4⟩ := q
      exact n6 (zN_in18.mpr ⟨i, i1, i2, i3⟩)))
/-- byte p of a row of longs becomes byte i of w -/
def ptB (g : Nat → Int64) (p : Nat) (w : Int64) (i : Nat) : Nat → Int64 :=
  vp_updL g (p / 8) (g (p / 8) &&& (255 <<< ((nI (56 - 8 * (p % 8))).toInt64 &&& 63) ^^^ -1) ||| (w >>> ((nI (56 - 8 * i)).toInt64 &&& 63) &&& 255) <<< ((nI (56 - 8 * (p % 8))).toInt64 &&& 63))
def ptF (g : Nat → Int64) (tp : Nat) (w : Int64) : Nat → Nat → Int64
  | 0 => g
  | i + 1 => ptB (ptF g tp w i) (tp + i) w i
theorem c_feed9 {d tp : Nat} {D : zD} {Q : zQ} {w : Int64} {n : Int32} (htp : D.1 19 20 = nI tp) (h : tp ≤ 20000) (h1 : ∀ j, 1 ≤ j → j ≤ 8 → n = nI j → tp + j ≤ 20000 → Q (.inl (some (.int 1))) 0 (zuI (zuM (zuI D 19 0 (Int32.ofInt 0)) 60 (ptF (D.2 60) tp w j)) 19 20 (nI (tp + j)))) (h0 : ¬ okFeed tp n → Q (.inl (some (.int 0))) 0 (zuI D 19 0 (Int32.ofInt 0))) :
    ZM yX9_feed iX9_feed (d + 1) [.ref 19, .long w, .int n] D Q := by
  refine z_method (by decide) rfl (Nat.le_of_ble_eq_true rfl) ?_
  refine z_at [(0, .ref 19), (1, .long w), (3, .int n)] ⟨rfl, rfl, rfl, trivial⟩ ?_
  have lp : ∀ (j : Nat), 1 ≤ j → j ≤ 8 → n = nI j → tp + j ≤ 20000 → ∀ (m i : Nat), i + m = j → ∀ t : Int32, t = nI (tp + i) → Z (zmk iX9_feed (d + 1)) 0 34 (zl [(0, .ref 19), (1, .long w), (3, .int (nI j)), (4, .int (nI i))]) [] (zuI (zuM (zuI D 19 0 (Int32.ofInt 0)) 60 (ptF (D.2 60) tp w i)) 19 20 t) Q := by
    intro j hj1 hj2 hnj hle m
    induction m with
    | zero =>
      intro i hi t ht
      refine z_iload dX9_feed_34 (by exact rfl) ?_
      refine z_iload_n dX9_feed_36 (by exact rfl) ?_
      refine z_icmp_ge (tgt := 124) dX9_feed_37 (by decide) (fun _ => ?_) (fun q9 => absurd ((by rw [show i = j by omega]; exact Int32.le_refl _)) q9)
      refine z_iconst dX9_feed_124 ?_
      exact z_zret (st := []) (by decide) rfl dX9_feed_125 (by rw [ht, show i = j by omega]; exact h1 j hj1 hj2 hnj hle)
    | succ m ih =>
      intro i hi t ht
      refine z_iload dX9_feed_34 (by exact rfl) ?_
      refine z_iload_n dX9_feed_36 (by exact rfl) ?_
      refine z_icmp_ge (tgt := 124) dX9_feed_37 (by decide) (fun q9 => absurd q9 ((nI_ge (by omega) (by omega)))) (fun _ => ?_)
      refine z_bipush dX9_feed_40 ?_
      refine z_bipush dX9_feed_42 ?_
      refine z_aload_n dX9_feed_44 (by exact rfl) ?_
      refine z_gfI zfx_X9_259 (by exact rfl) dX9_feed_45 ?_
      refine z_eI (nI (tp + i)) ht ?_
      refine z_bipush dX9_feed_48 ?_
      refine z_irem dX9_feed_50 (by decide) ?_
      refine z_eI (nI ((tp + i) % 8)) (zN_rem8 (by omega)) ?_
      refine z_imul dX9_feed_51 ?_
      refine z_isub dX9_feed_52 ?_
      refine z_eI (nI (56 - 8 * ((tp + i) % 8))) zN_oct ?_
      refine z_istore dX9_feed_53 (Nat.le_of_ble_eq_true rfl) ?_
      refine z_aload_n dX9_feed_55 (by exact rfl) ?_
      refine z_gfA zfx_X9_49 (by exact rfl) dX9_feed_56 ?_
      refine z_aload_n dX9_feed_59 (by exact rfl) ?_
      refine z_gfI zfx_X9_259 (by exact rfl) dX9_feed_60 ?_
      refine z_eI (nI (tp + i)) ht ?_
      refine z_bipush dX9_feed_63 ?_
      refine z_idiv dX9_feed_65 (by decide) ?_
      refine z_eI (nI ((tp + i) / 8)) (zN_div8 (by omega)) ?_
      refine z_aload_n dX9_feed_66 (by exact rfl) ?_
      refine z_gfA zfx_X9_49 (by exact rfl) dX9_feed_67 ?_
      refine z_aload_n dX9_feed_70 (by exact rfl) ?_
      refine z_gfI zfx_X9_259 (by exact rfl) dX9_feed_71 ?_
      refine z_eI (nI (tp + i)) ht ?_
      refine z_bipush dX9_feed_74 ?_
      refine z_idiv dX9_feed_76 (by decide) ?_
      refine z_eI (nI ((tp + i) / 8)) (zN_div8 (by omega)) ?_
      refine z_aJ (by exact rfl) dX9_feed_77 (vp_in_nI (by omega) (by omega)) ?_
      rw [nI_clamp (show (tp + i) / 8 < 2 ^ 31 by omega)]
      refine z_ldcL dX9_feed_78 zclx_X9_262 ?_
      refine z_iload dX9_feed_81 (by exact rfl) ?_
      refine z_lshl dX9_feed_83 ?_
      refine z_ldcL dX9_feed_84 zclx_X9_171 ?_
      refine z_lxor dX9_feed_87 ?_
      refine z_land dX9_feed_88 ?_
      refine z_lload_n dX9_feed_89 (by exact rfl) ?_
      refine z_bipush dX9_feed_90 ?_
      refine z_bipush dX9_feed_92 ?_
      refine z_iload dX9_feed_94 (by exact rfl) ?_
      refine z_imul dX9_feed_96 ?_
      refine z_isub dX9_feed_97 ?_
      refine z_eI (nI (56 - 8 * i)) (q_56 (by omega)) ?_
      refine z_lshr dX9_feed_98 ?_
      refine z_ldcL dX9_feed_99 zclx_X9_262 ?_
      refine z_land dX9_feed_102 ?_
      refine z_iload dX9_feed_103 (by exact rfl) ?_
      refine z_lshl dX9_feed_105 ?_
      refine z_lor dX9_feed_106 ?_
      refine z_sJ (by exact rfl) dX9_feed_107 (vp_in_nI (by omega) (by omega)) ?_
      rw [nI_clamp (show (tp + i) / 8 < 2 ^ 31 by omega)]
      refine z_aload_n dX9_feed_108 (by exact rfl) ?_
      refine z_dup dX9_feed_109 (by exact rfl) ?_
      refine z_gfI zfx_X9_259 (by exact rfl) dX9_feed_110 ?_
      refine z_eI (nI (tp + i)) ht ?_
      refine z_iconst dX9_feed_113 ?_
      refine z_iadd dX9_feed_114 ?_
      refine z_eI (nI (tp + (i + 1))) (nI_1 (tp + i)) ?_
      refine z_pfI zfx_X9_259 (by exact rfl) dX9_feed_115 ?_
      refine z_iinc dX9_feed_118 (by exact rfl) ?_
      refine z_goto (tgt := 34) dX9_feed_121 (by decide) ?_
      refine z_at [(0, .ref 19), (1, .long w), (3, .int (nI j)), (4, .int (nI (i + 1)))] ⟨rfl, rfl, rfl, congrArg (fun v => some (Value.int v)) (nI_1 i), trivial⟩ ?_
      refine z_eD ?_ (ih (i + 1) (by omega) (nI (tp + (i + 1))) rfl)
      rw [zuL_I, zuI_I, zuL_zuM]
      rfl
  refine z_aload_n dX9_feed_0 (by exact rfl) ?_
  refine z_iconst dX9_feed_1 ?_
  refine z_pfI zfx_X9_70 (by exact rfl) dX9_feed_2 ?_
  refine z_iload_n dX9_feed_5 (by exact rfl) ?_
  refine z_i2l dX9_feed_6 ?_
  refine z_lconst dX9_feed_7 ?_
  refine z_ldcL dX9_feed_8 zclx_X9_73 ?_
  refine z_cS dX9_feed_11 zk_X9_75 (by exact rfl) (Nat.le_of_ble_eq_true rfl) (Nat.le_of_ble_eq_true rfl) (Nat.le_refl _) ?_
  refine c_in (fun a11 b11 => ?_) (fun n11 => ?_)
  · refine z_if_eq (tgt := 29) dX9_feed_14 (by decide) (fun q9 => absurd q9 (by decide)) (fun _ => ?_)
    obtain ⟨j, hj1, hj2, rfl⟩ := zN_in18.mp ⟨a11, b11⟩
    refine z_aload_n dX9_feed_17 (by exact rfl) ?_
    refine z_gfI zfx_X9_259 (by exact rfl) dX9_feed_18 ?_
    refine z_eI (nI tp) htp ?_
    refine z_iload_n dX9_feed_21 (by exact rfl) ?_
    refine z_iadd dX9_feed_22 ?_
    refine z_eI (nI (tp + j)) (nI_add tp j) ?_
    refine z_sipush dX9_feed_23 ?_
    refine z_icmp_le (tgt := 31) dX9_feed_26 (by decide) (fun c26 => ?_) (fun c26 => ?_)
    · refine z_iconst dX9_feed_31 ?_
      refine z_istore dX9_feed_32 (Nat.le_of_ble_eq_true rfl) ?_
      have hle : tp + j ≤ 20000 := (nI_leI (a := tp + j) (b := 20000) (by omega) (by omega)).mp c26
      refine z_at [(0, .ref 19), (1, .long w), (3, .int (nI j)), (4, .int (nI 0))] ⟨rfl, rfl, rfl, rfl, trivial⟩ ?_
      refine z_eD ?_ (lp j hj1 hj2 rfl hle j 0 (by omega) (nI (tp + 0)) rfl)
      show _ = zuI (zuM (zuI D 19 0 (Int32.ofInt 0)) 60 ((zuI D 19 0 (Int32.ofInt 0)).2 60)) 19 20 (nI tp)
      rw [zuM_id]
      exact (zuI_id (zuI D 19 0 (Int32.ofInt 0)) 19 20 (nI tp) htp).symm
    · refine z_iconst dX9_feed_29 ?_
      exact z_zret (st := []) (by decide) rfl dX9_feed_30 (h0 (fun q => by
        obtain ⟨i, i1, i2, i3, i4⟩ := q
        have := (nI_eq (a := j) (b := i) (by omega) (by omega)).mp i3
        exact c26 ((nI_leI (a := tp + j) (b := 20000) (by omega) (by omega)).mpr (by omega))))
  · refine z_if_eq (tgt := 29) dX9_feed_14 (by decide) (fun _ => ?_) (fun q9 => absurd q9 (by decide))
    refine z_iconst dX9_feed_29 ?_
    exact z_zret (st := []) (by decide) rfl dX9_feed_30 (h0 (fun q => by
      obtain ⟨i, i1, i2, i3, i4⟩ := q
      exact n11 (zN_in18.mpr ⟨i, i1, i2, i3⟩)))
/-! ===== again ===== -/
def okB (D : zD) (a n : Nat) : Prop := ∀ j, j < n → fits .byte (.int (D.1 a j)) = true
set_option maxRecDepth 100000 in
theorem zc_X4_58 : zcpyw RX4 58 = true := by decide +kernel
theorem c_load {d mb : Nat} {D : zD} {Q : zQ} (hat : D.1 6 1 = nI (8 * mb)) (h : mb ≤ 20000) (hB : okB D 7 mb) (hq : Q (.inl none) 0 (zuR (zuI D 37 1 (nI mb)) 38 (va_cpy (D.1 7) (D.1 38) 0 0 mb))) : ZM yX4_load iX4_load (d + 1) [.ref 37, .ref 6] D Q := by
  refine z_method (by decide) rfl (Nat.le_of_ble_eq_true rfl) ?_
  refine z_at [(0, .ref 37), (1, .ref 6)] ⟨rfl, rfl, trivial⟩ ?_
  have e : (8 * mb + 7) / 8 = mb := by omega
  have ec : (nI mb).toNatClampNeg = mb := nI_clamp (by omega)
  refine z_aload_n dX4_load_0 (by exact rfl) ?_
  refine z_aload_n dX4_load_1 (by exact rfl) ?_
  refine z_cV dX4_load_2 zk_X4_50 (by exact rfl) (by exact rfl) (by exact rfl) (Nat.le_of_ble_eq_true rfl) (Nat.le_of_ble_eq_true rfl) (Nat.le_refl _) ?_
  refine c_size hat (by omega) ?_
  rw [e]
  refine z_pfI zfx_X4_15 (by exact rfl) dX4_load_5 ?_
  refine z_aload_n dX4_load_8 (by exact rfl) ?_
  refine z_gfA zfx_X4_55 (by exact rfl) dX4_load_9 ?_
  refine z_iconst dX4_load_12 ?_
  refine z_aload_n dX4_load_13 (by exact rfl) ?_
  refine z_gfA zfx_X4_9 (by exact rfl) dX4_load_14 ?_
  refine z_iconst dX4_load_17 ?_
  refine z_aload_n dX4_load_18 (by exact rfl) ?_
  refine z_gfI zfx_X4_15 (by exact rfl) dX4_load_19 ?_
  refine z_eI (nI mb) rfl ?_
  refine z_copyB rfl rfl dX4_load_22 zc_X4_58 (by decide) (by decide) (nI_pos (by omega)) (by rw [ec]; show 0 + mb ≤ 20000; omega) (by rw [ec]; show 0 + mb ≤ 20000; omega) (fun i hi => ?_) (Nat.le_of_ble_eq_true rfl) ?_
  · rw [ec] at hi
    show fits .byte (.int (D.1 7 (0 + i))) = true
    rw [Nat.zero_add]
    exact hB i hi
  · refine z_vret (st := []) rfl dX4_load_25 ?_
    rw [ec]
    exact hq
theorem c_again8 {d mb : Nat} {D : zD} {Q : zQ} (hat : D.1 6 1 = nI (8 * mb)) (h : mb ≤ 20000) (hB : okB D 7 mb) (hq : Q (.inl (some (.int (nI mb)))) 0 (zuR (zuI D 37 1 (nI mb)) 38 (va_cpy (D.1 7) (D.1 38) 0 0 mb))) : ZM yX8_again iX8_again (d + 2) [.ref 0] D Q := by
  refine z_method (by decide) rfl (Nat.le_of_ble_eq_true rfl) ?_
  refine z_at [(0, .ref 0)] ⟨rfl, trivial⟩ ?_
  refine z_aload_n dX8_again_0 (by exact rfl) ?_
  refine z_gfA zfx_X8_43 (by exact rfl) dX8_again_1 ?_
  refine z_aload_n dX8_again_4 (by exact rfl) ?_
  refine z_gfA zfx_X8_36 (by exact rfl) dX8_again_5 ?_
  refine z_gfA zfx_X8_109 (by exact rfl) dX8_again_8 ?_
  refine z_cV dX8_again_11 zk_X8_134 (by exact rfl) (by exact rfl) (by exact rfl) (Nat.le_of_ble_eq_true rfl) (Nat.le_of_ble_eq_true rfl) (Nat.le_refl _) ?_
  refine c_load hat h hB ?_
  refine z_aload_n dX8_again_14 (by exact rfl) ?_
  refine z_gfA zfx_X8_43 (by exact rfl) dX8_again_15 ?_
  refine z_gfI zfx_X8_138 (by exact rfl) dX8_again_18 ?_
  exact z_iret (st := []) rfl dX8_again_21 hq
theorem c_again9 {d mb : Nat} {D : zD} {Q : zQ} (hmb : D.1 19 10 = nI mb) (hq : Q (.inl (some (.int (nI mb)))) 0 (zuI (zuM (zuI D 19 0 (Int32.ofInt 0)) 60 (va_cpy (D.2 54) (D.2 60) 0 0 2500)) 19 20 (nI mb))) : ZM yX9_again iX9_again d [.ref 19] D Q := by
  refine z_method (by decide) rfl (Nat.le_of_ble_eq_true rfl) ?_
  refine z_at [(0, .ref 19)] ⟨rfl, trivial⟩ ?_
  have lp : ∀ (m i : Nat), i + m = 2500 → Z (zmk iX9_again d) 0 7 (zl [(0, .ref 19), (1, .int (nI i))]) [] (zuM (zuI D 19 0 (Int32.ofInt 0)) 60 (va_cpy (D.2 54) (D.2 60) 0 0 i)) Q := by
    intro m
    induction m with
    | zero =>
      intro i hi
      have hi : i = 2500 := by omega
      subst hi
      refine z_iload_n dX9_again_7 (by exact rfl) ?_
      refine z_sipush dX9_again_8 ?_
      refine z_icmp_ge (tgt := 32) dX9_again_11 (by decide) (fun _ => ?_) (fun q9 => absurd ((by decide)) q9)
      refine z_aload_n dX9_again_32 (by exact rfl) ?_
      refine z_aload_n dX9_again_33 (by exact rfl) ?_
      refine z_gfI zfx_X9_256 (by exact rfl) dX9_again_34 ?_
      refine z_eI (nI mb) hmb ?_
      refine z_pfI zfx_X9_259 (by exact rfl) dX9_again_37 ?_
      refine z_aload_n dX9_again_40 (by exact rfl) ?_
      refine z_gfI zfx_X9_259 (by exact rfl) dX9_again_41 ?_
      exact z_iret (st := []) rfl dX9_again_44 hq
    | succ m ih =>
      intro i hi
      refine z_iload_n dX9_again_7 (by exact rfl) ?_
      refine z_sipush dX9_again_8 ?_
      refine z_icmp_ge (tgt := 32) dX9_again_11 (by decide) (fun q9 => absurd q9 ((nI_ge (a := i) (b := 2500) (by omega) (by omega)))) (fun _ => ?_)
      refine z_aload_n dX9_again_14 (by exact rfl) ?_
      refine z_gfA zfx_X9_49 (by exact rfl) dX9_again_15 ?_
      refine z_iload_n dX9_again_18 (by exact rfl) ?_
      refine z_aload_n dX9_again_19 (by exact rfl) ?_
      refine z_gfA zfx_X9_30 (by exact rfl) dX9_again_20 ?_
      refine z_iload_n dX9_again_23 (by exact rfl) ?_
      refine z_aJ (by exact rfl) dX9_again_24 (vp_in_nI (by omega) (by omega)) ?_
      rw [nI_clamp (show i < 2 ^ 31 by omega)]
      refine z_sJ (by exact rfl) dX9_again_25 (vp_in_nI (by omega) (by omega)) ?_
      rw [nI_clamp (show i < 2 ^ 31 by omega)]
      refine z_iinc dX9_again_26 (by exact rfl) ?_
      refine z_goto (tgt := 7) dX9_again_29 (by decide) ?_
      refine z_at [(0, .ref 19), (1, .int (nI (i + 1)))] ⟨rfl, congrArg (fun v => some (Value.int v)) (nI_1 i), trivial⟩ ?_
      refine z_eD ?_ (ih (i + 1) (by omega))
      rw [zuL_zuM]
      congr 1
      funext j
      show (if j = i then D.2 54 i else if 0 ≤ j ∧ j < 0 + i then D.2 54 (0 + (j - 0)) else D.2 60 j) = if 0 ≤ j ∧ j < 0 + (i + 1) then D.2 54 (0 + (j - 0)) else D.2 60 j
      by_cases hj : j = i
      · rw [if_pos hj, if_pos (by omega), show 0 + (j - 0) = i by omega]
      · rw [if_neg hj]
        by_cases h2 : 0 ≤ j ∧ j < 0 + i
        · rw [if_pos h2, if_pos (by omega)]
        · rw [if_neg h2, if_neg (by omega)]
  refine z_aload_n dX9_again_0 (by exact rfl) ?_
  refine z_iconst dX9_again_1 ?_
  refine z_pfI zfx_X9_70 (by exact rfl) dX9_again_2 ?_
  refine z_iconst dX9_again_5 ?_
  refine z_istore_n dX9_again_6 (Nat.le_of_ble_eq_true rfl) ?_
  refine z_at [(0, .ref 19), (1, .int (nI 0))] ⟨rfl, rfl, trivial⟩ ?_
  refine z_eD ?_ (lp 2500 0 (by omega))
  have e : va_cpy (D.2 54) (D.2 60) 0 0 0 = (zuI D 19 0 (Int32.ofInt 0)).2 60 := by
    funext j
    unfold va_cpy
    rw [if_neg (by omega)]
    rfl
  rw [e, zuM_id]
