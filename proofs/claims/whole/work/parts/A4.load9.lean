/-! ===== the reference's making: load, bitsOf, measured, rowOf, assignment ===== -/
def fLd (a k : Nat) : Bool := a == 61 || (a == 19 && k == 24)
theorem c_load9 {d f block ch bits w n : Nat} {D : zD} {Q : zQ} {S : zRow} (h3 : D.1 19 3 = nI block) (h1 : D.1 19 1 = nI ch) (hc : 1 ≤ ch ∧ ch ≤ 8) (hb : 4 ≤ bits ∧ bits ≤ 24) (hw : okRow ch w) (hn : n ≤ 256) (hfn : (f * block + n) * ch ≤ 4096) (hS : ∀ j, j < (f * block + n) * ch → D.1 53 j = iI (S j) ∧ inB bits (S j)) (hq : ∀ D', D'.1 19 24 = nI n → rowL D' (rwW S ch (f * block) w) n → zfr fLd D D' → Q (.inl none) 0 D') : ZM yX9_load iX9_load d [.ref 19, .int (nI f), .int (nI w), .int (nI n)] D Q := by
  refine z_method (by decide) rfl (Nat.le_of_ble_eq_true rfl) ?_
  refine z_at [(0, .ref 19), (1, .int (nI f)), (2, .int (nI w)), (3, .int (nI n))] ⟨rfl, rfl, rfl, rfl, trivial⟩ ?_
  have hw10 : w < 10 := by
    rcases hw with h | ⟨_, h | h⟩ <;> omega
  have hin := rw_in hb.1 hc.2 hw (fun j hj => (hS j hj).2)
  have hbw := bW_le (w := w) hb
  have hset : ∀ {D1 : zD}, zfr fLd D D1 → D1.1 19 3 = nI block ∧ D1.1 19 1 = nI ch ∧ ∀ j, j < (f * block + n) * ch → D1.1 53 j = iI (S j) := fun hF => ⟨(hF.1 19 3 rfl).trans h3, (hF.1 19 1 rfl).trans h1, fun j hj => (hF.1 53 j rfl).trans (hS j hj).1⟩
  have lp : ∀ (m k : Nat) (D1 : zD), k + m = n → D1.1 19 24 = nI n → (∀ j, j < k → D1.2 61 j = lI (rwW S ch (f * block) w j)) → zfr fLd D D1 → Z (zmk iX9_load d) 0 8 (zl [(0, .ref 19), (1, .int (nI f)), (2, .int (nI w)), (3, .int (nI n)), (4, .int (nI k))]) [] D1 Q := by
    intro m
    induction m with
    | zero =>
      intro k D1 hk g24 g61 hF
      have hk : k = n := by omega
      subst hk
      refine z_iload dX9_load_8 (by exact rfl) ?_
      refine z_iload_n dX9_load_10 (by exact rfl) ?_
      refine z_icmp_ge (tgt := 117) dX9_load_11 (by decide) (fun _ => ?_) (fun q9 => absurd ((nI_le (Nat.le_refl _) (by omega))) q9)
      exact z_vret (st := []) rfl dX9_load_117 (hq D1 g24 (fun j hj => ⟨g61 j hj, inB_le (B := 24) (hin j hj) (by omega)⟩) hF)
    | succ m ih =>
      intro k D1 hk g24 g61 hF
      have idx : ∀ c, c < ch → (f * block + k) * ch + c < (f * block + n) * ch := fun c hc => by
        have : (f * block + k + 1) * ch ≤ (f * block + n) * ch := Nat.mul_le_mul_right _ (by omega)
        rw [Nat.succ_mul] at this
        omega
      have sm : ∀ c, c < ch → smI (S ((f * block + k) * ch + c)) := fun c hc => inB_le (B := 24) (hS _ (idx c hc)).2 (by omega)
      have i0 := idx 0 (by omega)
      have s0 := sm 0 (by omega)
      rw [Nat.add_zero] at i0 s0
      unfold smI bd at s0
      have fin : ∀ (x : Int64), x = lI (rwW S ch (f * block) w k) → Z (zmk iX9_load d) 0 110 (zl [(0, .ref 19), (1, .int (nI f)), (2, .int (nI w)), (3, .int (nI n)), (4, .int (nI k))]) [.long x, .int (nI k), .ref 61] D1 Q := by
        intro x hx
        subst hx
        refine z_sJ (by exact rfl) dX9_load_110 (vp_in_nI (by omega) (by omega)) ?_
        rw [nI_clamp (n := k) (by omega)]
        refine z_iinc dX9_load_111 (by exact rfl) ?_
        refine z_at [(0, .ref 19), (1, .int (nI f)), (2, .int (nI w)), (3, .int (nI n)), (4, .int (nI (k + 1)))] ⟨rfl, rfl, rfl, rfl, congrArg (fun x => some (Value.int x)) (nI_1 k), trivial⟩ ?_
        refine z_goto (tgt := 8) dX9_load_114 (by decide) ?_
        exact ih (k + 1) _ (by omega) g24 (fun j hj => by
          obtain q | q : j = k ∨ j < k := by omega
          · subst q
            exact zuL_at _ _ _ _
          · rw [zuL_ne (by omega)]
            exact g61 j q) (hF.uL _ rfl)
      have ew : ∀ j, j < 16 → (nI w = nI j ↔ w = j) := fun j hj => nI_eq (by omega) (by omega)
      have t64 : ∀ (r : Int64), (ch = 2 → r = lI (S ((f * block + k) * ch + 1))) → Z (zmk iX9_load d) 0 62 (zl [(0, .ref 19), (1, .int (nI f)), (2, .int (nI w)), (3, .int (nI n)), (4, .int (nI k)), (5, .int (nI ((f * block + k) * ch))), (6, .long (lI (S ((f * block + k) * ch))))]) [.long r] D1 Q := by
        intro r hr
        rcases id hw with hw | ⟨h2, hw | hw⟩
        · have hwc := idx w hw
          have hws := sm w hw
          unfold smI bd at hws
          refine z_lstore dX9_load_62 (Nat.le_of_ble_eq_true rfl) ?_
          refine z_aload_n dX9_load_64 (by exact rfl) ?_
          refine z_gfA zfx_X9_55 (by exact rfl) dX9_load_65 ?_
          refine z_iload dX9_load_68 (by exact rfl) ?_
          refine z_iload_n dX9_load_70 (by exact rfl) ?_
          refine z_bipush dX9_load_71 ?_
          refine z_icmp_ne (tgt := 84) dX9_load_73 (by decide) (fun _ => ?_) (fun q9 => absurd q9 ((fun q => absurd ((ew 8 (by omega)).mp q) (by omega))))
          refine z_iload_n dX9_load_84 (by exact rfl) ?_
          refine z_bipush dX9_load_85 ?_
          refine z_icmp_ne (tgt := 100) dX9_load_87 (by decide) (fun _ => ?_) (fun q9 => absurd q9 ((fun q => absurd ((ew 9 (by omega)).mp q) (by omega))))
          refine z_aload_n dX9_load_100 (by exact rfl) ?_
          refine z_gfA zfx_X9_27 (by exact rfl) dX9_load_101 ?_
          refine z_iload dX9_load_104 (by exact rfl) ?_
          refine z_iload_n dX9_load_106 (by exact rfl) ?_
          refine z_iadd dX9_load_107 ?_
          refine z_eI (nI ((f * block + k) * ch + w)) (nI_add _ _) ?_
          refine z_aI (by exact rfl) dX9_load_108 (vp_in_nI (by omega) (by omega)) ?_
          refine z_eI (iI (S ((f * block + k) * ch + w))) (by
            rw [nI_clamp (n := (f * block + k) * ch + w) (by omega)]
            exact (hset hF).2.2 _ hwc) ?_
          refine z_i2l dX9_load_109 ?_
          refine z_eJ (lI (S ((f * block + k) * ch + w))) (iI_l (by omega) (by omega)) ?_
          exact z_at [(0, .ref 19), (1, .int (nI f)), (2, .int (nI w)), (3, .int (nI n)), (4, .int (nI k))] ⟨rfl, rfl, rfl, rfl, rfl, trivial⟩ (fin _ (by
            unfold rwW
            rw [if_neg (by omega), if_neg (by omega)]))
        · subst hw
          rw [hr h2]
          refine z_lstore dX9_load_62 (Nat.le_of_ble_eq_true rfl) ?_
          refine z_aload_n dX9_load_64 (by exact rfl) ?_
          refine z_gfA zfx_X9_55 (by exact rfl) dX9_load_65 ?_
          refine z_iload dX9_load_68 (by exact rfl) ?_
          refine z_iload_n dX9_load_70 (by exact rfl) ?_
          refine z_bipush dX9_load_71 ?_
          refine z_icmp_ne (tgt := 84) dX9_load_73 (by decide) (fun q9 => absurd (rfl) q9) (fun _ => ?_)
          refine z_lload dX9_load_76 (by exact rfl) ?_
          refine z_lload dX9_load_78 (by exact rfl) ?_
          refine z_lsub dX9_load_80 ?_
          refine z_goto (tgt := 110) dX9_load_81 (by decide) ?_
          exact z_at [(0, .ref 19), (1, .int (nI f)), (2, .int (nI 8)), (3, .int (nI n)), (4, .int (nI k))] ⟨rfl, rfl, rfl, rfl, rfl, trivial⟩ (fin _ (by
            rw [lI_sub]
            rfl))
        · subst hw
          have s1 := sm 1 (by omega)
          unfold smI bd at s1
          rw [hr h2]
          refine z_lstore dX9_load_62 (Nat.le_of_ble_eq_true rfl) ?_
          refine z_aload_n dX9_load_64 (by exact rfl) ?_
          refine z_gfA zfx_X9_55 (by exact rfl) dX9_load_65 ?_
          refine z_iload dX9_load_68 (by exact rfl) ?_
          refine z_iload_n dX9_load_70 (by exact rfl) ?_
          refine z_bipush dX9_load_71 ?_
          refine z_icmp_ne (tgt := 84) dX9_load_73 (by decide) (fun _ => ?_) (fun q9 => absurd q9 ((by decide)))
          refine z_iload_n dX9_load_84 (by exact rfl) ?_
          refine z_bipush dX9_load_85 ?_
          refine z_icmp_ne (tgt := 100) dX9_load_87 (by decide) (fun q9 => absurd (rfl) q9) (fun _ => ?_)
          refine z_lload dX9_load_90 (by exact rfl) ?_
          refine z_lload dX9_load_92 (by exact rfl) ?_
          refine z_ladd dX9_load_94 ?_
          refine z_iconst dX9_load_95 ?_
          refine z_lshr dX9_load_96 ?_
          refine z_goto (tgt := 110) dX9_load_97 (by decide) ?_
          exact z_at [(0, .ref 19), (1, .int (nI f)), (2, .int (nI 9)), (3, .int (nI n)), (4, .int (nI k))] ⟨rfl, rfl, rfl, rfl, rfl, trivial⟩ (fin _ (by
            rw [lI_add]
            exact lI_shr (s := 1) (by omega) (by omega) (by omega)))
      by_cases h2 : ch = 2
      · have i1 := idx 1 (by omega)
        have s1 := sm 1 (by omega)
        unfold smI bd at s1
        refine z_iload dX9_load_8 (by exact rfl) ?_
        refine z_iload_n dX9_load_10 (by exact rfl) ?_
        refine z_icmp_ge (tgt := 117) dX9_load_11 (by decide) (fun q9 => absurd q9 ((nI_ge (a := k) (b := n) (by omega) (by omega)))) (fun _ => ?_)
        refine z_iload_n dX9_load_14 (by exact rfl) ?_
        refine z_aload_n dX9_load_15 (by exact rfl) ?_
        refine z_gfI zfx_X9_16 (by exact rfl) dX9_load_16 ?_
        refine z_eI (nI block) (hset hF).1 ?_
        refine z_imul dX9_load_19 ?_
        refine z_iload dX9_load_20 (by exact rfl) ?_
        refine z_iadd dX9_load_22 ?_
        refine z_eI (nI (f * block + k)) (by rw [pk_mul, nI_add]) ?_
        refine z_aload_n dX9_load_23 (by exact rfl) ?_
        refine z_gfI zfx_X9_7 (by exact rfl) dX9_load_24 ?_
        refine z_eI (nI ch) (hset hF).2.1 ?_
        refine z_imul dX9_load_27 ?_
        refine z_eI (nI ((f * block + k) * ch)) (pk_mul _ _) ?_
        refine z_istore dX9_load_28 (Nat.le_of_ble_eq_true rfl) ?_
        refine z_aload_n dX9_load_30 (by exact rfl) ?_
        refine z_gfA zfx_X9_27 (by exact rfl) dX9_load_31 ?_
        refine z_iload dX9_load_34 (by exact rfl) ?_
        refine z_aI (by exact rfl) dX9_load_36 (vp_in_nI (by omega) (by omega)) ?_
        refine z_eI (iI (S ((f * block + k) * ch))) (by
          rw [nI_clamp (n := (f * block + k) * ch) (by omega)]
          exact (hset hF).2.2 _ i0) ?_
        refine z_i2l dX9_load_37 ?_
        refine z_eJ (lI (S ((f * block + k) * ch))) (iI_l (by omega) (by omega)) ?_
        refine z_lstore dX9_load_38 (Nat.le_of_ble_eq_true rfl) ?_
        refine z_aload_n dX9_load_40 (by exact rfl) ?_
        refine z_gfI zfx_X9_7 (by exact rfl) dX9_load_41 ?_
        refine z_eI (nI 2) (by rw [(hset hF).2.1, h2]) ?_
        refine z_iconst dX9_load_44 ?_
        refine z_icmp_ne (tgt := 61) dX9_load_45 (by decide) (fun q9 => absurd (rfl) q9) (fun _ => ?_)
        refine z_aload_n dX9_load_48 (by exact rfl) ?_
        refine z_gfA zfx_X9_27 (by exact rfl) dX9_load_49 ?_
        refine z_iload dX9_load_52 (by exact rfl) ?_
        refine z_iconst dX9_load_54 ?_
        refine z_iadd dX9_load_55 ?_
        refine z_eI (nI ((f * block + k) * ch + 1)) (nI_1 _) ?_
        refine z_aI (by exact rfl) dX9_load_56 (vp_in_nI (by omega) (by omega)) ?_
        refine z_eI (iI (S ((f * block + k) * ch + 1))) (by
          rw [nI_clamp (n := (f * block + k) * ch + 1) (by omega)]
          exact (hset hF).2.2 _ i1) ?_
        refine z_i2l dX9_load_57 ?_
        refine z_eJ (lI (S ((f * block + k) * ch + 1))) (iI_l (by omega) (by omega)) ?_
        refine z_goto (tgt := 62) dX9_load_58 (by decide) ?_
        exact z_at [(0, .ref 19), (1, .int (nI f)), (2, .int (nI w)), (3, .int (nI n)), (4, .int (nI k)), (5, .int (nI ((f * block + k) * ch))), (6, .long (lI (S ((f * block + k) * ch))))] ⟨rfl, rfl, rfl, rfl, rfl, rfl, rfl, trivial⟩ (t64 _ (fun _ => rfl))
      · refine z_iload dX9_load_8 (by exact rfl) ?_
        refine z_iload_n dX9_load_10 (by exact rfl) ?_
        refine z_icmp_ge (tgt := 117) dX9_load_11 (by decide) (fun q9 => absurd q9 ((nI_ge (a := k) (b := n) (by omega) (by omega)))) (fun _ => ?_)
        refine z_iload_n dX9_load_14 (by exact rfl) ?_
        refine z_aload_n dX9_load_15 (by exact rfl) ?_
        refine z_gfI zfx_X9_16 (by exact rfl) dX9_load_16 ?_
        refine z_eI (nI block) (hset hF).1 ?_
        refine z_imul dX9_load_19 ?_
        refine z_iload dX9_load_20 (by exact rfl) ?_
        refine z_iadd dX9_load_22 ?_
        refine z_eI (nI (f * block + k)) (by rw [pk_mul, nI_add]) ?_
        refine z_aload_n dX9_load_23 (by exact rfl) ?_
        refine z_gfI zfx_X9_7 (by exact rfl) dX9_load_24 ?_
        refine z_eI (nI ch) (hset hF).2.1 ?_
        refine z_imul dX9_load_27 ?_
        refine z_eI (nI ((f * block + k) * ch)) (pk_mul _ _) ?_
        refine z_istore dX9_load_28 (Nat.le_of_ble_eq_true rfl) ?_
        refine z_aload_n dX9_load_30 (by exact rfl) ?_
        refine z_gfA zfx_X9_27 (by exact rfl) dX9_load_31 ?_
        refine z_iload dX9_load_34 (by exact rfl) ?_
        refine z_aI (by exact rfl) dX9_load_36 (vp_in_nI (by omega) (by omega)) ?_
        refine z_eI (iI (S ((f * block + k) * ch))) (by
          rw [nI_clamp (n := (f * block + k) * ch) (by omega)]
          exact (hset hF).2.2 _ i0) ?_
        refine z_i2l dX9_load_37 ?_
        refine z_eJ (lI (S ((f * block + k) * ch))) (iI_l (by omega) (by omega)) ?_
        refine z_lstore dX9_load_38 (Nat.le_of_ble_eq_true rfl) ?_
        refine z_aload_n dX9_load_40 (by exact rfl) ?_
        refine z_gfI zfx_X9_7 (by exact rfl) dX9_load_41 ?_
        refine z_eI (nI ch) (hset hF).2.1 ?_
        refine z_iconst dX9_load_44 ?_
        refine z_icmp_ne (tgt := 61) dX9_load_45 (by decide) (fun _ => ?_) (fun q9 => absurd q9 ((fun q => h2 ((nI_eq (a := ch) (b := 2) (by omega) (by omega)).mp q))))
        refine z_lconst dX9_load_61 ?_
        exact z_at [(0, .ref 19), (1, .int (nI f)), (2, .int (nI w)), (3, .int (nI n)), (4, .int (nI k)), (5, .int (nI ((f * block + k) * ch))), (6, .long (lI (S ((f * block + k) * ch))))] ⟨rfl, rfl, rfl, rfl, rfl, rfl, rfl, trivial⟩ (t64 _ (fun q => absurd q h2))
  refine z_aload_n dX9_load_0 (by exact rfl) ?_
  refine z_iload_n dX9_load_1 (by exact rfl) ?_
  refine z_pfI zfx_X9_108 (by exact rfl) dX9_load_2 ?_
  refine z_iconst dX9_load_5 ?_
  refine z_istore dX9_load_6 (Nat.le_of_ble_eq_true rfl) ?_
  exact z_at [(0, .ref 19), (1, .int (nI f)), (2, .int (nI w)), (3, .int (nI n)), (4, .int (nI 0))] ⟨rfl, rfl, rfl, rfl, rfl, trivial⟩ (lp n 0 _ (by omega) rfl (fun j hj => by omega) (zfr.rf.uI _ rfl))
theorem c_bitsOf {d bits w : Nat} {D : zD} {Q : zQ} (h2 : D.1 19 2 = nI bits) (hw : w < 10) (hq : Q (.inl (some (.int (nI (bW bits w))))) 0 D) : ZM yX9_bitsOf iX9_bitsOf d [.ref 19, .int (nI w)] D Q := by
  refine z_method (by decide) rfl (Nat.le_of_ble_eq_true rfl) ?_
  refine z_at [(0, .ref 19), (1, .int (nI w))] ⟨rfl, rfl, trivial⟩ ?_
  unfold bW at hq
  have ew : nI w = nI 8 ↔ w = 8 := nI_eq (by omega) (by omega)
  refine z_iload_n dX9_bitsOf_0 (by exact rfl) ?_
  refine z_bipush dX9_bitsOf_1 ?_
  refine z_icmp_ne (tgt := 15) dX9_bitsOf_3 (by decide) (fun c3 => ?_) (fun c3 => ?_)
  · refine z_aload_n dX9_bitsOf_15 (by exact rfl) ?_
    refine z_gfI zfx_X9_13 (by exact rfl) dX9_bitsOf_16 ?_
    refine z_eI (nI bits) h2 ?_
    exact z_iret (st := []) rfl dX9_bitsOf_19 (by
      rw [if_neg (fun q => c3 (ew.mpr q))] at hq
      exact hq)
  · refine z_aload_n dX9_bitsOf_6 (by exact rfl) ?_
    refine z_gfI zfx_X9_13 (by exact rfl) dX9_bitsOf_7 ?_
    refine z_eI (nI bits) h2 ?_
    refine z_iconst dX9_bitsOf_10 ?_
    refine z_iadd dX9_bitsOf_11 ?_
    refine z_eI (nI (bits + 1)) (nI_1 _) ?_
    refine z_goto (tgt := 19) dX9_bitsOf_12 (by decide) ?_
    exact z_iret (st := []) rfl dX9_bitsOf_19 (by
      rw [if_pos (ew.mp c3)] at hq
      exact hq)
theorem okRow.lt {ch w : Nat} (h : okRow ch w) (hc : ch ≤ 8) : w < 10 := by
  rcases h with h | ⟨_, h | h⟩ <;> omega
def fMd (a k : Nat) : Bool := fMs a k || (a == 19 && k == 24)
theorem fMd_s (a k : Nat) (h : fMd a k = false) : fMs a k = false := or_l h
theorem fMd_l (a k : Nat) (h : fMd a k = false) : fLd a k = false := by
  have h1 := or_l h
  have h2 := or_r h
  unfold fMs at h1
  unfold fLd
  simp at h1 h2 ⊢
  omega
/-- row w of a frame stands measured -/
def mz9 (D : zD) (S : zRow) (ch bits : Nat) (pr : zPr) (o first n w : Nat) : Prop := D.1 19 24 = nI n ∧ D.1 19 27 = nI (wst n (rwW S ch first w)) ∧ D.1 19 28 = nI (wayA n (bW bits w) (rwW S ch first w) pr o).1 ∧ D.1 19 29 = iI (wayA n (bW bits w) (rwW S ch first w) pr o).2.1 ∧ rowL D (shR (wst n (rwW S ch first w)) (rwW S ch first w)) n ∧ wst n (rwW S ch first w) < bW bits w
/-- the settings and samples of the reference -/
def set9m (D : zD) (S : zRow) (ch bits block o s : Nat) (cs : Nat → Int) (m : Nat) : Prop := D.1 19 1 = nI ch ∧ D.1 19 2 = nI bits ∧ D.1 19 3 = nI block ∧ own9 D o s cs ∧ ∀ j, j < m → D.1 53 j = iI (S j) ∧ inB bits (S j)
theorem set9m.fr {D D' : zD} {F : Nat → Nat → Bool} {S : zRow} {ch bits block o s : Nat} {cs : Nat → Int} {m : Nat} (h : set9m D S ch bits block o s cs m) (hF : zfr F D D') (h1 : ∀ k, k < 7 → ¬ k = 0 → F 19 k = false) (h2 : ∀ k, F 52 k = false) (h3 : ∀ k, F 53 k = false) : set9m D' S ch bits block o s cs m := ⟨(hF.1 _ _ (h1 1 (by omega) (by omega))).trans h.1, (hF.1 _ _ (h1 2 (by omega) (by omega))).trans h.2.1, (hF.1 _ _ (h1 3 (by omega) (by omega))).trans h.2.2.1, h.2.2.2.1.fr hF (h1 6 (by omega) (by omega)) (h1 5 (by omega) (by omega)) h2, fun j hj => ⟨(hF.1 _ _ (h3 j)).trans (h.2.2.2.2 j hj).1, (h.2.2.2.2 j hj).2⟩⟩
theorem fMd_lo (k : Nat) (h : k < 7) (_ : ¬ k = 0) : fMd 19 k = false := by
  unfold fMd fMs
  simp
  omega
theorem c_measured {d f block ch bits w n o s m : Nat} {cs : Nat → Int} {D : zD} {Q : zQ} {S : zRow} (hs : set9m D S ch bits block o s cs m) (hc : 1 ≤ ch ∧ ch ≤ 8) (hb : 4 ≤ bits ∧ bits ≤ 24) (hsh : s ≤ 14) (ho : o ≤ 8) (hw : okRow ch w) (hn : 1 ≤ n ∧ n ≤ 256) (hm : (f * block + n) * ch ≤ m) (hm2 : m ≤ 4096) (hq : ∀ D', mz9 D' S ch bits (s, cs) o (f * block) n w → zfr fMd D D' → Q (.inl (some (.long (lN (fsz S ch bits (s, cs) o (f * block) n w))))) 0 D') : ZM yX9_measured iX9_measured (d + 6) [.ref 19, .int (nI f), .int (nI w), .int (nI n)] D Q := by
  refine z_method (by decide) rfl (Nat.le_of_ble_eq_true rfl) ?_
  refine z_at [(0, .ref 19), (1, .int (nI f)), (2, .int (nI w)), (3, .int (nI n))] ⟨rfl, rfl, rfl, rfl, trivial⟩ ?_
  obtain ⟨g1, g2, g3, g4, g5⟩ := hs
  have hS : ∀ j, j < (f * block + n) * ch → D.1 53 j = iI (S j) ∧ inB bits (S j) := fun j hj => g5 j (by omega)
  refine z_aload_n dX9_measured_0 (by exact rfl) ?_
  refine z_iload_n dX9_measured_1 (by exact rfl) ?_
  refine z_iload_n dX9_measured_2 (by exact rfl) ?_
  refine z_iload_n dX9_measured_3 (by exact rfl) ?_
  refine z_cV dX9_measured_4 zk_X9_203 (by exact rfl) (by exact rfl) (by exact rfl) (Nat.le_of_ble_eq_true rfl) (Nat.le_of_ble_eq_true rfl) (Nat.le_refl _) ?_
  refine c_load9 g3 g1 hc hb hw hn.2 (by omega) hS (fun D1 k1 k2 hf1 => ?_)
  refine z_aload_n dX9_measured_7 (by exact rfl) ?_
  refine z_aload_n dX9_measured_8 (by exact rfl) ?_
  refine z_iload_n dX9_measured_9 (by exact rfl) ?_
  refine z_cV dX9_measured_10 zk_X9_207 (by exact rfl) (by exact rfl) (by exact rfl) (Nat.le_of_ble_eq_true rfl) (Nat.le_of_ble_eq_true rfl) (Nat.le_refl _) ?_
  refine c_bitsOf ((hf1.1 19 2 rfl).trans g2) (hw.lt hc.2) ?_
  refine z_cV dX9_measured_13 zk_X9_210 (by exact rfl) (by exact rfl) (by exact rfl) (Nat.le_of_ble_eq_true rfl) (Nat.le_of_ble_eq_true rfl) (Nat.le_refl _) ?_
  refine c_measure9 k1 hn (bW_le hb) k2 (rw_in hb.1 hc.2 hw (fun j hj => (hS j hj).2)) (g4.fr hf1 rfl rfl (fun _ => rfl)) hsh ho (fun D2 j1 j2 j3 j4 j5 j6 hf2 => ?_)
  refine z_aload_n dX9_measured_16 (by exact rfl) ?_
  refine z_gfL zfx_X9_154 (by exact rfl) dX9_measured_17 ?_
  refine z_eJ _ j5 ?_
  exact z_lret (st := []) rfl dX9_measured_20 (hq D2 ⟨(hf2.1 19 24 rfl).trans k1, j2, j3, j4, j6, j1⟩ ((hf1.wk fMd_l).tr (hf2.wk fMd_s)))
theorem c_rowOf {d asg ch c : Nat} {D : zD} {Q : zQ} (h : okAsg asg ch) (hc : c < ch) (hq : Q (.inl (some (.int (nI (rowOfN asg c))))) 0 D) : ZM yX9_rowOf iX9_rowOf d [.int (nI asg), .int (nI c)] D Q := by
  refine z_method (by decide) rfl (Nat.le_of_ble_eq_true rfl) ?_
  refine z_at [(0, .int (nI asg)), (1, .int (nI c))] ⟨rfl, rfl, trivial⟩ ?_
  rcases rowOf_cases h hc with ⟨g1, g2, g3, g4⟩ | ⟨g0, g⟩
  · rw [g2] at hq
    refine z_iload_n dX9_rowOf_0 (by exact rfl) ?_
    refine z_bipush dX9_rowOf_1 ?_
    refine z_icmp_ge (tgt := 8) dX9_rowOf_3 (by decide) (fun q9 => absurd q9 ((nI_ge (a := asg) (b := 8) (by omega) (by omega)))) (fun _ => ?_)
    refine z_iload_n dX9_rowOf_6 (by exact rfl) ?_
    exact z_iret (st := []) rfl dX9_rowOf_7 hq
  · rcases g with ⟨a1, a2, a3, a4⟩ | ⟨a1, a2, a3, a4⟩ | ⟨a1, a2, a3, a4⟩ | ⟨a1, a2, a3, a4⟩ | ⟨a1, a2, a3, a4⟩ | ⟨a1, a2, a3, a4⟩ <;> rw [a3] at hq <;> subst a1 <;> subst a2
    · refine z_iload_n dX9_rowOf_0 (by exact rfl) ?_
      refine z_bipush dX9_rowOf_1 ?_
      refine z_icmp_ge (tgt := 8) dX9_rowOf_3 (by decide) (fun _ => ?_) (fun q9 => absurd ((by decide)) q9)
      refine z_iload_n dX9_rowOf_8 (by exact rfl) ?_
      refine z_bipush dX9_rowOf_9 ?_
      refine z_icmp_ne (tgt := 25) dX9_rowOf_11 (by decide) (fun _ => ?_) (fun q9 => absurd q9 ((by decide)))
      refine z_iload_n dX9_rowOf_25 (by exact rfl) ?_
      refine z_iconst dX9_rowOf_26 ?_
      refine z_icmp_ne (tgt := 35) dX9_rowOf_27 (by decide) (fun _ => ?_) (fun q9 => absurd q9 ((by decide)))
      refine z_iload_n dX9_rowOf_35 (by exact rfl) ?_
      refine z_bipush dX9_rowOf_36 ?_
      refine z_icmp_ne (tgt := 45) dX9_rowOf_38 (by decide) (fun q9 => absurd (rfl) q9) (fun _ => ?_)
      refine z_iconst dX9_rowOf_41 ?_
      refine z_goto (tgt := 47) dX9_rowOf_42 (by decide) ?_
      exact z_iret (st := []) rfl dX9_rowOf_47 hq
    · refine z_iload_n dX9_rowOf_0 (by exact rfl) ?_
      refine z_bipush dX9_rowOf_1 ?_
      refine z_icmp_ge (tgt := 8) dX9_rowOf_3 (by decide) (fun _ => ?_) (fun q9 => absurd ((by decide)) q9)
      refine z_iload_n dX9_rowOf_8 (by exact rfl) ?_
      refine z_bipush dX9_rowOf_9 ?_
      refine z_icmp_ne (tgt := 25) dX9_rowOf_11 (by decide) (fun _ => ?_) (fun q9 => absurd q9 ((by decide)))
      refine z_iload_n dX9_rowOf_25 (by exact rfl) ?_
      refine z_iconst dX9_rowOf_26 ?_
      refine z_icmp_ne (tgt := 35) dX9_rowOf_27 (by decide) (fun q9 => absurd (rfl) q9) (fun _ => ?_)
      refine z_bipush dX9_rowOf_30 ?_
      refine z_goto (tgt := 47) dX9_rowOf_32 (by decide) ?_
      exact z_iret (st := []) rfl dX9_rowOf_47 hq
    · refine z_iload_n dX9_rowOf_0 (by exact rfl) ?_
      refine z_bipush dX9_rowOf_1 ?_
      refine z_icmp_ge (tgt := 8) dX9_rowOf_3 (by decide) (fun _ => ?_) (fun q9 => absurd ((by decide)) q9)
      refine z_iload_n dX9_rowOf_8 (by exact rfl) ?_
      refine z_bipush dX9_rowOf_9 ?_
      refine z_icmp_ne (tgt := 25) dX9_rowOf_11 (by decide) (fun q9 => absurd (rfl) q9) (fun _ => ?_)
      refine z_iload_n dX9_rowOf_14 (by exact rfl) ?_
      refine z_if_ne (tgt := 23) dX9_rowOf_15 (by decide) (fun q9 => absurd (rfl) q9) (fun _ => ?_)
      refine z_bipush dX9_rowOf_18 ?_
      refine z_goto (tgt := 24) dX9_rowOf_20 (by decide) ?_
      exact z_iret (st := []) rfl dX9_rowOf_24 hq
    · refine z_iload_n dX9_rowOf_0 (by exact rfl) ?_
      refine z_bipush dX9_rowOf_1 ?_
      refine z_icmp_ge (tgt := 8) dX9_rowOf_3 (by decide) (fun _ => ?_) (fun q9 => absurd ((by decide)) q9)
      refine z_iload_n dX9_rowOf_8 (by exact rfl) ?_
      refine z_bipush dX9_rowOf_9 ?_
      refine z_icmp_ne (tgt := 25) dX9_rowOf_11 (by decide) (fun q9 => absurd (rfl) q9) (fun _ => ?_)
      refine z_iload_n dX9_rowOf_14 (by exact rfl) ?_
      refine z_if_ne (tgt := 23) dX9_rowOf_15 (by decide) (fun _ => ?_) (fun q9 => absurd q9 ((by decide)))
      refine z_iconst dX9_rowOf_23 ?_
      exact z_iret (st := []) rfl dX9_rowOf_24 hq
    · refine z_iload_n dX9_rowOf_0 (by exact rfl) ?_
      refine z_bipush dX9_rowOf_1 ?_
      refine z_icmp_ge (tgt := 8) dX9_rowOf_3 (by decide) (fun _ => ?_) (fun q9 => absurd ((by decide)) q9)
      refine z_iload_n dX9_rowOf_8 (by exact rfl) ?_
      refine z_bipush dX9_rowOf_9 ?_
      refine z_icmp_ne (tgt := 25) dX9_rowOf_11 (by decide) (fun _ => ?_) (fun q9 => absurd q9 ((by decide)))
      refine z_iload_n dX9_rowOf_25 (by exact rfl) ?_
      refine z_iconst dX9_rowOf_26 ?_
      refine z_icmp_ne (tgt := 35) dX9_rowOf_27 (by decide) (fun _ => ?_) (fun q9 => absurd q9 ((by decide)))
      refine z_iload_n dX9_rowOf_35 (by exact rfl) ?_
      refine z_bipush dX9_rowOf_36 ?_
      refine z_icmp_ne (tgt := 45) dX9_rowOf_38 (by decide) (fun _ => ?_) (fun q9 => absurd q9 ((by decide)))
      refine z_bipush dX9_rowOf_45 ?_
      exact z_iret (st := []) rfl dX9_rowOf_47 hq
    · refine z_iload_n dX9_rowOf_0 (by exact rfl) ?_
      refine z_bipush dX9_rowOf_1 ?_
      refine z_icmp_ge (tgt := 8) dX9_rowOf_3 (by decide) (fun _ => ?_) (fun q9 => absurd ((by decide)) q9)
      refine z_iload_n dX9_rowOf_8 (by exact rfl) ?_
      refine z_bipush dX9_rowOf_9 ?_
      refine z_icmp_ne (tgt := 25) dX9_rowOf_11 (by decide) (fun _ => ?_) (fun q9 => absurd q9 ((by decide)))
      refine z_iload_n dX9_rowOf_25 (by exact rfl) ?_
      refine z_iconst dX9_rowOf_26 ?_
      refine z_icmp_ne (tgt := 35) dX9_rowOf_27 (by decide) (fun q9 => absurd (rfl) q9) (fun _ => ?_)
      refine z_bipush dX9_rowOf_30 ?_
      refine z_goto (tgt := 47) dX9_rowOf_32 (by decide) ?_
      exact z_iret (st := []) rfl dX9_rowOf_47 hq
theorem fsz_lt {S : zRow} {ch bits : Nat} {pr : zPr} {o first n w : Nat} (hc : 1 ≤ ch ∧ ch ≤ 8) (hb : 4 ≤ bits ∧ bits ≤ 24) (hn : 1 ≤ n ∧ n ≤ 256) (hw : okRow ch w) (hS : ∀ j, j < (first + n) * ch → inB bits (S j)) : fsz S ch bits pr o first n w < 10000 := by
  have h1 := rw_in hb.1 hc.2 hw hS
  have h2 := bW_le (w := w) hb
  have h4 := wsz_le (pr := pr) (o := o) hn.1 (Nat.le_of_lt (wst_lt h2.1 h1))
  have h5 : n * bW bits w ≤ 256 * 25 := Nat.mul_le_mul hn.2 h2.2
  unfold fsz
  omega
theorem c_assignment {d f block ch bits n o s m : Nat} {cs : Nat → Int} {D : zD} {Q : zQ} {S : zRow} (hs : set9m D S ch bits block o s cs m) (hc : 1 ≤ ch ∧ ch ≤ 8) (hb : 4 ≤ bits ∧ bits ≤ 24) (hsh : s ≤ 14) (ho : o ≤ 8) (hn : 1 ≤ n ∧ n ≤ 256) (hm : (f * block + n) * ch ≤ m) (hm2 : m ≤ 4096) (hq : ∀ D', zfr fMd D D' → Q (.inl (some (.int (nI (asgW S ch bits (s, cs) o (f * block) n))))) 0 D') : ZM yX9_assignment iX9_assignment (d + 7) [.ref 19, .int (nI f), .int (nI n)] D Q := by
  refine z_method (by decide) rfl (Nat.le_of_ble_eq_true rfl) ?_
  refine z_at [(0, .ref 19), (1, .int (nI f)), (2, .int (nI n))] ⟨rfl, rfl, rfl, trivial⟩ ?_
  by_cases h2 : ch = 2
  · subst h2
    have e : asgW S 2 bits (s, cs) o (f * block) n = asgA (fsz S 2 bits (s, cs) o (f * block) n 0) (fsz S 2 bits (s, cs) o (f * block) n 1) (fsz S 2 bits (s, cs) o (f * block) n 8) (fsz S 2 bits (s, cs) o (f * block) n 9) := if_pos rfl
    rw [e] at hq
    have hS : ∀ j, j < (f * block + n) * 2 → inB bits (S j) := fun j hj => (hs.2.2.2.2 j (by omega)).2
    have o0 : okRow 2 0 := .inl (by omega)
    have o1 : okRow 2 1 := .inl (by omega)
    have o8 : okRow 2 8 := .inr ⟨rfl, .inl rfl⟩
    have o9 : okRow 2 9 := .inr ⟨rfl, .inr rfl⟩
    have b0 := fsz_lt (pr := (s, cs)) (o := o) hc hb hn o0 hS
    have b1 := fsz_lt (pr := (s, cs)) (o := o) hc hb hn o1 hS
    have b8 := fsz_lt (pr := (s, cs)) (o := o) hc hb hn o8 hS
    have b9 := fsz_lt (pr := (s, cs)) (o := o) hc hb hn o9 hS
    have kp : ∀ {X Y : zD}, set9m X S 2 bits block o s cs m → zfr fMd X Y → set9m Y S 2 bits block o s cs m := fun h hF => h.fr hF fMd_lo (fun _ => rfl) (fun _ => rfl)
    unfold asgA at hq
    obtain ⟨l, el⟩ : ∃ l, l = fsz S 2 bits (s, cs) o (f * block) n 0 := ⟨_, rfl⟩
    obtain ⟨r, er⟩ : ∃ r, r = fsz S 2 bits (s, cs) o (f * block) n 1 := ⟨_, rfl⟩
    obtain ⟨sd, es⟩ : ∃ sd, sd = fsz S 2 bits (s, cs) o (f * block) n 8 := ⟨_, rfl⟩
    obtain ⟨md, em⟩ : ∃ md, md = fsz S 2 bits (s, cs) o (f * block) n 9 := ⟨_, rfl⟩
    rw [← el] at b0
    rw [← er] at b1
    rw [← es] at b8
    rw [← em] at b9
    rw [← el, ← er, ← es, ← em] at hq
    have ln : ∀ a b : Nat, a < 20000 → b < 20000 → (lN a ≤ lN b ↔ a ≤ b) := fun a b ha hb => pk_lLE (by omega) (by omega)
    refine z_aload_n dX9_assignment_0 (by exact rfl) ?_
    refine z_gfI zfx_X9_7 (by exact rfl) dX9_assignment_1 ?_
    refine z_eI (nI 2) hs.1 ?_
    refine z_iconst dX9_assignment_4 ?_
    refine z_icmp_eq (tgt := 15) dX9_assignment_5 (by decide) (fun _ => ?_) (fun q9 => absurd (rfl) q9)
    refine z_aload_n dX9_assignment_15 (by exact rfl) ?_
    refine z_iload_n dX9_assignment_16 (by exact rfl) ?_
    refine z_iconst dX9_assignment_17 ?_
    refine z_iload_n dX9_assignment_18 (by exact rfl) ?_
    refine z_cV dX9_assignment_19 zk_X9_214 (by exact rfl) (by exact rfl) (by exact rfl) (Nat.le_of_ble_eq_true rfl) (Nat.le_of_ble_eq_true rfl) (Nat.le_refl _) ?_
    refine c_measured (w := 0) hs hc hb hsh ho o0 hn hm hm2 (fun D1 _ hf1 => ?_)
    rw [← el]
    refine z_lstore_n dX9_assignment_22 (Nat.le_of_ble_eq_true rfl) ?_
    refine z_aload_n dX9_assignment_23 (by exact rfl) ?_
    refine z_iload_n dX9_assignment_24 (by exact rfl) ?_
    refine z_iconst dX9_assignment_25 ?_
    refine z_iload_n dX9_assignment_26 (by exact rfl) ?_
    refine z_cV dX9_assignment_27 zk_X9_214 (by exact rfl) (by exact rfl) (by exact rfl) (Nat.le_of_ble_eq_true rfl) (Nat.le_of_ble_eq_true rfl) (Nat.le_refl _) ?_
    refine c_measured (w := 1) (kp hs hf1) hc hb hsh ho o1 hn hm hm2 (fun D2 _ hf2 => ?_)
    rw [← er]
    refine z_lstore dX9_assignment_30 (Nat.le_of_ble_eq_true rfl) ?_
    refine z_aload_n dX9_assignment_32 (by exact rfl) ?_
    refine z_iload_n dX9_assignment_33 (by exact rfl) ?_
    refine z_bipush dX9_assignment_34 ?_
    refine z_iload_n dX9_assignment_36 (by exact rfl) ?_
    refine z_cV dX9_assignment_37 zk_X9_214 (by exact rfl) (by exact rfl) (by exact rfl) (Nat.le_of_ble_eq_true rfl) (Nat.le_of_ble_eq_true rfl) (Nat.le_refl _) ?_
    refine c_measured (w := 8) (kp (kp hs hf1) hf2) hc hb hsh ho o8 hn hm hm2 (fun D3 _ hf3 => ?_)
    rw [← es]
    refine z_lstore dX9_assignment_40 (Nat.le_of_ble_eq_true rfl) ?_
    refine z_aload_n dX9_assignment_42 (by exact rfl) ?_
    refine z_iload_n dX9_assignment_43 (by exact rfl) ?_
    refine z_bipush dX9_assignment_44 ?_
    refine z_iload_n dX9_assignment_46 (by exact rfl) ?_
    refine z_cV dX9_assignment_47 zk_X9_214 (by exact rfl) (by exact rfl) (by exact rfl) (Nat.le_of_ble_eq_true rfl) (Nat.le_of_ble_eq_true rfl) (Nat.le_refl _) ?_
    refine c_measured (w := 9) (kp (kp (kp hs hf1) hf2) hf3) hc hb hsh ho o9 hn hm hm2 (fun D4 _ hf4 => ?_)
    rw [← em]
    have hq := hq D4 (((hf1.tr hf2).tr hf3).tr hf4)
    have t3 : ∀ (best z : Nat), z < 20000 → (md + sd < z → Q (.inl (some (.int (nI 10)))) 0 D4) → (¬ md + sd < z → Q (.inl (some (.int (nI best)))) 0 D4) → Z (zmk iX9_assignment (d + 7)) 0 103 (zl [(7, .long (lN sd)), (9, .long (lN md)), (11, .int (nI best)), (12, .long (lN z))]) [] D4 Q := by
      intro best z hz q1 q0
      refine z_lload dX9_assignment_103 (by exact rfl) ?_
      refine z_lload dX9_assignment_105 (by exact rfl) ?_
      refine z_ladd dX9_assignment_107 ?_
      refine z_eJ (lN (md + sd)) (lN_add _ _) ?_
      refine z_lload dX9_assignment_108 (by exact rfl) ?_
      refine z_ge (tgt := 119) dX9_assignment_110 dX9_assignment_111 (by decide) (fun c110 => ?_) (fun c110 => ?_)
      · refine z_iload dX9_assignment_119 (by exact rfl) ?_
        exact z_iret (st := []) rfl dX9_assignment_121 (q0 (fun q => by
          have := (ln z (md + sd) (by omega) (by omega)).mp c110
          omega))
      · refine z_bipush dX9_assignment_114 ?_
        refine z_goto (tgt := 121) dX9_assignment_116 (by decide) ?_
        exact z_iret (st := []) rfl dX9_assignment_121 (q1 (by
          rcases Nat.lt_or_ge (md + sd) z with h | h
          · exact h
          · exact absurd ((ln z (md + sd) (by omega) (by omega)).mpr h) c110))
    have t2 : ∀ (best z : Nat), z < 20000 → (sd + r < z → md + sd < sd + r → Q (.inl (some (.int (nI 10)))) 0 D4) → (sd + r < z → ¬ md + sd < sd + r → Q (.inl (some (.int (nI 9)))) 0 D4) → (¬ sd + r < z → md + sd < z → Q (.inl (some (.int (nI 10)))) 0 D4) → (¬ sd + r < z → ¬ md + sd < z → Q (.inl (some (.int (nI best)))) 0 D4) → Z (zmk iX9_assignment (d + 7)) 0 81 (zl [(5, .long (lN r)), (7, .long (lN sd)), (9, .long (lN md)), (11, .int (nI best)), (12, .long (lN z))]) [] D4 Q := by
      intro best z hz q1 q2 q3 q4
      refine z_lload dX9_assignment_81 (by exact rfl) ?_
      refine z_lload dX9_assignment_83 (by exact rfl) ?_
      refine z_ladd dX9_assignment_85 ?_
      refine z_eJ (lN (sd + r)) (lN_add _ _) ?_
      refine z_lload dX9_assignment_86 (by exact rfl) ?_
      refine z_ge (tgt := 103) dX9_assignment_88 dX9_assignment_89 (by decide) (fun c88 => ?_) (fun c88 => ?_)
      · exact z_at [(7, .long (lN sd)), (9, .long (lN md)), (11, .int (nI best)), (12, .long (lN z))] ⟨rfl, rfl, rfl, rfl, trivial⟩ (by
          have hge : ¬ sd + r < z := fun q => by
            have := (ln z (sd + r) (by omega) (by omega)).mp c88
            omega
          exact t3 best z hz (q3 hge) (q4 hge))
      · refine z_bipush dX9_assignment_92 ?_
        refine z_istore dX9_assignment_94 (Nat.le_of_ble_eq_true rfl) ?_
        refine z_lload dX9_assignment_96 (by exact rfl) ?_
        refine z_lload dX9_assignment_98 (by exact rfl) ?_
        refine z_ladd dX9_assignment_100 ?_
        refine z_eJ (lN (sd + r)) (lN_add _ _) ?_
        refine z_lstore dX9_assignment_101 (Nat.le_of_ble_eq_true rfl) ?_
        exact z_at [(7, .long (lN sd)), (9, .long (lN md)), (11, .int (nI 9)), (12, .long (lN (sd + r)))] ⟨rfl, rfl, rfl, rfl, trivial⟩ (by
          have hlt : sd + r < z := by
            rcases Nat.lt_or_ge (sd + r) z with h | h
            · exact h
            · exact absurd ((ln z (sd + r) (by omega) (by omega)).mpr h) c88
          exact t3 9 (sd + r) (by omega) (q1 hlt) (q2 hlt))
    refine z_lstore dX9_assignment_50 (Nat.le_of_ble_eq_true rfl) ?_
    refine z_iconst dX9_assignment_52 ?_
    refine z_istore dX9_assignment_53 (Nat.le_of_ble_eq_true rfl) ?_
    refine z_lload_n dX9_assignment_55 (by exact rfl) ?_
    refine z_lload dX9_assignment_56 (by exact rfl) ?_
    refine z_ladd dX9_assignment_58 ?_
    refine z_eJ (lN (l + r)) (lN_add _ _) ?_
    refine z_lstore dX9_assignment_59 (Nat.le_of_ble_eq_true rfl) ?_
    refine z_lload_n dX9_assignment_61 (by exact rfl) ?_
    refine z_lload dX9_assignment_62 (by exact rfl) ?_
    refine z_ladd dX9_assignment_64 ?_
    refine z_eJ (lN (l + sd)) (lN_add _ _) ?_
    refine z_lload dX9_assignment_65 (by exact rfl) ?_
    refine z_ge (tgt := 81) dX9_assignment_67 dX9_assignment_68 (by decide) (fun c67 => ?_) (fun c67 => ?_)
    · exact z_at [(5, .long (lN r)), (7, .long (lN sd)), (9, .long (lN md)), (11, .int (nI 1)), (12, .long (lN (l + r)))] ⟨rfl, rfl, rfl, rfl, rfl, trivial⟩ (by
        have hge : ¬ l + sd < l + r := fun q => by
          have := (ln (l + r) (l + sd) (by omega) (by omega)).mp c67
          omega
        rw [if_neg hge, if_neg hge] at hq
        exact t2 1 (l + r) (by omega) (fun q1 q2 => by rw [if_pos q1, if_pos q2] at hq; exact hq) (fun q1 q2 => by rw [if_pos q1, if_neg q2, if_pos q1] at hq; exact hq) (fun q1 q2 => by rw [if_neg q1, if_pos q2] at hq; exact hq) (fun q1 q2 => by rw [if_neg q1, if_neg q2, if_neg q1] at hq; exact hq))
    · refine z_bipush dX9_assignment_71 ?_
      refine z_istore dX9_assignment_73 (Nat.le_of_ble_eq_true rfl) ?_
      refine z_lload_n dX9_assignment_75 (by exact rfl) ?_
      refine z_lload dX9_assignment_76 (by exact rfl) ?_
      refine z_ladd dX9_assignment_78 ?_
      refine z_eJ (lN (l + sd)) (lN_add _ _) ?_
      refine z_lstore dX9_assignment_79 (Nat.le_of_ble_eq_true rfl) ?_
      exact z_at [(5, .long (lN r)), (7, .long (lN sd)), (9, .long (lN md)), (11, .int (nI 8)), (12, .long (lN (l + sd)))] ⟨rfl, rfl, rfl, rfl, rfl, trivial⟩ (by
        have hlt : l + sd < l + r := by
          rcases Nat.lt_or_ge (l + sd) (l + r) with h | h
          · exact h
          · exact absurd ((ln (l + r) (l + sd) (by omega) (by omega)).mpr h) c67
        rw [if_pos hlt, if_pos hlt] at hq
        exact t2 8 (l + sd) (by omega) (fun q1 q2 => by rw [if_pos q1, if_pos q2] at hq; exact hq) (fun q1 q2 => by rw [if_pos q1, if_neg q2, if_pos q1] at hq; exact hq) (fun q1 q2 => by rw [if_neg q1, if_pos q2] at hq; exact hq) (fun q1 q2 => by rw [if_neg q1, if_neg q2, if_neg q1] at hq; exact hq))
  · refine z_aload_n dX9_assignment_0 (by exact rfl) ?_
    refine z_gfI zfx_X9_7 (by exact rfl) dX9_assignment_1 ?_
    refine z_eI (nI ch) hs.1 ?_
    refine z_iconst dX9_assignment_4 ?_
    refine z_icmp_eq (tgt := 15) dX9_assignment_5 (by decide) (fun q9 => absurd q9 ((fun q => h2 ((nI_eq (a := ch) (b := 2) (by omega) (by omega)).mp q)))) (fun _ => ?_)
    refine z_aload_n dX9_assignment_8 (by exact rfl) ?_
    refine z_gfI zfx_X9_7 (by exact rfl) dX9_assignment_9 ?_
    refine z_eI (nI ch) hs.1 ?_
    refine z_iconst dX9_assignment_12 ?_
    refine z_isub dX9_assignment_13 ?_
    refine z_eI (nI (ch - 1)) (pk_sub (a := ch) (b := 1) hc.1) ?_
    exact z_iret (st := []) rfl dX9_assignment_14 (by
      have := hq D zfr.rf
      unfold asgW at this
      rw [if_neg h2] at this
      exact this)
