/-! ===== Reader.orderOf, isSide, readSubframe ===== -/
def okT (t : Nat) : Prop := t < 2 ∨ (8 ≤ t ∧ t ≤ 12) ∨ 32 ≤ t
theorem c_orderOf {d t : Nat} {D : zD} {Q : zQ} (ht : t < 64) (h1 : okT t → Q (.inl (some (.int (nI (ordN t))))) 0 D) (h0 : ¬ okT t → Q (.inl (some (.int (Int32.ofInt (-1))))) 0 D) : ZM yX4_orderOf iX4_orderOf (d + 1) [.int (nI t)] D Q := by
  refine z_method (by decide) rfl (Nat.le_of_ble_eq_true rfl) ?_
  refine z_at [(0, .int (nI t))] ⟨rfl, trivial⟩ ?_
  have le64 : ∀ a b : Nat, a < 2000000 → b < 2000000 → (lN a ≤ lN b ↔ a ≤ b) := fun a b ha hb => pk_lLE (by omega) (by omega)
  have tl : (nI t).toInt64 = lN t := nI_l (by omega)
  refine z_iload_n dX4_orderOf_0 (by exact rfl) ?_
  refine z_if_eq (tgt := 9) dX4_orderOf_1 (by decide) (fun c1 => ?_) (fun c1 => ?_)
  · refine z_iconst dX4_orderOf_9 ?_
    exact z_iret (st := []) rfl dX4_orderOf_10 (by
      have e : t = 0 := (nI_eq (a := t) (b := 0) (by omega) (by omega)).mp c1
      have := h1 (Or.inl (by omega))
      rw [e] at this
      exact this)
  · refine z_iload_n dX4_orderOf_4 (by exact rfl) ?_
    refine z_iconst dX4_orderOf_5 ?_
    refine z_icmp_ne (tgt := 11) dX4_orderOf_6 (by decide) (fun c6 => ?_) (fun c6 => ?_)
    · refine z_iload_n dX4_orderOf_11 (by exact rfl) ?_
      refine z_i2l dX4_orderOf_12 ?_
      refine z_eJ (lN t) tl ?_
      refine z_ldcL dX4_orderOf_13 zclx_X4_177 ?_
      refine z_ldcL dX4_orderOf_16 zclx_X4_224 ?_
      refine z_cN dX4_orderOf_19 zk_X4_115 rfl (by exact rfl) (Nat.le_of_ble_eq_true rfl) (Nat.le_of_ble_eq_true rfl) (Nat.le_refl _) ?_
      refine c_within (fun a19 b19 => ?_) (fun n19 => ?_)
      · refine z_if_eq (tgt := 30) dX4_orderOf_22 (by decide) (fun q9 => absurd q9 (by decide)) (fun _ => ?_)
        refine z_iload_n dX4_orderOf_25 (by exact rfl) ?_
        refine z_bipush dX4_orderOf_26 ?_
        refine z_isub dX4_orderOf_28 ?_
        exact z_iret (st := []) rfl dX4_orderOf_29 (by
          have g1 : 8 ≤ t := (le64 8 _ (by omega) (by omega)).mp a19
          have g2 : t ≤ 12 := (le64 _ 12 (by omega) (by omega)).mp b19
          have := h1 (Or.inr (Or.inl ⟨g1, g2⟩))
          unfold ordN at this
          rw [if_neg (by omega), if_pos (by omega)] at this
          rw [show nI t - (Int8.ofInt 8).toInt32 = nI (t - 8) from pk_sub (a := t) (b := 8) g1]
          exact this)
      · refine z_if_eq (tgt := 30) dX4_orderOf_22 (by decide) (fun _ => ?_) (fun q9 => absurd q9 (by decide))
        refine z_iload_n dX4_orderOf_30 (by exact rfl) ?_
        refine z_i2l dX4_orderOf_31 ?_
        refine z_eJ (lN t) tl ?_
        refine z_ldcL dX4_orderOf_32 zclx_X4_226 ?_
        refine z_ldcL dX4_orderOf_35 zclx_X4_228 ?_
        refine z_cN dX4_orderOf_38 zk_X4_115 rfl (by exact rfl) (Nat.le_of_ble_eq_true rfl) (Nat.le_of_ble_eq_true rfl) (Nat.le_refl _) ?_
        refine c_within (fun a38 b38 => ?_) (fun n38 => ?_)
        · refine z_if_eq (tgt := 51) dX4_orderOf_41 (by decide) (fun q9 => absurd q9 (by decide)) (fun _ => ?_)
          refine z_iload_n dX4_orderOf_44 (by exact rfl) ?_
          refine z_bipush dX4_orderOf_45 ?_
          refine z_isub dX4_orderOf_47 ?_
          refine z_goto (tgt := 52) dX4_orderOf_48 (by decide) ?_
          exact z_iret (st := []) rfl dX4_orderOf_52 (by
            have g1 : 32 ≤ t := (le64 32 _ (by omega) (by omega)).mp a38
            have := h1 (Or.inr (Or.inr g1))
            unfold ordN at this
            rw [if_neg (by omega), if_neg (by omega)] at this
            rw [show nI t - (Int8.ofInt 31).toInt32 = nI (t - 31) from pk_sub (a := t) (b := 31) (by omega)]
            exact this)
        · refine z_if_eq (tgt := 51) dX4_orderOf_41 (by decide) (fun _ => ?_) (fun q9 => absurd q9 (by decide))
          refine z_iconst dX4_orderOf_51 ?_
          exact z_iret (st := []) rfl dX4_orderOf_52 (h0 (fun q => by
            have g0 : ¬ t = 0 := fun q => c1 ((nI_eq (a := t) (b := 0) (by omega) (by omega)).mpr q)
            have g1 : ¬ t = 1 := fun q => c6 ((nI_eq (a := t) (b := 1) (by omega) (by omega)).mpr q)
            have g2 : ¬ (8 ≤ t ∧ t ≤ 12) := fun q => n19 ⟨(le64 8 _ (by omega) (by omega)).mpr q.1, (le64 _ 12 (by omega) (by omega)).mpr q.2⟩
            have g3 : ¬ 32 ≤ t := fun q => n38 ⟨(le64 32 _ (by omega) (by omega)).mpr q, (le64 _ 63 (by omega) (by omega)).mpr (by omega)⟩
            unfold okT at q
            omega))
    · refine z_iconst dX4_orderOf_9 ?_
      exact z_iret (st := []) rfl dX4_orderOf_10 (by
        have e : t = 1 := (nI_eq (a := t) (b := 1) (by omega) (by omega)).mp c6
        have := h1 (Or.inl (by omega))
        rw [e] at this
        exact this)
theorem side_t {a c : Nat} : side a c = true ↔ (a = 9 ∧ c = 0) ∨ ((a = 8 ∨ a = 10) ∧ c = 1) := by
  unfold side
  simp
theorem side_f {a c : Nat} (h : ¬ ((a = 9 ∧ c = 0) ∨ ((a = 8 ∨ a = 10) ∧ c = 1))) : side a c = false := by
  cases e : side a c with
  | false => rfl
  | true => exact absurd (side_t.mp e) h
theorem c_isSide {d a c : Nat} {D : zD} {Q : zQ} (ha : a < 16) (hc : c < 8) (hq : Q (.inl (some (.int (nI (side a c).toNat)))) 0 D) : ZM yX8_isSide iX8_isSide d [.int (nI a), .int (nI c)] D Q := by
  refine z_method (by decide) rfl (Nat.le_of_ble_eq_true rfl) ?_
  refine z_at [(0, .int (nI a)), (1, .int (nI c))] ⟨rfl, rfl, trivial⟩ ?_
  have ea : ∀ k, k < 16 → (nI a = nI k ↔ a = k) := fun k hk => nI_eq (by omega) (by omega)
  have ec : ∀ k, k < 16 → (nI c = nI k ↔ c = k) := fun k hk => nI_eq (by omega) (by omega)
  have fin : ∀ {b : Int32}, nI (side a c).toNat = b → Q (.inl (some (.int b))) 0 D := fun e => by rw [← e]; exact hq
  refine z_iload_n dX8_isSide_0 (by exact rfl) ?_
  refine z_bipush dX8_isSide_1 ?_
  refine z_icmp_ne (tgt := 16) dX8_isSide_3 (by decide) (fun c3 => ?_) (fun c3 => ?_)
  · refine z_iload_n dX8_isSide_16 (by exact rfl) ?_
    refine z_bipush dX8_isSide_17 ?_
    refine z_icmp_eq (tgt := 28) dX8_isSide_19 (by decide) (fun c19 => ?_) (fun c19 => ?_)
    · refine z_iload_n dX8_isSide_28 (by exact rfl) ?_
      refine z_iconst dX8_isSide_29 ?_
      refine z_icmp_ne (tgt := 37) dX8_isSide_30 (by decide) (fun c30 => ?_) (fun c30 => ?_)
      · refine z_iconst dX8_isSide_37 ?_
        exact z_zret (st := []) (by decide) rfl dX8_isSide_38 (fin (by
          have h9 : ¬ a = 9 := fun q => c3 ((ea 9 (by omega)).mpr q)
          have h8 : a = 8 := (ea 8 (by omega)).mp c19
          have h1 : ¬ c = 1 := fun q => c30 ((ec 1 (by omega)).mpr q)
          rw [side_f (by omega)]
          rfl))
      · refine z_iconst dX8_isSide_33 ?_
        refine z_goto (tgt := 38) dX8_isSide_34 (by decide) ?_
        exact z_zret (st := []) (by decide) rfl dX8_isSide_38 (fin (by
          have h8 : a = 8 := (ea 8 (by omega)).mp c19
          have h1 : c = 1 := (ec 1 (by omega)).mp c30
          rw [h8, h1]
          rfl))
    · refine z_iload_n dX8_isSide_22 (by exact rfl) ?_
      refine z_bipush dX8_isSide_23 ?_
      refine z_icmp_ne (tgt := 37) dX8_isSide_25 (by decide) (fun c25 => ?_) (fun c25 => ?_)
      · refine z_iconst dX8_isSide_37 ?_
        exact z_zret (st := []) (by decide) rfl dX8_isSide_38 (fin (by
          have h9 : ¬ a = 9 := fun q => c3 ((ea 9 (by omega)).mpr q)
          have h8 : ¬ a = 8 := fun q => c19 ((ea 8 (by omega)).mpr q)
          have h10 : ¬ a = 10 := fun q => c25 ((ea 10 (by omega)).mpr q)
          rw [side_f (by omega)]
          rfl))
      · refine z_iload_n dX8_isSide_28 (by exact rfl) ?_
        refine z_iconst dX8_isSide_29 ?_
        refine z_icmp_ne (tgt := 37) dX8_isSide_30 (by decide) (fun c30 => ?_) (fun c30 => ?_)
        · refine z_iconst dX8_isSide_37 ?_
          exact z_zret (st := []) (by decide) rfl dX8_isSide_38 (fin (by
            have h10 : a = 10 := (ea 10 (by omega)).mp c25
            have h1 : ¬ c = 1 := fun q => c30 ((ec 1 (by omega)).mpr q)
            rw [side_f (by omega)]
            rfl))
        · refine z_iconst dX8_isSide_33 ?_
          refine z_goto (tgt := 38) dX8_isSide_34 (by decide) ?_
          exact z_zret (st := []) (by decide) rfl dX8_isSide_38 (fin (by
            have h10 : a = 10 := (ea 10 (by omega)).mp c25
            have h1 : c = 1 := (ec 1 (by omega)).mp c30
            rw [h10, h1]
            rfl))
  · refine z_iload_n dX8_isSide_6 (by exact rfl) ?_
    refine z_if_ne (tgt := 14) dX8_isSide_7 (by decide) (fun c7 => ?_) (fun c7 => ?_)
    · refine z_iconst dX8_isSide_14 ?_
      exact z_zret (st := []) (by decide) rfl dX8_isSide_15 (fin (by
        have h9 : a = 9 := (ea 9 (by omega)).mp c3
        have h1 : ¬ c = 0 := fun q => c7 ((ec 0 (by omega)).mpr q)
        rw [side_f (by omega)]
        rfl))
    · refine z_iconst dX8_isSide_10 ?_
      refine z_goto (tgt := 15) dX8_isSide_11 (by decide) ?_
      exact z_zret (st := []) (by decide) rfl dX8_isSide_15 (fin (by
        have h9 : a = 9 := (ea 9 (by omega)).mp c3
        have h1 : c = 0 := (ec 0 (by omega)).mp c7
        rw [h9, h1]
        rfl))
def fSub (r a k : Nat) : Bool := fAt a k || (a == r || (a == 50 || a == 51))
theorem fSub_at (r a k : Nat) (h : fSub r a k = false) : fAt a k = false := or_l h
theorem fSub_pr (r a k : Nat) (h : fSub r a k = false) : fPr a k = false := by
  unfold fPr
  rw [fSub_at r a k h, or_r (or_r h)]
  rfl
theorem fSub_row (r a k : Nat) (h : fSub r a k = false) : fRow r a k = false := by
  unfold fRow
  rw [fSub_at r a k h, or_l (or_r h)]
  rfl
theorem fSub_r {r k : Nat} : fSub r r k = true := by
  unfold fSub
  simp
theorem zfr.uR {F : Nat → Nat → Bool} {D D' : zD} (h : zfr F D D') {a : Nat} (f : Nat → Int32) (hF : ∀ k, F a k = true) : zfr F D (zuR D' a f) := by
  refine ⟨fun b k q => ?_, fun b k q => h.2 b k q⟩
  unfold zuR
  simp only
  split
  next e =>
    subst e
    rw [hF k] at q
    cases q
  next => exact h.1 b k q
theorem rd8.uR {D : zD} {T : Nat → Bool} {sz p a : Nat} {f : Nat → Int32} (h : rd8 D T sz p) (h1 : ¬ a = 37) (h2 : ¬ a = 38) : rd8 (zuR D a f) T sz p := by
  refine h.wr ?_ ?_ ?_ ?_ ?_
  all_goals
    unfold zuR
    simp only
    rw [if_neg (by omega)]
theorem c_readSubframe {d p sz r n bits : Nat} {D : zD} {T : Nat → Bool} {Q : zQ} {sp : RT zRow} (hr : zac r = some (0, 256)) (hr1 : ¬ r = 37) (hr2 : ¬ r = 38) (hr3 : ¬ r = 50) (hr4 : ¬ r = 51) (hn : 1 ≤ n ∧ n ≤ 256) (hb : 4 ≤ bits ∧ bits ≤ 25) (hR : rd8 D T sz p) (hK : sSub T (8 * sz) n bits p = sp)
    (h0 : ∀ D' k pl, sp = .inl (k, pl) → bad8 D' k pl → zfr (fSub r) D D' → Q (.inr zISE) 1 D') (h1 : ∀ D' a q, sp = .inr (a, q) → row8 D' r a n → rd8 D' T sz q → zfr (fSub r) D D' → Q (.inl none) 0 D') :
    ZM yX4_readSubframe iX4_readSubframe (d + 4) [.ref 37, .ref r, .int (nI n), .int (nI bits)] D Q := by
  refine z_method (by decide) rfl (Nat.le_of_ble_eq_true rfl) ?_
  have wk : ∀ {X Y : zD}, zfr fAt X Y → zfr (fSub r) X Y := fun h => h.wk (fSub_at r)
  have wkp : ∀ {X Y : zD}, zfr fPr X Y → zfr (fSub r) X Y := fun h => h.wk (fSub_pr r)
  have wkr : ∀ {X Y : zD}, zfr (fRow r) X Y → zfr (fSub r) X Y := fun h => h.wk (fSub_row r)
  have le64 : ∀ a b : Nat, a < 2000000 → b < 2000000 → (lN a ≤ lN b ↔ a ≤ b) := fun a b ha hb => pk_lLE (by omega) (by omega)
  have shf : ∀ (w : Nat), w < bits → ∀ (a : zRow) (q : Nat), allB (bits - w) n a → sp = .inr (fun i => a i * 2 ^ w, q) → ∀ (m i : Nat) (D1 : zD), i + m = n → (∀ j, j < n → D1.1 r j = iI (if j < i then a j * 2 ^ w else a j)) → rd8 D1 T sz q → zfr (fSub r) D D1 → Z (zmk iX4_readSubframe (d + 4)) 0 149 (zl [(0, .ref 37), (1, .ref r), (2, .int (nI n)), (6, .int (nI w)), (8, .int (nI i))]) [] D1 Q := by
    intro w hw a q hal hsp m
    induction m with
    | zero =>
      intro i D1 hi ha hR1 hF
      have hi : i = n := by omega
      subst hi
      refine z_iload dX4_readSubframe_149 (by exact rfl) ?_
      refine z_iload_n dX4_readSubframe_151 (by exact rfl) ?_
      refine z_icmp_ge (tgt := 170) dX4_readSubframe_152 (by decide) (fun _ => ?_) (fun q9 => absurd ((nI_le (Nat.le_refl _) (by omega))) q9)
      exact z_vret (st := []) rfl dX4_readSubframe_170 (h1 D1 _ q hsp (fun j hj => ⟨by rw [ha j hj, if_pos hj], inB_le (B := 24) (inB_shl hw (hal j hj)) (by omega)⟩) hR1 hF)
    | succ m ih =>
      intro i D1 hi ha hR1 hF
      refine z_iload dX4_readSubframe_149 (by exact rfl) ?_
      refine z_iload_n dX4_readSubframe_151 (by exact rfl) ?_
      refine z_icmp_ge (tgt := 170) dX4_readSubframe_152 (by decide) (fun q9 => absurd q9 ((nI_ge (a := i) (b := n) (by omega) (by omega)))) (fun _ => ?_)
      refine z_aload_n dX4_readSubframe_155 (by exact rfl) ?_
      refine z_iload dX4_readSubframe_156 (by exact rfl) ?_
      refine z_dup2 dX4_readSubframe_158 (by exact rfl) (by exact rfl) ?_
      refine z_aI hr dX4_readSubframe_159 (vp_in_nI (by omega) (by omega)) ?_
      refine z_eI (iI (a i)) (by rw [nI_clamp (n := i) (by omega), ha i (by omega), if_neg (by omega)]) ?_
      refine z_iload dX4_readSubframe_160 (by exact rfl) ?_
      refine z_ishl dX4_readSubframe_162 ?_
      refine z_eI (iI (a i * 2 ^ w)) (iI_shl (by omega)) ?_
      refine z_sI hr dX4_readSubframe_163 (vp_in_nI (by omega) (by omega)) ?_
      rw [nI_clamp (n := i) (by omega)]
      refine z_iinc dX4_readSubframe_164 (by exact rfl) ?_
      refine z_at [(0, .ref 37), (1, .ref r), (2, .int (nI n)), (6, .int (nI w)), (8, .int (nI (i + 1)))] ⟨rfl, rfl, rfl, rfl, congrArg (fun x => some (Value.int x)) (nI_1 i), trivial⟩ ?_
      refine z_goto (tgt := 149) dX4_readSubframe_167 (by decide) ?_
      exact ih (i + 1) _ (by omega) (fun j hj => by
        obtain e | e : j = i ∨ ¬ j = i := by omega
        · subst e
          rw [zuI_at, if_pos (by omega)]
        · rw [zuI_ne (by omega), ha j hj]
          by_cases h9 : j < i
          · rw [if_pos h9, if_pos (by omega)]
          · rw [if_neg h9, if_neg (by omega)]) (hR1.uI hr1 hr2) (hF.uI _ fSub_r)
  have shf0 : ∀ (w : Nat), w < bits → ∀ (a : zRow) (p1 q : Nat) (D1 : zD) (t : Nat), sBody T (8 * sz) n t (bits - w) p1 = .inr (a, q) → sp = .inr (fun i => a i * 2 ^ w, q) → row8 D1 r a n → rd8 D1 T sz q → zfr (fSub r) D D1 → Z (zmk iX4_readSubframe (d + 4)) 0 146 (zl [(0, .ref 37), (1, .ref r), (2, .int (nI n)), (6, .int (nI w))]) [] D1 Q := by
    intro w hw a p1 q D1 t hbo hsp ha hR1 hF
    refine z_iconst dX4_readSubframe_146 ?_
    refine z_istore dX4_readSubframe_147 (Nat.le_of_ble_eq_true rfl) ?_
    exact z_at [(0, .ref 37), (1, .ref r), (2, .int (nI n)), (6, .int (nI w)), (8, .int (nI 0))] ⟨rfl, rfl, rfl, rfl, rfl, trivial⟩ (shf w hw a q (sBody_in (by omega) hbo) hsp n 0 D1 (by omega) (fun j hj => by rw [if_neg (by omega)]; exact (ha j hj).1) hR1 hF)
  have body : ∀ (t w : Nat) (D1 : zD) (p1 : Nat), t < 64 → okT t → ordN t ≤ n → w < bits → rd8 D1 T sz p1 → zfr (fSub r) D D1 → rbind (sBody T (8 * sz) n t (bits - w)) (fun a => rpure (fun i => a i * 2 ^ w)) p1 = sp → Z (zmk iX4_readSubframe (d + 4)) 0 73 (zl [(0, .ref 37), (1, .ref r), (2, .int (nI n)), (3, .int (nI bits)), (4, .int (nI t)), (5, .int (nI (ordN t))), (6, .int (nI w))]) [] D1 Q := by
    intro t w D1 p1 ht hok hon hw hR1 hF hK1
    have fin0 : ∀ {k pl : Nat}, sBody T (8 * sz) n t (bits - w) p1 = .inl (k, pl) → sp = .inl (k, pl) := fun h => hK1.symm.trans (rbind_l h)
    have fin1 : ∀ {a : zRow} {q : Nat}, sBody T (8 * sz) n t (bits - w) p1 = .inr (a, q) → sp = .inr (fun i => a i * 2 ^ w, q) := fun h => hK1.symm.trans (rbind_r h)
    by_cases ht0 : t = 0
    · subst ht0
      have hs : sBody T (8 * sz) n 0 (bits - w) = rbind (rit T (8 * sz) (bits - w) kAny) fun v => rpure (fun _ => sgI (bits - w) v) := rfl
      refine z_iload_n dX4_readSubframe_73 (by exact rfl) ?_
      refine z_iload dX4_readSubframe_74 (by exact rfl) ?_
      refine z_isub dX4_readSubframe_76 ?_
      refine z_eI (nI (bits - w)) (pk_sub (by omega)) ?_
      refine z_istore dX4_readSubframe_77 (Nat.le_of_ble_eq_true rfl) ?_
      refine z_iload dX4_readSubframe_79 (by exact rfl) ?_
      refine z_if_ne (tgt := 104) dX4_readSubframe_81 (by decide) (fun q9 => absurd (rfl) q9) (fun _ => ?_)
      refine z_aload_n dX4_readSubframe_84 (by exact rfl) ?_
      refine z_iconst dX4_readSubframe_85 ?_
      refine z_iload_n dX4_readSubframe_86 (by exact rfl) ?_
      refine z_aload_n dX4_readSubframe_87 (by exact rfl) ?_
      refine z_iload dX4_readSubframe_88 (by exact rfl) ?_
      refine z_cV dX4_readSubframe_90 zk_X4_98 (by exact rfl) (by exact rfl) (by exact rfl) (Nat.le_of_ble_eq_true rfl) (Nat.le_of_ble_eq_true rfl) (Nat.le_refl _) ?_
      refine c_numA (w := bits - w) (sp := sBody T (8 * sz) n 0 (bits - w) p1) (by omega) hR1 (by rw [hs]) (fun D2 e hb hf => zx_out rfl (h0 D2 _ _ (fin0 e) hb (hF.tr (wk hf)))) (fun D2 v hv hK2 hR2 hit2 hf2 => ?_)
      have hv62 : v < 2 ^ 62 := Nat.lt_of_lt_of_le hv (Nat.pow_le_pow_right (by omega) (by omega))
      refine z_iload dX4_readSubframe_93 (by exact rfl) ?_
      refine z_cS dX4_readSubframe_95 zk_X4_205 (by exact rfl) (Nat.le_of_ble_eq_true rfl) (Nat.le_of_ble_eq_true rfl) (Nat.le_refl _) ?_
      refine c_signed (by omega) hv62 ?_
      refine z_cS dX4_readSubframe_98 zk_X4_209 (by exact rfl) (Nat.le_of_ble_eq_true rfl) (Nat.le_of_ble_eq_true rfl) (Nat.le_refl _) ?_
      refine c_fillI (n := 256) (a := 0) (b := n) hr (Nat.zero_le _) hn.2 (by omega) ?_
      refine z_goto (tgt := 146) dX4_readSubframe_101 (by decide) ?_
      exact z_at [(0, .ref 37), (1, .ref r), (2, .int (nI n)), (6, .int (nI w))] ⟨rfl, rfl, rfl, rfl, trivial⟩ (shf0 w hw (fun _ => sgI (bits - w) v) p1 _ _ 0 hK2.symm (fin1 hK2.symm) (fun j hj => by
        rw [zuR_s]
        refine ⟨if_pos ⟨Nat.zero_le _, hj⟩, inB_le (B := 24) (sgI_in hv (by omega)) (by omega)⟩) (hR2.uR hr1 hr2) ((hF.tr (wk hf2)).uR _ (fun k => fSub_r)))
    · by_cases ht1 : t = 1
      · subst ht1
        have hs : sBody T (8 * sz) n 1 (bits - w) = sNums T (8 * sz) (bits - w) 0 n (fun _ => 0) := rfl
        refine z_iload_n dX4_readSubframe_73 (by exact rfl) ?_
        refine z_iload dX4_readSubframe_74 (by exact rfl) ?_
        refine z_isub dX4_readSubframe_76 ?_
        refine z_eI (nI (bits - w)) (pk_sub (by omega)) ?_
        refine z_istore dX4_readSubframe_77 (Nat.le_of_ble_eq_true rfl) ?_
        refine z_iload dX4_readSubframe_79 (by exact rfl) ?_
        refine z_if_ne (tgt := 104) dX4_readSubframe_81 (by decide) (fun _ => ?_) (fun q9 => absurd q9 ((by decide)))
        refine z_iload dX4_readSubframe_104 (by exact rfl) ?_
        refine z_iconst dX4_readSubframe_106 ?_
        refine z_icmp_ne (tgt := 121) dX4_readSubframe_107 (by decide) (fun q9 => absurd (rfl) q9) (fun _ => ?_)
        refine z_aload_n dX4_readSubframe_110 (by exact rfl) ?_
        refine z_aload_n dX4_readSubframe_111 (by exact rfl) ?_
        refine z_iload_n dX4_readSubframe_112 (by exact rfl) ?_
        refine z_iload dX4_readSubframe_113 (by exact rfl) ?_
        refine z_cV dX4_readSubframe_115 zk_X4_215 (by exact rfl) (by exact rfl) (by exact rfl) (Nat.le_of_ble_eq_true rfl) (Nat.le_of_ble_eq_true rfl) (Nat.le_refl _) ?_
        refine c_readNumbers (sp := sBody T (8 * sz) n 1 (bits - w) p1) hr hr1 hr2 hn.2 (by omega) hR1 (by rw [hs]) (fun D2 k pl e hb hf => zx_out rfl (h0 D2 _ _ (fin0 e) hb (hF.tr (wkr hf)))) (fun D2 a q e ha hR2 hf2 => ?_)
        refine z_goto (tgt := 146) dX4_readSubframe_118 (by decide) ?_
        exact z_at [(0, .ref 37), (1, .ref r), (2, .int (nI n)), (6, .int (nI w))] ⟨rfl, rfl, rfl, rfl, trivial⟩ (shf0 w hw a p1 q D2 1 e (fin1 e) ha hR2 (hF.tr (wkr hf2)))
      · have hs : sBody T (8 * sz) n t (bits - w) = rbind (sNums T (8 * sz) (bits - w) 0 (ordN t) (fun _ => 0)) fun a => rbind (sPred T (8 * sz) t) fun pr => sRes T (8 * sz) n (bits - w) (ordN t) pr a := by
          unfold sBody
          rw [if_neg ht0, if_neg ht1]
        have hto : (8 ≤ t ∧ t ≤ 12 ∧ ordN t = t - 8) ∨ (32 ≤ t ∧ t ≤ 63 ∧ ordN t = t - 31) := by
          unfold okT at hok
          unfold ordN
          rw [if_neg (by omega)]
          rcases hok with h | h | h
          · omega
          · left
            rw [if_pos (by omega)]
            omega
          · right
            rw [if_neg (by omega)]
            omega
        refine z_iload_n dX4_readSubframe_73 (by exact rfl) ?_
        refine z_iload dX4_readSubframe_74 (by exact rfl) ?_
        refine z_isub dX4_readSubframe_76 ?_
        refine z_eI (nI (bits - w)) (pk_sub (by omega)) ?_
        refine z_istore dX4_readSubframe_77 (Nat.le_of_ble_eq_true rfl) ?_
        refine z_iload dX4_readSubframe_79 (by exact rfl) ?_
        refine z_if_ne (tgt := 104) dX4_readSubframe_81 (by decide) (fun _ => ?_) (fun q9 => absurd q9 ((nI_ne0 (by omega) (by omega))))
        refine z_iload dX4_readSubframe_104 (by exact rfl) ?_
        refine z_iconst dX4_readSubframe_106 ?_
        refine z_icmp_ne (tgt := 121) dX4_readSubframe_107 (by decide) (fun _ => ?_) (fun q9 => absurd q9 ((fun q => ht1 ((nI_eq (a := t) (b := 1) (by omega) (by omega)).mp q))))
        refine z_aload_n dX4_readSubframe_121 (by exact rfl) ?_
        refine z_aload_n dX4_readSubframe_122 (by exact rfl) ?_
        refine z_iload dX4_readSubframe_123 (by exact rfl) ?_
        refine z_iload dX4_readSubframe_125 (by exact rfl) ?_
        refine z_cV dX4_readSubframe_127 zk_X4_215 (by exact rfl) (by exact rfl) (by exact rfl) (Nat.le_of_ble_eq_true rfl) (Nat.le_of_ble_eq_true rfl) (Nat.le_refl _) ?_
        refine c_readNumbers (sp := sNums T (8 * sz) (bits - w) 0 (ordN t) (fun _ => 0) p1) hr hr1 hr2 (by omega) (by omega) hR1 rfl (fun D2 k pl e hb hf => zx_out rfl (h0 D2 _ _ (fin0 (by rw [hs, rbind_l e])) hb (hF.tr (wkr hf)))) (fun D2 a q e ha hR2 hf2 => ?_)
        refine z_aload_n dX4_readSubframe_130 (by exact rfl) ?_
        refine z_iload dX4_readSubframe_131 (by exact rfl) ?_
        refine z_iload dX4_readSubframe_133 (by exact rfl) ?_
        refine z_cV dX4_readSubframe_135 zk_X4_218 (by exact rfl) (by exact rfl) (by exact rfl) (Nat.le_of_ble_eq_true rfl) (Nat.le_of_ble_eq_true rfl) (Nat.le_refl _) ?_
        refine c_readPredictor (sp := sPred T (8 * sz) t q) hto hR2 rfl (fun D3 k pl e3 hb hf => zx_out rfl (h0 D3 _ _ (fin0 (by rw [hs, rbind_r e, rbind_l e3])) hb ((hF.tr (wkr hf2)).tr (wkp hf)))) (fun D3 pr q3 e3 hpr hp3 hR3 hf3 => ?_)
        have ha3 : row8 D3 r a (ordN t) := ha.fr hf3 (fun k => by
          unfold fPr
          rw [fAt_row hr1]
          simp [hr3, hr4])
        refine z_aload_n dX4_readSubframe_138 (by exact rfl) ?_
        refine z_aload_n dX4_readSubframe_139 (by exact rfl) ?_
        refine z_iload_n dX4_readSubframe_140 (by exact rfl) ?_
        refine z_iload dX4_readSubframe_141 (by exact rfl) ?_
        refine z_cV dX4_readSubframe_143 zk_X4_221 (by exact rfl) (by exact rfl) (by exact rfl) (Nat.le_of_ble_eq_true rfl) (Nat.le_of_ble_eq_true rfl) (Nat.le_refl _) ?_
        refine c_readResiduals (sp := sRes T (8 * sz) n (bits - w) (ordN t) pr a q3) hr hr1 hr2 hr3 hr4 hp3 hpr (by omega) hn (by omega) ha3 hR3 rfl (fun D4 k pl e4 hb hf => zx_out rfl (h0 D4 _ _ (fin0 (by rw [hs, rbind_r e, rbind_r e3]; exact e4)) hb (((hF.tr (wkr hf2)).tr (wkp hf3)).tr (wkr hf)))) (fun D4 a4 q4 e4 ha4 hR4 hf4 => ?_)
        have e5 : sBody T (8 * sz) n t (bits - w) p1 = .inr (a4, q4) := by rw [hs, rbind_r e, rbind_r e3]; exact e4
        exact z_at [(0, .ref 37), (1, .ref r), (2, .int (nI n)), (6, .int (nI w))] ⟨rfl, rfl, rfl, rfl, trivial⟩ (shf0 w hw a4 p1 q4 D4 t e5 (fin1 e5) ha4 hR4 (((hF.tr (wkr hf2)).tr (wkp hf3)).tr (wkr hf4)))
  have mid : ∀ (t : Nat) (D1 : zD) (p1 : Nat), t < 64 → okT t → ordN t ≤ n → rd8 D1 T sz p1 → zfr (fSub r) D D1 → (rbind (sWaste T (8 * sz) bits) fun w => rbind (sBody T (8 * sz) n t (bits - w)) fun a => rpure (fun i => a i * 2 ^ w)) p1 = sp → Z (zmk iX4_readSubframe (d + 4)) 0 36 (zl [(0, .ref 37), (1, .ref r), (2, .int (nI n)), (3, .int (nI bits)), (4, .int (nI t)), (5, .int (nI (ordN t)))]) [] D1 Q := by
    intro t D1 p1 ht hok hon hR1 hF hK1
    unfold sWaste at hK1
    rw [rassoc] at hK1
    refine z_iconst dX4_readSubframe_36 ?_
    refine z_istore dX4_readSubframe_37 (Nat.le_of_ble_eq_true rfl) ?_
    refine z_aload_n dX4_readSubframe_39 (by exact rfl) ?_
    refine z_iconst dX4_readSubframe_40 ?_
    refine z_cV dX4_readSubframe_41 zk_X4_98 (by exact rfl) (by exact rfl) (by exact rfl) (Nat.le_of_ble_eq_true rfl) (Nat.le_of_ble_eq_true rfl) (Nat.le_refl _) ?_
    refine c_numA (w := 1) (by omega) hR1 hK1 (fun D2 e hb hf => zx_out rfl (h0 D2 _ _ e hb (hF.tr (wk hf)))) (fun D2 v hv hK2 hR2 hit2 hf2 => ?_)
    refine z_lconst dX4_readSubframe_44 ?_
    refine z_ne (tgt := 73) dX4_readSubframe_45 dX4_readSubframe_46 (by decide) (fun c45 => ?_) (fun c45 => ?_)
    · exact z_at [(0, .ref 37), (1, .ref r), (2, .int (nI n)), (3, .int (nI bits)), (4, .int (nI t)), (5, .int (nI (ordN t))), (6, .int (nI 0))] ⟨rfl, rfl, rfl, rfl, rfl, rfl, rfl, trivial⟩ (body t 0 D2 _ ht hok hon (by omega) hR2 (hF.tr (wk hf2)) (by
        rw [if_neg (fun q => c45 ((pk_lEQ (a := v) (b := 1) (by omega) (by omega)).mpr q))] at hK2
        exact hK2))
    · have hv1 : v = 1 := (pk_lEQ (a := v) (b := 1) (by omega) (by omega)).mp c45
      rw [if_pos hv1] at hK2
      have hK3 : rbind (sRun T (8 * sz)) (fun z => rbind (fun q => if z + 1 < bits then .inr (z + 1, q) else .inl (2, p1 + 1)) fun w => rbind (sBody T (8 * sz) n t (bits - w)) fun a => rpure (fun i => a i * 2 ^ w)) (p1 + 1) = sp := by
        rw [← hK2, ← rassoc]
        rfl
      refine z_aload_n dX4_readSubframe_49 (by exact rfl) ?_
      refine z_cV dX4_readSubframe_50 zk_X4_202 (by exact rfl) (by exact rfl) (by exact rfl) (Nat.le_of_ble_eq_true rfl) (Nat.le_of_ble_eq_true rfl) (Nat.le_refl _) ?_
      refine c_runK hR2 hK3 (fun D3 e hb hf => zx_out rfl (h0 D3 _ _ e hb ((hF.tr (wk hf2)).tr (wk hf)))) (fun D3 z hz hK4 hR3 hit3 hf3 => ?_)
      have hz20 : z < 2 ^ 20 := by
        have := hR3.2.1
        omega
      refine z_iconst dX4_readSubframe_53 ?_
      refine z_iadd dX4_readSubframe_54 ?_
      refine z_eI (nI (z + 1)) (nI_1 z) ?_
      refine z_istore dX4_readSubframe_55 (Nat.le_of_ble_eq_true rfl) ?_
      refine z_aload_n dX4_readSubframe_57 (by exact rfl) ?_
      refine z_iload dX4_readSubframe_58 (by exact rfl) ?_
      refine z_iload_n dX4_readSubframe_60 (by exact rfl) ?_
      refine z_icmp_ge (tgt := 68) dX4_readSubframe_61 (by decide) (fun c61 => ?_) (fun c61 => ?_)
      · refine z_iconst dX4_readSubframe_68 ?_
        refine z_iconst dX4_readSubframe_69 ?_
        refine z_cV dX4_readSubframe_70 zk_X4_119 (by exact rfl) (by exact rfl) (by exact rfl) (Nat.le_of_ble_eq_true rfl) (Nat.le_of_ble_eq_true rfl) (Nat.le_refl _) ?_
        exact c_fu (kind := 2) hit3 (fun q => absurd rfl q) (fun D4 _ hb hf => zx_out rfl (h0 D4 2 _ (by
          rw [← hK4]
          exact rbind_l (if_neg (fun q => nI_ge q (by omega) c61))) hb (((hF.tr (wk hf2)).tr (wk hf3)).tr (wk hf))))
      · refine z_iconst dX4_readSubframe_64 ?_
        refine z_goto (tgt := 69) dX4_readSubframe_65 (by decide) ?_
        refine z_iconst dX4_readSubframe_69 ?_
        refine z_cV dX4_readSubframe_70 zk_X4_119 (by exact rfl) (by exact rfl) (by exact rfl) (Nat.le_of_ble_eq_true rfl) (Nat.le_of_ble_eq_true rfl) (Nat.le_refl _) ?_
        refine c_fu (kind := 2) hit3 (fun _ => ?_) (fun D4 q => absurd q (by decide))
        have hzb : z + 1 < bits := by
          rcases Nat.lt_or_ge (z + 1) bits with h | h
          · exact h
          · exact absurd (nI_le h (by omega)) c61
        exact z_at [(0, .ref 37), (1, .ref r), (2, .int (nI n)), (3, .int (nI bits)), (4, .int (nI t)), (5, .int (nI (ordN t))), (6, .int (nI (z + 1)))] ⟨rfl, rfl, rfl, rfl, rfl, rfl, rfl, trivial⟩ (body t (z + 1) D3 _ ht hok hon hzb hR3 ((hF.tr (wk hf2)).tr (wk hf3)) ((rbind_r (f := fun w => rbind (sBody T (8 * sz) n t (bits - w)) fun a => rpure (fun i => a i * 2 ^ w)) (show (fun q => if z + 1 < bits then (.inr (z + 1, q) : RT Nat) else .inl (2, p1 + 1)) (p1 + 1 + z + 1) = .inr (z + 1, p1 + 1 + z + 1) from if_pos hzb)).symm.trans hK4))
  refine z_at [(0, .ref 37), (1, .ref r), (2, .int (nI n)), (3, .int (nI bits))] ⟨rfl, rfl, rfl, rfl, trivial⟩ ?_
  unfold sSub at hK
  refine z_aload_n dX4_readSubframe_0 (by exact rfl) ?_
  refine z_iconst dX4_readSubframe_1 ?_
  refine z_lconst dX4_readSubframe_2 ?_
  refine z_cV dX4_readSubframe_3 zk_X4_104 (by exact rfl) (by exact rfl) (by exact rfl) (Nat.le_of_ble_eq_true rfl) (Nat.le_of_ble_eq_true rfl) (Nat.le_refl _) ?_
  refine c_expK (w := 1) (due := 0) (by omega) rfl (by omega) hR hK (fun D1 k e hb hf => zx_out rfl (h0 D1 _ _ e hb (wk hf))) (fun D1 v hK1 hR1 hit1 hf1 => ?_)
  refine z_aload_n dX4_readSubframe_6 (by exact rfl) ?_
  refine z_bipush dX4_readSubframe_7 ?_
  refine z_cV dX4_readSubframe_9 zk_X4_98 (by exact rfl) (by exact rfl) (by exact rfl) (Nat.le_of_ble_eq_true rfl) (Nat.le_of_ble_eq_true rfl) (Nat.le_refl _) ?_
  refine c_numK (w := 6) (by omega) hR1 hK1 (fun D2 e hb hf => zx_out rfl (h0 D2 _ _ e hb (wk (hf1.tr hf)))) (fun D2 t ht hk hkn hR2 hit2 hf2 => ?_)
  refine z_l2i dX4_readSubframe_12 ?_
  refine z_eI (nI t) (lN_i t) ?_
  refine z_istore dX4_readSubframe_13 (Nat.le_of_ble_eq_true rfl) ?_
  refine z_iload dX4_readSubframe_15 (by exact rfl) ?_
  refine z_cS dX4_readSubframe_17 zk_X4_198 (by exact rfl) (Nat.le_of_ble_eq_true rfl) (Nat.le_of_ble_eq_true rfl) (Nat.le_refl _) ?_
  refine c_orderOf ht (fun a17 => ?_) (fun n17 => ?_)
  · have hty : kType n t = 0 ↔ ordN t ≤ n := by
      have hok := a17
      unfold okT at hok
      unfold kType ordN
      split
      next h =>
        refine ⟨fun _ => ?_, fun _ => rfl⟩
        split
        · omega
        · split <;> omega
      next h =>
        refine ⟨fun q => absurd q (by decide), fun q => absurd q (fun q => h ?_)⟩
        split at q
        · omega
        · split at q <;> omega
    have ho64 : ordN t < 64 := by
      unfold ordN
      split
      · omega
      · split <;> omega
    refine z_istore dX4_readSubframe_20 (Nat.le_of_ble_eq_true rfl) ?_
    refine z_aload_n dX4_readSubframe_22 (by exact rfl) ?_
    refine z_iload dX4_readSubframe_23 (by exact rfl) ?_
    refine z_i2l dX4_readSubframe_25 ?_
    refine z_eJ (lN (ordN t)) (nI_l (by omega)) ?_
    refine z_lconst dX4_readSubframe_26 ?_
    refine z_iload_n dX4_readSubframe_27 (by exact rfl) ?_
    refine z_i2l dX4_readSubframe_28 ?_
    refine z_eJ (lN n) (nI_l (by omega)) ?_
    refine z_cN dX4_readSubframe_29 zk_X4_115 rfl (by exact rfl) (Nat.le_of_ble_eq_true rfl) (Nat.le_of_ble_eq_true rfl) (Nat.le_refl _) ?_
    refine c_within (fun a29 b29 => ?_) (fun n29 => ?_)
    · refine z_iconst dX4_readSubframe_32 ?_
      refine z_cV dX4_readSubframe_33 zk_X4_119 (by exact rfl) (by exact rfl) (by exact rfl) (Nat.le_of_ble_eq_true rfl) (Nat.le_of_ble_eq_true rfl) (Nat.le_refl _) ?_
      refine c_fu (kind := 2) hit2 (fun _ => ?_) (fun D4 q => absurd q (by decide))
      have hon : ordN t ≤ n := (le64 _ _ (by omega) (by omega)).mp b29
      exact z_at [(0, .ref 37), (1, .ref r), (2, .int (nI n)), (3, .int (nI bits)), (4, .int (nI t)), (5, .int (nI (ordN t)))] ⟨rfl, rfl, rfl, rfl, rfl, rfl, trivial⟩ (mid t D2 _ ht a17 hon hR2 (wk (hf1.tr hf2)) (hk (hty.mpr hon)))
    · refine z_iconst dX4_readSubframe_32 ?_
      refine z_cV dX4_readSubframe_33 zk_X4_119 (by exact rfl) (by exact rfl) (by exact rfl) (Nat.le_of_ble_eq_true rfl) (Nat.le_of_ble_eq_true rfl) (Nat.le_refl _) ?_
      exact c_fu (kind := 2) hit2 (fun q => absurd rfl q) (fun D3 _ hb hf => zx_out rfl (h0 D3 2 _ (by
        have hne : ¬ kType n t = 0 := fun q => n29 ⟨(le64 0 _ (by omega) (by omega)).mpr (Nat.zero_le _), (le64 _ _ (by omega) (by omega)).mpr (hty.mp q)⟩
        rw [hkn hne]
        unfold kType at hne ⊢
        split at hne
        · exact absurd rfl hne
        next h => rw [if_neg h]) hb (wk ((hf1.tr hf2).tr hf))))
  · have hty : kType n t = 2 := by
      have hok := n17
      unfold okT at hok
      unfold kType
      rw [if_neg (by omega)]
    refine z_istore dX4_readSubframe_20 (Nat.le_of_ble_eq_true rfl) ?_
    refine z_aload_n dX4_readSubframe_22 (by exact rfl) ?_
    refine z_iload dX4_readSubframe_23 (by exact rfl) ?_
    refine z_i2l dX4_readSubframe_25 ?_
    refine z_eJ (lI (-1)) (iI_l (by omega) (by omega)) ?_
    refine z_lconst dX4_readSubframe_26 ?_
    refine z_iload_n dX4_readSubframe_27 (by exact rfl) ?_
    refine z_i2l dX4_readSubframe_28 ?_
    refine z_eJ (lN n) (nI_l (by omega)) ?_
    refine z_cN dX4_readSubframe_29 zk_X4_115 rfl (by exact rfl) (Nat.le_of_ble_eq_true rfl) (Nat.le_of_ble_eq_true rfl) (Nat.le_refl _) ?_
    refine c_within (fun a29 b29 => ?_) (fun n29 => ?_)
    · refine z_iconst dX4_readSubframe_32 ?_
      refine z_cV dX4_readSubframe_33 zk_X4_119 (by exact rfl) (by exact rfl) (by exact rfl) (Nat.le_of_ble_eq_true rfl) (Nat.le_of_ble_eq_true rfl) (Nat.le_refl _) ?_
      exact absurd a29 (by decide)
    · refine z_iconst dX4_readSubframe_32 ?_
      refine z_cV dX4_readSubframe_33 zk_X4_119 (by exact rfl) (by exact rfl) (by exact rfl) (Nat.le_of_ble_eq_true rfl) (Nat.le_of_ble_eq_true rfl) (Nat.le_refl _) ?_
      exact c_fu (kind := 2) hit2 (fun q => absurd rfl q) (fun D3 _ hb hf => zx_out rfl (h0 D3 2 _ (by rw [hkn (by rw [hty]; decide), hty]) hb (wk ((hf1.tr hf2).tr hf))))
