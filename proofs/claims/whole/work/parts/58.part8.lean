/-! ===== Reader.readNumbers, readPredictor ===== -/
theorem rassoc {α β γ : Type} (m : RS α) (f : α → RS β) (g : β → RS γ) : rbind (rbind m f) g = rbind m (fun a => rbind (f a) g) := by
  funext p
  unfold rbind
  cases m p <;> rfl
theorem rpure_b {α β : Type} (a : α) (g : α → RS β) : rbind (rpure a) g = g a := rfl
theorem sNums_s (T : Nat → Bool) (e d i m : Nat) (a : zRow) : sNums T e d i (m + 1) a = rbind (rit T e d kAny) (fun v => sNums T e d (i + 1) m (uN a i (sgI d v))) := by
  show rbind (rbind (rit T e d kAny) fun v => rpure (uN a i (sgI d v))) (sNums T e d (i + 1) m) = _
  rw [rassoc]
  rfl
theorem sgI_in {w v : Nat} (hv : v < 2 ^ w) (hw : 1 ≤ w) : inB w (sgI w v) := by
  obtain ⟨u, rfl⟩ : ∃ u, w = u + 1 := ⟨w - 1, by omega⟩
  have hp : (2 : Int) ^ (u + 1) = 2 * 2 ^ u := by rw [Int.pow_succ]; omega
  have hpn : 2 ^ (u + 1) = 2 * 2 ^ u := by rw [Nat.pow_succ]; omega
  have hc : ((2 ^ u : Nat) : Int) = 2 ^ u := by rw [Int.natCast_pow]; rfl
  unfold inB sgI
  rw [Nat.add_sub_cancel]
  split
  next h =>
    have h2 : v / 2 ^ u % 2 = 1 := by
      have := h.2
      rw [Nat.testBit_eq_decide_div_mod_eq] at this
      exact of_decide_eq_true this
    have h3 : 2 ^ u ≤ v := by
      rcases Nat.lt_or_ge v (2 ^ u) with q | q
      · rw [Nat.div_eq_of_lt q] at h2
        omega
      · exact q
    rw [hp, ← hc]
    omega
  next h =>
    have h2 : v < 2 ^ u := by
      rcases Nat.lt_or_ge v (2 ^ u) with q | q
      · exact q
      · have h4 : v / 2 ^ u = 1 := Nat.div_eq_of_lt_le (by omega) (by omega)
        refine absurd ⟨by omega, ?_⟩ h
        rw [Nat.testBit_eq_decide_div_mod_eq, h4]
        rfl
    rw [← hc]
    omega
theorem inB_le {b B : Nat} {x : Int} (h : inB b x) (hb : b ≤ B + 1) : bd ((2 ^ B : Nat) : Int) x := by
  have h2 : 2 ^ (b - 1) ≤ 2 ^ B := Nat.pow_le_pow_right (by omega) (by omega)
  have hc : ((2 ^ (b - 1) : Nat) : Int) = 2 ^ (b - 1) := by rw [Int.natCast_pow]; rfl
  unfold inB at h
  rw [← hc] at h
  unfold bd
  omega
theorem rd8.uI {D : zD} {T : Nat → Bool} {sz p a k : Nat} {v : Int32} (h : rd8 D T sz p) (h1 : ¬ a = 37) (h2 : ¬ a = 38) : rd8 (zuI D a k v) T sz p := by
  refine h.wr (zuI_ne (by omega)) (zuI_ne (by omega)) ?_ (zuI_ne (by omega)) (zuI_ne (by omega))
  unfold zuI
  simp only
  rw [if_neg (by omega)]
theorem c_runK {β : Type} {d p sz : Nat} {D : zD} {T : Nat → Bool} {Q : zQ} {K : Nat → RS β} {sp : RT β} (hR : rd8 D T sz p) (hK : rbind (sRun T (8 * sz)) K p = sp) (h0 : ∀ D', sp = .inl (1, p) → bad8 D' 1 p → zfr fAt D D' → Q (.inr zISE) 1 D')
    (h1 : ∀ D' z, p + z < 8 * sz → K z (p + z + 1) = sp → rd8 D' T sz (p + z + 1) → D'.1 37 8 = nI p → zfr fAt D D' → Q (.inl (some (.int (nI z)))) 0 D') :
    ZM yX4_zerosAndOne iX4_zerosAndOne (d + 1) [.ref 37] D Q :=
  c_zerosAndOne hR (fun z hz hz0 hz1 => h1 _ z hz ((rbind_r (sRun_r hz hz0 hz1)).symm.trans hK) (hR.mv (by omega) _) rfl ((zfr.rf.uI _ rfl).uI _ rfl)) (fun h => h0 _ (hK.symm.trans (rbind_l (sRun_l h))) ⟨rfl, rfl⟩ ((((zfr.rf.uI _ rfl).uI _ rfl).uI _ rfl).uI _ rfl))
def fRow (r a k : Nat) : Bool := fAt a k || a == r
theorem fRow_at (r a k : Nat) (h : fRow r a k = false) : fAt a k = false := or_l h
theorem fRow_r {r k : Nat} : fRow r r k = true := by
  unfold fRow
  simp
theorem row8.up {D : zD} {r i : Nat} {a : zRow} {x : Int} (h : row8 D r a i) (hx : smI x) : row8 (zuI D r i (iI x)) r (uN a i x) (i + 1) := by
  intro j hj
  obtain q | q : j = i ∨ j < i := by omega
  · subst q
    rw [uN_s, zuI_at]
    exact ⟨rfl, hx⟩
  · rw [uN_n (by omega), zuI_ne (by omega)]
    exact h j q
theorem row8.fr {D D' : zD} {F : Nat → Nat → Bool} {r n : Nat} {a : zRow} (h : row8 D r a n) (hF : zfr F D D') (hr : ∀ k, F r k = false) : row8 D' r a n := fun i hi => by
  rw [hF.1 r i (hr i)]
  exact h i hi
theorem fAt_row {r : Nat} (h : ¬ r = 37) (k : Nat) : fAt r k = false := by
  unfold fAt
  rw [show (r == 37) = false from by simpa using h]
  rfl
theorem c_readNumbers {d p sz r many b : Nat} {D : zD} {T : Nat → Bool} {Q : zQ} {sp : RT zRow} {a0 : zRow} (hr : zac r = some (0, 256)) (hr1 : ¬ r = 37) (hr2 : ¬ r = 38) (hm : many ≤ 256) (hb : 1 ≤ b ∧ b ≤ 25) (hR : rd8 D T sz p) (hK : sNums T (8 * sz) b 0 many a0 p = sp)
    (h0 : ∀ D' k pl, sp = .inl (k, pl) → bad8 D' k pl → zfr (fRow r) D D' → Q (.inr zISE) 1 D') (h1 : ∀ D' a q, sp = .inr (a, q) → row8 D' r a many → rd8 D' T sz q → zfr (fRow r) D D' → Q (.inl none) 0 D') :
    ZM yX4_readNumbers iX4_readNumbers (d + 2) [.ref 37, .ref r, .int (nI many), .int (nI b)] D Q := by
  refine z_method (by decide) rfl (Nat.le_of_ble_eq_true rfl) ?_
  have wk : ∀ {X Y : zD}, zfr fAt X Y → zfr (fRow r) X Y := fun h => h.wk (fRow_at r)
  have lp : ∀ (m i : Nat) (D1 : zD) (p1 : Nat) (a : zRow), i + m = many → row8 D1 r a i → rd8 D1 T sz p1 → zfr (fRow r) D D1 → sNums T (8 * sz) b i m a p1 = sp → Z (zmk iX4_readNumbers (d + 2)) 0 3 (zl [(0, .ref 37), (1, .ref r), (2, .int (nI many)), (3, .int (nI b)), (4, .int (nI i))]) [] D1 Q := by
    intro m
    induction m with
    | zero =>
      intro i D1 p1 a hi ha hR1 hF hK1
      have hi : i = many := by omega
      subst hi
      refine z_iload dX4_readNumbers_3 (by exact rfl) ?_
      refine z_iload_n dX4_readNumbers_5 (by exact rfl) ?_
      refine z_icmp_ge (tgt := 28) dX4_readNumbers_6 (by decide) (fun _ => ?_) (fun q9 => absurd ((nI_le (Nat.le_refl _) (by omega))) q9)
      exact z_vret (st := []) rfl dX4_readNumbers_28 (h1 D1 a p1 hK1.symm ha hR1 hF)
    | succ m ih =>
      intro i D1 p1 a hi ha hR1 hF hK1
      rw [sNums_s] at hK1
      refine z_iload dX4_readNumbers_3 (by exact rfl) ?_
      refine z_iload_n dX4_readNumbers_5 (by exact rfl) ?_
      refine z_icmp_ge (tgt := 28) dX4_readNumbers_6 (by decide) (fun q9 => absurd q9 ((nI_ge (a := i) (b := many) (by omega) (by omega)))) (fun _ => ?_)
      refine z_aload_n dX4_readNumbers_9 (by exact rfl) ?_
      refine z_iload dX4_readNumbers_10 (by exact rfl) ?_
      refine z_aload_n dX4_readNumbers_12 (by exact rfl) ?_
      refine z_iload_n dX4_readNumbers_13 (by exact rfl) ?_
      refine z_cV dX4_readNumbers_14 zk_X4_98 (by exact rfl) (by exact rfl) (by exact rfl) (Nat.le_of_ble_eq_true rfl) (Nat.le_of_ble_eq_true rfl) (Nat.le_refl _) ?_
      refine c_numA (w := b) (by omega) hR1 hK1 (fun D2 e hb hf => zx_out rfl (h0 D2 _ _ e hb (hF.tr (wk hf)))) (fun D2 v hv hK2 hR2 hit2 hf2 => ?_)
      have hv62 : v < 2 ^ 62 := Nat.lt_of_lt_of_le hv (Nat.pow_le_pow_right (by omega) (by omega))
      refine z_iload_n dX4_readNumbers_17 (by exact rfl) ?_
      refine z_cS dX4_readNumbers_18 zk_X4_205 (by exact rfl) (Nat.le_of_ble_eq_true rfl) (Nat.le_of_ble_eq_true rfl) (Nat.le_refl _) ?_
      refine c_signed (by omega) hv62 ?_
      refine z_sI hr dX4_readNumbers_21 (vp_in_nI (by omega) (by omega)) ?_
      rw [nI_clamp (n := i) (by omega)]
      refine z_iinc dX4_readNumbers_22 (by exact rfl) ?_
      refine z_at [(0, .ref 37), (1, .ref r), (2, .int (nI many)), (3, .int (nI b)), (4, .int (nI (i + 1)))] ⟨rfl, rfl, rfl, rfl, congrArg (fun x => some (Value.int x)) (nI_1 i), trivial⟩ ?_
      refine z_goto (tgt := 3) dX4_readNumbers_25 (by decide) ?_
      exact ih (i + 1) _ _ _ (by omega) ((ha.fr hf2 (fAt_row hr1)).up (inB_le (B := 24) (sgI_in hv hb.1) (by omega))) (hR2.uI hr1 hr2) ((hF.tr (wk hf2)).uI _ fRow_r) hK2
  refine z_at [(0, .ref 37), (1, .ref r), (2, .int (nI many)), (3, .int (nI b))] ⟨rfl, rfl, rfl, rfl, trivial⟩ ?_
  refine z_iconst dX4_readNumbers_0 ?_
  refine z_istore dX4_readNumbers_1 (Nat.le_of_ble_eq_true rfl) ?_
  exact z_at [(0, .ref 37), (1, .ref r), (2, .int (nI many)), (3, .int (nI b)), (4, .int (nI 0))] ⟨rfl, rfl, rfl, rfl, rfl, trivial⟩ (lp many 0 D p a0 (by omega) (fun i hi => by omega) hR zfr.rf hK)
def fPr (a k : Nat) : Bool := fAt a k || (a == 50 || a == 51)
theorem fPr_at (a k : Nat) (h : fPr a k = false) : fAt a k = false := or_l h
theorem fPr_of (a k : Nat) (h : fPr a k = false) : fOf 50 51 a k = false := or_r h
theorem c_readPredictor {d p sz t o : Nat} {D : zD} {T : Nat → Bool} {Q : zQ} {sp : RT zPr} (ht : (8 ≤ t ∧ t ≤ 12 ∧ o = t - 8) ∨ (32 ≤ t ∧ t ≤ 63 ∧ o = t - 31)) (hR : rd8 D T sz p) (hK : sPred T (8 * sz) t p = sp)
    (h0 : ∀ D' k pl, sp = .inl (k, pl) → bad8 D' k pl → zfr fPr D D' → Q (.inr zISE) 1 D') (h1 : ∀ D' pr q, sp = .inr (pr, q) → pr.1 ≤ 15 → pred8 D' 50 51 o pr.1 pr.2 → rd8 D' T sz q → zfr fPr D D' → Q (.inl none) 0 D') :
    ZM yX4_readPredictor iX4_readPredictor (d + 2) [.ref 37, .int (nI t), .int (nI o)] D Q := by
  refine z_method (by decide) rfl (Nat.le_of_ble_eq_true rfl) ?_
  refine z_at [(0, .ref 37), (1, .int (nI t)), (2, .int (nI o))] ⟨rfl, rfl, rfl, trivial⟩ ?_
  have wk : ∀ {X Y : zD}, zfr fAt X Y → zfr fPr X Y := fun h => h.wk fPr_at
  unfold sPred at hK
  rcases ht with ⟨ht1, ht2, ho⟩ | ⟨ht1, ht2, ho⟩
  · rw [if_pos (by omega)] at hK
    refine z_iload_n dX4_readPredictor_0 (by exact rfl) ?_
    refine z_bipush dX4_readPredictor_1 ?_
    refine z_icmp_gt (tgt := 15) dX4_readPredictor_3 (by decide) (fun q9 => absurd q9 ((fun q => absurd ((nI_ltI (a := 31) (b := t) (by omega) (by omega)).mp q) (by omega)))) (fun _ => ?_)
    refine z_aload_n dX4_readPredictor_6 (by exact rfl) ?_
    refine z_gfA zfx_X4_46 (by exact rfl) dX4_readPredictor_7 ?_
    refine z_iload_n dX4_readPredictor_10 (by exact rfl) ?_
    refine z_cV dX4_readPredictor_11 zk_X4_230 (by exact rfl) (by exact rfl) (by exact rfl) (Nat.le_of_ble_eq_true rfl) (Nat.le_of_ble_eq_true rfl) (Nat.le_refl _) ?_
    refine c_becomeFixed (B := 51) (nb := 32) rfl rfl rfl rfl rfl (by decide) (by omega) (by omega) (by omega) (fun D1 hp hf => ?_)
    exact z_vret (st := []) rfl dX4_readPredictor_14 (h1 D1 _ p hK.symm (Nat.zero_le _) (by rw [← ho]; exact hp) (hR.wr (hf.1 37 1 rfl) (hf.1 37 7 rfl) (by funext k; exact hf.1 38 k rfl) (hf.1 37 2 rfl) (hf.1 37 3 rfl)) (hf.wk fPr_of))
  · rw [if_neg (by omega)] at hK
    have lp : ∀ (pr sh : Nat), pr < 15 → sh ≤ 15 → ∀ (m j : Nat) (D1 : zD) (p1 : Nat) (c : zRow), j + m = o → pred8 D1 50 51 j sh c → rd8 D1 T sz p1 → zfr fPr D D1 → rbind (sNums T (8 * sz) (pr + 1) j m c) (fun c => rpure (sh, c)) p1 = sp → Z (zmk iX4_readPredictor (d + 2)) 0 77 (zl [(0, .ref 37), (2, .int (nI o)), (3, .int (nI (pr + 1))), (5, .int (nI j))]) [] D1 Q := by
      intro pr sh hpr hsh m
      induction m with
      | zero =>
        intro j D1 p1 c hj hp hR1 hF hK1
        have hj : j = o := by omega
        subst hj
        refine z_iload dX4_readPredictor_77 (by exact rfl) ?_
        refine z_iload_n dX4_readPredictor_79 (by exact rfl) ?_
        refine z_icmp_ge (tgt := 105) dX4_readPredictor_80 (by decide) (fun _ => ?_) (fun q9 => absurd ((nI_le (Nat.le_refl _) (by omega))) q9)
        exact z_vret (st := []) rfl dX4_readPredictor_105 (h1 D1 (sh, c) p1 hK1.symm hsh hp hR1 hF)
      | succ m ih =>
        intro j D1 p1 c hj hp hR1 hF hK1
        rw [sNums_s, rassoc] at hK1
        refine z_iload dX4_readPredictor_77 (by exact rfl) ?_
        refine z_iload_n dX4_readPredictor_79 (by exact rfl) ?_
        refine z_icmp_ge (tgt := 105) dX4_readPredictor_80 (by decide) (fun q9 => absurd q9 ((nI_ge (a := j) (b := o) (by omega) (by omega)))) (fun _ => ?_)
        refine z_aload_n dX4_readPredictor_83 (by exact rfl) ?_
        refine z_gfA zfx_X4_46 (by exact rfl) dX4_readPredictor_84 ?_
        refine z_aload_n dX4_readPredictor_87 (by exact rfl) ?_
        refine z_iload_n dX4_readPredictor_88 (by exact rfl) ?_
        refine z_cV dX4_readPredictor_89 zk_X4_98 (by exact rfl) (by exact rfl) (by exact rfl) (Nat.le_of_ble_eq_true rfl) (Nat.le_of_ble_eq_true rfl) (Nat.le_refl _) ?_
        refine c_numA (w := pr + 1) (by omega) hR1 hK1 (fun D2 e hb hf => zx_out rfl (h0 D2 _ _ e hb (hF.tr (wk hf)))) (fun D2 v hv hK2 hR2 hit2 hf2 => ?_)
        have hv62 : v < 2 ^ 62 := Nat.lt_of_lt_of_le hv (Nat.pow_le_pow_right (by omega) (by omega))
        refine z_iload_n dX4_readPredictor_92 (by exact rfl) ?_
        refine z_cS dX4_readPredictor_93 zk_X4_205 (by exact rfl) (Nat.le_of_ble_eq_true rfl) (Nat.le_of_ble_eq_true rfl) (Nat.le_refl _) ?_
        refine c_signed (by omega) hv62 ?_
        refine z_cV dX4_readPredictor_96 zk_X4_236 (by exact rfl) (by exact rfl) (by exact rfl) (Nat.le_of_ble_eq_true rfl) (Nat.le_of_ble_eq_true rfl) (Nat.le_refl _) ?_
        refine c_add (b := 51) (n := 32) (j := j) rfl rfl rfl ((hf2.1 50 1 rfl).trans hp.1) (by omega) (by omega) (by decide) ?_
        refine z_iinc dX4_readPredictor_99 (by exact rfl) ?_
        refine z_at [(0, .ref 37), (2, .int (nI o)), (3, .int (nI (pr + 1))), (5, .int (nI (j + 1)))] ⟨rfl, rfl, rfl, congrArg (fun x => some (Value.int x)) (nI_1 j), trivial⟩ ?_
        refine z_goto (tgt := 77) dX4_readPredictor_102 (by decide) ?_
        exact ih (j + 1) _ _ _ (by omega) ⟨rfl, (hf2.1 50 2 rfl).trans hp.2.1, fun k hk => by
          obtain q | q : k = j ∨ k < j := by omega
          · subst q
            rw [uN_s, zuI_ne (by omega), zuI_at]
            exact ⟨rfl, inB_le (B := 14) (sgI_in hv (by omega)) (by omega)⟩
          · rw [uN_n (by omega), zuI_ne (by omega), zuI_ne (by omega), hf2.1 51 k rfl]
            exact hp.2.2 k q⟩ ((hR2.uI (by decide) (by decide)).uI (by decide) (by decide)) (((hF.tr (wk hf2)).uI _ rfl).uI _ rfl) hK2
    have go2 : ∀ (pr : Nat) (D1 : zD) (p1 : Nat), pr < 15 → rd8 D1 T sz p1 → zfr fPr D D1 → (rbind (rit T (8 * sz) 5 (kIn 0 15)) fun sh => rbind (sNums T (8 * sz) (pr + 1) 0 (t - 31) (fun _ => 0)) fun c => rpure (sh, c)) p1 = sp → Z (zmk iX4_readPredictor (d + 2)) 0 40 (zl [(0, .ref 37), (2, .int (nI o)), (3, .int (nI (pr + 1)))]) [] D1 Q := by
      intro pr D1 p1 hpr hR1 hF hK1
      refine z_aload_n dX4_readPredictor_40 (by exact rfl) ?_
      refine z_iconst dX4_readPredictor_41 ?_
      refine z_cV dX4_readPredictor_42 zk_X4_98 (by exact rfl) (by exact rfl) (by exact rfl) (Nat.le_of_ble_eq_true rfl) (Nat.le_of_ble_eq_true rfl) (Nat.le_refl _) ?_
      refine c_numK (w := 5) (by omega) hR1 hK1 (fun D2 e hb hf => zx_out rfl (h0 D2 _ _ e hb (hF.tr (wk hf)))) (fun D2 v hv hk hkn hR2 hit2 hf2 => ?_)
      refine z_l2i dX4_readPredictor_45 ?_
      refine z_eI (nI v) (lN_i v) ?_
      refine z_istore dX4_readPredictor_46 (Nat.le_of_ble_eq_true rfl) ?_
      refine z_aload_n dX4_readPredictor_48 (by exact rfl) ?_
      refine z_iload dX4_readPredictor_49 (by exact rfl) ?_
      refine z_bipush dX4_readPredictor_51 ?_
      refine z_icmp_gt (tgt := 60) dX4_readPredictor_53 (by decide) (fun c53 => ?_) (fun c53 => ?_)
      · refine z_iconst dX4_readPredictor_60 ?_
        refine z_iconst dX4_readPredictor_61 ?_
        refine z_cV dX4_readPredictor_62 zk_X4_119 (by exact rfl) (by exact rfl) (by exact rfl) (Nat.le_of_ble_eq_true rfl) (Nat.le_of_ble_eq_true rfl) (Nat.le_refl _) ?_
        exact c_fu (kind := 2) hit2 (fun q => absurd rfl q) (fun D3 _ hb hf => zx_out rfl (h0 D3 2 _ (by
          have : 15 < v := (nI_ltI (a := 15) (b := v) (by omega) (by omega)).mp c53
          have hne : kIn 0 15 v = 2 := if_neg (by omega)
          rw [hkn (by rw [hne]; decide), hne]) hb ((hF.tr (wk hf2)).tr (wk hf))))
      · refine z_iconst dX4_readPredictor_56 ?_
        refine z_goto (tgt := 61) dX4_readPredictor_57 (by decide) ?_
        refine z_iconst dX4_readPredictor_61 ?_
        refine z_cV dX4_readPredictor_62 zk_X4_119 (by exact rfl) (by exact rfl) (by exact rfl) (Nat.le_of_ble_eq_true rfl) (Nat.le_of_ble_eq_true rfl) (Nat.le_refl _) ?_
        refine c_fu (kind := 2) hit2 (fun _ => ?_) (fun D4 q => absurd q (by decide))
        have hv15 : v ≤ 15 := by
          rcases Nat.lt_or_ge 15 v with q | q
          · exact absurd (nI_lt (a := 15) (b := v) q (by omega)) c53
          · exact q
        have hK2 := hk (if_pos ⟨Nat.zero_le _, hv15⟩)
        refine z_aload_n dX4_readPredictor_65 (by exact rfl) ?_
        refine z_gfA zfx_X4_46 (by exact rfl) dX4_readPredictor_66 ?_
        refine z_iload dX4_readPredictor_69 (by exact rfl) ?_
        refine z_cV dX4_readPredictor_71 zk_X4_233 (by exact rfl) (by exact rfl) (by exact rfl) (Nat.le_of_ble_eq_true rfl) (Nat.le_of_ble_eq_true rfl) (Nat.le_refl _) ?_
        refine c_begin rfl rfl ?_
        refine z_iconst dX4_readPredictor_74 ?_
        refine z_istore dX4_readPredictor_75 (Nat.le_of_ble_eq_true rfl) ?_
        exact z_at [(0, .ref 37), (2, .int (nI o)), (3, .int (nI (pr + 1))), (5, .int (nI 0))] ⟨rfl, rfl, rfl, rfl, trivial⟩ (lp pr v hpr hv15 o 0 _ _ (fun _ => 0) (by omega) ⟨rfl, rfl, fun k hk => by omega⟩ ((hR2.uI (by decide) (by decide)).uI (by decide) (by decide)) (((hF.tr (wk hf2)).uI _ rfl).uI _ rfl) (by rw [ho]; exact hK2))
    refine z_iload_n dX4_readPredictor_0 (by exact rfl) ?_
    refine z_bipush dX4_readPredictor_1 ?_
    refine z_icmp_gt (tgt := 15) dX4_readPredictor_3 (by decide) (fun _ => ?_) (fun q9 => absurd ((nI_lt (a := 31) (b := t) (by omega) (by omega))) q9)
    refine z_aload_n dX4_readPredictor_15 (by exact rfl) ?_
    refine z_iconst dX4_readPredictor_16 ?_
    refine z_cV dX4_readPredictor_17 zk_X4_98 (by exact rfl) (by exact rfl) (by exact rfl) (Nat.le_of_ble_eq_true rfl) (Nat.le_of_ble_eq_true rfl) (Nat.le_refl _) ?_
    refine c_numK (w := 4) (by omega) hR hK (fun D2 e hb hf => zx_out rfl (h0 D2 _ _ e hb (wk hf))) (fun D2 v hv hk hkn hR2 hit2 hf2 => ?_)
    refine z_l2i dX4_readPredictor_20 ?_
    refine z_eI (nI v) (lN_i v) ?_
    refine z_iconst dX4_readPredictor_21 ?_
    refine z_iadd dX4_readPredictor_22 ?_
    refine z_eI (nI (v + 1)) (nI_1 v) ?_
    refine z_istore_n dX4_readPredictor_23 (Nat.le_of_ble_eq_true rfl) ?_
    refine z_aload_n dX4_readPredictor_24 (by exact rfl) ?_
    refine z_iload_n dX4_readPredictor_25 (by exact rfl) ?_
    refine z_bipush dX4_readPredictor_26 ?_
    refine z_icmp_gt (tgt := 35) dX4_readPredictor_28 (by decide) (fun c28 => ?_) (fun c28 => ?_)
    · refine z_iconst dX4_readPredictor_35 ?_
      refine z_iconst dX4_readPredictor_36 ?_
      refine z_cV dX4_readPredictor_37 zk_X4_119 (by exact rfl) (by exact rfl) (by exact rfl) (Nat.le_of_ble_eq_true rfl) (Nat.le_of_ble_eq_true rfl) (Nat.le_refl _) ?_
      exact c_fu (kind := 2) hit2 (fun q => absurd rfl q) (fun D3 _ hb hf => zx_out rfl (h0 D3 2 _ (by
        have : 15 < v + 1 := (nI_ltI (a := 15) (b := v + 1) (by omega) (by omega)).mp c28
        have hne : kIn 0 14 v = 2 := if_neg (by omega)
        rw [hkn (by rw [hne]; decide), hne]) hb ((wk hf2).tr (wk hf))))
    · refine z_iconst dX4_readPredictor_31 ?_
      refine z_goto (tgt := 36) dX4_readPredictor_32 (by decide) ?_
      refine z_iconst dX4_readPredictor_36 ?_
      refine z_cV dX4_readPredictor_37 zk_X4_119 (by exact rfl) (by exact rfl) (by exact rfl) (Nat.le_of_ble_eq_true rfl) (Nat.le_of_ble_eq_true rfl) (Nat.le_refl _) ?_
      refine c_fu (kind := 2) hit2 (fun _ => ?_) (fun D4 q => absurd q (by decide))
      have hv15 : v < 15 := by
        rcases Nat.lt_or_ge v 15 with q | q
        · exact q
        · exact absurd (nI_lt (a := 15) (b := v + 1) (by omega) (by omega)) c28
      have hK2 := hk (if_pos ⟨Nat.zero_le _, by omega⟩)
      exact z_at [(0, .ref 37), (2, .int (nI o)), (3, .int (nI (v + 1)))] ⟨rfl, rfl, rfl, trivial⟩ (go2 v D2 _ hv15 hR2 (wk hf2) hK2)
