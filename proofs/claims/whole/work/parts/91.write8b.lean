/-! ===== Chooser.writeNumbers, writeCoefficients, writeResiduals, write ===== -/
theorem c_writeNumbers {d X n c w m : Nat} {D : zD} {Q : zQ} {a : zRow} {s : WS} (hX : isSf X) (hn : n ≤ 256) (hc : c ≤ 25) (hm : m ≤ n) (hs : sf7 D X n c w) (ha : row8 D (X + 1) a n) (hR : penW D s) (hb : (wnum c a m s).1 ≤ 160000) (hq : ∀ D', penW D' (wnum c a m s) → zfr fPen D D' → Q (.inl none) 0 D') :
    ZM yX0_writeNumbers iX0_writeNumbers (d + 1) [.ref X, .int (nI m), .ref 6] D Q := by
  obtain ⟨⟨x0, x1, x2, x3, x4, x5, x6⟩, hr, ⟨fl, hfl⟩, hl⟩ := id hX
  refine z_method (by decide) rfl (Nat.le_of_ble_eq_true rfl) ?_
  refine z_at [(0, .ref X), (1, .int (nI m)), (2, .ref 6)] ⟨rfl, rfl, rfl, trivial⟩ ?_
  have lp : ∀ (j i : Nat) (D1 : zD) (s1 : WS), i + j = m → penW D1 s1 → wl (fun i => wp c (a i)) i j s1 = wnum c a m s → zfr fPen D D1 → Z (zmk iX0_writeNumbers (d + 1)) 0 2 (zl [(0, .ref X), (1, .int (nI m)), (2, .ref 6), (3, .int (nI i))]) [] D1 Q := by
    intro j
    induction j with
    | zero =>
      intro i D1 s1 hi hR1 he hF
      have hi : i = m := by omega
      subst hi
      refine z_iload_n dX0_writeNumbers_2 (by exact rfl) ?_
      refine z_iload_n dX0_writeNumbers_3 (by exact rfl) ?_
      refine z_icmp_ge (tgt := 28) dX0_writeNumbers_4 (by decide) (fun _ => ?_) (fun q9 => absurd ((nI_le (Nat.le_refl _) (by omega))) q9)
      exact z_vret (st := []) rfl dX0_writeNumbers_28 (hq D1 (by rw [← he]; exact hR1) hF)
    | succ j ih =>
      intro i D1 s1 hi hR1 he hF
      have b1 := (ha i (by omega)).2
      unfold smI bd at b1
      refine z_iload_n dX0_writeNumbers_2 (by exact rfl) ?_
      refine z_iload_n dX0_writeNumbers_3 (by exact rfl) ?_
      refine z_icmp_ge (tgt := 28) dX0_writeNumbers_4 (by decide) (fun q9 => absurd q9 ((nI_ge (a := i) (b := m) (by omega) (by omega)))) (fun _ => ?_)
      refine z_aload_n dX0_writeNumbers_7 (by exact rfl) ?_
      refine z_aload_n dX0_writeNumbers_8 (by exact rfl) ?_
      refine z_gfI zfx_X0_40 x2 dX0_writeNumbers_9 ?_
      refine z_eI (nI c) ((hF.1 X 2 (fPen_n (by omega) (by omega))).trans hs.2.1) ?_
      refine z_aload_n dX0_writeNumbers_12 (by exact rfl) ?_
      refine z_gfA zfx_X0_60 x0 dX0_writeNumbers_13 ?_
      refine z_iload_n dX0_writeNumbers_16 (by exact rfl) ?_
      refine z_aI hr dX0_writeNumbers_17 (vp_in_nI (by omega) (by omega)) ?_
      refine z_eI (iI (a i)) (by
        rw [nI_clamp (n := i) (by omega)]
        exact (hF.1 (X + 1) i (fPen_n (by omega) (by omega))).trans (ha i (by omega)).1) ?_
      refine z_i2l dX0_writeNumbers_18 ?_
      refine z_eJ (lI (a i)) (iI_l (by omega) (by omega)) ?_
      refine z_cV dX0_writeNumbers_19 zk_X0_76 (by exact rfl) (by exact rfl) (by exact rfl) (Nat.le_of_ble_eq_true rfl) (Nat.le_of_ble_eq_true rfl) (Nat.le_refl _) ?_
      refine c_putW (w := c) (by omega) (Nat.le_trans (Nat.le_trans (wl_ge (fun j s => (wp_len c _).ge s) j (i + 1) _) (by
        rw [wl_s] at he
        rw [he]
        exact Nat.le_refl _)) hb) hR1 (fun D2 hR2 hf2 => ?_)
      refine z_iinc dX0_writeNumbers_22 (by exact rfl) ?_
      refine z_at [(0, .ref X), (1, .int (nI m)), (2, .ref 6), (3, .int (nI (i + 1)))] ⟨rfl, rfl, rfl, congrArg (fun x => some (Value.int x)) (nI_1 i), trivial⟩ ?_
      refine z_goto (tgt := 2) dX0_writeNumbers_25 (by decide) ?_
      exact ih (i + 1) D2 _ (by omega) hR2 he (hF.tr hf2)
  refine z_iconst dX0_writeNumbers_0 ?_
  refine z_istore_n dX0_writeNumbers_1 (Nat.le_of_ble_eq_true rfl) ?_
  exact z_at [(0, .ref X), (1, .int (nI m)), (2, .ref 6), (3, .int (nI 0))] ⟨rfl, rfl, rfl, rfl, trivial⟩ (lp m 0 D s (by omega) hR rfl zfr.rf)
theorem c_writeCoefficients {d o s0 : Nat} {cs : Nat → Int} {D : zD} {Q : zQ} {s : WS} (hp : pred8 D 2 3 o s0 cs) (hs : s0 ≤ 15) (ho : o ≤ 8) (hR : penW D s) (hb : (wcoef (s0, cs) o s).1 ≤ 160000) (hq : ∀ D', penW D' (wcoef (s0, cs) o s) → zfr fPen D D' → Q (.inl none) 0 D') :
    ZM yX0_writeCoefficients iX0_writeCoefficients (d + 1) [.ref 2, .ref 6] D Q := by
  refine z_method (by decide) rfl (Nat.le_of_ble_eq_true rfl) ?_
  refine z_at [(0, .ref 2), (1, .ref 6)] ⟨rfl, rfl, trivial⟩ ?_
  have lp : ∀ (j i : Nat) (D1 : zD) (s1 : WS), i + j = o → penW D1 s1 → wl (fun i => wp 15 (cs i)) i j s1 = wcoef (s0, cs) o s → zfr fPen D D1 → Z (zmk iX0_writeCoefficients (d + 1)) 0 20 (zl [(0, .ref 2), (1, .ref 6), (2, .int (nI i))]) [] D1 Q := by
    intro j
    induction j with
    | zero =>
      intro i D1 s1 hi hR1 he hF
      have hi : i = o := by omega
      subst hi
      refine z_iload_n dX0_writeCoefficients_20 (by exact rfl) ?_
      refine z_aload_n dX0_writeCoefficients_21 (by exact rfl) ?_
      refine z_gfI zfx_X0_57 (by exact rfl) dX0_writeCoefficients_22 ?_
      refine z_eI (nI i) ((hF.1 2 1 rfl).trans hp.1) ?_
      refine z_icmp_ge (tgt := 47) dX0_writeCoefficients_25 (by decide) (fun _ => ?_) (fun q9 => absurd ((nI_le (Nat.le_refl _) (by omega))) q9)
      exact z_vret (st := []) rfl dX0_writeCoefficients_47 (hq D1 (by rw [← he]; exact hR1) hF)
    | succ j ih =>
      intro i D1 s1 hi hR1 he hF
      obtain ⟨e1, b1⟩ := hp.2.2 i (by omega)
      unfold wtI bd at b1
      refine z_iload_n dX0_writeCoefficients_20 (by exact rfl) ?_
      refine z_aload_n dX0_writeCoefficients_21 (by exact rfl) ?_
      refine z_gfI zfx_X0_57 (by exact rfl) dX0_writeCoefficients_22 ?_
      refine z_eI (nI o) ((hF.1 2 1 rfl).trans hp.1) ?_
      refine z_icmp_ge (tgt := 47) dX0_writeCoefficients_25 (by decide) (fun q9 => absurd q9 ((nI_ge (a := i) (b := o) (by omega) (by omega)))) (fun _ => ?_)
      refine z_aload_n dX0_writeCoefficients_28 (by exact rfl) ?_
      refine z_bipush dX0_writeCoefficients_29 ?_
      refine z_aload_n dX0_writeCoefficients_31 (by exact rfl) ?_
      refine z_gfA zfx_X0_102 (by exact rfl) dX0_writeCoefficients_32 ?_
      refine z_iload_n dX0_writeCoefficients_35 (by exact rfl) ?_
      refine z_aI (by exact rfl) dX0_writeCoefficients_36 (vp_in_nI (by omega) (by omega)) ?_
      refine z_eI (iI (cs i)) (by
        rw [nI_clamp (n := i) (by omega)]
        exact (hF.1 3 i rfl).trans e1) ?_
      refine z_i2l dX0_writeCoefficients_37 ?_
      refine z_eJ (lI (cs i)) (iI_l (by omega) (by omega)) ?_
      refine z_cV dX0_writeCoefficients_38 zk_X0_76 (by exact rfl) (by exact rfl) (by exact rfl) (Nat.le_of_ble_eq_true rfl) (Nat.le_of_ble_eq_true rfl) (Nat.le_refl _) ?_
      refine c_putW (w := 15) (by omega) (Nat.le_trans (Nat.le_trans (wl_ge (fun j s => (wp_len 15 _).ge s) j (i + 1) _) (by
        rw [wl_s] at he
        rw [he]
        exact Nat.le_refl _)) hb) hR1 (fun D2 hR2 hf2 => ?_)
      refine z_iinc dX0_writeCoefficients_41 (by exact rfl) ?_
      refine z_at [(0, .ref 2), (1, .ref 6), (2, .int (nI (i + 1)))] ⟨rfl, rfl, congrArg (fun x => some (Value.int x)) (nI_1 i), trivial⟩ ?_
      refine z_goto (tgt := 20) dX0_writeCoefficients_44 (by decide) ?_
      exact ih (i + 1) D2 _ (by omega) hR2 he (hF.tr hf2)
  have hb2 : (wp 5 (s0 : Nat) (wp 4 14 s)).1 ≤ 160000 := Nat.le_trans (wl_ge (f := fun j => wp 15 (cs j)) (fun j s => (wp_len 15 _).ge s) o 0 _) hb
  have hb1 : (wp 4 14 s).1 ≤ 160000 := Nat.le_trans ((wp_len _ _).ge _) hb2
  refine z_aload_n dX0_writeCoefficients_0 (by exact rfl) ?_
  refine z_iconst dX0_writeCoefficients_1 ?_
  refine z_ldcL dX0_writeCoefficients_2 zclx_X0_97 ?_
  refine z_cV dX0_writeCoefficients_5 zk_X0_76 (by exact rfl) (by exact rfl) (by exact rfl) (Nat.le_of_ble_eq_true rfl) (Nat.le_of_ble_eq_true rfl) (Nat.le_refl _) ?_
  refine c_putW (w := 4) (x := 14) (by omega) hb1 hR (fun D1 hR1 hf1 => ?_)
  refine z_aload_n dX0_writeCoefficients_8 (by exact rfl) ?_
  refine z_iconst dX0_writeCoefficients_9 ?_
  refine z_aload_n dX0_writeCoefficients_10 (by exact rfl) ?_
  refine z_gfI zfx_X0_99 (by exact rfl) dX0_writeCoefficients_11 ?_
  refine z_eI (nI s0) ((hf1.1 2 2 rfl).trans hp.2.1) ?_
  refine z_i2l dX0_writeCoefficients_14 ?_
  refine z_eJ (lI ((s0 : Nat) : Int)) (nI_lI (by omega)) ?_
  refine z_cV dX0_writeCoefficients_15 zk_X0_76 (by exact rfl) (by exact rfl) (by exact rfl) (Nat.le_of_ble_eq_true rfl) (Nat.le_of_ble_eq_true rfl) (Nat.le_refl _) ?_
  refine c_putW (w := 5) (by omega) hb2 hR1 (fun D2 hR2 hf2 => ?_)
  refine z_iconst dX0_writeCoefficients_18 ?_
  refine z_istore_n dX0_writeCoefficients_19 (Nat.le_of_ble_eq_true rfl) ?_
  exact z_at [(0, .ref 2), (1, .ref 6), (2, .int (nI 0))] ⟨rfl, rfl, rfl, trivial⟩ (lp o 0 D2 _ (by omega) hR2 rfl (hf1.tr hf2))
def fWr (a k : Nat) : Bool := fPen a k || (decide (11 ≤ a) && decide (a ≤ 17))
theorem fWr_p (a k : Nat) (h : fWr a k = false) : fPen a k = false := or_l h
theorem fWr_r (a k : Nat) (h : fWr a k = false) : fRs a k = false := by
  have := or_r h
  unfold fRs
  simp at this ⊢
  omega
theorem fWr_f (a k : Nat) (h : fWr a k = false) : fOf 11 12 a k = false := by
  have := or_r h
  unfold fOf
  simp at this ⊢
  omega
theorem fWr_n {a k : Nat} (h1 : ¬ a = 6) (h2 : ¬ a = 7) (h3 : a < 11 ∨ 17 < a) : fWr a k = false := by
  unfold fWr fPen
  simp
  omega
theorem c_writeResiduals {d X P B nb n c w o s0 : Nat} {cs : Nat → Int} {D : zD} {Q : zQ} {a : zRow} {s : WS} (hX : isSf X) (hP : isPr P B nb) (hn : n ≤ 256) (hs : sf7 D X n c w) (ha : row8 D (X + 1) a n) (hp : pred8 D P B o s0 cs) (hsh : s0 ≤ 15) (ho : o ≤ nb) (hon : o ≤ n) (hok : rsOk (s0, cs) o n a) (hR : penW D s) (hb : (wres (rsU (s0, cs) o a) n o s).1 ≤ 160000)
    (hq : ∀ D', penW D' (wres (rsU (s0, cs) o a) n o s) → zfr fWr D D' → Q (.inl none) 0 D') :
    ZM yX0_writeResiduals iX0_writeResiduals (d + 3) [.ref 10, .ref X, .ref P, .ref 6] D Q := by
  obtain ⟨⟨x0, x1, x2, x3, x4, x5, x6⟩, hr, ⟨fl, hfl⟩, hl⟩ := id hX
  obtain ⟨⟨p0, p1, p2⟩, hPs, hB, hnb, hPn, hBn⟩ := hP
  refine z_method (by decide) rfl (Nat.le_of_ble_eq_true rfl) ?_
  refine z_at [(0, .ref 10), (1, .ref X), (2, .ref P), (3, .ref 6)] ⟨rfl, rfl, rfl, rfl, trivial⟩ ?_
  have hub := rsU_bd hok
  have good : ∀ (D1 : zD), D1.1 13 1 = nI n → D1.1 13 2 = nI o → (∀ i, o ≤ i → i < n → D1.2 14 i = lN (rsU (s0, cs) o a i)) → zfr fT8 D D1 → Z (zmk iX0_writeResiduals (d + 3)) 0 19 (zl [(0, .ref 10), (1, .ref X), (2, .ref P), (3, .ref 6)]) [] D1 Q := by
    intro D1 g1 g2 g3 hf1
    refine z_aload_n dX0_writeResiduals_19 (by exact rfl) ?_
    refine z_gfA zfx_X0_23 (by exact rfl) dX0_writeResiduals_20 ?_
    refine z_cV dX0_writeResiduals_23 zk_X0_68 (by exact rfl) (by exact rfl) (by exact rfl) (Nat.le_of_ble_eq_true rfl) (Nat.le_of_ble_eq_true rfl) (Nat.le_refl _) ?_
    refine c_measure8 g1 g2 hn hon (fun i a b => ⟨g3 i a b, hub i a b⟩) (fun D2 hv g6 g7 g8 hf2 => ?_)
    have hF2 : zfr fRs D D2 := (hf1.wk fRs_T).tr (hf2.wk fRs_M)
    refine z_aload_n dX0_writeResiduals_26 (by exact rfl) ?_
    refine z_gfA zfx_X0_23 (by exact rfl) dX0_writeResiduals_27 ?_
    refine z_aload_n dX0_writeResiduals_30 (by exact rfl) ?_
    refine z_cV dX0_writeResiduals_31 zk_X0_105 (by exact rfl) (by exact rfl) (by exact rfl) (Nat.le_of_ble_eq_true rfl) (Nat.le_of_ble_eq_true rfl) (Nat.le_refl _) ?_
    refine c_resWrite ((hf2.1 13 1 rfl).trans g1) ((hf2.1 13 2 rfl).trans g2) hn hv (fun i a b => ⟨(hf2.2 14 i rfl).trans (g3 i a b), hub i a b⟩) g6 g8 (hR.fr hF2 (fun _ => rfl) (fun _ => rfl)) hb (fun D3 hR3 hf3 => ?_)
    exact z_vret (st := []) rfl dX0_writeResiduals_34 (hq D3 hR3 ((hF2.wk fWr_r).tr (hf3.wk fWr_p)))
  refine z_aload_n dX0_writeResiduals_0 (by exact rfl) ?_
  refine z_gfA zfx_X0_23 (by exact rfl) dX0_writeResiduals_1 ?_
  refine z_aload_n dX0_writeResiduals_4 (by exact rfl) ?_
  refine z_gfA zfx_X0_60 x0 dX0_writeResiduals_5 ?_
  refine z_aload_n dX0_writeResiduals_8 (by exact rfl) ?_
  refine z_gfI zfx_X0_47 x1 dX0_writeResiduals_9 ?_
  refine z_eI (nI n) hs.1 ?_
  refine z_aload_n dX0_writeResiduals_12 (by exact rfl) ?_
  refine z_cV dX0_writeResiduals_13 zk_X0_64 (by exact rfl) (by exact rfl) (by exact rfl) (Nat.le_of_ble_eq_true rfl) (Nat.le_of_ble_eq_true rfl) (Nat.le_refl _) ?_
  refine c_resTake p0 p1 p2 hPs hB hr hPn hBn (by omega) hp hsh ho hnb hon hn ha (fun D1 _ g1 g2 g3 hf1 => ?_) (fun D1 hno hf1 => absurd hok hno)
  refine z_if_eq (tgt := 34) dX0_writeResiduals_16 (by decide) (fun q9 => absurd q9 ((by decide))) (fun _ => ?_)
  exact good D1 g1 g2 g3 hf1
theorem c_write0 {d X n b o s0 : Nat} {cs : Nat → Int} {D : zD} {Q : zQ} {a : zRow} {s : WS} (hX : isSf X) (hn : 1 ≤ n ∧ n ≤ 256) (hb : 1 ≤ b ∧ b ≤ 25) (hwb : wst n a < b) (hs : sf7 D X n (b - wst n a) (wst n a)) (ha : row8 D (X + 1) (shR (wst n a) a) n) (hw : sfW D X (8 + wst n a) (some (wayA n b a (s0, cs) o))) (hp : pred8 D 2 3 o s0 cs) (hsh : s0 ≤ 14) (ho : o ≤ 8) (hR : penW D s) (hbd : (wsub n b a (s0, cs) o s).1 ≤ 160000)
    (hq : ∀ D', penW D' (wsub n b a (s0, cs) o s) → zfr fWr D D' → Q (.inl none) 0 D') :
    ZM yX0_write iX0_write (d + 4) [.ref 10, .ref X, .ref 2, .ref 6] D Q := by
  obtain ⟨⟨x0, x1, x2, x3, x4, x5, x6⟩, hr, ⟨fl, hfl⟩, hl⟩ := id hX
  refine z_method (by decide) rfl (Nat.le_of_ble_eq_true rfl) ?_
  refine z_at [(0, .ref 10), (1, .ref X), (2, .ref 2), (3, .ref 6)] ⟨rfl, rfl, rfl, rfl, trivial⟩ ?_
  have hP := wayA_P (n := n) (b := b) (a := a) (pr := (s0, cs)) (o := o)
  unfold wsub at hq hbd
  obtain ⟨w, ew⟩ : ∃ w, w = wst n a := ⟨_, rfl⟩
  obtain ⟨wy, ewy⟩ : ∃ wy, wy = wayA n b a (s0, cs) o := ⟨_, rfl⟩
  rw [← ew, ← ewy] at hq hbd hP
  rw [← ew] at hwb hs ha
  rw [← ew, ← ewy] at hw
  obtain ⟨c, ec⟩ : ∃ c, c = b - w := ⟨_, rfl⟩
  obtain ⟨a', ea⟩ : ∃ a', a' = shR w a := ⟨_, rfl⟩
  rw [← ec, ← ea] at hP hq hbd
  rw [← ec] at hs
  rw [← ea] at ha
  obtain ⟨w1, w2, w3, w4⟩ := hw
  have ht : wy.1 < 64 := by
    rcases hP with ⟨h, _⟩ | ⟨h, _⟩ | ⟨o', h1, _, h, _⟩ | ⟨_, _, _, h, _⟩ <;> omega
  have bl := wbody_len hP
  have hb4 : (wp w 1 (wp 1 (if 0 < w then 1 else 0) (wp 6 (wy.1 : Nat) (wp 1 0 s)))).1 ≤ 160000 := Nat.le_trans (bl.ge _) hbd
  have hb3 : (wp 1 (if 0 < w then 1 else 0) (wp 6 (wy.1 : Nat) (wp 1 0 s))).1 ≤ 160000 := Nat.le_trans ((wp_len _ _).ge _) hb4
  have hb2 : (wp 6 (wy.1 : Nat) (wp 1 0 s)).1 ≤ 160000 := Nat.le_trans ((wp_len _ _).ge _) hb3
  have hb1 : (wp 1 0 s).1 ≤ 160000 := Nat.le_trans ((wp_len _ _).ge _) hb2
  have keep : ∀ {D2 : zD}, zfr fPen D D2 → sf7 D2 X n c w ∧ row8 D2 (X + 1) a' n ∧ pred8 D2 2 3 o s0 cs ∧ D2.1 X 4 = nI wy.1 := fun hF => ⟨hs.fr hF (fun k _ => fPen_n (by omega) (by omega)), ha.fr hF (fun k => fPen_n (by omega) (by omega)), hp.fr hF (fun k => rfl) (fun k => rfl), (hF.1 X 4 (fPen_n (by omega) (by omega))).trans w1⟩
  have body : ∀ (D1 : zD) (s1 : WS), penW D1 s1 → (wbody wy.1 n c a' (s0, cs) o s1).1 ≤ 160000 → (∀ D', penW D' (wbody wy.1 n c a' (s0, cs) o s1) → zfr fWr D D' → Q (.inl none) 0 D') → zfr fPen D D1 → Z (zmk iX0_write (d + 4)) 0 43 (zl [(0, .ref 10), (1, .ref X), (2, .ref 2), (3, .ref 6)]) [] D1 Q := by
    intro D1 s1 hR1 hbd hq hF
    obtain ⟨k1, k2, k3, k4⟩ := keep hF
    have ne : ∀ j, j < 64 → (nI wy.1 = nI j ↔ wy.1 = j) := fun j hj => nI_eq (by omega) (by omega)
    rcases hP with ⟨h1, h2, h3⟩ | ⟨h1, h2, h3⟩ | ⟨o', g1, g2, h1, h2, h3⟩ | ⟨g1, g2, g3, h1, h2, h3⟩
    · rw [h1] at k4 hq hbd
      refine z_aload_n dX0_write_43 (by exact rfl) ?_
      refine z_gfI zfx_X0_82 x4 dX0_write_44 ?_
      refine z_eI (nI 0) k4 ?_
      refine z_if_ne (tgt := 59) dX0_write_47 (by decide) (fun q9 => absurd (rfl) q9) (fun _ => ?_)
      refine z_aload_n dX0_write_50 (by exact rfl) ?_
      refine z_iconst dX0_write_51 ?_
      refine z_aload_n dX0_write_52 (by exact rfl) ?_
      refine z_cS dX0_write_53 zk_X0_85 (by exact rfl) (Nat.le_of_ble_eq_true rfl) (Nat.le_of_ble_eq_true rfl) (Nat.le_refl _) ?_
      refine c_writeNumbers (m := 1) hX hn.2 (by omega) hn.1 k1 k2 hR1 hbd (fun D2 hR2 hf2 => ?_)
      refine z_goto (tgt := 148) dX0_write_56 (by decide) ?_
      exact z_vret (st := []) rfl dX0_write_148 (hq D2 hR2 ((hF.tr hf2).wk fWr_p))
    · rw [h1] at k4 hq hbd
      refine z_aload_n dX0_write_43 (by exact rfl) ?_
      refine z_gfI zfx_X0_82 x4 dX0_write_44 ?_
      refine z_eI (nI 1) k4 ?_
      refine z_if_ne (tgt := 59) dX0_write_47 (by decide) (fun _ => ?_) (fun q9 => absurd q9 ((by decide)))
      refine z_aload_n dX0_write_59 (by exact rfl) ?_
      refine z_gfI zfx_X0_82 x4 dX0_write_60 ?_
      refine z_eI (nI 1) k4 ?_
      refine z_iconst dX0_write_63 ?_
      refine z_icmp_ne (tgt := 79) dX0_write_64 (by decide) (fun q9 => absurd (rfl) q9) (fun _ => ?_)
      refine z_aload_n dX0_write_67 (by exact rfl) ?_
      refine z_aload_n dX0_write_68 (by exact rfl) ?_
      refine z_gfI zfx_X0_47 x1 dX0_write_69 ?_
      refine z_eI (nI n) k1.1 ?_
      refine z_aload_n dX0_write_72 (by exact rfl) ?_
      refine z_cS dX0_write_73 zk_X0_85 (by exact rfl) (Nat.le_of_ble_eq_true rfl) (Nat.le_of_ble_eq_true rfl) (Nat.le_refl _) ?_
      refine c_writeNumbers (m := n) hX hn.2 (by omega) (Nat.le_refl _) k1 k2 hR1 hbd (fun D2 hR2 hf2 => ?_)
      refine z_goto (tgt := 148) dX0_write_76 (by decide) ?_
      exact z_vret (st := []) rfl dX0_write_148 (hq D2 hR2 ((hF.tr hf2).wk fWr_p))
    · rw [h1] at k4 hq hbd
      have e : ∀ s, wbody (8 + o') n c a' (s0, cs) o s = wres (rsU (0, fxC o') o' a') n o' (wnum c a' o' s) := by
        intro s
        unfold wbody
        rw [if_neg (by omega), if_neg (by omega), if_pos (by omega), Nat.add_sub_cancel_left]
        rfl
      rw [e] at hq hbd
      refine z_aload_n dX0_write_43 (by exact rfl) ?_
      refine z_gfI zfx_X0_82 x4 dX0_write_44 ?_
      refine z_eI (nI (8 + o')) k4 ?_
      refine z_if_ne (tgt := 59) dX0_write_47 (by decide) (fun _ => ?_) (fun q9 => absurd q9 ((nI_ne0 (by omega) (by omega))))
      refine z_aload_n dX0_write_59 (by exact rfl) ?_
      refine z_gfI zfx_X0_82 x4 dX0_write_60 ?_
      refine z_eI (nI (8 + o')) k4 ?_
      refine z_iconst dX0_write_63 ?_
      refine z_icmp_ne (tgt := 79) dX0_write_64 (by decide) (fun _ => ?_) (fun q9 => absurd q9 ((fun q => absurd ((nI_eq (a := 8 + o') (b := 1) (by omega) (by omega)).mp q) (by omega))))
      refine z_aload_n dX0_write_79 (by exact rfl) ?_
      refine z_gfI zfx_X0_82 x4 dX0_write_80 ?_
      refine z_eI (nI (8 + o')) k4 ?_
      refine z_bipush dX0_write_83 ?_
      refine z_icmp_le (tgt := 112) dX0_write_85 (by decide) (fun _ => ?_) (fun q9 => absurd ((nI_le (a := 8 + o') (b := 31) (by omega) (by omega))) q9)
      refine z_aload_n dX0_write_112 (by exact rfl) ?_
      refine z_gfA zfx_X0_14 (by exact rfl) dX0_write_113 ?_
      refine z_aload_n dX0_write_116 (by exact rfl) ?_
      refine z_gfI zfx_X0_82 x4 dX0_write_117 ?_
      refine z_eI (nI (8 + o')) k4 ?_
      refine z_bipush dX0_write_120 ?_
      refine z_isub dX0_write_122 ?_
      refine z_eI (nI o') (by
        rw [show (Int8.ofInt 8).toInt32 = nI 8 from rfl, pk_sub (a := 8 + o') (b := 8) (by omega), Nat.add_sub_cancel_left]) ?_
      refine z_cV dX0_write_123 zk_X0_50 (by exact rfl) (by exact rfl) (by exact rfl) (Nat.le_of_ble_eq_true rfl) (Nat.le_of_ble_eq_true rfl) (Nat.le_refl _) ?_
      refine c_becomeFixed (P := 11) (B := 12) (nb := 4) rfl rfl rfl rfl rfl (by omega) (by omega) (by omega) (by omega) (fun D2 hp2 hf2 => ?_)
      have fo : ∀ {x k : Nat}, ¬ x = 11 → ¬ x = 12 → fOf 11 12 x k = false := fun h h' => by
        unfold fOf
        simp
        omega
      have hF2 : zfr fWr D D2 := (hF.wk fWr_p).tr (hf2.wk fWr_f)
      have j1 := k1.fr hf2 (fun k _ => fo (by omega) (by omega))
      have j2 := k2.fr hf2 (fun k => fo (by omega) (by omega))
      refine z_aload_n dX0_write_126 (by exact rfl) ?_
      refine z_aload_n dX0_write_127 (by exact rfl) ?_
      refine z_gfA zfx_X0_14 (by exact rfl) dX0_write_128 ?_
      refine z_gfI zfx_X0_57 (by exact rfl) dX0_write_131 ?_
      refine z_eI (nI o') hp2.1 ?_
      refine z_aload_n dX0_write_134 (by exact rfl) ?_
      refine z_cS dX0_write_135 zk_X0_85 (by exact rfl) (Nat.le_of_ble_eq_true rfl) (Nat.le_of_ble_eq_true rfl) (Nat.le_refl _) ?_
      refine c_writeNumbers (m := o') hX hn.2 (by omega) g2 j1 j2 (hR1.fr hf2 (fun _ => rfl) (fun _ => rfl)) (Nat.le_trans ((wres_len _ n o').ge _) hbd) (fun D3 hR3 hf3 => ?_)
      refine z_aload_n dX0_write_138 (by exact rfl) ?_
      refine z_aload_n dX0_write_139 (by exact rfl) ?_
      refine z_aload_n dX0_write_140 (by exact rfl) ?_
      refine z_gfA zfx_X0_14 (by exact rfl) dX0_write_141 ?_
      refine z_aload_n dX0_write_144 (by exact rfl) ?_
      refine z_cV dX0_write_145 zk_X0_93 (by exact rfl) (by exact rfl) (by exact rfl) (Nat.le_of_ble_eq_true rfl) (Nat.le_of_ble_eq_true rfl) (Nat.le_refl _) ?_
      refine c_writeResiduals hX isPr_fix hn.2 (j1.fr hf3 (fun k _ => fPen_n (by omega) (by omega))) (j2.fr hf3 (fun k => fPen_n (by omega) (by omega))) (hp2.fr hf3 (fun _ => rfl) (fun _ => rfl)) (by omega) g1 g2 (fx_ok g1 (fun i hi => (ha i hi).2)) hR3 hbd (fun D4 hR4 hf4 => ?_)
      exact z_vret (st := []) rfl dX0_write_148 (hq D4 hR4 ((hF2.tr (hf3.wk fWr_p)).tr hf4))
    · rw [h1] at k4 hq hbd
      have e : ∀ s, wbody (31 + o) n c a' (s0, cs) o s = wres (rsU (s0, cs) o a') n o (wcoef (s0, cs) o (wnum c a' o s)) := by
        intro s
        unfold wbody
        rw [if_neg (by omega), if_neg (by omega), if_neg (by omega)]
      rw [e] at hq hbd
      have hbc : (wcoef (s0, cs) o (wnum c a' o s1)).1 ≤ 160000 := Nat.le_trans ((wres_len _ n o).ge _) hbd
      refine z_aload_n dX0_write_43 (by exact rfl) ?_
      refine z_gfI zfx_X0_82 x4 dX0_write_44 ?_
      refine z_eI (nI (31 + o)) k4 ?_
      refine z_if_ne (tgt := 59) dX0_write_47 (by decide) (fun _ => ?_) (fun q9 => absurd q9 ((nI_ne0 (by omega) (by omega))))
      refine z_aload_n dX0_write_59 (by exact rfl) ?_
      refine z_gfI zfx_X0_82 x4 dX0_write_60 ?_
      refine z_eI (nI (31 + o)) k4 ?_
      refine z_iconst dX0_write_63 ?_
      refine z_icmp_ne (tgt := 79) dX0_write_64 (by decide) (fun _ => ?_) (fun q9 => absurd q9 ((fun q => absurd ((nI_eq (a := 31 + o) (b := 1) (by omega) (by omega)).mp q) (by omega))))
      refine z_aload_n dX0_write_79 (by exact rfl) ?_
      refine z_gfI zfx_X0_82 x4 dX0_write_80 ?_
      refine z_eI (nI (31 + o)) k4 ?_
      refine z_bipush dX0_write_83 ?_
      refine z_icmp_le (tgt := 112) dX0_write_85 (by decide) (fun q9 => absurd q9 ((fun q => absurd ((nI_leI (a := 31 + o) (b := 31) (by omega) (by omega)).mp q) (by omega)))) (fun _ => ?_)
      refine z_aload_n dX0_write_88 (by exact rfl) ?_
      refine z_aload_n dX0_write_89 (by exact rfl) ?_
      refine z_gfI zfx_X0_57 (by exact rfl) dX0_write_90 ?_
      refine z_eI (nI o) k3.1 ?_
      refine z_aload_n dX0_write_93 (by exact rfl) ?_
      refine z_cS dX0_write_94 zk_X0_85 (by exact rfl) (Nat.le_of_ble_eq_true rfl) (Nat.le_of_ble_eq_true rfl) (Nat.le_refl _) ?_
      refine c_writeNumbers (m := o) hX hn.2 (by omega) g2 k1 k2 hR1 (Nat.le_trans ((wcoef_len _ o).ge _) hbc) (fun D2 hR2 hf2 => ?_)
      obtain ⟨j1, j2, j3, j4⟩ := keep (hF.tr hf2)
      refine z_aload_n dX0_write_97 (by exact rfl) ?_
      refine z_aload_n dX0_write_98 (by exact rfl) ?_
      refine z_cS dX0_write_99 zk_X0_89 (by exact rfl) (Nat.le_of_ble_eq_true rfl) (Nat.le_of_ble_eq_true rfl) (Nat.le_refl _) ?_
      refine c_writeCoefficients j3 (by omega) ho hR2 hbc (fun D3 hR3 hf3 => ?_)
      obtain ⟨l1, l2, l3, l4⟩ := keep ((hF.tr hf2).tr hf3)
      refine z_aload_n dX0_write_102 (by exact rfl) ?_
      refine z_aload_n dX0_write_103 (by exact rfl) ?_
      refine z_aload_n dX0_write_104 (by exact rfl) ?_
      refine z_aload_n dX0_write_105 (by exact rfl) ?_
      refine z_cV dX0_write_106 zk_X0_93 (by exact rfl) (by exact rfl) (by exact rfl) (Nat.le_of_ble_eq_true rfl) (Nat.le_of_ble_eq_true rfl) (Nat.le_refl _) ?_
      refine c_writeResiduals hX isPr_own hn.2 l1 l2 l3 (by omega) ho g2 g3 hR3 hbd (fun D4 hR4 hf4 => ?_)
      refine z_goto (tgt := 148) dX0_write_109 (by decide) ?_
      exact z_vret (st := []) rfl dX0_write_148 (hq D4 hR4 (((((hF.tr hf2).tr hf3).wk fWr_p)).tr hf4))
  have t31 : ∀ (D2 : zD) (x : Int64), x = lI (if 0 < w then 1 else 0) → penW D2 (wp 6 (wy.1 : Nat) (wp 1 0 s)) → zfr fPen D D2 → Z (zmk iX0_write (d + 4)) 0 31 (zl [(0, .ref 10), (1, .ref X), (2, .ref 2), (3, .ref 6)]) [.long x, .int 1, .ref 6] D2 Q := by
    intro D2 x hx hR2 hF2
    subst hx
    refine z_cV dX0_write_31 zk_X0_76 (by exact rfl) (by exact rfl) (by exact rfl) (Nat.le_of_ble_eq_true rfl) (Nat.le_of_ble_eq_true rfl) (Nat.le_refl _) ?_
    refine c_putW (w := 1) (by omega) hb3 hR2 (fun D3 hR3 hf3 => ?_)
    refine z_aload_n dX0_write_34 (by exact rfl) ?_
    refine z_aload_n dX0_write_35 (by exact rfl) ?_
    refine z_gfI zfx_X0_32 x3 dX0_write_36 ?_
    refine z_eI (nI w) (keep (hF2.tr hf3)).1.2.2 ?_
    refine z_lconst dX0_write_39 ?_
    refine z_cV dX0_write_40 zk_X0_76 (by exact rfl) (by exact rfl) (by exact rfl) (Nat.le_of_ble_eq_true rfl) (Nat.le_of_ble_eq_true rfl) (Nat.le_refl _) ?_
    refine c_putW (w := w) (x := 1) (by omega) hb4 hR3 (fun D4 hR4 hf4 => ?_)
    exact body D4 _ hR4 hbd hq ((hF2.tr hf3).tr hf4)
  refine z_aload_n dX0_write_0 (by exact rfl) ?_
  refine z_iconst dX0_write_1 ?_
  refine z_lconst dX0_write_2 ?_
  refine z_cV dX0_write_3 zk_X0_76 (by exact rfl) (by exact rfl) (by exact rfl) (Nat.le_of_ble_eq_true rfl) (Nat.le_of_ble_eq_true rfl) (Nat.le_refl _) ?_
  refine c_putW (w := 1) (x := 0) (by omega) hb1 hR (fun D1 hR1 hf1 => ?_)
  refine z_aload_n dX0_write_6 (by exact rfl) ?_
  refine z_bipush dX0_write_7 ?_
  refine z_aload_n dX0_write_9 (by exact rfl) ?_
  refine z_gfI zfx_X0_82 x4 dX0_write_10 ?_
  refine z_eI (nI wy.1) (keep hf1).2.2.2 ?_
  refine z_i2l dX0_write_13 ?_
  refine z_eJ (lI ((wy.1 : Nat) : Int)) (nI_lI (by omega)) ?_
  refine z_cV dX0_write_14 zk_X0_76 (by exact rfl) (by exact rfl) (by exact rfl) (Nat.le_of_ble_eq_true rfl) (Nat.le_of_ble_eq_true rfl) (Nat.le_refl _) ?_
  refine c_putW (w := 6) (by omega) hb2 hR1 (fun D2 hR2 hf2 => ?_)
  refine z_aload_n dX0_write_17 (by exact rfl) ?_
  refine z_iconst dX0_write_18 ?_
  refine z_aload_n dX0_write_19 (by exact rfl) ?_
  refine z_gfI zfx_X0_32 x3 dX0_write_20 ?_
  refine z_eI (nI w) (keep (hf1.tr hf2)).1.2.2 ?_
  refine z_if_le (tgt := 30) dX0_write_23 (by decide) (fun c23 => ?_) (fun c23 => ?_)
  · refine z_lconst dX0_write_30 ?_
    exact t31 D2 _ (by
      have h0 : w ≤ 0 := (nI_leI (a := w) (b := 0) (by omega) (by omega)).mp c23
      rw [if_neg (by omega)]
      rfl) hR2 (hf1.tr hf2)
  · refine z_lconst dX0_write_26 ?_
    refine z_goto (tgt := 31) dX0_write_27 (by decide) ?_
    exact t31 D2 _ (by
      have h0 : ¬ w ≤ 0 := fun q => c23 ((nI_leI (a := w) (b := 0) (by omega) (by omega)).mpr q)
      rw [if_pos (by omega)]
      rfl) hR2 (hf1.tr hf2)
