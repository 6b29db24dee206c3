/-! ===== the reference's writing: writeNumber, writeLeft, writeRow ===== -/
def madW (D : zD) (s : WS) : Prop := madR D s.1 s.2 ∧ okW s
theorem madW.le {D : zD} {s : WS} (h : madW D s) : s.1 ≤ 160000 := h.1.2.1
theorem madW.bit {D : zD} {s : WS} (h : madW D s) : D.2 19 12 = lN s.1 := h.1.1
theorem madW.fr {D D' : zD} {F : Nat → Nat → Bool} {s : WS} (h : madW D s) (hF : zfr F D D') (h1 : F 19 12 = false) (h2 : ∀ k, F 54 k = false) : madW D' s := by
  obtain ⟨⟨r1, r2, r3, r4⟩, r5⟩ := h
  have e : D'.2 54 = D.2 54 := funext fun k => hF.2 54 k (h2 k)
  refine ⟨⟨(hF.2 19 12 h1).trans r1, r2, fun i hi => ?_, fun i h3 h4 => ?_⟩, r5⟩
  · rw [e]
    exact r3 i hi
  · rw [e]
    exact r4 i h3 h4
theorem c_writeW {d w : Nat} {x : Int} {D : zD} {s : WS} {Q : zQ} (hw : w ≤ 64) (hn : (wp w x s).1 ≤ 160000) (hR : madW D s) (hq : ∀ D', madW D' (wp w x s) → zfr fMad D D' → Q (.inl none) 0 D') : ZM yX9_write iX9_write d [.ref 19, .int (nI w), .long (lI x)] D Q := c_write hw hn hR.1 (fun D' hF hR' => hq D' ⟨hR', (wp_len w x).ok hR.2⟩ hF)
theorem wp_z {s : WS} (w : Nat) (h : okW s) : wp w 0 s = wz w s := by
  unfold wp wz
  congr 1
  funext i
  unfold apB
  by_cases h1 : i < s.1
  · rw [if_pos h1]
  · rw [if_neg h1, h i (by omega)]
    split
    · show (BitVec.ofInt 64 0).getLsbD _ = false
      simp
    · rfl
theorem wp_0 {s : WS} (x : Int) (h : okW s) : wp 0 x s = s := by
  unfold wp
  have e : apB s.2 s.1 0 (lI x) = s.2 := by
    funext i
    unfold apB
    by_cases h1 : i < s.1
    · rw [if_pos h1]
    · rw [if_neg h1, if_neg (by omega), h i (by omega)]
  rw [e]
  rfl
theorem lI1_bit (j : Nat) : (lI 1).toBitVec.getLsbD j = decide (j = 0) := q_one j
theorem wp_run {s : WS} {w : Nat} (hw : 0 < w) (h : okW s) : wp 1 1 (wz (w - 1) s) = wp w 1 s := by
  unfold wp wz
  have e1 : s.1 + (w - 1) + 1 = s.1 + w := by omega
  show (s.1 + (w - 1) + 1, apB s.2 (s.1 + (w - 1)) 1 (lI 1)) = _
  rw [e1]
  congr 1
  funext i
  unfold apB
  by_cases h1 : i < s.1
  · rw [if_pos h1, if_pos (by omega)]
  · rw [if_neg h1]
    by_cases h2 : i < s.1 + (w - 1)
    · rw [if_pos h2, if_pos (by omega), h i (by omega), lI1_bit]
      symm
      exact decide_eq_false (by omega)
    · rw [if_neg h2, e1]
      by_cases h3 : i < s.1 + w
      · rw [if_pos h3, if_pos h3, lI1_bit, lI1_bit, decide_eq_true (by omega), decide_eq_true (by omega)]
      · rw [if_neg h3, if_neg h3]
theorem wz_wz (a b : Nat) (s : WS) : wz b (wz a s) = wz (a + b) s := by
  unfold wz
  rw [Nat.add_assoc]
theorem wz_0 (s : WS) : wz 0 s = s := rfl
theorem c_writeNumber {d f : Nat} {D : zD} {Q : zQ} {s : WS} (hf : f < 256) (hR : madW D s) (hb : (wnumb f s).1 ≤ 160000) (hq : ∀ D', madW D' (wnumb f s) → zfr fMad D D' → Q (.inl none) 0 D') : ZM yX9_writeNumber iX9_writeNumber (d + 1) [.ref 19, .int (nI f)] D Q := by
  refine z_method (by decide) rfl (Nat.le_of_ble_eq_true rfl) ?_
  refine z_at [(0, .ref 19), (1, .int (nI f))] ⟨rfl, rfl, trivial⟩ ?_
  by_cases h : f < 128
  · have e : wnumb f s = wp 8 (f : Nat) s := if_pos h
    rw [e] at hb hq
    refine z_iload_n dX9_writeNumber_0 (by exact rfl) ?_
    refine z_sipush dX9_writeNumber_1 ?_
    refine z_icmp_ge (tgt := 18) dX9_writeNumber_4 (by decide) (fun q9 => absurd q9 ((nI_ge (a := f) (b := 128) (by omega) (by omega)))) (fun _ => ?_)
    refine z_aload_n dX9_writeNumber_7 (by exact rfl) ?_
    refine z_bipush dX9_writeNumber_8 ?_
    refine z_iload_n dX9_writeNumber_10 (by exact rfl) ?_
    refine z_i2l dX9_writeNumber_11 ?_
    refine z_eJ (lI ((f : Nat) : Int)) (nI_lI (by omega)) ?_
    refine z_cV dX9_writeNumber_12 zk_X9_217 (by exact rfl) (by exact rfl) (by exact rfl) (Nat.le_of_ble_eq_true rfl) (Nat.le_of_ble_eq_true rfl) (Nat.le_refl _) ?_
    refine c_writeW (w := 8) (by omega) hb hR (fun D1 hR1 hf1 => ?_)
    refine z_goto (tgt := 48) dX9_writeNumber_15 (by decide) ?_
    exact z_vret (st := []) rfl dX9_writeNumber_48 (hq D1 hR1 hf1)
  · have e : wnumb f s = wp 8 ((128 + f % 64 : Nat) : Int) (wp 8 ((192 + f / 64 : Nat) : Int) s) := if_neg h
    rw [e] at hb hq
    have hb1 : (wp 8 ((192 + f / 64 : Nat) : Int) s).1 ≤ 160000 := Nat.le_trans ((wp_len _ _).ge _) hb
    refine z_iload_n dX9_writeNumber_0 (by exact rfl) ?_
    refine z_sipush dX9_writeNumber_1 ?_
    refine z_icmp_ge (tgt := 18) dX9_writeNumber_4 (by decide) (fun _ => ?_) (fun q9 => absurd ((nI_le (a := 128) (b := f) (by omega) (by omega))) q9)
    refine z_aload_n dX9_writeNumber_18 (by exact rfl) ?_
    refine z_bipush dX9_writeNumber_19 ?_
    refine z_sipush dX9_writeNumber_21 ?_
    refine z_iload_n dX9_writeNumber_24 (by exact rfl) ?_
    refine z_bipush dX9_writeNumber_25 ?_
    refine z_idiv dX9_writeNumber_27 (by decide) ?_
    refine z_eI (nI (f / 64)) (pk_div (d := 64) (by omega) (by omega) (by omega)) ?_
    refine z_iadd dX9_writeNumber_28 ?_
    refine z_eI (nI (192 + f / 64)) (nI_add 192 _) ?_
    refine z_i2l dX9_writeNumber_29 ?_
    refine z_eJ (lI ((192 + f / 64 : Nat) : Int)) (nI_lI (by omega)) ?_
    refine z_cV dX9_writeNumber_30 zk_X9_217 (by exact rfl) (by exact rfl) (by exact rfl) (Nat.le_of_ble_eq_true rfl) (Nat.le_of_ble_eq_true rfl) (Nat.le_refl _) ?_
    refine c_writeW (w := 8) (by omega) hb1 hR (fun D1 hR1 hf1 => ?_)
    refine z_aload_n dX9_writeNumber_33 (by exact rfl) ?_
    refine z_bipush dX9_writeNumber_34 ?_
    refine z_sipush dX9_writeNumber_36 ?_
    refine z_iload_n dX9_writeNumber_39 (by exact rfl) ?_
    refine z_bipush dX9_writeNumber_40 ?_
    refine z_irem dX9_writeNumber_42 (by decide) ?_
    refine z_eI (nI (f % 64)) (pk_rem (d := 64) (by omega) (by omega) (by omega)) ?_
    refine z_iadd dX9_writeNumber_43 ?_
    refine z_eI (nI (128 + f % 64)) (nI_add 128 _) ?_
    refine z_i2l dX9_writeNumber_44 ?_
    refine z_eJ (lI ((128 + f % 64 : Nat) : Int)) (nI_lI (by omega)) ?_
    refine z_cV dX9_writeNumber_45 zk_X9_217 (by exact rfl) (by exact rfl) (by exact rfl) (Nat.le_of_ble_eq_true rfl) (Nat.le_of_ble_eq_true rfl) (Nat.le_refl _) ?_
    refine c_writeW (w := 8) (by omega) hb hR1 (fun D2 hR2 hf2 => ?_)
    exact z_vret (st := []) rfl dX9_writeNumber_48 (hq D2 hR2 (hf1.tr hf2))
theorem leftU.fr {D D' : zD} {F : Nat → Nat → Bool} {u : Nat → Nat} {o n : Nat} (h : leftU D u o n) (hF : zfr F D D') (h1 : ∀ k, F 62 k = false) : leftU D' u o n := fun i a b => by
  obtain ⟨e, e1, e2, e3⟩ := h i a b
  exact ⟨e, (hF.2 62 i (h1 i)).trans e1, e2, e3⟩
theorem c_writeLeft {d n o : Nat} {D : zD} {Q : zQ} {u : Nat → Nat} {s : WS} (h24 : D.1 19 24 = nI n) (hn : n ≤ 256) (hon : o ≤ n) (hu : leftU D u o n) (h29 : D.1 19 29 = nI (bq u n o)) (hR : madW D s) (hb : (wres u n o s).1 ≤ 160000) (hq : ∀ D', madW D' (wres u n o s) → zfr fMad D D' → Q (.inl none) 0 D') :
    ZM yX9_writeLeft iX9_writeLeft (d + 3) [.ref 19, .int (nI o)] D Q := by
  refine z_method (by decide) rfl (Nat.le_of_ble_eq_true rfl) ?_
  refine z_at [(0, .ref 19), (1, .int (nI o))] ⟨rfl, rfl, trivial⟩ ?_
  have hv : vq n o (bq u n o) := (bqR_vq (u := u) hon 3 (Nat.le_refl _)).1
  obtain ⟨q, eq⟩ : ∃ q, q = bq u n o := ⟨_, rfl⟩
  have ew : ∀ s, wres u n o s = wl (wpart u n o q) 0 (2 ^ q) (wp 4 (q : Nat) (wp 2 0 s)) := fun s => by
    rw [eq]
    rfl
  rw [ew] at hb hq
  rw [← eq] at hv h29
  have hq3 := hv.1
  have h8 : 2 ^ q ≤ 2 ^ 3 := Nat.pow_le_pow_right (by omega) hq3
  have hLn : n / 2 ^ q ≤ n := Nat.div_le_self _ _
  have hset : ∀ {D1 : zD}, zfr fMad D D1 → D1.1 19 24 = nI n ∧ D1.1 19 29 = nI q ∧ leftU D1 u o n := fun hF => ⟨(hF.1 19 24 rfl).trans h24, (hF.1 19 29 rfl).trans h29, hu.fr hF (fun _ => rfl)⟩
  -- zeros, one by one
  have zs : ∀ (p k i : Nat) (R : WS → Prop), (∀ (D1 : zD) (s1 : WS), madW D1 s1 → R s1 → zfr fMad D D1 → Z (zmk iX9_writeLeft (d + 3)) 0 123 (zl [(0, .ref 19), (1, .int (nI o)), (2, .int (nI (n / 2 ^ q))), (3, .int (nI p)), (5, .int (nI k)), (6, .int (nI i))]) [] D1 Q) →
      ∀ (z : Nat) (D1 : zD) (s1 : WS), z < 4294967296 → madW D1 s1 → (wz z s1).1 ≤ 160000 → R (wz z s1) → zfr fMad D D1 → Z (zmk iX9_writeLeft (d + 3)) 0 101 (zl [(0, .ref 19), (1, .int (nI o)), (2, .int (nI (n / 2 ^ q))), (3, .int (nI p)), (5, .int (nI k)), (6, .int (nI i)), (7, .long (lN z))]) [] D1 Q := by
    intro p k i R next z
    induction z with
    | zero =>
      intro D1 s1 _ hR1 hb1 he hF
      refine z_lload dX9_writeLeft_101 (by exact rfl) ?_
      refine z_lconst dX9_writeLeft_103 ?_
      refine z_le (tgt := 123) dX9_writeLeft_104 dX9_writeLeft_105 (by decide) (fun _ => ?_) (fun q9 => absurd ((by decide)) q9)
      exact z_at [(0, .ref 19), (1, .int (nI o)), (2, .int (nI (n / 2 ^ q))), (3, .int (nI p)), (5, .int (nI k)), (6, .int (nI i))] ⟨rfl, rfl, rfl, rfl, rfl, rfl, trivial⟩ (next D1 s1 hR1 he hF)
    | succ z ih =>
      intro D1 s1 hz hR1 hb1 he hF
      have e1 : wz z (wp 1 0 s1) = wz (z + 1) s1 := by
        rw [wp_z 1 hR1.2, wz_wz, Nat.add_comm]
      refine z_lload dX9_writeLeft_101 (by exact rfl) ?_
      refine z_lconst dX9_writeLeft_103 ?_
      refine z_le (tgt := 123) dX9_writeLeft_104 dX9_writeLeft_105 (by decide) (fun q9 => absurd q9 ((fun q => absurd ((pk_lLE (a := z + 1) (b := 0) (by omega) (by omega)).mp q) (by omega)))) (fun _ => ?_)
      refine z_aload_n dX9_writeLeft_108 (by exact rfl) ?_
      refine z_iconst dX9_writeLeft_109 ?_
      refine z_lconst dX9_writeLeft_110 ?_
      refine z_cV dX9_writeLeft_111 zk_X9_217 (by exact rfl) (by exact rfl) (by exact rfl) (Nat.le_of_ble_eq_true rfl) (Nat.le_of_ble_eq_true rfl) (Nat.le_refl _) ?_
      refine c_writeW (w := 1) (x := 0) (by omega) (by
        have hb1 : s1.1 + (z + 1) ≤ 160000 := hb1
        show s1.1 + 1 ≤ 160000
        omega) hR1 (fun D2 hR2 hf2 => ?_)
      refine z_lload dX9_writeLeft_114 (by exact rfl) ?_
      refine z_lconst dX9_writeLeft_116 ?_
      refine z_lsub dX9_writeLeft_117 ?_
      refine z_eJ (lN z) (lN_sub (a := z + 1) (b := 1) (by omega)) ?_
      refine z_lstore dX9_writeLeft_118 (Nat.le_of_ble_eq_true rfl) ?_
      refine z_goto (tgt := 101) dX9_writeLeft_120 (by decide) ?_
      exact z_at [(0, .ref 19), (1, .int (nI o)), (2, .int (nI (n / 2 ^ q))), (3, .int (nI p)), (5, .int (nI k)), (6, .int (nI i)), (7, .long (lN z))] ⟨rfl, rfl, rfl, rfl, rfl, rfl, rfl, trivial⟩ (ih D2 _ (by omega) hR2 (by rw [e1]; exact hb1) (by rw [e1]; exact he) (hF.tr hf2))
  have nums : ∀ (p : Nat), p < 2 ^ q → ∀ (R : WS → WS), (∀ s, s.1 ≤ (R s).1) → (∀ (D1 : zD) (s1 : WS), madW D1 s1 → (R s1).1 ≤ 160000 → R s1 = wl (wpart u n o q) 0 (2 ^ q) (wp 4 (q : Nat) (wp 2 0 s)) → zfr fMad D D1 → Z (zmk iX9_writeLeft (d + 3)) 0 151 (zl [(0, .ref 19), (1, .int (nI o)), (2, .int (nI (n / 2 ^ q))), (3, .int (nI p))]) [] D1 Q) →
      ∀ (j i : Nat) (D1 : zD) (s1 : WS), i + j = (p + 1) * (n / 2 ^ q) → pst n o q p ≤ i → madW D1 s1 → (R (wl (wone u (pK u n o q p)) i j s1)).1 ≤ 160000 → R (wl (wone u (pK u n o q p)) i j s1) = wl (wpart u n o q) 0 (2 ^ q) (wp 4 (q : Nat) (wp 2 0 s)) → zfr fMad D D1 → Z (zmk iX9_writeLeft (d + 3)) 0 76 (zl [(0, .ref 19), (1, .int (nI o)), (2, .int (nI (n / 2 ^ q))), (3, .int (nI p)), (5, .int (nI (pK u n o q p))), (6, .int (nI i))]) [] D1 Q := by
    intro p hp R hRm next j
    obtain ⟨q1, q2, q3, q4⟩ := part_in hv hp
    have hend : (nI p + Int32.ofInt 1) * nI (n / 2 ^ q) = nI ((p + 1) * (n / 2 ^ q)) := by
      rw [show nI p + Int32.ofInt 1 = nI (p + 1) from nI_1 p, pk_mul]
    have hk15 : pK u n o q p < 15 := bk_lt _ _ _
    induction j with
    | zero =>
      intro i D1 s1 hi hge hR1 hb1 he hF
      refine z_iload dX9_writeLeft_76 (by exact rfl) ?_
      refine z_iload_n dX9_writeLeft_78 (by exact rfl) ?_
      refine z_iconst dX9_writeLeft_79 ?_
      refine z_iadd dX9_writeLeft_80 ?_
      refine z_iload_n dX9_writeLeft_81 (by exact rfl) ?_
      refine z_imul dX9_writeLeft_82 ?_
      refine z_eI (nI ((p + 1) * (n / 2 ^ q))) hend ?_
      refine z_icmp_ge (tgt := 151) dX9_writeLeft_83 (by decide) (fun _ => ?_) (fun q9 => absurd ((nI_le (by omega) (by omega))) q9)
      exact z_at [(0, .ref 19), (1, .int (nI o)), (2, .int (nI (n / 2 ^ q))), (3, .int (nI p))] ⟨rfl, rfl, rfl, rfl, trivial⟩ (next D1 s1 hR1 hb1 he hF)
    | succ j ih =>
      intro i D1 s1 hi hge hR1 hb1 he hF
      have hbo : (wone u (pK u n o q p) i s1).1 ≤ 160000 := Nat.le_trans (Nat.le_trans (wl_ge (fun j s => (wone_len u _ j).ge s) j (i + 1) _) (hRm _)) hb1
      have hl1 : (wp 1 1 (wz (u i / 2 ^ pK u n o q p) s1)).1 ≤ 160000 := Nat.le_trans ((wp_len _ _).ge _) hbo
      have hl0 : (wz (u i / 2 ^ pK u n o q p) s1).1 ≤ 160000 := Nat.le_trans ((wp_len _ _).ge _) hl1
      have cl : (nI i).toNatClampNeg = i := nI_clamp (by omega)
      have hui := hu.bd i (by omega) (by omega)
      have hdl : u i / 2 ^ pK u n o q p ≤ u i := Nat.div_le_self _ _
      obtain ⟨e, e1, e2, e3⟩ := (hset hF).2.2 i (by omega) (by omega)
      refine z_iload dX9_writeLeft_76 (by exact rfl) ?_
      refine z_iload_n dX9_writeLeft_78 (by exact rfl) ?_
      refine z_iconst dX9_writeLeft_79 ?_
      refine z_iadd dX9_writeLeft_80 ?_
      refine z_iload_n dX9_writeLeft_81 (by exact rfl) ?_
      refine z_imul dX9_writeLeft_82 ?_
      refine z_eI (nI ((p + 1) * (n / 2 ^ q))) hend ?_
      refine z_icmp_ge (tgt := 151) dX9_writeLeft_83 (by decide) (fun q9 => absurd q9 ((nI_ge (by omega) (by omega)))) (fun _ => ?_)
      refine z_aload_n dX9_writeLeft_86 (by exact rfl) ?_
      refine z_gfA zfx_X9_58 (by exact rfl) dX9_writeLeft_87 ?_
      refine z_iload dX9_writeLeft_90 (by exact rfl) ?_
      refine z_aJ (by exact rfl) dX9_writeLeft_92 (vp_in_nI (by omega) (by omega)) ?_
      refine z_eJ (lI e) (by rw [cl]; exact e1) ?_
      refine z_cS dX9_writeLeft_93 zk_X9_135 (by exact rfl) (Nat.le_of_ble_eq_true rfl) (Nat.le_of_ble_eq_true rfl) (Nat.le_refl _) ?_
      refine c_folded9 e2 ?_
      refine z_eJ (lN (u i)) (by rw [e3]) ?_
      refine z_iload dX9_writeLeft_96 (by exact rfl) ?_
      refine z_lshr dX9_writeLeft_98 ?_
      refine z_eJ (lN (u i / 2 ^ pK u n o q p)) (lN_shr (by omega) (by omega)) ?_
      refine z_lstore dX9_writeLeft_99 (Nat.le_of_ble_eq_true rfl) ?_
      exact z_at [(0, .ref 19), (1, .int (nI o)), (2, .int (nI (n / 2 ^ q))), (3, .int (nI p)), (5, .int (nI (pK u n o q p))), (6, .int (nI i)), (7, .long (lN (u i / 2 ^ pK u n o q p)))] ⟨rfl, rfl, rfl, rfl, rfl, rfl, rfl, trivial⟩ (zs p (pK u n o q p) i (fun s2 => s2 = wz (u i / 2 ^ pK u n o q p) s1) (fun D2 s2 hR2 es2 hF2 => by
        subst es2
        obtain ⟨e', f1, f2, f3⟩ := hu i (by omega) (by omega)
        refine z_aload_n dX9_writeLeft_123 (by exact rfl) ?_
        refine z_iconst dX9_writeLeft_124 ?_
        refine z_lconst dX9_writeLeft_125 ?_
        refine z_cV dX9_writeLeft_126 zk_X9_217 (by exact rfl) (by exact rfl) (by exact rfl) (Nat.le_of_ble_eq_true rfl) (Nat.le_of_ble_eq_true rfl) (Nat.le_refl _) ?_
        refine c_writeW (w := 1) (x := 1) (by omega) hl1 hR2 (fun D3 hR3 hf3 => ?_)
        have hF3 := hF2.tr hf3
        refine z_aload_n dX9_writeLeft_129 (by exact rfl) ?_
        refine z_iload dX9_writeLeft_130 (by exact rfl) ?_
        refine z_aload_n dX9_writeLeft_132 (by exact rfl) ?_
        refine z_gfA zfx_X9_58 (by exact rfl) dX9_writeLeft_133 ?_
        refine z_iload dX9_writeLeft_136 (by exact rfl) ?_
        refine z_aJ (by exact rfl) dX9_writeLeft_138 (vp_in_nI (by omega) (by omega)) ?_
        refine z_eJ (lI e') (by rw [cl]; exact (hF3.2 62 i rfl).trans f1) ?_
        refine z_cS dX9_writeLeft_139 zk_X9_135 (by exact rfl) (Nat.le_of_ble_eq_true rfl) (Nat.le_of_ble_eq_true rfl) (Nat.le_refl _) ?_
        refine c_folded9 f2 ?_
        refine z_eJ (lI ((u i : Nat) : Int)) (by rw [f3, lI_N]) ?_
        refine z_cV dX9_writeLeft_142 zk_X9_217 (by exact rfl) (by exact rfl) (by exact rfl) (Nat.le_of_ble_eq_true rfl) (Nat.le_of_ble_eq_true rfl) (Nat.le_refl _) ?_
        refine c_writeW (by omega) hbo hR3 (fun D4 hR4 hf4 => ?_)
        refine z_iinc dX9_writeLeft_145 (by exact rfl) ?_
        refine z_at [(0, .ref 19), (1, .int (nI o)), (2, .int (nI (n / 2 ^ q))), (3, .int (nI p)), (5, .int (nI (pK u n o q p))), (6, .int (nI (i + 1)))] ⟨rfl, rfl, rfl, rfl, rfl, congrArg (fun x => some (Value.int x)) (nI_1 i), trivial⟩ ?_
        refine z_goto (tgt := 76) dX9_writeLeft_148 (by decide) ?_
        exact ih (i + 1) D4 _ (by omega) (by omega) hR4 hb1 he (hF3.tr hf4)
        ) _ D1 s1 (Nat.lt_of_le_of_lt hdl (by omega)) hR1 hl0 rfl hF)
  have parts : ∀ (j p : Nat) (D1 : zD) (s1 : WS), p + j = 2 ^ q → madW D1 s1 → (wl (wpart u n o q) p j s1).1 ≤ 160000 → wl (wpart u n o q) p j s1 = wl (wpart u n o q) 0 (2 ^ q) (wp 4 (q : Nat) (wp 2 0 s)) → zfr fMad D D1 → Z (zmk iX9_writeLeft (d + 3)) 0 28 (zl [(0, .ref 19), (1, .int (nI o)), (2, .int (nI (n / 2 ^ q))), (3, .int (nI p))]) [] D1 Q := by
    intro j
    induction j with
    | zero =>
      intro p D1 s1 hp hR1 hb1 he hF
      have hp : p = 2 ^ q := by omega
      subst hp
      refine z_iload_n dX9_writeLeft_28 (by exact rfl) ?_
      refine z_iconst dX9_writeLeft_29 ?_
      refine z_aload_n dX9_writeLeft_30 (by exact rfl) ?_
      refine z_gfI zfx_X9_161 (by exact rfl) dX9_writeLeft_31 ?_
      refine z_eI (nI q) (hset hF).2.1 ?_
      refine z_ishl dX9_writeLeft_34 ?_
      refine z_eI (nI (2 ^ q)) (q_p2 q (by omega)) ?_
      refine z_icmp_ge (tgt := 157) dX9_writeLeft_35 (by decide) (fun _ => ?_) (fun q9 => absurd ((nI_le (Nat.le_refl _) (by omega))) q9)
      exact z_vret (st := []) rfl dX9_writeLeft_157 (hq D1 (by rw [← he]; exact hR1) hF)
    | succ j ih =>
      intro p D1 s1 hp hR1 hb1 he hF
      have hp2 : p < 2 ^ q := by omega
      obtain ⟨q1, q2, q3, q4⟩ := part_in hv hp2
      have hp8 := p2_le hq3 hp2
      have hk15 : pK u n o q p < 15 := bk_lt _ _ _
      have hbp : (wpart u n o q p s1).1 ≤ 160000 := Nat.le_trans (wl_ge (fun j s => (wpart_len u n o q j).ge s) j (p + 1) _) hb1
      have hb4 : (wp 4 (pK u n o q p : Nat) s1).1 ≤ 160000 := Nat.le_trans (wl_ge (fun j s => (wone_len u _ j).ge s) (pln n o q p) (pst n o q p) _) hbp
      have tl : Z (zmk iX9_writeLeft (d + 3)) 0 49 (zl [(0, .ref 19), (1, .int (nI o)), (2, .int (nI (n / 2 ^ q))), (3, .int (nI p))]) [.int (nI (pst n o q p))] D1 Q := by
        refine z_istore dX9_writeLeft_49 (Nat.le_of_ble_eq_true rfl) ?_
        refine z_aload_n dX9_writeLeft_51 (by exact rfl) ?_
        refine z_iload dX9_writeLeft_52 (by exact rfl) ?_
        refine z_iload_n dX9_writeLeft_54 (by exact rfl) ?_
        refine z_iconst dX9_writeLeft_55 ?_
        refine z_iadd dX9_writeLeft_56 ?_
        refine z_iload_n dX9_writeLeft_57 (by exact rfl) ?_
        refine z_imul dX9_writeLeft_58 ?_
        refine z_eI (nI (pst n o q p + pln n o q p)) (by
          rw [show nI p + Int32.ofInt 1 = nI (p + 1) from nI_1 p, pk_mul, q2]) ?_
        refine z_cV dX9_writeLeft_59 zk_X9_143 (by exact rfl) (by exact rfl) (by exact rfl) (Nat.le_of_ble_eq_true rfl) (Nat.le_of_ble_eq_true rfl) (Nat.le_refl _) ?_
        refine c_bestK (hset hF).2.2 q1 (by omega) hn ?_
        refine z_eI (nI (pK u n o q p)) rfl ?_
        refine z_istore dX9_writeLeft_62 (Nat.le_of_ble_eq_true rfl) ?_
        refine z_aload_n dX9_writeLeft_64 (by exact rfl) ?_
        refine z_iconst dX9_writeLeft_65 ?_
        refine z_iload dX9_writeLeft_66 (by exact rfl) ?_
        refine z_i2l dX9_writeLeft_68 ?_
        refine z_eJ (lI ((pK u n o q p : Nat) : Int)) (nI_lI (by omega)) ?_
        refine z_cV dX9_writeLeft_69 zk_X9_217 (by exact rfl) (by exact rfl) (by exact rfl) (Nat.le_of_ble_eq_true rfl) (Nat.le_of_ble_eq_true rfl) (Nat.le_refl _) ?_
        refine c_writeW (w := 4) (by omega) hb4 hR1 (fun D2 hR2 hf2 => ?_)
        refine z_iload dX9_writeLeft_72 (by exact rfl) ?_
        refine z_istore dX9_writeLeft_74 (Nat.le_of_ble_eq_true rfl) ?_
        exact z_at [(0, .ref 19), (1, .int (nI o)), (2, .int (nI (n / 2 ^ q))), (3, .int (nI p)), (5, .int (nI (pK u n o q p))), (6, .int (nI (pst n o q p)))] ⟨rfl, rfl, rfl, rfl, rfl, rfl, trivial⟩ (nums p hp2 (wl (wpart u n o q) (p + 1) j) (fun s => wl_ge (fun j s => (wpart_len u n o q j).ge s) j (p + 1) s) (fun D3 s3 hR3 hb3 he3 hF3 => by
          refine z_iinc dX9_writeLeft_151 (by exact rfl) ?_
          refine z_at [(0, .ref 19), (1, .int (nI o)), (2, .int (nI (n / 2 ^ q))), (3, .int (nI (p + 1)))] ⟨rfl, rfl, rfl, congrArg (fun x => some (Value.int x)) (nI_1 p), trivial⟩ ?_
          refine z_goto (tgt := 28) dX9_writeLeft_154 (by decide) ?_
          exact ih (p + 1) D3 s3 (by omega) hR3 hb3 he3 hF3
          ) (pln n o q p) (pst n o q p) D2 _ (by omega) (Nat.le_refl _) hR2 hb1 he (hF.tr hf2))
      refine z_iload_n dX9_writeLeft_28 (by exact rfl) ?_
      refine z_iconst dX9_writeLeft_29 ?_
      refine z_aload_n dX9_writeLeft_30 (by exact rfl) ?_
      refine z_gfI zfx_X9_161 (by exact rfl) dX9_writeLeft_31 ?_
      refine z_eI (nI q) (hset hF).2.1 ?_
      refine z_ishl dX9_writeLeft_34 ?_
      refine z_eI (nI (2 ^ q)) (q_p2 q (by omega)) ?_
      refine z_icmp_ge (tgt := 157) dX9_writeLeft_35 (by decide) (fun q9 => absurd q9 ((nI_ge (a := p) (b := 2 ^ q) (by omega) (by omega)))) (fun _ => ?_)
      refine z_iload_n dX9_writeLeft_38 (by exact rfl) ?_
      refine z_if_ne (tgt := 46) dX9_writeLeft_39 (by decide) (fun c39 => ?_) (fun c39 => ?_)
      · refine z_iload_n dX9_writeLeft_46 (by exact rfl) ?_
        refine z_iload_n dX9_writeLeft_47 (by exact rfl) ?_
        refine z_imul dX9_writeLeft_48 ?_
        refine z_eI (nI (pst n o q p)) (by
          have hp0 : ¬ p = 0 := fun q => c39 (by rw [q]; rfl)
          have h5 : pst n o q p = p * (n / 2 ^ q) := if_neg hp0
          rw [pk_mul, h5]) ?_
        exact tl
      · refine z_iload_n dX9_writeLeft_42 (by exact rfl) ?_
        refine z_eI (nI (pst n o q p)) (by
          have hp0 : p = 0 := (nI_eq (a := p) (b := 0) (by omega) (by omega)).mp c39
          have h5 : pst n o q p = o := if_pos hp0
          rw [h5]) ?_
        refine z_goto (tgt := 49) dX9_writeLeft_43 (by decide) ?_
        exact tl
  have hb2 : (wp 4 (q : Nat) (wp 2 0 s)).1 ≤ 160000 := Nat.le_trans (wl_ge (fun j s => (wpart_len u n o q j).ge s) (2 ^ q) 0 _) hb
  have hb0 : (wp 2 0 s).1 ≤ 160000 := Nat.le_trans ((wp_len _ _).ge _) hb2
  refine z_aload_n dX9_writeLeft_0 (by exact rfl) ?_
  refine z_iconst dX9_writeLeft_1 ?_
  refine z_lconst dX9_writeLeft_2 ?_
  refine z_cV dX9_writeLeft_3 zk_X9_217 (by exact rfl) (by exact rfl) (by exact rfl) (Nat.le_of_ble_eq_true rfl) (Nat.le_of_ble_eq_true rfl) (Nat.le_refl _) ?_
  refine c_writeW (w := 2) (x := 0) (by omega) hb0 hR (fun D1 hR1 hf1 => ?_)
  refine z_aload_n dX9_writeLeft_6 (by exact rfl) ?_
  refine z_iconst dX9_writeLeft_7 ?_
  refine z_aload_n dX9_writeLeft_8 (by exact rfl) ?_
  refine z_gfI zfx_X9_161 (by exact rfl) dX9_writeLeft_9 ?_
  refine z_eI (nI q) (hset hf1).2.1 ?_
  refine z_i2l dX9_writeLeft_12 ?_
  refine z_eJ (lI ((q : Nat) : Int)) (nI_lI (by omega)) ?_
  refine z_cV dX9_writeLeft_13 zk_X9_217 (by exact rfl) (by exact rfl) (by exact rfl) (Nat.le_of_ble_eq_true rfl) (Nat.le_of_ble_eq_true rfl) (Nat.le_refl _) ?_
  refine c_writeW (w := 4) (by omega) hb2 hR1 (fun D2 hR2 hf2 => ?_)
  have hF2 := hf1.tr hf2
  refine z_aload_n dX9_writeLeft_16 (by exact rfl) ?_
  refine z_gfI zfx_X9_108 (by exact rfl) dX9_writeLeft_17 ?_
  refine z_eI (nI n) (hset hF2).1 ?_
  refine z_aload_n dX9_writeLeft_20 (by exact rfl) ?_
  refine z_gfI zfx_X9_161 (by exact rfl) dX9_writeLeft_21 ?_
  refine z_eI (nI q) (hset hF2).2.1 ?_
  refine z_ishr dX9_writeLeft_24 ?_
  refine z_eI (nI (n / 2 ^ q)) (pk_shrN (by omega) _ q (sm31 q (by omega))) ?_
  refine z_istore_n dX9_writeLeft_25 (Nat.le_of_ble_eq_true rfl) ?_
  refine z_iconst dX9_writeLeft_26 ?_
  refine z_istore_n dX9_writeLeft_27 (Nat.le_of_ble_eq_true rfl) ?_
  exact z_at [(0, .ref 19), (1, .int (nI o)), (2, .int (nI (n / 2 ^ q))), (3, .int (nI 0))] ⟨rfl, rfl, rfl, rfl, trivial⟩ (parts (2 ^ q) 0 D2 _ (by omega) hR2 hb rfl hF2)
