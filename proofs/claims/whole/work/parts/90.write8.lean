/-! ===== Residuals.write, Chooser.write ===== -/
def penW (D : zD) (s : WS) : Prop := penR D s.1 s.2
theorem penW.fr {D D' : zD} {F : Nat → Nat → Bool} {s : WS} (h : penW D s) (hF : zfr F D D') (h1 : ∀ k, F 6 k = false) (h2 : ∀ k, F 7 k = false) : penW D' s := by
  obtain ⟨r1, r2, r3, r4, r5⟩ := h
  have e : D'.1 7 = D.1 7 := funext fun k => hF.1 7 k (h2 k)
  refine ⟨(hF.1 6 1 (h1 1)).trans r1, r2, fun i hi => ?_, r4, fun i hi => ?_⟩
  · rw [e]
    exact r3 i hi
  · rw [e]
    exact r5 i hi
theorem c_putW {d w : Nat} {x : Int} {D : zD} {s : WS} {Q : zQ} (hw : w ≤ 63) (hn : (wp w x s).1 ≤ 160000) (hR : penW D s) (hq : ∀ D', penW D' (wp w x s) → zfr fPen D D' → Q (.inl none) 0 D') : ZM yX2_put iX2_put d [.ref 6, .int (nI w), .long (lI x)] D Q := c_put hw hn hR (fun D' hF hR' => hq D' hR' hF)
theorem c_putZerosW {d m : Nat} {D : zD} {s : WS} {Q : zQ} (hn : (wz m s).1 ≤ 160000) (hR : penW D s) (hq : ∀ D', penW D' (wz m s) → zfr fPen D D' → Q (.inl none) 0 D') : ZM yX2_putZeros iX2_putZeros d [.ref 6, .int (nI m)] D Q := c_putZeros hn hR (fun D' hF hR' => hq D' hR' hF)
theorem nI_lI {n : Nat} (h : n < 2 ^ 31) : (nI n).toInt64 = lI ((n : Nat) : Int) := by rw [nI_l h, lI_N]
theorem fPen_n {a k : Nat} (h1 : ¬ a = 6) (h2 : ¬ a = 7) : fPen a k = false := by
  unfold fPen
  simp
  omega
theorem c_resWrite {d n o : Nat} {D : zD} {Q : zQ} {u : Nat → Nat} {s : WS} (h1 : D.1 13 1 = nI n) (h2 : D.1 13 2 = nI o) (hn : n ≤ 256) (hv : vq n o (bq u n o)) (hu : ∀ i, o ≤ i → i < n → D.2 14 i = lN (u i) ∧ u i < 4294967296) (h6 : D.1 13 6 = nI (bq u n o)) (hk : ∀ p, p < 2 ^ bq u n o → D.1 16 p = nI (pK u n o (bq u n o) p)) (hR : penW D s) (hb : (wres u n o s).1 ≤ 160000) (hq : ∀ D', penW D' (wres u n o s) → zfr fPen D D' → Q (.inl none) 0 D') :
    ZM yX5_write iX5_write (d + 1) [.ref 13, .ref 6] D Q := by
  refine z_method (by decide) rfl (Nat.le_of_ble_eq_true rfl) ?_
  refine z_at [(0, .ref 13), (1, .ref 6)] ⟨rfl, rfl, trivial⟩ ?_
  obtain ⟨q, eq⟩ : ∃ q, q = bq u n o := ⟨_, rfl⟩
  have ew : ∀ s, wres u n o s = wl (wpart u n o q) 0 (2 ^ q) (wp 4 (q : Nat) (wp 2 0 s)) := fun s => by
    rw [eq]
    rfl
  rw [ew] at hb hq
  rw [← eq] at hv h6 hk
  have hq3 := hv.1
  have h8 : 2 ^ q ≤ 2 ^ 3 := Nat.pow_le_pow_right (by omega) hq3
  have hLn : n / 2 ^ q ≤ n := Nat.div_le_self _ _
  have hset : ∀ {D1 : zD}, zfr fPen D D1 → D1.1 13 1 = nI n ∧ D1.1 13 2 = nI o ∧ D1.1 13 6 = nI q ∧ (∀ i, o ≤ i → i < n → D1.2 14 i = lN (u i)) ∧ (∀ p, p < 2 ^ q → D1.1 16 p = nI (pK u n o q p)) := fun hF => ⟨(hF.1 13 1 rfl).trans h1, (hF.1 13 2 rfl).trans h2, (hF.1 13 6 rfl).trans h6, fun i a b => (hF.2 14 i rfl).trans (hu i a b).1, fun p hp => (hF.1 16 p rfl).trans (hk p hp)⟩
  have nums : ∀ (p : Nat), p < 2 ^ q → ∀ (R : WS → WS), (∀ s, s.1 ≤ (R s).1) → (∀ (D1 : zD) (s1 : WS), penW D1 s1 → (R s1).1 ≤ 160000 → R s1 = wl (wpart u n o q) 0 (2 ^ q) (wp 4 (q : Nat) (wp 2 0 s)) → zfr fPen D D1 → Z (zmk iX5_write (d + 1)) 0 116 (zl [(0, .ref 13), (1, .ref 6), (2, .int (nI (n / 2 ^ q))), (3, .int (nI p))]) [] D1 Q) →
      ∀ (j i : Nat) (D1 : zD) (s1 : WS), i + j = (p + 1) * (n / 2 ^ q) → pst n o q p ≤ i → penW D1 s1 → (R (wl (wone u (pK u n o q p)) i j s1)).1 ≤ 160000 → R (wl (wone u (pK u n o q p)) i j s1) = wl (wpart u n o q) 0 (2 ^ q) (wp 4 (q : Nat) (wp 2 0 s)) → zfr fPen D D1 → Z (zmk iX5_write (d + 1)) 0 66 (zl [(0, .ref 13), (1, .ref 6), (2, .int (nI (n / 2 ^ q))), (3, .int (nI p)), (4, .int (nI (pK u n o q p))), (5, .int (nI i))]) [] D1 Q := by
    intro p hp R hRm next j
    obtain ⟨q1, q2, q3, q4⟩ := part_in hv hp
    have hend : (nI p + Int32.ofInt 1) * nI (n / 2 ^ q) = nI ((p + 1) * (n / 2 ^ q)) := by
      rw [show nI p + Int32.ofInt 1 = nI (p + 1) from nI_1 p, pk_mul]
    have hk15 : pK u n o q p < 15 := bk_lt _ _ _
    induction j with
    | zero =>
      intro i D1 s1 hi hge hR1 hb1 he hF
      have hi : i = (p + 1) * (n / 2 ^ q) := by omega
      refine z_iload dX5_write_66 (by exact rfl) ?_
      refine z_iload_n dX5_write_68 (by exact rfl) ?_
      refine z_iconst dX5_write_69 ?_
      refine z_iadd dX5_write_70 ?_
      refine z_iload_n dX5_write_71 (by exact rfl) ?_
      refine z_imul dX5_write_72 ?_
      refine z_eI (nI ((p + 1) * (n / 2 ^ q))) hend ?_
      refine z_icmp_ge (tgt := 116) dX5_write_73 (by decide) (fun _ => ?_) (fun q9 => absurd ((nI_le (by omega) (by omega))) q9)
      exact z_at [(0, .ref 13), (1, .ref 6), (2, .int (nI (n / 2 ^ q))), (3, .int (nI p))] ⟨rfl, rfl, rfl, rfl, trivial⟩ (next D1 s1 hR1 hb1 he hF)
    | succ j ih =>
      intro i D1 s1 hi hge hR1 hb1 he hF
      have hbo : (wone u (pK u n o q p) i s1).1 ≤ 160000 := Nat.le_trans (Nat.le_trans (wl_ge (fun j s => (wone_len u _ j).ge s) j (i + 1) _) (hRm _)) hb1
      have hl1 : (wp 1 1 (wz (u i / 2 ^ pK u n o q p) s1)).1 ≤ 160000 := Nat.le_trans ((wp_len _ _).ge _) hbo
      have hl0 : (wz (u i / 2 ^ pK u n o q p) s1).1 ≤ 160000 := Nat.le_trans ((wp_len _ _).ge _) hl1
      have cl : (nI i).toNatClampNeg = i := nI_clamp (by omega)
      have hui := (hu i (by omega) (by omega)).2
      refine z_iload dX5_write_66 (by exact rfl) ?_
      refine z_iload_n dX5_write_68 (by exact rfl) ?_
      refine z_iconst dX5_write_69 ?_
      refine z_iadd dX5_write_70 ?_
      refine z_iload_n dX5_write_71 (by exact rfl) ?_
      refine z_imul dX5_write_72 ?_
      refine z_eI (nI ((p + 1) * (n / 2 ^ q))) hend ?_
      refine z_icmp_ge (tgt := 116) dX5_write_73 (by decide) (fun q9 => absurd q9 ((nI_ge (by omega) (by omega)))) (fun _ => ?_)
      refine z_aload_n dX5_write_76 (by exact rfl) ?_
      refine z_aload_n dX5_write_77 (by exact rfl) ?_
      refine z_gfA zfx_X5_9 (by exact rfl) dX5_write_78 ?_
      refine z_iload dX5_write_81 (by exact rfl) ?_
      refine z_aJ (by exact rfl) dX5_write_83 (vp_in_nI (by omega) (by omega)) ?_
      refine z_eJ (lN (u i)) (by rw [cl]; exact (hset hF).2.2.2.1 i (by omega) (by omega)) ?_
      refine z_iload dX5_write_84 (by exact rfl) ?_
      refine z_lshr dX5_write_86 ?_
      refine z_eJ (lN (u i / 2 ^ pK u n o q p)) (lN_shr (by omega) (by omega)) ?_
      refine z_l2i dX5_write_87 ?_
      refine z_eI (nI (u i / 2 ^ pK u n o q p)) (lN_i _) ?_
      refine z_cV dX5_write_88 zk_X5_103 (by exact rfl) (by exact rfl) (by exact rfl) (Nat.le_of_ble_eq_true rfl) (Nat.le_of_ble_eq_true rfl) (Nat.le_refl _) ?_
      refine c_putZerosW hl0 hR1 (fun D2 hR2 hf2 => ?_)
      refine z_aload_n dX5_write_91 (by exact rfl) ?_
      refine z_iconst dX5_write_92 ?_
      refine z_lconst dX5_write_93 ?_
      refine z_cV dX5_write_94 zk_X5_97 (by exact rfl) (by exact rfl) (by exact rfl) (Nat.le_of_ble_eq_true rfl) (Nat.le_of_ble_eq_true rfl) (Nat.le_refl _) ?_
      refine c_putW (w := 1) (x := 1) (by omega) hl1 hR2 (fun D3 hR3 hf3 => ?_)
      have hF3 := (hF.tr hf2).tr hf3
      refine z_aload_n dX5_write_97 (by exact rfl) ?_
      refine z_iload dX5_write_98 (by exact rfl) ?_
      refine z_aload_n dX5_write_100 (by exact rfl) ?_
      refine z_gfA zfx_X5_9 (by exact rfl) dX5_write_101 ?_
      refine z_iload dX5_write_104 (by exact rfl) ?_
      refine z_aJ (by exact rfl) dX5_write_106 (vp_in_nI (by omega) (by omega)) ?_
      refine z_eJ (lI ((u i : Nat) : Int)) (by rw [cl, ← lI_N]; exact (hset hF3).2.2.2.1 i (by omega) (by omega)) ?_
      refine z_cV dX5_write_107 zk_X5_97 (by exact rfl) (by exact rfl) (by exact rfl) (Nat.le_of_ble_eq_true rfl) (Nat.le_of_ble_eq_true rfl) (Nat.le_refl _) ?_
      refine c_putW (by omega) hbo hR3 (fun D4 hR4 hf4 => ?_)
      refine z_iinc dX5_write_110 (by exact rfl) ?_
      refine z_at [(0, .ref 13), (1, .ref 6), (2, .int (nI (n / 2 ^ q))), (3, .int (nI p)), (4, .int (nI (pK u n o q p))), (5, .int (nI (i + 1)))] ⟨rfl, rfl, rfl, rfl, rfl, congrArg (fun x => some (Value.int x)) (nI_1 i), trivial⟩ ?_
      refine z_goto (tgt := 66) dX5_write_113 (by decide) ?_
      exact ih (i + 1) D4 _ (by omega) (by omega) hR4 hb1 he (hF3.tr hf4)
  have parts : ∀ (j p : Nat) (D1 : zD) (s1 : WS), p + j = 2 ^ q → penW D1 s1 → (wl (wpart u n o q) p j s1).1 ≤ 160000 → wl (wpart u n o q) p j s1 = wl (wpart u n o q) 0 (2 ^ q) (wp 4 (q : Nat) (wp 2 0 s)) → zfr fPen D D1 → Z (zmk iX5_write (d + 1)) 0 28 (zl [(0, .ref 13), (1, .ref 6), (2, .int (nI (n / 2 ^ q))), (3, .int (nI p))]) [] D1 Q := by
    intro j
    induction j with
    | zero =>
      intro p D1 s1 hp hR1 hb1 he hF
      have hp : p = 2 ^ q := by omega
      subst hp
      refine z_iload_n dX5_write_28 (by exact rfl) ?_
      refine z_iconst dX5_write_29 ?_
      refine z_aload_n dX5_write_30 (by exact rfl) ?_
      refine z_gfI zfx_X5_71 (by exact rfl) dX5_write_31 ?_
      refine z_eI (nI q) (hset hF).2.2.1 ?_
      refine z_ishl dX5_write_34 ?_
      refine z_eI (nI (2 ^ q)) (q_p2 q (by omega)) ?_
      refine z_icmp_ge (tgt := 122) dX5_write_35 (by decide) (fun _ => ?_) (fun q9 => absurd ((nI_le (Nat.le_refl _) (by omega))) q9)
      exact z_vret (st := []) rfl dX5_write_122 (hq D1 (by rw [← he]; exact hR1) hF)
    | succ j ih =>
      intro p D1 s1 hp hR1 hb1 he hF
      have hp2 : p < 2 ^ q := by omega
      obtain ⟨q1, q2, q3, q4⟩ := part_in hv hp2
      have hk15 : pK u n o q p < 15 := bk_lt _ _ _
      have hbp : (wpart u n o q p s1).1 ≤ 160000 := Nat.le_trans (wl_ge (fun j s => (wpart_len u n o q j).ge s) j (p + 1) _) hb1
      have hb4 : (wp 4 (pK u n o q p : Nat) s1).1 ≤ 160000 := Nat.le_trans (wl_ge (fun j s => (wone_len u _ j).ge s) (pln n o q p) (pst n o q p) _) hbp
      refine z_iload_n dX5_write_28 (by exact rfl) ?_
      refine z_iconst dX5_write_29 ?_
      refine z_aload_n dX5_write_30 (by exact rfl) ?_
      refine z_gfI zfx_X5_71 (by exact rfl) dX5_write_31 ?_
      refine z_eI (nI q) (hset hF).2.2.1 ?_
      refine z_ishl dX5_write_34 ?_
      refine z_eI (nI (2 ^ q)) (q_p2 q (by omega)) ?_
      refine z_icmp_ge (tgt := 122) dX5_write_35 (by decide) (fun q9 => absurd q9 ((nI_ge (a := p) (b := 2 ^ q) (by omega) (by omega)))) (fun _ => ?_)
      refine z_aload_n dX5_write_38 (by exact rfl) ?_
      refine z_gfA zfx_X5_18 (by exact rfl) dX5_write_39 ?_
      refine z_iload_n dX5_write_42 (by exact rfl) ?_
      refine z_aI (by exact rfl) dX5_write_43 (vp_in_nI (by have := p2_le hq3 hp2; omega) (by omega)) ?_
      refine z_eI (nI (pK u n o q p)) (by
        rw [nI_clamp (n := p) (by have := p2_le hq3 hp2; omega)]
        exact (hset hF).2.2.2.2 p hp2) ?_
      refine z_istore dX5_write_44 (Nat.le_of_ble_eq_true rfl) ?_
      refine z_aload_n dX5_write_46 (by exact rfl) ?_
      refine z_iconst dX5_write_47 ?_
      refine z_iload dX5_write_48 (by exact rfl) ?_
      refine z_i2l dX5_write_50 ?_
      refine z_eJ (lI ((pK u n o q p : Nat) : Int)) (nI_lI (by omega)) ?_
      refine z_cV dX5_write_51 zk_X5_97 (by exact rfl) (by exact rfl) (by exact rfl) (Nat.le_of_ble_eq_true rfl) (Nat.le_of_ble_eq_true rfl) (Nat.le_refl _) ?_
      refine c_putW (w := 4) (by omega) hb4 hR1 (fun D2 hR2 hf2 => ?_)
      have hF2 := hF.tr hf2
      refine z_aload_n dX5_write_54 (by exact rfl) ?_
      refine z_gfI zfx_X5_34 (by exact rfl) dX5_write_55 ?_
      refine z_eI (nI o) (hset hF2).2.1 ?_
      refine z_iload_n dX5_write_58 (by exact rfl) ?_
      refine z_iload_n dX5_write_59 (by exact rfl) ?_
      refine z_imul dX5_write_60 ?_
      refine z_eI (nI (p * (n / 2 ^ q))) (pk_mul _ _) ?_
      refine z_max dX5_write_61 zx_X5_87 (Nat.le_of_ble_eq_true rfl) (Nat.le_of_ble_eq_true rfl) ?_
      refine z_eI (nI (pst n o q p)) (pst_max hv hp2 hn) ?_
      refine z_istore dX5_write_64 (Nat.le_of_ble_eq_true rfl) ?_
      exact z_at [(0, .ref 13), (1, .ref 6), (2, .int (nI (n / 2 ^ q))), (3, .int (nI p)), (4, .int (nI (pK u n o q p))), (5, .int (nI (pst n o q p)))] ⟨rfl, rfl, rfl, rfl, rfl, rfl, trivial⟩ (nums p hp2 (wl (wpart u n o q) (p + 1) j) (fun s => wl_ge (fun j s => (wpart_len u n o q j).ge s) j (p + 1) s) (fun D3 s3 hR3 hb3 he3 hF3 => by
        refine z_iinc dX5_write_116 (by exact rfl) ?_
        refine z_at [(0, .ref 13), (1, .ref 6), (2, .int (nI (n / 2 ^ q))), (3, .int (nI (p + 1)))] ⟨rfl, rfl, rfl, congrArg (fun x => some (Value.int x)) (nI_1 p), trivial⟩ ?_
        refine z_goto (tgt := 28) dX5_write_119 (by decide) ?_
        exact ih (p + 1) D3 s3 (by omega) hR3 hb3 he3 hF3
        ) (pln n o q p) (pst n o q p) D2 _ (by omega) (Nat.le_refl _) hR2 hb1 he hF2)
  have hb2 : (wp 4 (q : Nat) (wp 2 0 s)).1 ≤ 160000 := Nat.le_trans (wl_ge (fun j s => (wpart_len u n o q j).ge s) (2 ^ q) 0 _) hb
  have hb0 : (wp 2 0 s).1 ≤ 160000 := Nat.le_trans ((wp_len _ _).ge _) hb2
  refine z_aload_n dX5_write_0 (by exact rfl) ?_
  refine z_iconst dX5_write_1 ?_
  refine z_lconst dX5_write_2 ?_
  refine z_cV dX5_write_3 zk_X5_97 (by exact rfl) (by exact rfl) (by exact rfl) (Nat.le_of_ble_eq_true rfl) (Nat.le_of_ble_eq_true rfl) (Nat.le_refl _) ?_
  refine c_putW (w := 2) (x := 0) (by omega) hb0 hR (fun D1 hR1 hf1 => ?_)
  refine z_aload_n dX5_write_6 (by exact rfl) ?_
  refine z_iconst dX5_write_7 ?_
  refine z_aload_n dX5_write_8 (by exact rfl) ?_
  refine z_gfI zfx_X5_71 (by exact rfl) dX5_write_9 ?_
  refine z_eI (nI q) (hset hf1).2.2.1 ?_
  refine z_i2l dX5_write_12 ?_
  refine z_eJ (lI ((q : Nat) : Int)) (nI_lI (by omega)) ?_
  refine z_cV dX5_write_13 zk_X5_97 (by exact rfl) (by exact rfl) (by exact rfl) (Nat.le_of_ble_eq_true rfl) (Nat.le_of_ble_eq_true rfl) (Nat.le_refl _) ?_
  refine c_putW (w := 4) (by omega) hb2 hR1 (fun D2 hR2 hf2 => ?_)
  have hF2 := hf1.tr hf2
  refine z_aload_n dX5_write_16 (by exact rfl) ?_
  refine z_gfI zfx_X5_25 (by exact rfl) dX5_write_17 ?_
  refine z_eI (nI n) (hset hF2).1 ?_
  refine z_aload_n dX5_write_20 (by exact rfl) ?_
  refine z_gfI zfx_X5_71 (by exact rfl) dX5_write_21 ?_
  refine z_eI (nI q) (hset hF2).2.2.1 ?_
  refine z_ishr dX5_write_24 ?_
  refine z_eI (nI (n / 2 ^ q)) (pk_shrN (by omega) _ q (sm31 q (by omega))) ?_
  refine z_istore_n dX5_write_25 (Nat.le_of_ble_eq_true rfl) ?_
  refine z_iconst dX5_write_26 ?_
  refine z_istore_n dX5_write_27 (Nat.le_of_ble_eq_true rfl) ?_
  exact z_at [(0, .ref 13), (1, .ref 6), (2, .int (nI (n / 2 ^ q))), (3, .int (nI 0))] ⟨rfl, rfl, rfl, rfl, trivial⟩ (parts (2 ^ q) 0 D2 _ (by omega) hR2 hb rfl hF2)
