/-! ===== Reader.readPart, readResiduals ===== -/
theorem q_pm : ∀ kb, kb ≤ 5 → (Int32.ofInt 1 <<< (nI kb &&& 31)) - Int32.ofInt 1 = nI (2 ^ kb - 1) := by decide
theorem unf_bd {u : Nat} {B : Nat} (h : u < 2 * B) : bd (B : Int) (unfI u) := by
  unfold unfI bd
  split <;> omega
theorem c_readPart {d p sz r b o s from0 to kb : Nat} {D : zD} {T : Nat → Bool} {Q : zQ} {sp : RT zRow} {a0 : zRow} {c : Nat → Int} (hr : zac r = some (0, 256)) (hr1 : ¬ r = 37) (hr2 : ¬ r = 38) (hr3 : ¬ r = 50) (hr4 : ¬ r = 51) (hp : pred8 D 50 51 o s c) (hs : s ≤ 15) (ho : o ≤ 32) (hof : o ≤ from0) (hft : from0 ≤ to) (hto : to ≤ 256) (hkb : 1 ≤ kb ∧ kb ≤ 5) (hb : 1 ≤ b ∧ b ≤ 25) (ha0 : row8 D r a0 from0) (hR : rd8 D T sz p) (hK : sPart T (8 * sz) b o (s, c) kb from0 to a0 p = sp)
    (h0 : ∀ D' k pl, sp = .inl (k, pl) → bad8 D' k pl → zfr (fRow r) D D' → Q (.inr zISE) 1 D') (h1 : ∀ D' a q, sp = .inr (a, q) → row8 D' r a to → rd8 D' T sz q → zfr (fRow r) D D' → Q (.inl none) 0 D') :
    ZM yX4_readPart iX4_readPart (d + 2) [.ref 37, .ref r, .int (nI from0), .int (nI to), .int (nI b), .int (nI kb)] D Q := by
  refine z_method (by decide) rfl (Nat.le_of_ble_eq_true rfl) ?_
  have wk : ∀ {X Y : zD}, zfr fAt X Y → zfr (fRow r) X Y := fun h => h.wk (fRow_at r)
  have lp : ∀ (pl : Bool) (w : Nat), w ≤ 31 → ∀ (m i : Nat) (D1 : zD) (p1 : Nat) (a : zRow), i + m = to → from0 ≤ i → row8 D1 r a i → rd8 D1 T sz p1 → zfr (fRow r) D D1 → rloop (sOne T (8 * sz) b o (s, c) pl w) i m a p1 = sp → Z (zmk iX4_readPart (d + 2)) 0 48 (zl [(0, .ref 37), (1, .ref r), (3, .int (nI to)), (4, .int (nI b)), (7, .int (nI pl.toNat)), (8, .int (nI w)), (9, .int (nI i))]) [] D1 Q := by
    intro pl w hw m
    induction m with
    | zero =>
      intro i D1 p1 a hi hfi ha hR1 hF hK1
      have hi : i = to := by omega
      subst hi
      refine z_iload dX4_readPart_48 (by exact rfl) ?_
      refine z_iload_n dX4_readPart_50 (by exact rfl) ?_
      refine z_icmp_ge (tgt := 158) dX4_readPart_51 (by decide) (fun _ => ?_) (fun q9 => absurd ((nI_le (Nat.le_refl _) (by omega))) q9)
      exact z_vret (st := []) rfl dX4_readPart_158 (h1 D1 a p1 hK1.symm ha hR1 hF)
    | succ m ih =>
      intro i D1 p1 a hi hfi ha hR1 hF hK1
      have hpD : ∀ {D2 : zD}, zfr (fRow r) D D2 → pred8 D2 50 51 o s c := fun {D2} hf => by
        have e50 : ∀ k, fRow r 50 k = false := fun k => by
          unfold fRow
          rw [fAt_row (by decide)]
          simpa using fun q => hr3 q.symm
        have e51 : ∀ k, fRow r 51 k = false := fun k => by
          unfold fRow
          rw [fAt_row (by decide)]
          simpa using fun q => hr4 q.symm
        exact ⟨(hf.1 50 1 (e50 1)).trans hp.1, (hf.1 50 2 (e50 2)).trans hp.2.1, fun j hj => by rw [hf.1 51 j (e51 j)]; exact hp.2.2 j hj⟩
      have tl : ∀ (D2 : zD) (p2 : Nat) (ev : Int), bd (2 ^ 50) ev → row8 D2 r a i → rd8 D2 T sz p2 → zfr (fRow r) D D2 → (inB b (fore c s o a i + ev) → rloop (sOne T (8 * sz) b o (s, c) pl w) (i + 1) m (uN a i (fore c s o a i + ev)) p2 = sp) → (¬ inB b (fore c s o a i + ev) → sp = .inl (2, p1)) → Z (zmk iX4_readPart (d + 2)) 0 111 (zl [(0, .ref 37), (1, .ref r), (3, .int (nI to)), (4, .int (nI b)), (7, .int (nI pl.toNat)), (8, .int (nI w)), (9, .int (nI i)), (10, .int (nI p1))]) [.long (lI ev)] D2 Q := by
        intro D2 p2 ev hev ha2 hR2 hF2 hg hbad
        have hfb := fore_bd (i := i) (s := s) ho (fun k hk => (hp.2.2 k hk).2) (fun k hk => (ha2 (i - 1 - k) (by omega)).2)
        unfold bd at hfb hev
        refine z_lstore dX4_readPart_111 (Nat.le_of_ble_eq_true rfl) ?_
        refine z_aload_n dX4_readPart_113 (by exact rfl) ?_
        refine z_gfA zfx_X4_46 (by exact rfl) dX4_readPart_114 ?_
        refine z_aload_n dX4_readPart_117 (by exact rfl) ?_
        refine z_iload dX4_readPart_118 (by exact rfl) ?_
        refine z_cV dX4_readPart_120 zk_X4_250 (by exact rfl) (by exact rfl) (by exact rfl) (Nat.le_of_ble_eq_true rfl) (Nat.le_of_ble_eq_true rfl) (Nat.le_refl _) ?_
        refine c_foretell (B := 51) (nb := 32) rfl rfl rfl rfl hr (hpD hF2) hs ho (by omega) (by omega) (by omega) ha2 ?_
        refine z_lload dX4_readPart_123 (by exact rfl) ?_
        refine z_ladd dX4_readPart_125 ?_
        refine z_eJ (lI (fore c s o a i + ev)) (lI_add _ _) ?_
        refine z_lstore dX4_readPart_126 (Nat.le_of_ble_eq_true rfl) ?_
        refine z_lload dX4_readPart_128 (by exact rfl) ?_
        refine z_iload dX4_readPart_130 (by exact rfl) ?_
        refine z_cN dX4_readPart_132 zk_X4_169 rfl (by exact rfl) (Nat.le_of_ble_eq_true rfl) (Nat.le_of_ble_eq_true rfl) (Nat.le_refl _) ?_
        refine c_fits8 (fun a132 b132 => ?_) (fun n132 => ?_)
        · refine z_if_ne (tgt := 145) dX4_readPart_135 (by decide) (fun _ => ?_) (fun q9 => absurd q9 (by decide))
          have hin := (zlim_in (b := b) (x := fore c s o a i + ev) hb.1 (by omega) (by omega) (by omega)).mp ⟨a132, b132⟩
          refine z_aload_n dX4_readPart_145 (by exact rfl) ?_
          refine z_iload dX4_readPart_146 (by exact rfl) ?_
          refine z_lload dX4_readPart_148 (by exact rfl) ?_
          refine z_l2i dX4_readPart_150 ?_
          refine z_eI (iI (fore c s o a i + ev)) (lI_i (by omega) (by omega)) ?_
          refine z_sI hr dX4_readPart_151 (vp_in_nI (by omega) (by omega)) ?_
          rw [nI_clamp (n := i) (by omega)]
          refine z_iinc dX4_readPart_152 (by exact rfl) ?_
          refine z_at [(0, .ref 37), (1, .ref r), (3, .int (nI to)), (4, .int (nI b)), (7, .int (nI pl.toNat)), (8, .int (nI w)), (9, .int (nI (i + 1)))] ⟨rfl, rfl, rfl, rfl, rfl, rfl, congrArg (fun x => some (Value.int x)) (nI_1 i), trivial⟩ ?_
          refine z_goto (tgt := 48) dX4_readPart_155 (by decide) ?_
          exact ih (i + 1) _ _ _ (by omega) (by omega) (ha2.up (inB_le (B := 24) hin (by omega))) (hR2.uI hr1 hr2) (hF2.uI _ fRow_r) (hg hin)
        · refine z_if_ne (tgt := 145) dX4_readPart_135 (by decide) (fun q9 => absurd rfl q9) (fun _ => ?_)
          refine z_aload_n dX4_readPart_138 (by exact rfl) ?_
          refine z_iconst dX4_readPart_139 ?_
          refine z_iload dX4_readPart_140 (by exact rfl) ?_
          refine z_cV dX4_readPart_142 zk_X4_95 (by exact rfl) (by exact rfl) (by exact rfl) (Nat.le_of_ble_eq_true rfl) (Nat.le_of_ble_eq_true rfl) (Nat.le_refl _) ?_
          exact c_fail (zx_out rfl (h0 _ 2 p1 (hbad (fun q => n132 ((zlim_in (b := b) (x := fore c s o a i + ev) hb.1 (by omega) (by omega) (by omega)).mpr q))) ⟨rfl, rfl⟩ (hF2.tr (wk ((zfr.rf.uI _ rfl).uI _ rfl)))))
      have hat : D1.1 37 7 = nI p1 := hR1.2.2.1
      cases pl with
      | true =>
        have hK2 : rbind (rit T (8 * sz) w kAny) (fun v => rbind (fun q => zif (inB b (fore c s o a i + sgI w v)) (.inr (uN a i (fore c s o a i + sgI w v), q)) (.inl (2, p1))) (rloop (sOne T (8 * sz) b o (s, c) true w) (i + 1) m)) p1 = sp := by
          rw [← hK1, ← rassoc]
          rfl
        refine z_iload dX4_readPart_48 (by exact rfl) ?_
        refine z_iload_n dX4_readPart_50 (by exact rfl) ?_
        refine z_icmp_ge (tgt := 158) dX4_readPart_51 (by decide) (fun q9 => absurd q9 ((nI_ge (a := i) (b := to) (by omega) (by omega)))) (fun _ => ?_)
        refine z_aload_n dX4_readPart_54 (by exact rfl) ?_
        refine z_gfI zfx_X4_64 (by exact rfl) dX4_readPart_55 ?_
        refine z_eI (nI p1) hat ?_
        refine z_istore dX4_readPart_58 (Nat.le_of_ble_eq_true rfl) ?_
        refine z_iload dX4_readPart_60 (by exact rfl) ?_
        refine z_if_eq (tgt := 69) dX4_readPart_62 (by decide) (fun q9 => absurd q9 ((by decide))) (fun _ => ?_)
        refine z_lconst dX4_readPart_65 ?_
        refine z_goto (tgt := 74) dX4_readPart_66 (by decide) ?_
        refine z_lstore dX4_readPart_74 (Nat.le_of_ble_eq_true rfl) ?_
        refine z_aload_n dX4_readPart_76 (by exact rfl) ?_
        refine z_iload dX4_readPart_77 (by exact rfl) ?_
        refine z_cV dX4_readPart_79 zk_X4_98 (by exact rfl) (by exact rfl) (by exact rfl) (Nat.le_of_ble_eq_true rfl) (Nat.le_of_ble_eq_true rfl) (Nat.le_refl _) ?_
        refine c_numA (w := w) (by omega) hR1 hK2 (fun D2 e hb hf => zx_out rfl (h0 D2 _ _ e hb (hF.tr (wk hf)))) (fun D2 v hv hK3 hR2 hit2 hf2 => ?_)
        have hv62 : v < 2 ^ 62 := Nat.lt_of_lt_of_le hv (Nat.pow_le_pow_right (by omega) (by omega))
        have hsb : bd (2 ^ 31 : Int) (sgI w v) := by
          rcases Nat.eq_zero_or_pos w with q | q
          · subst q
            have : v = 0 := by omega
            subst this
            exact ⟨by decide, by decide⟩
          · exact inB_le (B := 31) (sgI_in hv q) (by omega)
        have hsb2 : -2147483648 ≤ sgI w v ∧ sgI w v < 2147483648 := by
          rcases Nat.eq_zero_or_pos w with q | q
          · subst q
            have : v = 0 := by omega
            subst this
            decide
          · have h9 := inB_le (B := 30) (sgI_in hv q) (by omega)
            unfold bd at h9
            omega
        refine z_lstore dX4_readPart_82 (Nat.le_of_ble_eq_true rfl) ?_
        refine z_iload dX4_readPart_84 (by exact rfl) ?_
        refine z_if_eq (tgt := 100) dX4_readPart_86 (by decide) (fun q9 => absurd q9 ((by decide))) (fun _ => ?_)
        refine z_lload dX4_readPart_89 (by exact rfl) ?_
        refine z_iload dX4_readPart_91 (by exact rfl) ?_
        refine z_cS dX4_readPart_93 zk_X4_205 (by exact rfl) (Nat.le_of_ble_eq_true rfl) (Nat.le_of_ble_eq_true rfl) (Nat.le_refl _) ?_
        refine c_signed (by omega) hv62 ?_
        refine z_i2l dX4_readPart_96 ?_
        refine z_eJ (lI (sgI w v)) (iI_l hsb2.1 hsb2.2) ?_
        refine z_goto (tgt := 111) dX4_readPart_97 (by decide) ?_
        exact z_at [(0, .ref 37), (1, .ref r), (3, .int (nI to)), (4, .int (nI b)), (7, .int (nI 1)), (8, .int (nI w)), (9, .int (nI i)), (10, .int (nI p1))] ⟨rfl, rfl, rfl, rfl, rfl, rfl, rfl, rfl, trivial⟩ (tl D2 _ _ (by unfold bd at hsb ⊢; omega) (ha.fr hf2 (fAt_row hr1)) hR2 (hF.tr (wk hf2)) (fun hin => by rw [← hK3, rbind_r (zif_p hin)]) (fun hin => by rw [← hK3, rbind_l (zif_n hin)]))
      | false =>
        have hK2 : rbind (sRun T (8 * sz)) (fun z => rbind (rit T (8 * sz) w kAny) (fun v => rbind (fun q => zif (inB b (fore c s o a i + unfI (z * 2 ^ w + v))) (.inr (uN a i (fore c s o a i + unfI (z * 2 ^ w + v)), q)) (.inl (2, p1))) (rloop (sOne T (8 * sz) b o (s, c) false w) (i + 1) m))) p1 = sp := by
          rw [← hK1]
          simp only [← rassoc]
          rfl
        refine z_iload dX4_readPart_48 (by exact rfl) ?_
        refine z_iload_n dX4_readPart_50 (by exact rfl) ?_
        refine z_icmp_ge (tgt := 158) dX4_readPart_51 (by decide) (fun q9 => absurd q9 ((nI_ge (a := i) (b := to) (by omega) (by omega)))) (fun _ => ?_)
        refine z_aload_n dX4_readPart_54 (by exact rfl) ?_
        refine z_gfI zfx_X4_64 (by exact rfl) dX4_readPart_55 ?_
        refine z_eI (nI p1) hat ?_
        refine z_istore dX4_readPart_58 (Nat.le_of_ble_eq_true rfl) ?_
        refine z_iload dX4_readPart_60 (by exact rfl) ?_
        refine z_if_eq (tgt := 69) dX4_readPart_62 (by decide) (fun _ => ?_) (fun q9 => absurd ((by decide)) q9)
        refine z_aload_n dX4_readPart_69 (by exact rfl) ?_
        refine z_cV dX4_readPart_70 zk_X4_202 (by exact rfl) (by exact rfl) (by exact rfl) (Nat.le_of_ble_eq_true rfl) (Nat.le_of_ble_eq_true rfl) (Nat.le_refl _) ?_
        refine c_runK hR1 hK2 (fun D2 e hb hf => zx_out rfl (h0 D2 _ _ e hb (hF.tr (wk hf)))) (fun D2 z hz hK3 hR2 hit2 hf2 => ?_)
        have hz20 : z < 2 ^ 20 := by
          have := hR2.2.1
          omega
        refine z_i2l dX4_readPart_73 ?_
        refine z_eJ (lN z) (nI_l (by omega)) ?_
        refine z_lstore dX4_readPart_74 (Nat.le_of_ble_eq_true rfl) ?_
        refine z_aload_n dX4_readPart_76 (by exact rfl) ?_
        refine z_iload dX4_readPart_77 (by exact rfl) ?_
        refine z_cV dX4_readPart_79 zk_X4_98 (by exact rfl) (by exact rfl) (by exact rfl) (Nat.le_of_ble_eq_true rfl) (Nat.le_of_ble_eq_true rfl) (Nat.le_refl _) ?_
        refine c_numA (w := w) (by omega) hR2 hK3 (fun D3 e hb hf => zx_out rfl (h0 D3 _ _ e hb ((hF.tr (wk hf2)).tr (wk hf)))) (fun D3 v hv hK4 hR3 hit3 hf3 => ?_)
        refine z_lstore dX4_readPart_82 (Nat.le_of_ble_eq_true rfl) ?_
        refine z_iload dX4_readPart_84 (by exact rfl) ?_
        refine z_if_eq (tgt := 100) dX4_readPart_86 (by decide) (fun _ => ?_) (fun q9 => absurd ((by decide)) q9)
        have hu : z * 2 ^ w + v < 2 * 2 ^ 50 := by
          have h7 : 2 ^ w ≤ 2 ^ 31 := Nat.pow_le_pow_right (by omega) hw
          have h8 : z * 2 ^ w ≤ 2 ^ 20 * 2 ^ 31 := Nat.mul_le_mul (by omega) h7
          have h9 : (2 : Nat) ^ 20 * 2 ^ 31 = 2 ^ 51 := by decide
          have h10 : (z + 1) * 2 ^ w ≤ 2 ^ 20 * 2 ^ 31 := Nat.mul_le_mul (by omega) h7
          rw [Nat.succ_mul] at h10
          omega
        refine z_lload dX4_readPart_100 (by exact rfl) ?_
        refine z_iload dX4_readPart_102 (by exact rfl) ?_
        refine z_lshl dX4_readPart_104 ?_
        refine z_lload dX4_readPart_105 (by exact rfl) ?_
        refine z_lor dX4_readPart_107 ?_
        refine z_eJ (lN (z * 2 ^ w + v)) (q_join2 hz20 (by omega) hv) ?_
        refine z_cS dX4_readPart_108 zk_X4_246 (by exact rfl) (Nat.le_of_ble_eq_true rfl) (Nat.le_of_ble_eq_true rfl) (Nat.le_refl _) ?_
        refine c_unfolded8 (by omega) ?_
        exact z_at [(0, .ref 37), (1, .ref r), (3, .int (nI to)), (4, .int (nI b)), (7, .int (nI 0)), (8, .int (nI w)), (9, .int (nI i)), (10, .int (nI p1))] ⟨rfl, rfl, rfl, rfl, rfl, rfl, rfl, rfl, trivial⟩ (tl D3 _ _ (unf_bd (B := 2 ^ 50) hu) (ha.fr (hf2.tr hf3) (fAt_row hr1)) hR3 (hF.tr (wk (hf2.tr hf3))) (fun hin => by rw [← hK4, rbind_r (zif_p hin)]) (fun hin => by rw [← hK4, rbind_l (zif_n hin)]))
  refine z_at [(0, .ref 37), (1, .ref r), (2, .int (nI from0)), (3, .int (nI to)), (4, .int (nI b)), (5, .int (nI kb))] ⟨rfl, rfl, rfl, rfl, rfl, rfl, trivial⟩ ?_
  unfold sPart sKey at hK
  rw [rassoc] at hK
  refine z_aload_n dX4_readPart_0 (by exact rfl) ?_
  refine z_iload dX4_readPart_1 (by exact rfl) ?_
  refine z_cV dX4_readPart_3 zk_X4_98 (by exact rfl) (by exact rfl) (by exact rfl) (Nat.le_of_ble_eq_true rfl) (Nat.le_of_ble_eq_true rfl) (Nat.le_refl _) ?_
  refine c_numA (w := kb) (by omega) hR hK (fun D2 e hb hf => zx_out rfl (h0 D2 _ _ e hb (wk hf))) (fun D2 v hv hK2 hR2 hit2 hf2 => ?_)
  have hv32 : v < 32 := Nat.lt_of_lt_of_le hv (Nat.pow_le_pow_right (n := 2) (j := 5) (by omega) hkb.2)
  have hp32 : 2 ^ kb ≤ 32 := Nat.pow_le_pow_right (n := 2) (j := 5) (by omega) hkb.2
  refine z_l2i dX4_readPart_6 ?_
  refine z_eI (nI v) (lN_i v) ?_
  refine z_istore dX4_readPart_7 (Nat.le_of_ble_eq_true rfl) ?_
  refine z_iload dX4_readPart_9 (by exact rfl) ?_
  refine z_iconst dX4_readPart_11 ?_
  refine z_iload dX4_readPart_12 (by exact rfl) ?_
  refine z_ishl dX4_readPart_14 ?_
  refine z_iconst dX4_readPart_15 ?_
  refine z_isub dX4_readPart_16 ?_
  refine z_eI (nI (2 ^ kb - 1)) (q_pm kb hkb.2) ?_
  refine z_icmp_ne (tgt := 24) dX4_readPart_17 (by decide) (fun c17 => ?_) (fun c17 => ?_)
  · refine z_iconst dX4_readPart_24 ?_
    refine z_istore dX4_readPart_25 (Nat.le_of_ble_eq_true rfl) ?_
    refine z_iload dX4_readPart_27 (by exact rfl) ?_
    refine z_if_eq (tgt := 41) dX4_readPart_29 (by decide) (fun _ => ?_) (fun q9 => absurd ((by decide)) q9)
    refine z_iload dX4_readPart_41 (by exact rfl) ?_
    have hne : ¬ v = 2 ^ kb - 1 := fun q => c17 ((nI_eq (a := v) (b := 2 ^ kb - 1) (by omega) (by omega)).mpr q)
    rw [if_neg hne] at hK2
    refine z_istore dX4_readPart_43 (Nat.le_of_ble_eq_true rfl) ?_
    refine z_iload_n dX4_readPart_45 (by exact rfl) ?_
    refine z_istore dX4_readPart_46 (Nat.le_of_ble_eq_true rfl) ?_
    exact z_at [(0, .ref 37), (1, .ref r), (3, .int (nI to)), (4, .int (nI b)), (7, .int (nI 0)), (8, .int (nI v)), (9, .int (nI from0))] ⟨rfl, rfl, rfl, rfl, rfl, rfl, rfl, trivial⟩ (lp false v (by omega) (to - from0) from0 D2 _ a0 (by omega) (by omega) (ha0.fr hf2 (fAt_row hr1)) hR2 (wk hf2) hK2)
  · refine z_iconst dX4_readPart_20 ?_
    refine z_goto (tgt := 25) dX4_readPart_21 (by decide) ?_
    refine z_istore dX4_readPart_25 (Nat.le_of_ble_eq_true rfl) ?_
    refine z_iload dX4_readPart_27 (by exact rfl) ?_
    refine z_if_eq (tgt := 41) dX4_readPart_29 (by decide) (fun q9 => absurd q9 ((by decide))) (fun _ => ?_)
    have heq : v = 2 ^ kb - 1 := (nI_eq (a := v) (b := 2 ^ kb - 1) (by omega) (by omega)).mp c17
    rw [if_pos heq, rassoc] at hK2
    refine z_aload_n dX4_readPart_32 (by exact rfl) ?_
    refine z_iconst dX4_readPart_33 ?_
    refine z_cV dX4_readPart_34 zk_X4_98 (by exact rfl) (by exact rfl) (by exact rfl) (Nat.le_of_ble_eq_true rfl) (Nat.le_of_ble_eq_true rfl) (Nat.le_refl _) ?_
    refine c_numA (w := 5) (by omega) hR2 hK2 (fun D3 e hb hf => zx_out rfl (h0 D3 _ _ e hb ((wk hf2).tr (wk hf)))) (fun D3 w hw hK3 hR3 hit3 hf3 => ?_)
    refine z_l2i dX4_readPart_37 ?_
    refine z_eI (nI w) (lN_i w) ?_
    refine z_goto (tgt := 43) dX4_readPart_38 (by decide) ?_
    skip
    refine z_istore dX4_readPart_43 (Nat.le_of_ble_eq_true rfl) ?_
    refine z_iload_n dX4_readPart_45 (by exact rfl) ?_
    refine z_istore dX4_readPart_46 (Nat.le_of_ble_eq_true rfl) ?_
    exact z_at [(0, .ref 37), (1, .ref r), (3, .int (nI to)), (4, .int (nI b)), (7, .int (nI 1)), (8, .int (nI w)), (9, .int (nI from0))] ⟨rfl, rfl, rfl, rfl, rfl, rfl, rfl, trivial⟩ (lp true w (by omega) (to - from0) from0 D3 _ a0 (by omega) (by omega) (ha0.fr (hf2.tr hf3) (fAt_row hr1)) hR3 (wk (hf2.tr hf3)) hK3)
theorem q_p2 : ∀ q, q < 16 → Int32.ofInt 1 <<< (nI q &&& 31) = nI (2 ^ q) := by decide
theorem c_readResiduals {d p sz r b o s n : Nat} {D : zD} {T : Nat → Bool} {Q : zQ} {sp : RT zRow} {a0 : zRow} {c : Nat → Int} (hr : zac r = some (0, 256)) (hr1 : ¬ r = 37) (hr2 : ¬ r = 38) (hr3 : ¬ r = 50) (hr4 : ¬ r = 51) (hp : pred8 D 50 51 o s c) (hs : s ≤ 15) (ho : o ≤ 32) (hn : 1 ≤ n ∧ n ≤ 256) (hb : 1 ≤ b ∧ b ≤ 25) (ha0 : row8 D r a0 o) (hR : rd8 D T sz p) (hK : sRes T (8 * sz) n b o (s, c) a0 p = sp)
    (h0 : ∀ D' k pl, sp = .inl (k, pl) → bad8 D' k pl → zfr (fRow r) D D' → Q (.inr zISE) 1 D') (h1 : ∀ D' a q, sp = .inr (a, q) → row8 D' r a n → rd8 D' T sz q → zfr (fRow r) D D' → Q (.inl none) 0 D') :
    ZM yX4_readResiduals iX4_readResiduals (d + 3) [.ref 37, .ref r, .int (nI n), .int (nI b)] D Q := by
  refine z_method (by decide) rfl (Nat.le_of_ble_eq_true rfl) ?_
  have wk : ∀ {X Y : zD}, zfr fAt X Y → zfr (fRow r) X Y := fun h => h.wk (fRow_at r)
  have hpD : ∀ {D2 : zD}, zfr (fRow r) D D2 → pred8 D2 50 51 o s c := fun {D2} hf => by
    have e50 : ∀ k, fRow r 50 k = false := fun k => by
      unfold fRow
      rw [fAt_row (by decide)]
      simpa using fun q => hr3 q.symm
    have e51 : ∀ k, fRow r 51 k = false := fun k => by
      unfold fRow
      rw [fAt_row (by decide)]
      simpa using fun q => hr4 q.symm
    exact ⟨(hf.1 50 1 (e50 1)).trans hp.1, (hf.1 50 2 (e50 2)).trans hp.2.1, fun j hj => by rw [hf.1 51 j (e51 j)]; exact hp.2.2 j hj⟩
  have lp : ∀ (me q ln : Nat), me ≤ 1 → q < 16 → 2 ^ q * ln = n → o ≤ ln → ∀ (m i : Nat) (D1 : zD) (p1 : Nat) (a : zRow), i + m = 2 ^ q → row8 D1 r a (if i = 0 then o else i * ln) → rd8 D1 T sz p1 → zfr (fRow r) D D1 → rloop (fun part => sPart T (8 * sz) b o (s, c) (4 + me) (if part = 0 then o else part * ln) ((part + 1) * ln)) i m a p1 = sp → Z (zmk iX4_readResiduals (d + 3)) 0 78 (zl [(0, .ref 37), (1, .ref r), (3, .int (nI b)), (4, .int (nI me)), (6, .int (nI (2 ^ q))), (7, .int (nI ln)), (8, .int (nI i))]) [] D1 Q := by
    intro me q ln hme hq hnl hol m
    have hq2 : 2 ^ q ≤ 256 := Nat.le_trans (Nat.le_of_dvd (by omega) ⟨ln, hnl.symm⟩) hn.2
    have hln : ln ≤ 256 := Nat.le_trans (Nat.le_of_dvd (by omega) ⟨2 ^ q, by rw [Nat.mul_comm]; exact hnl.symm⟩) hn.2
    have hq0 := Nat.two_pow_pos q
    induction m with
    | zero =>
      intro i D1 p1 a hi ha hR1 hF hK1
      have hi : i = 2 ^ q := by omega
      subst hi
      rw [if_neg (by omega), hnl] at ha
      refine z_iload dX4_readResiduals_78 (by exact rfl) ?_
      refine z_iload dX4_readResiduals_80 (by exact rfl) ?_
      refine z_icmp_ge (tgt := 132) dX4_readResiduals_82 (by decide) (fun _ => ?_) (fun q9 => absurd ((nI_le (Nat.le_refl _) (by omega))) q9)
      exact z_vret (st := []) rfl dX4_readResiduals_132 (h1 D1 a p1 hK1.symm ha hR1 hF)
    | succ m ih =>
      intro i D1 p1 a hi ha hR1 hF hK1
      have him : (i + 1) * ln ≤ n := by
        rw [← hnl]
        exact Nat.mul_le_mul_right _ (by omega)
      have hil : i * ln + ln = (i + 1) * ln := (Nat.succ_mul i ln).symm
      have hol2 : o ≤ if i = 0 then o else i * ln := by
        split
        · exact Nat.le_refl _
        · exact Nat.le_trans hol (Nat.le_mul_of_pos_left _ (by omega))
      have hft : (if i = 0 then o else i * ln) ≤ (i + 1) * ln := by
        split
        next e => subst e; omega
        next => omega
      have tl : Z (zmk iX4_readResiduals (d + 3)) 0 107 (zl [(0, .ref 37), (1, .ref r), (3, .int (nI b)), (4, .int (nI me)), (6, .int (nI (2 ^ q))), (7, .int (nI ln)), (8, .int (nI i)), (9, .int (nI (if i = 0 then o else i * ln)))]) [] D1 Q := by
        refine z_aload_n dX4_readResiduals_107 (by exact rfl) ?_
        refine z_aload_n dX4_readResiduals_108 (by exact rfl) ?_
        refine z_iload dX4_readResiduals_109 (by exact rfl) ?_
        refine z_iload dX4_readResiduals_111 (by exact rfl) ?_
        refine z_iconst dX4_readResiduals_113 ?_
        refine z_iadd dX4_readResiduals_114 ?_
        refine z_iload dX4_readResiduals_115 (by exact rfl) ?_
        refine z_imul dX4_readResiduals_117 ?_
        refine z_eI (nI ((i + 1) * ln)) (by rw [show nI i + Int32.ofInt 1 = nI (i + 1) from nI_1 i]; exact pk_mul _ _) ?_
        refine z_iload_n dX4_readResiduals_118 (by exact rfl) ?_
        refine z_iconst dX4_readResiduals_119 ?_
        refine z_iload dX4_readResiduals_120 (by exact rfl) ?_
        refine z_iadd dX4_readResiduals_122 ?_
        refine z_eI (nI (4 + me)) (nI_add 4 me) ?_
        refine z_cV dX4_readResiduals_123 zk_X4_242 (by exact rfl) (by exact rfl) (by exact rfl) (Nat.le_of_ble_eq_true rfl) (Nat.le_of_ble_eq_true rfl) (Nat.le_refl _) ?_
        refine c_readPart (sp := sPart T (8 * sz) b o (s, c) (4 + me) (if i = 0 then o else i * ln) ((i + 1) * ln) a p1) hr hr1 hr2 hr3 hr4 (hpD hF) hs ho hol2 hft (by omega) (by omega) hb ha hR1 rfl (fun D2 k pl e hb hf => zx_out rfl (h0 D2 k pl (hK1.symm.trans (rbind_l e)) hb (hF.tr hf))) (fun D2 a2 p2 e ha2 hR2 hf2 => ?_)
        refine z_iinc dX4_readResiduals_126 (by exact rfl) ?_
        refine z_at [(0, .ref 37), (1, .ref r), (3, .int (nI b)), (4, .int (nI me)), (6, .int (nI (2 ^ q))), (7, .int (nI ln)), (8, .int (nI (i + 1)))] ⟨rfl, rfl, rfl, rfl, rfl, rfl, congrArg (fun x => some (Value.int x)) (nI_1 i), trivial⟩ ?_
        refine z_goto (tgt := 78) dX4_readResiduals_129 (by decide) ?_
        exact ih (i + 1) D2 p2 a2 (by omega) (by rw [if_neg (by omega)]; exact ha2) hR2 (hF.tr hf2) ((rbind_r e).symm.trans hK1)
      rcases Nat.eq_zero_or_pos i with h9 | h9
      · subst h9
        refine z_iload dX4_readResiduals_78 (by exact rfl) ?_
        refine z_iload dX4_readResiduals_80 (by exact rfl) ?_
        refine z_icmp_ge (tgt := 132) dX4_readResiduals_82 (by decide) (fun q9 => absurd q9 ((nI_ge (a := 0) (b := 2 ^ q) (by omega) (by omega)))) (fun _ => ?_)
        refine z_iload dX4_readResiduals_85 (by exact rfl) ?_
        refine z_if_ne (tgt := 100) dX4_readResiduals_87 (by decide) (fun q9 => absurd (rfl) q9) (fun _ => ?_)
        refine z_aload_n dX4_readResiduals_90 (by exact rfl) ?_
        refine z_gfA zfx_X4_46 (by exact rfl) dX4_readResiduals_91 ?_
        refine z_gfI zfx_X4_239 (by exact rfl) dX4_readResiduals_94 ?_
        refine z_eI (nI o) (hpD hF).1 ?_
        refine z_goto (tgt := 105) dX4_readResiduals_97 (by decide) ?_
        refine z_istore dX4_readResiduals_105 (Nat.le_of_ble_eq_true rfl) ?_
        exact z_at [(0, .ref 37), (1, .ref r), (3, .int (nI b)), (4, .int (nI me)), (6, .int (nI (2 ^ q))), (7, .int (nI ln)), (8, .int (nI 0)), (9, .int (nI (if 0 = 0 then o else 0 * ln)))] ⟨rfl, rfl, rfl, rfl, rfl, rfl, rfl, rfl, trivial⟩ tl
      · refine z_iload dX4_readResiduals_78 (by exact rfl) ?_
        refine z_iload dX4_readResiduals_80 (by exact rfl) ?_
        refine z_icmp_ge (tgt := 132) dX4_readResiduals_82 (by decide) (fun q9 => absurd q9 ((nI_ge (a := i) (b := 2 ^ q) (by omega) (by omega)))) (fun _ => ?_)
        refine z_iload dX4_readResiduals_85 (by exact rfl) ?_
        refine z_if_ne (tgt := 100) dX4_readResiduals_87 (by decide) (fun _ => ?_) (fun q9 => absurd q9 ((nI_ne0 h9 (by omega))))
        refine z_iload dX4_readResiduals_100 (by exact rfl) ?_
        refine z_iload dX4_readResiduals_102 (by exact rfl) ?_
        refine z_imul dX4_readResiduals_104 ?_
        refine z_eI (nI (if i = 0 then o else i * ln)) (by rw [if_neg (by omega)]; exact pk_mul _ _) ?_
        refine z_istore dX4_readResiduals_105 (Nat.le_of_ble_eq_true rfl) ?_
        exact z_at [(0, .ref 37), (1, .ref r), (3, .int (nI b)), (4, .int (nI me)), (6, .int (nI (2 ^ q))), (7, .int (nI ln)), (8, .int (nI i)), (9, .int (nI (if i = 0 then o else i * ln)))] ⟨rfl, rfl, rfl, rfl, rfl, rfl, rfl, rfl, trivial⟩ tl
  refine z_at [(0, .ref 37), (1, .ref r), (2, .int (nI n)), (3, .int (nI b))] ⟨rfl, rfl, rfl, rfl, trivial⟩ ?_
  unfold sRes at hK
  have go : ∀ (me : Nat) (D1 : zD) (p1 : Nat), me ≤ 1 → rd8 D1 T sz p1 → zfr (fRow r) D D1 → row8 D1 r a0 o → (rbind (rit T (8 * sz) 4 (kCut n o)) fun q => rloop (fun part => sPart T (8 * sz) b o (s, c) (4 + me) (if part = 0 then o else part * (n / 2 ^ q)) ((part + 1) * (n / 2 ^ q))) 0 (2 ^ q) a0) p1 = sp → Z (zmk iX4_readResiduals (d + 3)) 0 24 (zl [(0, .ref 37), (1, .ref r), (2, .int (nI n)), (3, .int (nI b)), (4, .int (nI me))]) [] D1 Q := by
    intro me D1 p1 hme hR1 hF ha hK1
    have bad : ∀ (q : Nat) (D2 : zD), ¬ (n % 2 ^ q = 0 ∧ o ≤ n / 2 ^ q) → D2.1 37 8 = nI p1 → zfr (fRow r) D D2 → (¬ kCut n o q = 0 → sp = .inl (kCut n o q, p1)) → Z (zmk iX4_readResiduals (d + 3)) 0 70 (zl [(0, .ref 37)]) [.ref 37] D2 Q := by
      intro q D2 hne hit hF2 hkn
      refine z_iconst dX4_readResiduals_70 ?_
      refine z_iconst dX4_readResiduals_71 ?_
      refine z_cV dX4_readResiduals_72 zk_X4_119 (by exact rfl) (by exact rfl) (by exact rfl) (Nat.le_of_ble_eq_true rfl) (Nat.le_of_ble_eq_true rfl) (Nat.le_refl _) ?_
      exact c_fu (kind := 2) hit (fun q => absurd rfl q) (fun D3 _ hb hf => zx_out rfl (h0 D3 2 _ (by
        have hne : kCut n o q = 2 := if_neg hne
        rw [hkn (by rw [hne]; decide), hne]) hb (hF2.tr (wk hf))))
    refine z_aload_n dX4_readResiduals_24 (by exact rfl) ?_
    refine z_iconst dX4_readResiduals_25 ?_
    refine z_cV dX4_readResiduals_26 zk_X4_98 (by exact rfl) (by exact rfl) (by exact rfl) (Nat.le_of_ble_eq_true rfl) (Nat.le_of_ble_eq_true rfl) (Nat.le_refl _) ?_
    refine c_numK (w := 4) (by omega) hR1 hK1 (fun D2 e hb hf => zx_out rfl (h0 D2 _ _ e hb (hF.tr (wk hf)))) (fun D2 q hq hk hkn hR2 hit2 hf2 => ?_)
    have hq16 : q < 16 := by omega
    have hdl : n / 2 ^ q ≤ 256 := Nat.le_trans (Nat.div_le_self _ _) hn.2
    have hdm : n / 2 ^ q * 2 ^ q ≤ 256 := Nat.le_trans (Nat.div_mul_le_self _ _) hn.2
    refine z_l2i dX4_readResiduals_29 ?_
    refine z_eI (nI q) (lN_i q) ?_
    refine z_istore dX4_readResiduals_30 (Nat.le_of_ble_eq_true rfl) ?_
    refine z_iconst dX4_readResiduals_32 ?_
    refine z_iload dX4_readResiduals_33 (by exact rfl) ?_
    refine z_ishl dX4_readResiduals_35 ?_
    refine z_eI (nI (2 ^ q)) (q_p2 q hq16) ?_
    refine z_istore dX4_readResiduals_36 (Nat.le_of_ble_eq_true rfl) ?_
    refine z_iload_n dX4_readResiduals_38 (by exact rfl) ?_
    refine z_iload dX4_readResiduals_39 (by exact rfl) ?_
    refine z_ishr dX4_readResiduals_41 ?_
    refine z_eI (nI (n / 2 ^ q)) (pk_shrN (by omega) _ q (by
      have : ∀ q, q < 16 → ((nI q &&& 31).toBitVec.smod 32).toNat = q := by decide
      exact this q hq16)) ?_
    refine z_istore dX4_readResiduals_42 (Nat.le_of_ble_eq_true rfl) ?_
    refine z_aload_n dX4_readResiduals_44 (by exact rfl) ?_
    refine z_iload dX4_readResiduals_45 (by exact rfl) ?_
    refine z_iload dX4_readResiduals_47 (by exact rfl) ?_
    refine z_ishl dX4_readResiduals_49 ?_
    refine z_eI (nI (n / 2 ^ q * 2 ^ q)) (pk_shlN _ q (by
      have : ∀ q, q < 16 → ((nI q &&& 31).toBitVec.smod 32).toNat = q := by decide
      exact this q hq16) (by omega)) ?_
    refine z_iload_n dX4_readResiduals_50 (by exact rfl) ?_
    refine z_icmp_ne (tgt := 70) dX4_readResiduals_51 (by decide) (fun c51 => ?_) (fun c51 => ?_)
    · exact z_at [(0, .ref 37)] ⟨rfl, trivial⟩ (bad q D2 (fun h => c51 ((nI_eq (a := n / 2 ^ q * 2 ^ q) (b := n) (by omega) (by omega)).mpr (Nat.div_mul_cancel (Nat.dvd_of_mod_eq_zero h.1)))) hit2 (hF.tr (wk hf2)) hkn)
    · refine z_iload dX4_readResiduals_54 (by exact rfl) ?_
      refine z_aload_n dX4_readResiduals_56 (by exact rfl) ?_
      refine z_gfA zfx_X4_46 (by exact rfl) dX4_readResiduals_57 ?_
      refine z_gfI zfx_X4_239 (by exact rfl) dX4_readResiduals_60 ?_
      refine z_eI (nI o) (hpD (hF.tr (wk hf2))).1 ?_
      refine z_icmp_lt (tgt := 70) dX4_readResiduals_63 (by decide) (fun c63 => ?_) (fun c63 => ?_)
      · exact z_at [(0, .ref 37)] ⟨rfl, trivial⟩ (bad q D2 (fun h => absurd ((nI_ltI (a := n / 2 ^ q) (b := o) (by omega) (by omega)).mp c63) (by omega)) hit2 (hF.tr (wk hf2)) hkn)
      · refine z_iconst dX4_readResiduals_66 ?_
        refine z_goto (tgt := 71) dX4_readResiduals_67 (by decide) ?_
        refine z_iconst dX4_readResiduals_71 ?_
        refine z_cV dX4_readResiduals_72 zk_X4_119 (by exact rfl) (by exact rfl) (by exact rfl) (Nat.le_of_ble_eq_true rfl) (Nat.le_of_ble_eq_true rfl) (Nat.le_refl _) ?_
        refine c_fu (kind := 2) hit2 (fun _ => ?_) (fun D4 q => absurd q (by decide))
        have hdv : n / 2 ^ q * 2 ^ q = n := (nI_eq (a := n / 2 ^ q * 2 ^ q) (b := n) (by omega) (by omega)).mp c51
        have hmod : n % 2 ^ q = 0 := by
          have := Nat.div_add_mod n (2 ^ q)
          rw [Nat.mul_comm] at hdv
          omega
        have hol : o ≤ n / 2 ^ q := by
          rcases Nat.lt_or_ge (n / 2 ^ q) o with h | h
          · exact absurd (nI_lt h (by omega)) c63
          · exact h
        refine z_iconst dX4_readResiduals_75 ?_
        refine z_istore dX4_readResiduals_76 (Nat.le_of_ble_eq_true rfl) ?_
        exact z_at [(0, .ref 37), (1, .ref r), (3, .int (nI b)), (4, .int (nI me)), (6, .int (nI (2 ^ q))), (7, .int (nI (n / 2 ^ q))), (8, .int (nI 0))] ⟨rfl, rfl, rfl, rfl, rfl, rfl, rfl, trivial⟩ (lp me q (n / 2 ^ q) hme hq16 (by rw [Nat.mul_comm]; exact hdv) hol (2 ^ q) 0 D2 _ a0 (by omega) (ha.fr hf2 (fAt_row hr1)) hR2 (hF.tr (wk hf2)) (hk (if_pos ⟨hmod, hol⟩)))
  refine z_aload_n dX4_readResiduals_0 (by exact rfl) ?_
  refine z_iconst dX4_readResiduals_1 ?_
  refine z_cV dX4_readResiduals_2 zk_X4_98 (by exact rfl) (by exact rfl) (by exact rfl) (Nat.le_of_ble_eq_true rfl) (Nat.le_of_ble_eq_true rfl) (Nat.le_refl _) ?_
  refine c_numK (w := 2) (by omega) hR hK (fun D2 e hb hf => zx_out rfl (h0 D2 _ _ e hb (wk hf))) (fun D2 me hme hk hkn hR2 hit2 hf2 => ?_)
  refine z_l2i dX4_readResiduals_5 ?_
  refine z_eI (nI me) (lN_i me) ?_
  refine z_istore dX4_readResiduals_6 (Nat.le_of_ble_eq_true rfl) ?_
  refine z_aload_n dX4_readResiduals_8 (by exact rfl) ?_
  refine z_iload dX4_readResiduals_9 (by exact rfl) ?_
  refine z_iconst dX4_readResiduals_11 ?_
  refine z_icmp_gt (tgt := 19) dX4_readResiduals_12 (by decide) (fun c12 => ?_) (fun c12 => ?_)
  · refine z_iconst dX4_readResiduals_19 ?_
    refine z_iconst dX4_readResiduals_20 ?_
    refine z_cV dX4_readResiduals_21 zk_X4_119 (by exact rfl) (by exact rfl) (by exact rfl) (Nat.le_of_ble_eq_true rfl) (Nat.le_of_ble_eq_true rfl) (Nat.le_refl _) ?_
    exact c_fu (kind := 2) hit2 (fun q => absurd rfl q) (fun D3 _ hb hf => zx_out rfl (h0 D3 2 _ (by
      have : 1 < me := (nI_ltI (a := 1) (b := me) (by omega) (by omega)).mp c12
      have hne : kIn 0 1 me = 2 := if_neg (by omega)
      rw [hkn (by rw [hne]; decide), hne]) hb ((wk hf2).tr (wk hf))))
  · refine z_iconst dX4_readResiduals_15 ?_
    refine z_goto (tgt := 20) dX4_readResiduals_16 (by decide) ?_
    refine z_iconst dX4_readResiduals_20 ?_
    refine z_cV dX4_readResiduals_21 zk_X4_119 (by exact rfl) (by exact rfl) (by exact rfl) (Nat.le_of_ble_eq_true rfl) (Nat.le_of_ble_eq_true rfl) (Nat.le_refl _) ?_
    refine c_fu (kind := 2) hit2 (fun _ => ?_) (fun D4 q => absurd q (by decide))
    have hme1 : me ≤ 1 := by
      rcases Nat.lt_or_ge 1 me with q | q
      · exact absurd (nI_lt (a := 1) (b := me) q (by omega)) c12
      · exact q
    exact z_at [(0, .ref 37), (1, .ref r), (2, .int (nI n)), (3, .int (nI b)), (4, .int (nI me))] ⟨rfl, rfl, rfl, rfl, rfl, trivial⟩ (go me D2 _ hme1 hR2 (wk hf2) (ha0.fr hf2 (fAt_row hr1)) (hk (if_pos ⟨Nat.zero_le _, hme1⟩)))
