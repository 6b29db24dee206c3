/-! ===== the Reader's methods in these words ===== -/
def fAt (a k : Nat) : Bool := a == 37 && (k == 2 || k == 3 || k == 7 || k == 8)
def bad8 (D : zD) (k pl : Nat) : Prop := D.1 37 2 = nI k ∧ D.1 37 3 = nI pl
theorem rd8.mv {D : zD} {T : Nat → Bool} {sz p q : Nat} (h : rd8 D T sz p) (hq : q ≤ 8 * sz) (it : Int32) : rd8 (zuI (zuI D 37 8 it) 37 7 (nI q)) T sz q := by
  obtain ⟨r1, r2, r3, r4, r5, r6⟩ := h
  exact ⟨r1, r2, rfl, hq, r5, r6⟩
theorem c_num {d w p sz : Nat} {D : zD} {T : Nat → Bool} {Q : zQ} (hw : w ≤ 62) (hR : rd8 D T sz p) (h1 : ∀ D', p + w ≤ 8 * sz → rd8 D' T sz (p + w) → D'.1 37 8 = nI p → zfr fAt D D' → Q (.inl (some (.long (lN (bv T p w))))) 0 D') (h0 : ∀ D', ¬ p + w ≤ 8 * sz → bad8 D' 1 p → zfr fAt D D' → Q (.inr zISE) 1 D') :
    ZM yX4_number iX4_number (d + 1) [.ref 37, .int (nI w)] D Q :=
  c_number hw hR (fun hle => h1 _ hle (hR.mv hle _) rfl ((zfr.rf.uI _ rfl).uI _ rfl)) (fun hn => h0 _ hn ⟨rfl, rfl⟩ (((zfr.rf.uI _ rfl).uI _ rfl).uI _ rfl))
theorem c_fu {d it kind : Nat} {D : zD} {Q : zQ} {b : Int32} (hit : D.1 37 8 = nI it) (h1 : ¬ b = 0 → Q (.inl none) 0 D) (h0 : ∀ D', b = 0 → bad8 D' kind it → zfr fAt D D' → Q (.inr zISE) 1 D') : ZM yX4_failUnless iX4_failUnless (d + 1) [.ref 37, .int b, .int (nI kind)] D Q :=
  c_failUnless h1 (fun hb => h0 _ hb ⟨rfl, hit⟩ ((zfr.rf.uI _ rfl).uI _ rfl))
theorem c_exp {d w p sz due : Nat} {D : zD} {T : Nat → Bool} {Q : zQ} {dl : Int64} (hw : w ≤ 62) (hdl : dl = lN due) (hdue : due < 2 ^ 62) (hR : rd8 D T sz p) (h1 : ∀ D', rit T (8 * sz) w (kEq due) p = .inr (bv T p w, p + w) → rd8 D' T sz (p + w) → D'.1 37 8 = nI p → zfr fAt D D' → Q (.inl none) 0 D') (h0 : ∀ D' k, rit T (8 * sz) w (kEq due) p = .inl (k, p) → bad8 D' k p → zfr fAt D D' → Q (.inr zISE) 1 D') :
    ZM yX4_expect iX4_expect (d + 2) [.ref 37, .int (nI w), .long dl] D Q := by
  subst hdl
  have hb : bv T p w < 2 ^ 62 := Nat.lt_of_lt_of_le (bv_lt T p w) (Nat.pow_le_pow_right (by omega) hw)
  have he : lN (bv T p w) = lN due ↔ bv T p w = due := pk_lEQ (by omega) (by omega)
  refine c_expect hw hR (fun hle hq => ?_) (fun hle hq => ?_) (fun hn => ?_)
  · exact h1 _ (rit_r hle (if_pos (he.mp hq))) (hR.mv hle _) rfl ((zfr.rf.uI _ rfl).uI _ rfl)
  · exact h0 _ 2 (rit_k hle (if_neg (fun q => hq (he.mpr q))) (by omega)) ⟨rfl, rfl⟩ ((((zfr.rf.uI _ rfl).uI _ rfl).uI _ rfl).uI _ rfl)
  · exact h0 _ 1 (rit_1 hn) ⟨rfl, rfl⟩ (((zfr.rf.uI _ rfl).uI _ rfl).uI _ rfl)
theorem c_ps {d w p sz : Nat} {D : zD} {T : Nat → Bool} {Q : zQ} (hw : w < 2 ^ 30) (hR : rd8 D T sz p) (h1 : ∀ D', rpass (8 * sz) w p = .inr ((), p + w) → rd8 D' T sz (p + w) → zfr fAt D D' → Q (.inl none) 0 D') (h0 : ∀ D', rpass (8 * sz) w p = .inl (1, p) → bad8 D' 1 p → zfr fAt D D' → Q (.inr zISE) 1 D') :
    ZM yX4_pass iX4_pass (d + 1) [.ref 37, .int (nI w)] D Q := by
  refine c_pass hw hR (fun hle => h1 _ (rpass_r hle) ?_ (zfr.rf.uI _ rfl)) (fun hn => h0 _ (rpass_1 hn) ⟨rfl, rfl⟩ ((zfr.rf.uI _ rfl).uI _ rfl))
  obtain ⟨r1, r2, r3, r4, r5, r6⟩ := hR
  exact ⟨r1, r2, rfl, hle, r5, r6⟩
theorem q_le64 {a b : Nat} (ha : a < 2 ^ 62) (hb : b < 2 ^ 62) : lN a ≤ lN b ↔ a ≤ b := pk_lLE (by omega) (by omega)
theorem bv8 (T : Nat → Bool) (p : Nat) : bv T p 8 < 256 := bv_lt T p 8
theorem c_readFrameNumber {d fr p sz : Nat} {D : zD} {T : Nat → Bool} {Q : zQ} (hfr : fr < 256) (hR : rd8 D T sz p) (h1 : ∀ D' q, sNumber T (8 * sz) fr p = .inr ((), q) → rd8 D' T sz q → zfr fAt D D' → Q (.inl none) 0 D') (h0 : ∀ D' k pl, sNumber T (8 * sz) fr p = .inl (k, pl) → bad8 D' k pl → zfr fAt D D' → Q (.inr zISE) 1 D') :
    ZM yX4_readFrameNumber iX4_readFrameNumber (d + 2) [.ref 37, .int (nI fr)] D Q := by
  refine z_method (by decide) rfl (Nat.le_of_ble_eq_true rfl) ?_
  refine z_at [(0, .ref 37), (1, .int (nI fr))] ⟨rfl, rfl, trivial⟩ ?_
  unfold sNumber at h1 h0
  have hv := bv8 T p
  obtain ⟨v, hvd⟩ : ∃ v, v = bv T p 8 := ⟨_, rfl⟩
  rw [← hvd] at hv
  obtain ⟨due, hdue⟩ : ∃ due, due = if fr < 128 then fr else 192 + fr / 64 := ⟨_, rfl⟩
  have hdl : due < 256 := by rw [hdue]; split <;> omega
  have le64 : ∀ a b : Nat, a < 1000 → b < 1000 → (lN a ≤ lN b ↔ a ≤ b) := fun a b ha hb => pk_lLE (by omega) (by omega)
  have eq64 : ∀ a b : Nat, a < 1000 → b < 1000 → (lN a = lN b ↔ a = b) := fun a b ha hb => pk_lEQ (by omega) (by omega)
  have second : ∀ D1, rd8 D1 T sz (p + 8) → zfr fAt D D1 → ¬ fr < 128 → rit T (8 * sz) 8 (kN1 fr) p = .inr (bv T p 8, p + 8) → Z (zmk iX4_readFrameNumber (d + 2)) 0 83 (zl [(0, .ref 37), (1, .int (nI fr))]) [] D1 Q := by
    intro D1 hR1 hF hfr8 hs
    have hv2 := bv8 T (p + 8)
    have b0 : ∀ {k : Nat}, rit T (8 * sz) 8 (kN2 fr) (p + 8) = .inl (k, p + 8) → rbind (rit T (8 * sz) 8 (kN1 fr)) (fun _ => if fr < 128 then rpure () else rbind (rit T (8 * sz) 8 (kN2 fr)) fun _ => rpure ()) p = .inl (k, p + 8) := fun h => by
      rw [rbind_r hs, if_neg hfr8, rbind_l h]
    have b1 : rit T (8 * sz) 8 (kN2 fr) (p + 8) = .inr (bv T (p + 8) 8, p + 8 + 8) → rbind (rit T (8 * sz) 8 (kN1 fr)) (fun _ => if fr < 128 then rpure () else rbind (rit T (8 * sz) 8 (kN2 fr)) fun _ => rpure ()) p = .inr ((), p + 8 + 8) := fun h => by
      rw [rbind_r hs, if_neg hfr8, rbind_r h]
      rfl
    refine z_aload_n dX4_readFrameNumber_83 (by exact rfl) ?_
    refine z_bipush dX4_readFrameNumber_84 ?_
    refine z_cV dX4_readFrameNumber_86 zk_X4_98 (by exact rfl) (by exact rfl) (by exact rfl) (Nat.le_of_ble_eq_true rfl) (Nat.le_of_ble_eq_true rfl) (Nat.le_refl _) ?_
    refine c_num (w := 8) (by omega) hR1 (fun D2 hle hR2 hit2 hF2 => ?_) (fun D2 hn hb2 hF2 => zx_out rfl (h0 D2 1 (p + 8) (b0 (rit_1 hn)) hb2 (hF.tr hF2)))
    refine z_lstore dX4_readFrameNumber_89 (Nat.le_of_ble_eq_true rfl) ?_
    refine z_aload_n dX4_readFrameNumber_91 (by exact rfl) ?_
    refine z_lload dX4_readFrameNumber_92 (by exact rfl) ?_
    refine z_ldcL dX4_readFrameNumber_94 zclx_X4_190 ?_
    refine z_ldcL dX4_readFrameNumber_97 zclx_X4_192 ?_
    refine z_cN dX4_readFrameNumber_100 zk_X4_115 rfl (by exact rfl) (Nat.le_of_ble_eq_true rfl) (Nat.le_of_ble_eq_true rfl) (Nat.le_add_left _ _) ?_
    refine c_within (fun a100 b100 => ?_) (fun n100 => ?_)
    · refine z_iconst dX4_readFrameNumber_103 ?_
      refine z_cV dX4_readFrameNumber_104 zk_X4_119 (by exact rfl) (by exact rfl) (by exact rfl) (Nat.le_of_ble_eq_true rfl) (Nat.le_of_ble_eq_true rfl) (Nat.le_refl _) ?_
      refine c_fu (kind := 2) hit2 (fun _ => ?_) (fun D3 q => absurd q (by decide))
      have g1 : 128 ≤ bv T (p + 8) 8 := (le64 128 _ (by omega) (by omega)).mp a100
      have g2 : bv T (p + 8) 8 ≤ 191 := (le64 _ 191 (by omega) (by omega)).mp b100
      refine z_aload_n dX4_readFrameNumber_107 (by exact rfl) ?_
      refine z_lload dX4_readFrameNumber_108 (by exact rfl) ?_
      refine z_sipush dX4_readFrameNumber_110 ?_
      refine z_iload_n dX4_readFrameNumber_113 (by exact rfl) ?_
      refine z_bipush dX4_readFrameNumber_114 ?_
      refine z_iand dX4_readFrameNumber_116 ?_
      refine z_iadd dX4_readFrameNumber_117 ?_
      refine z_eI (nI (128 + fr % 64)) (by
        rw [pk_andN (n := fr) (by omega) (m := (Int8.ofInt 63).toInt32) 6 (by decide)]
        exact nI_add 128 (fr % 64)) ?_
      refine z_i2l dX4_readFrameNumber_118 ?_
      refine z_eJ (lN (128 + fr % 64)) (nI_l (by omega)) ?_
      refine z_ne (tgt := 127) dX4_readFrameNumber_119 dX4_readFrameNumber_120 (by decide) (fun c119 => ?_) (fun c119 => ?_)
      · refine z_iconst dX4_readFrameNumber_127 ?_
        refine z_iconst dX4_readFrameNumber_128 ?_
        refine z_cV dX4_readFrameNumber_129 zk_X4_119 (by exact rfl) (by exact rfl) (by exact rfl) (Nat.le_of_ble_eq_true rfl) (Nat.le_of_ble_eq_true rfl) (Nat.le_refl _) ?_
        exact c_fu (kind := 4) hit2 (fun q => absurd rfl q) (fun D3 _ hb3 hF3 => zx_out rfl (h0 D3 4 (p + 8) (b0 (rit_k hle (by unfold kN2; rw [if_pos ⟨g1, g2⟩, if_neg (fun q => c119 ((eq64 _ _ (by omega) (by omega)).mpr q))]) (by omega))) hb3 ((hF.tr hF2).tr hF3)))
      · refine z_iconst dX4_readFrameNumber_123 ?_
        refine z_goto (tgt := 128) dX4_readFrameNumber_124 (by decide) ?_
        refine z_iconst dX4_readFrameNumber_128 ?_
        refine z_cV dX4_readFrameNumber_129 zk_X4_119 (by exact rfl) (by exact rfl) (by exact rfl) (Nat.le_of_ble_eq_true rfl) (Nat.le_of_ble_eq_true rfl) (Nat.le_refl _) ?_
        refine c_fu (kind := 4) hit2 (fun _ => ?_) (fun D3 q => absurd q (by decide))
        exact z_vret (st := []) rfl dX4_readFrameNumber_132 (h1 D2 (p + 8 + 8) (b1 (rit_r hle (by unfold kN2; rw [if_pos ⟨g1, g2⟩, if_pos ((eq64 _ _ (by omega) (by omega)).mp c119)]))) hR2 (hF.tr hF2))
    · refine z_iconst dX4_readFrameNumber_103 ?_
      refine z_cV dX4_readFrameNumber_104 zk_X4_119 (by exact rfl) (by exact rfl) (by exact rfl) (Nat.le_of_ble_eq_true rfl) (Nat.le_of_ble_eq_true rfl) (Nat.le_refl _) ?_
      exact c_fu (kind := 2) hit2 (fun q => absurd rfl q) (fun D3 _ hb3 hF3 => zx_out rfl (h0 D3 2 (p + 8) (b0 (rit_k hle (if_neg (fun q => n100 ⟨(le64 128 _ (by omega) (by omega)).mpr q.1, (le64 _ 191 (by omega) (by omega)).mpr q.2⟩)) (by omega))) hb3 ((hF.tr hF2).tr hF3)))
  have first : ∀ D1, p + 8 ≤ 8 * sz → rd8 D1 T sz (p + 8) → D1.1 37 8 = nI p → zfr fAt D D1 → ∀ b : Int32, (b = 0 ↔ ¬ (v ≤ 127 ∨ (192 ≤ v ∧ v ≤ 223))) → Z (zmk iX4_readFrameNumber (d + 2)) 0 37 (zl [(0, .ref 37), (1, .int (nI fr)), (2, .long (lN v))]) [.int b, .ref 37] D1 Q := by
    intro D1 hle hR1 hit hF b hb
    have behind : (v ≤ 127 ∨ (192 ≤ v ∧ v ≤ 223)) → Z (zmk iX4_readFrameNumber (d + 2)) 0 41 (zl [(0, .ref 37), (1, .int (nI fr)), (2, .long (lN v))]) [] D1 Q := by
      intro hcan
      have chk : ∀ b2 : Int32, (b2 = 0 ↔ ¬ v = due) → Z (zmk iX4_readFrameNumber (d + 2)) 0 72 (zl [(0, .ref 37), (1, .int (nI fr)), (2, .long (lN v))]) [.int b2, .ref 37] D1 Q := by
        intro b2 hb2
        refine z_iconst dX4_readFrameNumber_72 ?_
        refine z_cV dX4_readFrameNumber_73 zk_X4_119 (by exact rfl) (by exact rfl) (by exact rfl) (Nat.le_of_ble_eq_true rfl) (Nat.le_of_ble_eq_true rfl) (Nat.le_refl _) ?_
        refine c_fu (kind := 4) hit (fun hn => ?_) (fun D3 q hb3 hF3 => zx_out rfl (h0 D3 4 p (rbind_l (rit_k hle (by unfold kN1; rw [← hvd, if_pos hcan, ← hdue, if_neg (hb2.mp q)]) (by omega))) hb3 (hF.tr hF3)))
        have hs : rit T (8 * sz) 8 (kN1 fr) p = .inr (bv T p 8, p + 8) := rit_r hle (by
          unfold kN1
          rw [← hvd, if_pos hcan, ← hdue, if_pos (Decidable.not_not.mp (fun q => hn (hb2.mpr q)))])
        refine z_iload_n dX4_readFrameNumber_76 (by exact rfl) ?_
        refine z_sipush dX4_readFrameNumber_77 ?_
        refine z_icmp_lt (tgt := 132) dX4_readFrameNumber_80 (by decide) (fun c80 => ?_) (fun c80 => ?_)
        · exact z_vret (st := []) rfl dX4_readFrameNumber_132 (h1 D1 (p + 8) (by
            rw [rbind_r hs, if_pos ((nI_ltI (a := fr) (b := 128) (by omega) (by omega)).mp c80)]
            rfl) hR1 hF)
        · exact z_at [(0, .ref 37), (1, .int (nI fr))] ⟨rfl, rfl, trivial⟩ (second D1 hR1 hF (fun q => c80 ((nI_ltI (a := fr) (b := 128) (by omega) (by omega)).mpr q)) hs)
      refine z_aload_n dX4_readFrameNumber_41 (by exact rfl) ?_
      refine z_lload_n dX4_readFrameNumber_42 (by exact rfl) ?_
      refine z_iload_n dX4_readFrameNumber_43 (by exact rfl) ?_
      refine z_sipush dX4_readFrameNumber_44 ?_
      refine z_icmp_ge (tgt := 54) dX4_readFrameNumber_47 (by decide) (fun c47 => ?_) (fun c47 => ?_)
      · refine z_sipush dX4_readFrameNumber_54 ?_
        refine z_iload_n dX4_readFrameNumber_57 (by exact rfl) ?_
        refine z_bipush dX4_readFrameNumber_58 ?_
        refine z_ishr dX4_readFrameNumber_60 ?_
        refine z_iadd dX4_readFrameNumber_61 ?_
        refine z_eI (nI due) (by
          have h128 : ¬ fr < 128 := fun q => nI_ge (a := fr) (b := 128) q (by omega) c47
          rw [hdue, if_neg h128, pk_shrN (n := fr) (by omega) _ 6 (by decide)]
          exact nI_add 192 (fr / 64)) ?_
        refine z_i2l dX4_readFrameNumber_62 ?_
        refine z_eJ (lN due) (nI_l (by omega)) ?_
        refine z_ne (tgt := 71) dX4_readFrameNumber_63 dX4_readFrameNumber_64 (by decide) (fun c63 => ?_) (fun c63 => ?_)
        · refine z_iconst dX4_readFrameNumber_71 ?_
          exact z_at [(0, .ref 37), (1, .int (nI fr)), (2, .long (lN v))] ⟨rfl, rfl, rfl, trivial⟩ (chk _ ⟨fun _ q => c63 ((eq64 _ _ (by omega) (by omega)).mpr q), fun _ => rfl⟩)
        · refine z_iconst dX4_readFrameNumber_67 ?_
          refine z_goto (tgt := 72) dX4_readFrameNumber_68 (by decide) ?_
          exact z_at [(0, .ref 37), (1, .int (nI fr)), (2, .long (lN v))] ⟨rfl, rfl, rfl, trivial⟩ (chk _ ⟨fun q => absurd q (by decide), fun q => absurd ((eq64 _ _ (by omega) (by omega)).mp c63) q⟩)
      · refine z_iload_n dX4_readFrameNumber_50 (by exact rfl) ?_
        refine z_eI (nI due) (by
          have h128 : fr < 128 := by
            rcases Nat.lt_or_ge fr 128 with q | q
            · exact q
            · exact absurd (nI_le (a := 128) (b := fr) q (by omega)) c47
          rw [hdue, if_pos h128]) ?_
        refine z_goto (tgt := 62) dX4_readFrameNumber_51 (by decide) ?_
        refine z_i2l dX4_readFrameNumber_62 ?_
        refine z_eJ (lN due) (nI_l (by omega)) ?_
        refine z_ne (tgt := 71) dX4_readFrameNumber_63 dX4_readFrameNumber_64 (by decide) (fun c63 => ?_) (fun c63 => ?_)
        · refine z_iconst dX4_readFrameNumber_71 ?_
          exact z_at [(0, .ref 37), (1, .int (nI fr)), (2, .long (lN v))] ⟨rfl, rfl, rfl, trivial⟩ (chk _ ⟨fun _ q => c63 ((eq64 _ _ (by omega) (by omega)).mpr q), fun _ => rfl⟩)
        · refine z_iconst dX4_readFrameNumber_67 ?_
          refine z_goto (tgt := 72) dX4_readFrameNumber_68 (by decide) ?_
          exact z_at [(0, .ref 37), (1, .int (nI fr)), (2, .long (lN v))] ⟨rfl, rfl, rfl, trivial⟩ (chk _ ⟨fun q => absurd q (by decide), fun q => absurd ((eq64 _ _ (by omega) (by omega)).mp c63) q⟩)
    refine z_iconst dX4_readFrameNumber_37 ?_
    refine z_cV dX4_readFrameNumber_38 zk_X4_119 (by exact rfl) (by exact rfl) (by exact rfl) (Nat.le_of_ble_eq_true rfl) (Nat.le_of_ble_eq_true rfl) (Nat.le_refl _) ?_
    refine c_fu (kind := 2) hit (fun hn => ?_) (fun D3 q hb3 hF3 => zx_out rfl (h0 D3 2 p (rbind_l (rit_k hle (by unfold kN1; rw [← hvd, if_neg (hb.mp q)]) (by omega))) hb3 (hF.tr hF3)))
    exact behind (Decidable.not_not.mp (fun q => hn (hb.mpr q)))
  refine z_aload_n dX4_readFrameNumber_0 (by exact rfl) ?_
  refine z_bipush dX4_readFrameNumber_1 ?_
  refine z_cV dX4_readFrameNumber_3 zk_X4_98 (by exact rfl) (by exact rfl) (by exact rfl) (Nat.le_of_ble_eq_true rfl) (Nat.le_of_ble_eq_true rfl) (Nat.le_refl _) ?_
  refine c_num (w := 8) (by omega) hR (fun D1 hle hR1 hit hF => ?_) (fun D1 hn hb1 hF => zx_out rfl (h0 D1 1 p (rbind_l (rit_1 hn)) hb1 hF))
  rw [← hvd]
  refine z_lstore_n dX4_readFrameNumber_6 (Nat.le_of_ble_eq_true rfl) ?_
  refine z_aload_n dX4_readFrameNumber_7 (by exact rfl) ?_
  refine z_lload_n dX4_readFrameNumber_8 (by exact rfl) ?_
  refine z_lconst dX4_readFrameNumber_9 ?_
  refine z_ldcL dX4_readFrameNumber_10 zclx_X4_184 ?_
  refine z_cN dX4_readFrameNumber_13 zk_X4_115 rfl (by exact rfl) (Nat.le_of_ble_eq_true rfl) (Nat.le_of_ble_eq_true rfl) (Nat.le_add_left _ _) ?_
  refine c_within (fun a13 b13 => ?_) (fun n13 => ?_)
  · refine z_if_ne (tgt := 32) dX4_readFrameNumber_16 (by decide) (fun _ => ?_) (fun q9 => absurd q9 (by decide))
    refine z_iconst dX4_readFrameNumber_32 ?_
    refine z_goto (tgt := 37) dX4_readFrameNumber_33 (by decide) ?_
    exact z_at [(0, .ref 37), (1, .int (nI fr)), (2, .long (lN v))] ⟨rfl, rfl, rfl, trivial⟩ (first D1 hle hR1 hit hF _ ⟨fun q => absurd q (by decide), fun q => absurd (Or.inl ((le64 _ 127 (by omega) (by omega)).mp b13)) q⟩)
  · refine z_if_ne (tgt := 32) dX4_readFrameNumber_16 (by decide) (fun q9 => absurd rfl q9) (fun _ => ?_)
    refine z_lload_n dX4_readFrameNumber_19 (by exact rfl) ?_
    refine z_ldcL dX4_readFrameNumber_20 zclx_X4_186 ?_
    refine z_ldcL dX4_readFrameNumber_23 zclx_X4_188 ?_
    refine z_cN dX4_readFrameNumber_26 zk_X4_115 rfl (by exact rfl) (Nat.le_of_ble_eq_true rfl) (Nat.le_of_ble_eq_true rfl) (Nat.le_add_left _ _) ?_
    refine c_within (fun a26 b26 => ?_) (fun n26 => ?_)
    · refine z_if_eq (tgt := 36) dX4_readFrameNumber_29 (by decide) (fun q9 => absurd q9 (by decide)) (fun _ => ?_)
      refine z_iconst dX4_readFrameNumber_32 ?_
      refine z_goto (tgt := 37) dX4_readFrameNumber_33 (by decide) ?_
      exact z_at [(0, .ref 37), (1, .int (nI fr)), (2, .long (lN v))] ⟨rfl, rfl, rfl, trivial⟩ (first D1 hle hR1 hit hF _ ⟨fun q => absurd q (by decide), fun q => absurd (Or.inr ⟨(le64 192 _ (by omega) (by omega)).mp a26, (le64 _ 223 (by omega) (by omega)).mp b26⟩) q⟩)
    · refine z_if_eq (tgt := 36) dX4_readFrameNumber_29 (by decide) (fun _ => ?_) (fun q9 => absurd q9 (by decide))
      refine z_iconst dX4_readFrameNumber_36 ?_
      exact z_at [(0, .ref 37), (1, .int (nI fr)), (2, .long (lN v))] ⟨rfl, rfl, rfl, trivial⟩ (first D1 hle hR1 hit hF _ ⟨fun _ q => q.elim (fun q => n13 ⟨(le64 0 _ (by omega) (by omega)).mpr (Nat.zero_le _), (le64 _ 127 (by omega) (by omega)).mpr q⟩) (fun q => n26 ⟨(le64 192 _ (by omega) (by omega)).mpr q.1, (le64 _ 223 (by omega) (by omega)).mpr q.2⟩), fun _ => rfl⟩)
