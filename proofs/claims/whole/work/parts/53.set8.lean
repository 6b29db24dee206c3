/-! ===== Reader.readSettings ===== -/
def fSet (a k : Nat) : Bool := a == 39 || (a == 37 && (k == 2 || k == 3 || k == 5 || k == 7 || k == 8))
theorem fSet_at (a k : Nat) (h : fSet a k = false) : fAt a k = false := by
  revert h
  unfold fSet fAt
  cases a == 37 <;> cases k == 2 <;> cases k == 3 <;> cases k == 7 <;> cases k == 8 <;> cases a == 39 <;> cases k == 5 <;> simp
/-- the settings found -/
def set8 (D : zD) (s : zSet) : Prop := D.1 39 2 = nI s.1 ∧ D.1 39 3 = nI s.2.1 ∧ D.1 39 0 = nI s.2.2.1 ∧ D.1 39 1 = nI s.2.2.2.1 ∧ D.1 37 5 = nI s.2.2.2.2
def okSet (s : zSet) : Prop := (16 ≤ s.1 ∧ s.1 ≤ 256) ∧ (1 ≤ s.2.1 ∧ s.2.1 ≤ 655350) ∧ (1 ≤ s.2.2.1 ∧ s.2.2.1 ≤ 8) ∧ (4 ≤ s.2.2.2.1 ∧ s.2.2.2.1 ≤ 24) ∧ s.2.2.2.2 * s.2.2.1 ≤ 4096
theorem c_readSettings {d p sz : Nat} {D : zD} {T : Nat → Bool} {Q : zQ} (hR : rd8 D T sz p) (h1 : ∀ D' s q, sSettings T (8 * sz) p = .inr (s, q) → okSet s → set8 D' s → rd8 D' T sz q → zfr fSet D D' → Q (.inl none) 0 D') (h0 : ∀ D' k pl, sSettings T (8 * sz) p = .inl (k, pl) → bad8 D' k pl → zfr fSet D D' → Q (.inr zISE) 1 D') :
    ZM yX4_readSettings iX4_readSettings (d + 3) [.ref 37] D Q := by
  refine z_method (by decide) rfl (Nat.le_of_ble_eq_true rfl) ?_
  refine z_at [(0, .ref 37)] ⟨rfl, trivial⟩ ?_
  unfold sSettings at h1 h0
  have le64 : ∀ a b : Nat, a < 2000000 → b < 2000000 → (lN a ≤ lN b ↔ a ≤ b) := fun a b ha hb => pk_lLE (by omega) (by omega)
  have wk : ∀ {X Y : zD}, zfr fAt X Y → zfr fSet X Y := fun h => h.wk fSet_at
  have v1 : bv T p 16 < 65536 := bv_lt T p 16
  refine z_aload_n dX4_readSettings_0 (by exact rfl) ?_
  refine z_gfA zfx_X4_28 (by exact rfl) dX4_readSettings_1 ?_
  refine z_aload_n dX4_readSettings_4 (by exact rfl) ?_
  refine z_bipush dX4_readSettings_5 ?_
  refine z_cV dX4_readSettings_7 zk_X4_98 (by exact rfl) (by exact rfl) (by exact rfl) (Nat.le_of_ble_eq_true rfl) (Nat.le_of_ble_eq_true rfl) (Nat.le_add_left _ _) ?_
  refine c_num (w := 16) (by omega) hR (fun D1 hle1 hR1 hit1 hF1 => ?_) (fun D1 hn hb hF => zx_out rfl (h0 D1 1 _ (rbind_l (rit_1 hn)) hb (wk hF)))
  obtain ⟨bl, hbl⟩ : ∃ bl, bl = bv T p 16 := ⟨_, rfl⟩
  rw [← hbl] at v1 ⊢
  refine z_l2i dX4_readSettings_10 ?_
  refine z_eI (nI bl) (lN_i bl) ?_
  refine z_pfI zfx_X4_70 (by exact rfl) dX4_readSettings_11 ?_
  have g1 : zfr fSet D (zuI D1 39 2 (nI bl)) := (wk hF1).uI _ rfl
  refine z_aload_n dX4_readSettings_14 (by exact rfl) ?_
  refine z_aload_n dX4_readSettings_15 (by exact rfl) ?_
  refine z_gfA zfx_X4_28 (by exact rfl) dX4_readSettings_16 ?_
  refine z_gfI zfx_X4_70 (by exact rfl) dX4_readSettings_19 ?_
  refine z_i2l dX4_readSettings_22 ?_
  refine z_eJ (lN bl) (nI_l (by omega)) ?_
  refine z_ldcL dX4_readSettings_23 zclx_X4_126 ?_
  refine z_ldcL dX4_readSettings_26 zclx_X4_128 ?_
  refine z_cN dX4_readSettings_29 zk_X4_115 rfl (by exact rfl) (Nat.le_of_ble_eq_true rfl) (Nat.le_of_ble_eq_true rfl) (Nat.le_add_left _ _) ?_
  refine c_within (fun a29 b29 => ?_) (fun n29 => ?_)
  · refine z_iconst dX4_readSettings_32 ?_
    refine z_cV dX4_readSettings_33 zk_X4_119 (by exact rfl) (by exact rfl) (by exact rfl) (Nat.le_of_ble_eq_true rfl) (Nat.le_of_ble_eq_true rfl) (Nat.le_add_left _ _) ?_
    refine c_fu (kind := 2) hit1 (fun _ => ?_) (fun D3 q => absurd q (by decide))
    have k1 : 16 ≤ bl ∧ bl ≤ 256 := ⟨(le64 16 _ (by omega) (by omega)).mp a29, (le64 _ 256 (by omega) (by omega)).mp b29⟩
    have s1 : rit T (8 * sz) 16 (kIn 16 256) p = .inr (bv T p 16, p + 16) := rit_r hle1 (by unfold kIn; rw [← hbl, if_pos k1])
    refine z_aload_n dX4_readSettings_36 (by exact rfl) ?_
    refine z_bipush dX4_readSettings_37 ?_
    refine z_aload_n dX4_readSettings_39 (by exact rfl) ?_
    refine z_gfA zfx_X4_28 (by exact rfl) dX4_readSettings_40 ?_
    refine z_gfI zfx_X4_70 (by exact rfl) dX4_readSettings_43 ?_
    refine z_i2l dX4_readSettings_46 ?_
    refine z_eJ (lN bl) (nI_l (by omega)) ?_
    refine z_cV dX4_readSettings_47 zk_X4_104 (by exact rfl) (by exact rfl) (by exact rfl) (Nat.le_of_ble_eq_true rfl) (Nat.le_of_ble_eq_true rfl) (Nat.le_refl _) ?_
    refine c_exp (w := 16) (due := bl) (by omega) rfl (by omega) (p := p + 16) hR1 (fun D2 s2 hR2 _ hF2 => ?_) (fun D2 k s2 hb2 hF2 => zx_out rfl (h0 D2 k _ (by rw [rbind_r s1, ← hbl, rbind_l s2]) hb2 (g1.tr (wk hF2))))
    rw [hbl] at s2
    have g2 := g1.tr (wk hF2)
    have t2 : D2.1 39 2 = nI bl := hF2.1 39 2 rfl
    refine z_aload_n dX4_readSettings_50 (by exact rfl) ?_
    refine z_bipush dX4_readSettings_51 ?_
    refine z_cV dX4_readSettings_53 zk_X4_123 (by exact rfl) (by exact rfl) (by exact rfl) (Nat.le_of_ble_eq_true rfl) (Nat.le_of_ble_eq_true rfl) (Nat.le_add_left _ _) ?_
    refine c_ps (w := 24) (by omega) hR2 (fun D3 s3 hR3 hF3 => ?_) (fun D3 s3 hb3 hF3 => zx_out rfl (h0 D3 1 _ (by rw [rbind_r s1, rbind_r s2, rbind_l s3]) hb3 (g2.tr (wk hF3))))
    have g3 := g2.tr (wk hF3)
    have t3 := (hF3.1 39 2 rfl).trans t2
    refine z_aload_n dX4_readSettings_56 (by exact rfl) ?_
    refine z_bipush dX4_readSettings_57 ?_
    refine z_cV dX4_readSettings_59 zk_X4_123 (by exact rfl) (by exact rfl) (by exact rfl) (Nat.le_of_ble_eq_true rfl) (Nat.le_of_ble_eq_true rfl) (Nat.le_add_left _ _) ?_
    refine c_ps (w := 24) (by omega) hR3 (fun D4 s4 hR4 hF4 => ?_) (fun D4 s4 hb4 hF4 => zx_out rfl (h0 D4 1 _ (by rw [rbind_r s1, rbind_r s2, rbind_r s3, rbind_l s4]) hb4 (g3.tr (wk hF4))))
    have g4 := g3.tr (wk hF4)
    have t4 := (hF4.1 39 2 rfl).trans t3
    refine z_aload_n dX4_readSettings_62 (by exact rfl) ?_
    refine z_gfA zfx_X4_28 (by exact rfl) dX4_readSettings_63 ?_
    refine z_aload_n dX4_readSettings_66 (by exact rfl) ?_
    refine z_bipush dX4_readSettings_67 ?_
    refine z_cV dX4_readSettings_69 zk_X4_98 (by exact rfl) (by exact rfl) (by exact rfl) (Nat.le_of_ble_eq_true rfl) (Nat.le_of_ble_eq_true rfl) (Nat.le_add_left _ _) ?_
    refine c_num (w := 20) (by omega) hR4 (fun D5 hle5 hR5 hit5 hF5 => ?_) (fun D5 hn hb hF => zx_out rfl (h0 D5 1 _ (by rw [rbind_r s1, rbind_r s2, rbind_r s3, rbind_r s4, rbind_l (rit_1 hn)]) hb (g4.tr (wk hF))))
    have v5 : bv T (p + 16 + 16 + 24 + 24) 20 < 1048576 := bv_lt T _ 20
    obtain ⟨rt, hrt⟩ : ∃ rt, rt = bv T (p + 16 + 16 + 24 + 24) 20 := ⟨_, rfl⟩
    rw [← hrt] at v5 ⊢
    refine z_l2i dX4_readSettings_72 ?_
    refine z_eI (nI rt) (lN_i rt) ?_
    refine z_pfI zfx_X4_130 (by exact rfl) dX4_readSettings_73 ?_
    have g5 : zfr fSet D (zuI D5 39 3 (nI rt)) := (g4.tr (wk hF5)).uI _ rfl
    have t5 := (hF5.1 39 2 rfl).trans t4
    refine z_aload_n dX4_readSettings_76 (by exact rfl) ?_
    refine z_aload_n dX4_readSettings_77 (by exact rfl) ?_
    refine z_gfA zfx_X4_28 (by exact rfl) dX4_readSettings_78 ?_
    refine z_gfI zfx_X4_130 (by exact rfl) dX4_readSettings_81 ?_
    refine z_i2l dX4_readSettings_84 ?_
    refine z_eJ (lN rt) (nI_l (by omega)) ?_
    refine z_lconst dX4_readSettings_85 ?_
    refine z_ldcL dX4_readSettings_86 zclx_X4_133 ?_
    refine z_cN dX4_readSettings_89 zk_X4_115 rfl (by exact rfl) (Nat.le_of_ble_eq_true rfl) (Nat.le_of_ble_eq_true rfl) (Nat.le_add_left _ _) ?_
    refine c_within (fun a89 b89 => ?_) (fun n89 => ?_)
    · refine z_iconst dX4_readSettings_92 ?_
      refine z_cV dX4_readSettings_93 zk_X4_119 (by exact rfl) (by exact rfl) (by exact rfl) (Nat.le_of_ble_eq_true rfl) (Nat.le_of_ble_eq_true rfl) (Nat.le_add_left _ _) ?_
      refine c_fu (kind := 2) hit5 (fun _ => ?_) (fun D3 q => absurd q (by decide))
      have k5 : 1 ≤ rt ∧ rt ≤ 655350 := ⟨(le64 1 _ (by omega) (by omega)).mp a89, (le64 _ 655350 (by omega) (by omega)).mp b89⟩
      have s5 : rit T (8 * sz) 20 (kIn 1 655350) (p + 16 + 16 + 24 + 24) = .inr (bv T (p + 16 + 16 + 24 + 24) 20, p + 16 + 16 + 24 + 24 + 20) := rit_r hle5 (by unfold kIn; rw [← hrt, if_pos k5])
      refine z_aload_n dX4_readSettings_96 (by exact rfl) ?_
      refine z_gfA zfx_X4_28 (by exact rfl) dX4_readSettings_97 ?_
      refine z_aload_n dX4_readSettings_100 (by exact rfl) ?_
      refine z_iconst dX4_readSettings_101 ?_
      refine z_cV dX4_readSettings_102 zk_X4_98 (by exact rfl) (by exact rfl) (by exact rfl) (Nat.le_of_ble_eq_true rfl) (Nat.le_of_ble_eq_true rfl) (Nat.le_add_left _ _) ?_
      refine c_num (w := 3) (by omega) (p := p + 16 + 16 + 24 + 24 + 20) hR5 (fun D6 hle6 hR6 hit6 hF6 => ?_) (fun D6 hn hb hF => zx_out rfl (h0 D6 1 _ (by rw [rbind_r s1, rbind_r s2, rbind_r s3, rbind_r s4, rbind_r s5, rbind_l (rit_1 hn)]) hb (g5.tr (wk hF))))
      have v6 : bv T (p + 16 + 16 + 24 + 24 + 20) 3 < 8 := bv_lt T _ 3
      have s6 : rit T (8 * sz) 3 kAny (p + 16 + 16 + 24 + 24 + 20) = .inr (bv T (p + 16 + 16 + 24 + 24 + 20) 3, p + 16 + 16 + 24 + 24 + 20 + 3) := rit_r hle6 rfl
      obtain ⟨c, hc⟩ : ∃ c, c = bv T (p + 16 + 16 + 24 + 24 + 20) 3 := ⟨_, rfl⟩
      rw [← hc] at v6 ⊢
      refine z_l2i dX4_readSettings_105 ?_
      refine z_iconst dX4_readSettings_106 ?_
      refine z_iadd dX4_readSettings_107 ?_
      refine z_eI (nI (c + 1)) (by rw [lN_i]; exact nI_1 c) ?_
      refine z_pfI zfx_X4_135 (by exact rfl) dX4_readSettings_108 ?_
      have g6 : zfr fSet D (zuI D6 39 0 (nI (c + 1))) := (g5.tr (wk hF6)).uI _ rfl
      have t6 := (hF6.1 39 2 rfl).trans t5
      have u6 : D6.1 39 3 = nI rt := hF6.1 39 3 rfl
      refine z_aload_n dX4_readSettings_111 (by exact rfl) ?_
      refine z_gfA zfx_X4_28 (by exact rfl) dX4_readSettings_112 ?_
      refine z_aload_n dX4_readSettings_115 (by exact rfl) ?_
      refine z_iconst dX4_readSettings_116 ?_
      refine z_cV dX4_readSettings_117 zk_X4_98 (by exact rfl) (by exact rfl) (by exact rfl) (Nat.le_of_ble_eq_true rfl) (Nat.le_of_ble_eq_true rfl) (Nat.le_add_left _ _) ?_
      refine c_num (w := 5) (by omega) (p := p + 16 + 16 + 24 + 24 + 20 + 3) hR6 (fun D7 hle7 hR7 hit7 hF7 => ?_) (fun D7 hn hb hF => zx_out rfl (h0 D7 1 _ (by rw [rbind_r s1, rbind_r s2, rbind_r s3, rbind_r s4, rbind_r s5, rbind_r s6, rbind_l (rit_1 hn)]) hb (g6.tr (wk hF))))
      have v7 : bv T (p + 16 + 16 + 24 + 24 + 20 + 3) 5 < 32 := bv_lt T _ 5
      obtain ⟨bb, hbb⟩ : ∃ bb, bb = bv T (p + 16 + 16 + 24 + 24 + 20 + 3) 5 := ⟨_, rfl⟩
      rw [← hbb] at v7 ⊢
      refine z_l2i dX4_readSettings_120 ?_
      refine z_iconst dX4_readSettings_121 ?_
      refine z_iadd dX4_readSettings_122 ?_
      refine z_eI (nI (bb + 1)) (by rw [lN_i]; exact nI_1 bb) ?_
      refine z_pfI zfx_X4_138 (by exact rfl) dX4_readSettings_123 ?_
      have g7 : zfr fSet D (zuI D7 39 1 (nI (bb + 1))) := (g6.tr (wk hF7)).uI _ rfl
      have t7 := (hF7.1 39 2 rfl).trans t6
      have u7 := (hF7.1 39 3 rfl).trans u6
      have w7 : D7.1 39 0 = nI (c + 1) := hF7.1 39 0 rfl
      refine z_aload_n dX4_readSettings_126 (by exact rfl) ?_
      refine z_aload_n dX4_readSettings_127 (by exact rfl) ?_
      refine z_gfA zfx_X4_28 (by exact rfl) dX4_readSettings_128 ?_
      refine z_gfI zfx_X4_138 (by exact rfl) dX4_readSettings_131 ?_
      refine z_i2l dX4_readSettings_134 ?_
      refine z_eJ (lN (bb + 1)) (nI_l (by omega)) ?_
      refine z_ldcL dX4_readSettings_135 zclx_X4_141 ?_
      refine z_ldcL dX4_readSettings_138 zclx_X4_143 ?_
      refine z_cN dX4_readSettings_141 zk_X4_115 rfl (by exact rfl) (Nat.le_of_ble_eq_true rfl) (Nat.le_of_ble_eq_true rfl) (Nat.le_add_left _ _) ?_
      refine c_within (fun a141 b141 => ?_) (fun n141 => ?_)
      · refine z_iconst dX4_readSettings_144 ?_
        refine z_cV dX4_readSettings_145 zk_X4_119 (by exact rfl) (by exact rfl) (by exact rfl) (Nat.le_of_ble_eq_true rfl) (Nat.le_of_ble_eq_true rfl) (Nat.le_add_left _ _) ?_
        refine c_fu (kind := 2) hit7 (fun _ => ?_) (fun D3 q => absurd q (by decide))
        have k7 : 3 ≤ bb ∧ bb ≤ 23 := by
          have q1 := (le64 4 _ (by omega) (by omega)).mp a141
          have q2 := (le64 _ 24 (by omega) (by omega)).mp b141
          omega
        have s7 : rit T (8 * sz) 5 (kIn 3 23) (p + 16 + 16 + 24 + 24 + 20 + 3) = .inr (bv T (p + 16 + 16 + 24 + 24 + 20 + 3) 5, p + 16 + 16 + 24 + 24 + 20 + 3 + 5) := rit_r hle7 (by unfold kIn; rw [← hbb, if_pos k7])
        refine z_aload_n dX4_readSettings_148 (by exact rfl) ?_
        refine z_bipush dX4_readSettings_149 ?_
        refine z_cV dX4_readSettings_151 zk_X4_98 (by exact rfl) (by exact rfl) (by exact rfl) (Nat.le_of_ble_eq_true rfl) (Nat.le_of_ble_eq_true rfl) (Nat.le_add_left _ _) ?_
        refine c_num (w := 36) (by omega) (p := p + 16 + 16 + 24 + 24 + 20 + 3 + 5) hR7 (fun D8 hle8 hR8 hit8 hF8 => ?_) (fun D8 hn hb hF => zx_out rfl (h0 D8 1 _ (by rw [rbind_r s1, rbind_r s2, rbind_r s3, rbind_r s4, rbind_r s5, rbind_r s6, rbind_r s7, rbind_l (rit_1 hn)]) hb (g7.tr (wk hF))))
        have v8 : bv T (p + 16 + 16 + 24 + 24 + 20 + 3 + 5) 36 < 68719476736 := bv_lt T _ 36
        obtain ⟨mm, hmm⟩ : ∃ mm, mm = bv T (p + 16 + 16 + 24 + 24 + 20 + 3 + 5) 36 := ⟨_, rfl⟩
        rw [← hmm] at v8 ⊢
        have g8 := g7.tr (wk hF8)
        have t8 := (hF8.1 39 2 rfl).trans t7
        have u8 := (hF8.1 39 3 rfl).trans u7
        have w8 := (hF8.1 39 0 rfl).trans w7
        have x8 : D8.1 39 1 = nI (bb + 1) := hF8.1 39 1 rfl
        have hmul : mm * (c + 1) < 2 ^ 40 := by
          have : mm * (c + 1) ≤ 68719476736 * 8 := Nat.mul_le_mul (by omega) (by omega)
          omega
        refine z_lstore_n dX4_readSettings_154 (Nat.le_of_ble_eq_true rfl) ?_
        refine z_aload_n dX4_readSettings_155 (by exact rfl) ?_
        refine z_lload_n dX4_readSettings_156 (by exact rfl) ?_
        refine z_aload_n dX4_readSettings_157 (by exact rfl) ?_
        refine z_gfA zfx_X4_28 (by exact rfl) dX4_readSettings_158 ?_
        refine z_gfI zfx_X4_135 (by exact rfl) dX4_readSettings_161 ?_
        refine z_eI (nI (c + 1)) w8 ?_
        refine z_i2l dX4_readSettings_164 ?_
        refine z_eJ (lN (c + 1)) (nI_l (by omega)) ?_
        refine z_lmul dX4_readSettings_165 ?_
        refine z_eJ (lN (mm * (c + 1))) (lN_mul mm (c + 1)) ?_
        refine z_ldcL dX4_readSettings_166 zclx_X4_145 ?_
        refine z_gt (tgt := 177) dX4_readSettings_169 dX4_readSettings_170 (by decide) (fun c169 => ?_) (fun c169 => ?_)
        · refine z_iconst dX4_readSettings_177 ?_
          refine z_iconst dX4_readSettings_178 ?_
          refine z_cV dX4_readSettings_179 zk_X4_119 (by exact rfl) (by exact rfl) (by exact rfl) (Nat.le_of_ble_eq_true rfl) (Nat.le_of_ble_eq_true rfl) (Nat.le_add_left _ _) ?_
          exact c_fu (kind := 4) hit8 (fun q => absurd rfl q) (fun D9 _ hb9 hF9 => zx_out rfl (h0 D9 4 _ (by rw [rbind_r s1, rbind_r s2, rbind_r s3, rbind_r s4, rbind_r s5, rbind_r s6, rbind_r s7, rbind_l (rit_k (f := fun m => if m * (bv T (p + 16 + 16 + 24 + 24 + 20) 3 + 1) ≤ 4096 then 0 else 4) hle8 (by rw [← hmm, ← hc, if_neg (fun q => absurd ((pk_lLT (a := 4096) (b := mm * (c + 1)) (by omega) (by omega)).mp c169) (by omega))]) (by omega))]) hb9 (g8.tr (wk hF9))))
        · refine z_iconst dX4_readSettings_173 ?_
          refine z_goto (tgt := 178) dX4_readSettings_174 (by decide) ?_
          refine z_iconst dX4_readSettings_178 ?_
          refine z_cV dX4_readSettings_179 zk_X4_119 (by exact rfl) (by exact rfl) (by exact rfl) (Nat.le_of_ble_eq_true rfl) (Nat.le_of_ble_eq_true rfl) (Nat.le_add_left _ _) ?_
          refine c_fu (kind := 4) hit8 (fun _ => ?_) (fun D3 q => absurd q (by decide))
          have k8 : mm * (c + 1) ≤ 4096 := by
            rcases Nat.lt_or_ge 4096 (mm * (c + 1)) with q | q
            · exact absurd ((pk_lLT (a := 4096) (b := mm * (c + 1)) (by omega) (by omega)).mpr q) c169
            · exact q
          have s8 : rit T (8 * sz) 36 (fun m => if m * (bv T (p + 16 + 16 + 24 + 24 + 20) 3 + 1) ≤ 4096 then 0 else 4) (p + 16 + 16 + 24 + 24 + 20 + 3 + 5) = .inr (bv T (p + 16 + 16 + 24 + 24 + 20 + 3 + 5) 36, p + 16 + 16 + 24 + 24 + 20 + 3 + 5 + 36) := rit_r hle8 (by rw [← hmm, ← hc, if_pos k8])
          refine z_aload_n dX4_readSettings_182 (by exact rfl) ?_
          refine z_lload_n dX4_readSettings_183 (by exact rfl) ?_
          refine z_l2i dX4_readSettings_184 ?_
          refine z_eI (nI mm) (lN_i mm) ?_
          refine z_pfI zfx_X4_73 (by exact rfl) dX4_readSettings_185 ?_
          have g9 : zfr fSet D (zuI D8 37 5 (nI mm)) := g8.uI _ rfl
          refine z_aload_n dX4_readSettings_188 (by exact rfl) ?_
          refine z_sipush dX4_readSettings_189 ?_
          refine z_cV dX4_readSettings_192 zk_X4_123 (by exact rfl) (by exact rfl) (by exact rfl) (Nat.le_of_ble_eq_true rfl) (Nat.le_of_ble_eq_true rfl) (Nat.le_add_left _ _) ?_
          refine c_ps (w := 128) (by omega) (p := p + 16 + 16 + 24 + 24 + 20 + 3 + 5 + 36) hR8 (fun D9 s9 hR9 hF9 => ?_) (fun D9 s9 hb9 hF9 => zx_out rfl (h0 D9 1 _ (by rw [rbind_r s1, rbind_r s2, rbind_r s3, rbind_r s4, rbind_r s5, rbind_r s6, rbind_r s7, rbind_r s8, rbind_l s9]) hb9 (g9.tr (wk hF9))))
          exact z_vret (st := []) rfl dX4_readSettings_195 (h1 D9 (bl, rt, c + 1, bb + 1, mm) (p + 16 + 16 + 24 + 24 + 20 + 3 + 5 + 36 + 128) (by
            rw [rbind_r s1, rbind_r s2, rbind_r s3, rbind_r s4, rbind_r s5, rbind_r s6, rbind_r s7, rbind_r s8, rbind_r s9, hbl, hrt, hc, hbb, hmm]
            rfl) ⟨k1, k5, ⟨show 1 ≤ c + 1 by omega, show c + 1 ≤ 8 by omega⟩, ⟨show 4 ≤ bb + 1 by omega, show bb + 1 ≤ 24 by omega⟩, k8⟩ ⟨(hF9.1 39 2 rfl).trans t8, (hF9.1 39 3 rfl).trans u8, (hF9.1 39 0 rfl).trans w8, (hF9.1 39 1 rfl).trans x8, hF9.1 37 5 rfl⟩ hR9 (g9.tr (wk hF9)))
      · refine z_iconst dX4_readSettings_144 ?_
        refine z_cV dX4_readSettings_145 zk_X4_119 (by exact rfl) (by exact rfl) (by exact rfl) (Nat.le_of_ble_eq_true rfl) (Nat.le_of_ble_eq_true rfl) (Nat.le_add_left _ _) ?_
        exact c_fu (kind := 2) hit7 (fun q => absurd rfl q) (fun D8 _ hb8 hF8 => zx_out rfl (h0 D8 2 _ (by rw [rbind_r s1, rbind_r s2, rbind_r s3, rbind_r s4, rbind_r s5, rbind_r s6, rbind_l (rit_k hle7 (by unfold kIn; rw [← hbb, if_neg (fun q => n141 ⟨(le64 4 _ (by omega) (by omega)).mpr (by omega), (le64 _ 24 (by omega) (by omega)).mpr (by omega)⟩)]) (by omega))]) hb8 (g7.tr (wk hF8))))
    · refine z_iconst dX4_readSettings_92 ?_
      refine z_cV dX4_readSettings_93 zk_X4_119 (by exact rfl) (by exact rfl) (by exact rfl) (Nat.le_of_ble_eq_true rfl) (Nat.le_of_ble_eq_true rfl) (Nat.le_add_left _ _) ?_
      exact c_fu (kind := 2) hit5 (fun q => absurd rfl q) (fun D6 _ hb6 hF6 => zx_out rfl (h0 D6 2 _ (by rw [rbind_r s1, rbind_r s2, rbind_r s3, rbind_r s4, rbind_l (rit_k hle5 (by unfold kIn; rw [← hrt, if_neg (fun q => n89 ⟨(le64 1 _ (by omega) (by omega)).mpr q.1, (le64 _ 655350 (by omega) (by omega)).mpr q.2⟩)]) (by omega))]) hb6 (g5.tr (wk hF6))))
  · refine z_iconst dX4_readSettings_32 ?_
    refine z_cV dX4_readSettings_33 zk_X4_119 (by exact rfl) (by exact rfl) (by exact rfl) (Nat.le_of_ble_eq_true rfl) (Nat.le_of_ble_eq_true rfl) (Nat.le_add_left _ _) ?_
    exact c_fu (kind := 2) hit1 (fun q => absurd rfl q) (fun D3 _ hb3 hF3 => zx_out rfl (h0 D3 2 p (rbind_l (rit_k hle1 (by unfold kIn; rw [← hbl, if_neg (fun q => n29 ⟨(le64 16 _ (by omega) (by omega)).mpr q.1, (le64 _ 256 (by omega) (by omega)).mpr q.2⟩)]) (by omega))) hb3 (g1.tr (wk hF3))))
