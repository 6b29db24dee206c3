/-! ===== Reader.openStream, expectEnd; small ones ===== -/
theorem c_expectEnd {d p sz : Nat} {D : zD} {T : Nat → Bool} {Q : zQ} (hR : rd8 D T sz p) (h1 : p = 8 * sz → Q (.inl none) 0 D) (h0 : ∀ D', ¬ p = 8 * sz → bad8 D' 2 p → zfr fAt D D' → Q (.inr zISE) 1 D') : ZM yX4_expectEnd iX4_expectEnd (d + 1) [.ref 37] D Q := by
  refine z_method (by decide) rfl (Nat.le_of_ble_eq_true rfl) ?_
  refine z_at [(0, .ref 37)] ⟨rfl, trivial⟩ ?_
  obtain ⟨r1, r2, r3, r4, r5, r6⟩ := id hR
  refine z_aload_n dX4_expectEnd_0 (by exact rfl) ?_
  refine z_gfI zfx_X4_64 (by exact rfl) dX4_expectEnd_1 ?_
  refine z_eI (nI p) r3 ?_
  refine z_bipush dX4_expectEnd_4 ?_
  refine z_aload_n dX4_expectEnd_6 (by exact rfl) ?_
  refine z_gfI zfx_X4_15 (by exact rfl) dX4_expectEnd_7 ?_
  refine z_eI (nI sz) r1 ?_
  refine z_imul dX4_expectEnd_10 ?_
  refine z_eI (nI (8 * sz)) (pk_mul 8 sz) ?_
  refine z_icmp_eq (tgt := 23) dX4_expectEnd_11 (by decide) (fun c11 => ?_) (fun c11 => ?_)
  · exact z_vret (st := []) rfl dX4_expectEnd_23 (h1 ((nI_eq (by omega) (by omega)).mp c11))
  · refine z_aload_n dX4_expectEnd_14 (by exact rfl) ?_
    refine z_iconst dX4_expectEnd_15 ?_
    refine z_aload_n dX4_expectEnd_16 (by exact rfl) ?_
    refine z_gfI zfx_X4_64 (by exact rfl) dX4_expectEnd_17 ?_
    refine z_cV dX4_expectEnd_20 zk_X4_95 (by exact rfl) (by exact rfl) (by exact rfl) (Nat.le_of_ble_eq_true rfl) (Nat.le_of_ble_eq_true rfl) (Nat.le_refl _) ?_
    exact c_fail (zx_out rfl (h0 _ (fun q => c11 ((nI_eq (by omega) (by omega)).mpr q)) ⟨rfl, r3⟩ ((zfr.rf.uI _ rfl).uI _ rfl)))
theorem rd8.wr {D D' : zD} {T : Nat → Bool} {sz p : Nat} (h : rd8 D T sz p) (h1 : D'.1 37 1 = D.1 37 1) (h2 : D'.1 37 7 = D.1 37 7) (h3 : D'.1 38 = D.1 38) (h4 : D'.1 37 2 = D.1 37 2) (h5 : D'.1 37 3 = D.1 37 3) : rd8 D' T sz p := by
  obtain ⟨r1, r2, r3, r4, r5, r6, r7⟩ := h
  exact ⟨h1.trans r1, r2, h2.trans r3, r4, fun i hi => by rw [h3]; exact r5 i hi, h4.trans r6, h5.trans r7⟩
def rmon {α : Type} (m : RS α) : Prop := ∀ p a q, m p = .inr (a, q) → p ≤ q
theorem rm_pure {α : Type} (a : α) : rmon (rpure a) := fun p b q h => by
  cases h
  exact Nat.le_refl _
theorem rm_bind {α β : Type} {m : RS α} {f : α → RS β} (h : rmon m) (hf : ∀ a, rmon (f a)) : rmon (rbind m f) := fun p b q e => by
  obtain ⟨a, r, h1, h2⟩ | ⟨k, pl, h1, h2⟩ := rbind_i e
  · exact Nat.le_trans (h p a r h1) (hf a r b q h2)
  · cases h2
theorem rm_it (T : Nat → Bool) (e w : Nat) (f : Nat → Nat) : rmon (rit T e w f) := fun p b q h => by
  unfold rit at h
  split at h
  · split at h
    · cases h
      omega
    · cases h
  · cases h
theorem rm_ps (e w : Nat) : rmon (rpass e w) := fun p b q h => by
  unfold rpass at h
  split at h
  · cases h
    omega
  · cases h
theorem rm_if {α : Type} {P : Prop} [Decidable P] {m n : RS α} (h1 : rmon m) (h2 : rmon n) : rmon (if P then m else n) := by
  split
  · exact h1
  · exact h2
theorem rm_loop {α : Type} {f : Nat → α → RS α} (hf : ∀ i a, rmon (f i a)) : ∀ (m i : Nat) (a : α), rmon (rloop f i m a)
  | 0, _, a => rm_pure a
  | m + 1, i, a => rm_bind (hf i a) (rm_loop hf m (i + 1))
theorem rm_run (T : Nat → Bool) (e : Nat) : rmon (sRun T e) := fun p b q h => by
  unfold sRun at h
  split at h
  · cases h
  · cases h
    omega
theorem rm_settings (T : Nat → Bool) (e : Nat) : rmon (sSettings T e) := by
  unfold sSettings
  exact rm_bind (rm_it _ _ _ _) fun _ => rm_bind (rm_it _ _ _ _) fun _ => rm_bind (rm_ps _ _) fun _ => rm_bind (rm_ps _ _) fun _ => rm_bind (rm_it _ _ _ _) fun _ => rm_bind (rm_it _ _ _ _) fun _ => rm_bind (rm_it _ _ _ _) fun _ => rm_bind (rm_it _ _ _ _) fun _ => rm_bind (rm_ps _ _) fun _ => rm_pure _
theorem c_openStream {d p sz : Nat} {D : zD} {T : Nat → Bool} {Q : zQ} (hR : rd8 D T sz p) (h1 : ∀ D' s q, sOpen T (8 * sz) p = .inr (s, q) → okSet s → set8 D' s → rd8 D' T sz q → zfr fSet D D' → Q (.inl none) 0 D') (h0 : ∀ D' k pl, sOpen T (8 * sz) p = .inl (k, pl) → bad8 D' k pl → zfr fSet D D' → Q (.inr zISE) 1 D') :
    ZM yX4_openStream iX4_openStream (d + 4) [.ref 37] D Q := by
  refine z_method (by decide) rfl (Nat.le_of_ble_eq_true rfl) ?_
  refine z_at [(0, .ref 37)] ⟨rfl, trivial⟩ ?_
  have wk : ∀ {X Y : zD}, zfr fAt X Y → zfr fSet X Y := fun h => h.wk fSet_at
  have le64 : ∀ a b : Nat, a < 2000000 → b < 2000000 → (lN a ≤ lN b ↔ a ≤ b) := fun a b ha hb => pk_lLE (by omega) (by omega)
  obtain ⟨sp, hsp⟩ : ∃ sp, sp = sOpen T (8 * sz) p := ⟨_, rfl⟩
  rw [← hsp] at h1 h0
  have hK := hsp.symm
  unfold sOpen at hK
  have lp : ∀ (m w : Nat), w + m = 5000 → ∀ (D1 : zD) (p1 l : Nat) (s : zSet), l < 2 → 32 * w < p1 → rd8 D1 T sz p1 → set8 D1 s → okSet s → zfr fSet D D1 → rbind (sWords T (8 * sz) m l) (fun _ => rpure s) p1 = sp → Z (zmk iX4_openStream (d + 4)) 0 47 (zl [(0, .ref 37), (1, .int (nI l)), (2, .int (nI w))]) [] D1 Q := by
    intro m
    induction m with
    | zero =>
      intro w hw D1 p1 l s _ hp1 hR1 _ _ _ _
      have := hR1.2.2.2.1
      have := hR1.2.1
      omega
    | succ m ih =>
      intro w hw D1 p1 l s hl hp1 hR1 hs1 ho hF hK1
      unfold sWords at hK1
      obtain hl | hl : l = 1 ∨ l = 0 := by omega
      · subst hl
        rw [if_pos rfl] at hK1
        have e : sp = .inr (s, p1) := hK1.symm
        refine z_iload_n dX4_openStream_47 (by exact rfl) ?_
        refine z_if_ne (tgt := 112) dX4_openStream_48 (by decide) (fun _ => ?_) (fun q9 => absurd q9 ((by decide)))
        exact z_vret (st := []) rfl dX4_openStream_112 (h1 D1 s p1 e ho hs1 hR1 hF)
      · subst hl
        rw [if_neg (by decide)] at hK1
        have hK1 : rbind (rit T (8 * sz) 1 kAny) (fun l' => rbind (rit T (8 * sz) 7 (kIn 1 126)) fun _ => rbind (rit T (8 * sz) 24 kAny) fun len => rbind (rpass (8 * sz) (8 * len)) fun _ => rbind (sWords T (8 * sz) m l') fun _ => rpure s) p1 = sp := by
          rw [← hK1]
          unfold rbind
          cases rit T (8 * sz) 1 kAny p1 with
          | inl x => rfl
          | inr x =>
            dsimp only
            cases rit T (8 * sz) 7 (kIn 1 126) x.2 with
            | inl x => rfl
            | inr y =>
              dsimp only
              cases rit T (8 * sz) 24 kAny y.2 with
              | inl x => rfl
              | inr z =>
                dsimp only
                cases rpass (8 * sz) (8 * z.1) z.2 with
                | inl x => rfl
                | inr u => rfl
        have go : ∀ (D2 : zD) (l' : Nat), l' < 2 → rd8 D2 T sz (p1 + 1) → set8 D2 s → zfr fSet D D2 → (rbind (rit T (8 * sz) 7 (kIn 1 126)) fun _ => rbind (rit T (8 * sz) 24 kAny) fun len => rbind (rpass (8 * sz) (8 * len)) fun _ => rbind (sWords T (8 * sz) m l') fun _ => rpure s) (p1 + 1) = sp → Z (zmk iX4_openStream (d + 4)) 0 74 (zl [(0, .ref 37), (1, .int (nI l')), (2, .int (nI w))]) [] D2 Q := by
          intro D2 l' hl' hR2 hs2 hF2 hK2
          refine z_aload_n dX4_openStream_74 (by exact rfl) ?_
          refine z_aload_n dX4_openStream_75 (by exact rfl) ?_
          refine z_bipush dX4_openStream_76 ?_
          refine z_cV dX4_openStream_78 zk_X4_98 (by exact rfl) (by exact rfl) (by exact rfl) (Nat.le_of_ble_eq_true rfl) (Nat.le_of_ble_eq_true rfl) (Nat.le_refl _) ?_
          refine c_numK (w := 7) (by omega) hR2 hK2 (fun D3 e hb hf => zx_out rfl (h0 D3 _ _ e hb (hF2.tr (wk hf)))) (fun D3 v hv hk hkn hR3 hit3 hf3 => ?_)
          refine z_lconst dX4_openStream_81 ?_
          refine z_ldcL dX4_openStream_82 zclx_X4_113 ?_
          refine z_cN dX4_openStream_85 zk_X4_115 rfl (by exact rfl) (Nat.le_of_ble_eq_true rfl) (Nat.le_of_ble_eq_true rfl) (Nat.le_refl _) ?_
          refine c_within (fun a85 b85 => ?_) (fun n85 => ?_)
          · refine z_iconst dX4_openStream_88 ?_
            refine z_cV dX4_openStream_89 zk_X4_119 (by exact rfl) (by exact rfl) (by exact rfl) (Nat.le_of_ble_eq_true rfl) (Nat.le_of_ble_eq_true rfl) (Nat.le_refl _) ?_
            refine c_fu (kind := 2) hit3 (fun _ => ?_) (fun D4 q => absurd q (by decide))
            have k1 : 1 ≤ v ∧ v ≤ 126 := ⟨(le64 1 _ (by omega) (by omega)).mp a85, (le64 _ 126 (by omega) (by omega)).mp b85⟩
            have hK3 := hk (if_pos k1)
            refine z_aload_n dX4_openStream_92 (by exact rfl) ?_
            refine z_bipush dX4_openStream_93 ?_
            refine z_aload_n dX4_openStream_95 (by exact rfl) ?_
            refine z_bipush dX4_openStream_96 ?_
            refine z_cV dX4_openStream_98 zk_X4_98 (by exact rfl) (by exact rfl) (by exact rfl) (Nat.le_of_ble_eq_true rfl) (Nat.le_of_ble_eq_true rfl) (Nat.le_refl _) ?_
            refine c_numA (w := 24) (by omega) hR3 hK3 (fun D4 e hb hf => zx_out rfl (h0 D4 _ _ e hb ((hF2.tr (wk hf3)).tr (wk hf)))) (fun D4 len hlen hK4 hR4 hit4 hf4 => ?_)
            refine z_l2i dX4_openStream_101 ?_
            refine z_eI (nI len) (lN_i len) ?_
            refine z_imul dX4_openStream_102 ?_
            refine z_eI (nI (8 * len)) (pk_mul 8 len) ?_
            refine z_cV dX4_openStream_103 zk_X4_123 (by exact rfl) (by exact rfl) (by exact rfl) (Nat.le_of_ble_eq_true rfl) (Nat.le_of_ble_eq_true rfl) (Nat.le_refl _) ?_
            refine c_psK (by omega) hR4 hK4 (fun D5 e hb hf => zx_out rfl (h0 D5 _ _ e hb (((hF2.tr (wk hf3)).tr (wk hf4)).tr (wk hf)))) (fun D5 hK5 hR5 hf5 => ?_)
            refine z_iinc dX4_openStream_106 (by exact rfl) ?_
            refine z_at [(0, .ref 37), (1, .int (nI l')), (2, .int (nI (w + 1)))] ⟨rfl, rfl, congrArg (fun x => some (Value.int x)) (nI_1 w), trivial⟩ ?_
            refine z_goto (tgt := 47) dX4_openStream_109 (by decide) ?_
            exact ih (w + 1) (by omega) D5 _ l' s hl' (by omega) hR5 (by
              have hf := (hf3.tr hf4).tr hf5
              exact ⟨(hf.1 39 2 rfl).trans hs2.1, (hf.1 39 3 rfl).trans hs2.2.1, (hf.1 39 0 rfl).trans hs2.2.2.1, (hf.1 39 1 rfl).trans hs2.2.2.2.1, (hf.1 37 5 rfl).trans hs2.2.2.2.2⟩) ho (hF2.tr (wk ((hf3.tr hf4).tr hf5))) hK5
          · refine z_iconst dX4_openStream_88 ?_
            refine z_cV dX4_openStream_89 zk_X4_119 (by exact rfl) (by exact rfl) (by exact rfl) (Nat.le_of_ble_eq_true rfl) (Nat.le_of_ble_eq_true rfl) (Nat.le_refl _) ?_
            exact c_fu (kind := 2) hit3 (fun q => absurd rfl q) (fun D4 _ hb hf => zx_out rfl (h0 D4 2 _ (by
              have hne : kIn 1 126 v = 2 := if_neg (fun q => n85 ⟨(le64 1 _ (by omega) (by omega)).mpr q.1, (le64 _ 126 (by omega) (by omega)).mpr q.2⟩)
              rw [hkn (by rw [hne]; decide), hne]) hb ((hF2.tr (wk hf3)).tr (wk hf))))
        refine z_iload_n dX4_openStream_47 (by exact rfl) ?_
        refine z_if_ne (tgt := 112) dX4_openStream_48 (by decide) (fun q9 => absurd (rfl) q9) (fun _ => ?_)
        refine z_iload_n dX4_openStream_51 (by exact rfl) ?_
        refine z_sipush dX4_openStream_52 ?_
        refine z_icmp_ge (tgt := 112) dX4_openStream_55 (by decide) (fun q9 => absurd q9 ((nI_ge (a := w) (b := 5000) (by omega) (by omega)))) (fun _ => ?_)
        refine z_aload_n dX4_openStream_58 (by exact rfl) ?_
        refine z_iconst dX4_openStream_59 ?_
        refine z_cV dX4_openStream_60 zk_X4_98 (by exact rfl) (by exact rfl) (by exact rfl) (Nat.le_of_ble_eq_true rfl) (Nat.le_of_ble_eq_true rfl) (Nat.le_refl _) ?_
        refine c_numA (w := 1) (by omega) hR1 hK1 (fun D2 e hb hf => zx_out rfl (h0 D2 _ _ e hb (hF.tr (wk hf)))) (fun D2 l' hl' hK2 hR2 hit2 hf2 => ?_)
        have hs2 : set8 D2 s := ⟨(hf2.1 39 2 rfl).trans hs1.1, (hf2.1 39 3 rfl).trans hs1.2.1, (hf2.1 39 0 rfl).trans hs1.2.2.1, (hf2.1 39 1 rfl).trans hs1.2.2.2.1, (hf2.1 37 5 rfl).trans hs1.2.2.2.2⟩
        refine z_lconst dX4_openStream_63 ?_
        refine z_ne (tgt := 72) dX4_openStream_64 dX4_openStream_65 (by decide) (fun c64 => ?_) (fun c64 => ?_)
        · refine z_iconst dX4_openStream_72 ?_
          refine z_istore_n dX4_openStream_73 (Nat.le_of_ble_eq_true rfl) ?_
          exact z_at [(0, .ref 37), (1, .int (nI l')), (2, .int (nI w))] ⟨rfl, by
              have : l' = 0 := by
                rcases Nat.lt_or_ge 0 l' with q | q
                · exact absurd ((pk_lEQ (a := l') (b := 1) (by omega) (by omega)).mpr (by omega)) c64
                · omega
              rw [this]
              rfl, rfl, trivial⟩ (go D2 l' hl' hR2 hs2 (hF.tr (wk hf2)) hK2)
        · refine z_iconst dX4_openStream_68 ?_
          refine z_goto (tgt := 73) dX4_openStream_69 (by decide) ?_
          refine z_istore_n dX4_openStream_73 (Nat.le_of_ble_eq_true rfl) ?_
          exact z_at [(0, .ref 37), (1, .int (nI l')), (2, .int (nI w))] ⟨rfl, by
              have : l' = 1 := (pk_lEQ (a := l') (b := 1) (by omega) (by omega)).mp c64
              rw [this]
              rfl, rfl, trivial⟩ (go D2 l' hl' hR2 hs2 (hF.tr (wk hf2)) hK2)
  have go : ∀ (D2 : zD) (l' p2 : Nat), l' < 2 → 0 < p2 → rd8 D2 T sz p2 → zfr fSet D D2 → (rbind (rit T (8 * sz) 7 (kEq 0)) fun _ => rbind (rit T (8 * sz) 24 (kEq 34)) fun _ => rbind (sSettings T (8 * sz)) fun s => rbind (sWords T (8 * sz) 5000 l') fun _ => rpure s) p2 = sp → Z (zmk iX4_openStream (d + 4)) 0 25 (zl [(0, .ref 37), (1, .int (nI l'))]) [] D2 Q := by
    intro D2 l' p2 hl' hp2 hR2 hF2 hK2
    refine z_aload_n dX4_openStream_25 (by exact rfl) ?_
    refine z_bipush dX4_openStream_26 ?_
    refine z_lconst dX4_openStream_28 ?_
    refine z_cV dX4_openStream_29 zk_X4_104 (by exact rfl) (by exact rfl) (by exact rfl) (Nat.le_of_ble_eq_true rfl) (Nat.le_of_ble_eq_true rfl) (Nat.le_refl _) ?_
    refine c_expK (w := 7) (due := 0) (by omega) rfl (by omega) hR2 hK2 (fun D3 k e hb hf => zx_out rfl (h0 D3 _ _ e hb (hF2.tr (wk hf)))) (fun D3 v hK3 hR3 hit3 hf3 => ?_)
    refine z_aload_n dX4_openStream_32 (by exact rfl) ?_
    refine z_bipush dX4_openStream_33 ?_
    refine z_ldcL dX4_openStream_35 zclx_X4_108 ?_
    refine z_cV dX4_openStream_38 zk_X4_104 (by exact rfl) (by exact rfl) (by exact rfl) (Nat.le_of_ble_eq_true rfl) (Nat.le_of_ble_eq_true rfl) (Nat.le_refl _) ?_
    refine c_expK (w := 24) (due := 34) (by omega) rfl (by omega) hR3 hK3 (fun D4 k e hb hf => zx_out rfl (h0 D4 _ _ e hb ((hF2.tr (wk hf3)).tr (wk hf)))) (fun D4 v hK4 hR4 hit4 hf4 => ?_)
    refine z_aload_n dX4_openStream_41 (by exact rfl) ?_
    refine z_cV dX4_openStream_42 zk_X4_110 (by exact rfl) (by exact rfl) (by exact rfl) (Nat.le_of_ble_eq_true rfl) (Nat.le_of_ble_eq_true rfl) (Nat.le_refl _) ?_
    refine c_readSettings hR4 (fun D5 s q hs ho hs5 hR5 hf5 => ?_) (fun D5 k pl hs hb hf => zx_out rfl (h0 D5 _ _ (hK4.symm.trans (rbind_l hs)) hb (((hF2.tr (wk hf3)).tr (wk hf4)).tr hf)))
    refine z_iconst dX4_openStream_45 ?_
    refine z_istore_n dX4_openStream_46 (Nat.le_of_ble_eq_true rfl) ?_
    exact z_at [(0, .ref 37), (1, .int (nI l')), (2, .int (nI 0))] ⟨rfl, rfl, rfl, trivial⟩ (lp 5000 0 (by omega) D5 q l' s hl' (by
      have := rm_settings T (8 * sz) _ _ _ hs
      omega) hR5 hs5 ho (((hF2.tr (wk hf3)).tr (wk hf4)).tr hf5) ((rbind_r hs).symm.trans hK4))
  refine z_aload_n dX4_openStream_0 (by exact rfl) ?_
  refine z_bipush dX4_openStream_1 ?_
  refine z_ldcL dX4_openStream_3 zclx_X4_102 ?_
  refine z_cV dX4_openStream_6 zk_X4_104 (by exact rfl) (by exact rfl) (by exact rfl) (Nat.le_of_ble_eq_true rfl) (Nat.le_of_ble_eq_true rfl) (Nat.le_refl _) ?_
  refine c_expK (w := 32) (due := 1716281667) (by omega) rfl (by omega) hR hK (fun D3 k e hb hf => zx_out rfl (h0 D3 _ _ e hb (wk hf))) (fun D1 v hK1 hR1 hit1 hf1 => ?_)
  refine z_aload_n dX4_openStream_9 (by exact rfl) ?_
  refine z_iconst dX4_openStream_10 ?_
  refine z_cV dX4_openStream_11 zk_X4_98 (by exact rfl) (by exact rfl) (by exact rfl) (Nat.le_of_ble_eq_true rfl) (Nat.le_of_ble_eq_true rfl) (Nat.le_refl _) ?_
  refine c_numA (w := 1) (by omega) hR1 hK1 (fun D2 e hb hf => zx_out rfl (h0 D2 _ _ e hb ((wk hf1).tr (wk hf)))) (fun D2 l' hl' hK2 hR2 hit2 hf2 => ?_)
  refine z_lconst dX4_openStream_14 ?_
  refine z_ne (tgt := 23) dX4_openStream_15 dX4_openStream_16 (by decide) (fun c15 => ?_) (fun c15 => ?_)
  · refine z_iconst dX4_openStream_23 ?_
    refine z_istore_n dX4_openStream_24 (Nat.le_of_ble_eq_true rfl) ?_
    exact z_at [(0, .ref 37), (1, .int (nI l'))] ⟨rfl, by
        have : l' = 0 := by
          rcases Nat.lt_or_ge 0 l' with q | q
          · exact absurd ((pk_lEQ (a := l') (b := 1) (by omega) (by omega)).mpr (by omega)) c15
          · omega
        rw [this]
        rfl, trivial⟩ (go D2 l' _ hl' (by omega) hR2 ((wk hf1).tr (wk hf2)) hK2)
  · refine z_iconst dX4_openStream_19 ?_
    refine z_goto (tgt := 24) dX4_openStream_20 (by decide) ?_
    refine z_istore_n dX4_openStream_24 (Nat.le_of_ble_eq_true rfl) ?_
    exact z_at [(0, .ref 37), (1, .int (nI l'))] ⟨rfl, by
        have : l' = 1 := (pk_lEQ (a := l') (b := 1) (by omega) (by omega)).mp c15
        rw [this]
        rfl, trivial⟩ (go D2 l' _ hl' (by omega) hR2 ((wk hf1).tr (wk hf2)) hK2)
