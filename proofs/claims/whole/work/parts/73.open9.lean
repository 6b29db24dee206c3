/-! ===== the reference's readSettings ===== -/
theorem rpass_it {β : Type} (T : Nat → Bool) (e w : Nat) (K : Unit → RS β) : rbind (rpass e w) K = rbind (rit T e w kAny) (fun _ => K ()) := by
  funext p
  by_cases h : p + w ≤ e
  · rw [rbind_r (rpass_r h), rbind_r (rit_r h rfl)]
  · rw [rbind_l (rpass_1 h), rbind_l (rit_1 h)]
theorem sSettings_b {β : Type} (T : Nat → Bool) (e : Nat) (K : zSet → RS β) : rbind (sSettings T e) K = (rbind (rit T e 16 (kIn 16 256)) fun bl => rbind (rit T e 16 (kEq bl)) fun _ => rbind (rit T e 24 kAny) fun _ => rbind (rit T e 24 kAny) fun _ => rbind (rit T e 20 (kIn 1 655350)) fun rt =>
  rbind (rit T e 3 kAny) fun c => rbind (rit T e 5 (kIn 3 23)) fun b => rbind (rit T e 36 (fun m => if m * (c + 1) ≤ 4096 then 0 else 4)) fun m => rbind (rpass e 128) fun _ => K (bl, rt, c + 1, b + 1, m)) := by
  unfold sSettings
  refine (rassoc _ _ _).trans (congrArg (rbind (rit T e 16 (kIn 16 256))) (funext fun bl => ?_))
  refine (rassoc _ _ _).trans (congrArg (rbind (rit T e 16 (kEq bl))) (funext fun _ => ?_))
  refine (rassoc _ _ _).trans ((rpass_it T e 24 _).trans (congrArg (rbind (rit T e 24 kAny)) (funext fun _ => ?_)))
  refine (rassoc _ _ _).trans ((rpass_it T e 24 _).trans (congrArg (rbind (rit T e 24 kAny)) (funext fun _ => ?_)))
  refine (rassoc _ _ _).trans (congrArg (rbind (rit T e 20 (kIn 1 655350))) (funext fun rt => ?_))
  refine (rassoc _ _ _).trans (congrArg (rbind (rit T e 3 kAny)) (funext fun c => ?_))
  refine (rassoc _ _ _).trans (congrArg (rbind (rit T e 5 (kIn 3 23))) (funext fun b => ?_))
  refine (rassoc _ _ _).trans (congrArg (rbind (rit T e 36 (fun m => if m * (c + 1) ≤ 4096 then 0 else 4))) (funext fun m => ?_))
  refine (rassoc _ _ _).trans (congrArg (rbind (rpass e 128)) (funext fun _ => ?_))
  exact rpure_b _ K
def gW9 (T : Nat → Bool) (e l : Nat) (s : zSet) : RS zSet := rbind (sWords T e 5000 l) fun _ => rpure s
theorem sOpen_b (T : Nat → Bool) (e : Nat) : sOpen T e = (rbind (rit T e 32 (kEq 1716281667)) fun _ => rbind (rit T e 1 kAny) fun l => rbind (rit T e 7 (kEq 0)) fun _ => rbind (rit T e 24 (kEq 34)) fun _ => rbind (rit T e 16 (kIn 16 256)) fun bl => rbind (rit T e 16 (kEq bl)) fun _ => rbind (rit T e 24 kAny) fun _ => rbind (rit T e 24 kAny) fun _ => rbind (rit T e 20 (kIn 1 655350)) fun rt =>
  rbind (rit T e 3 kAny) fun c => rbind (rit T e 5 (kIn 3 23)) fun b => rbind (rit T e 36 (fun m => if m * (c + 1) ≤ 4096 then 0 else 4)) fun m => rbind (rpass e 128) fun _ => gW9 T e l (bl, rt, c + 1, b + 1, m)) := by
  unfold sOpen
  refine congrArg (rbind (rit T e 32 (kEq 1716281667))) (funext fun _ => ?_)
  refine congrArg (rbind (rit T e 1 kAny)) (funext fun l => ?_)
  refine congrArg (rbind (rit T e 7 (kEq 0))) (funext fun _ => ?_)
  refine congrArg (rbind (rit T e 24 (kEq 34))) (funext fun _ => ?_)
  exact sSettings_b T e (gW9 T e l)
theorem sWords_s {β : Type} {T : Nat → Bool} {e n l : Nat} {K : Unit → RS β} (hl : ¬ l = 1) : rbind (sWords T e (n + 1) l) K = (rbind (rit T e 1 kAny) fun l' => rbind (rit T e 7 (kIn 1 126)) fun _ => rbind (rit T e 24 kAny) fun len => rbind (rpass e (8 * len)) fun _ => rbind (sWords T e n l') K) := by
  rw [sWords, if_neg hl]
  refine (rassoc _ _ _).trans (congrArg (rbind (rit T e 1 kAny)) (funext fun l' => ?_))
  refine (rassoc _ _ _).trans (congrArg (rbind (rit T e 7 (kIn 1 126))) (funext fun _ => ?_))
  refine (rassoc _ _ _).trans (congrArg (rbind (rit T e 24 kAny)) (funext fun len => ?_))
  exact rassoc _ _ _
def ge9 (D : zD) (r : Nat) : Prop := ∃ p, D.2 19 32 = lN p ∧ p < 2 ^ 40 ∧ r ≤ p
theorem ge9.mv {D D' : zD} {r w : Nat} (h : ge9 D r) (hm : mv9 D D' w) : ge9 D' (r + w) := by
  obtain ⟨p, e, h1, h2⟩ := h
  obtain ⟨p', e', h3, h4⟩ := hm
  have : p = p' := (pk_lEQ (by omega) (by omega)).mp (e.symm.trans e')
  subst this
  exact ⟨p + w, h3, h4, by omega⟩
theorem ge9.le {D : zD} {r r' : Nat} (h : ge9 D r) (e : r' ≤ r) : ge9 D r' := by
  obtain ⟨p, e1, h1, h2⟩ := h
  exact ⟨p, e1, h1, by omega⟩
theorem rd9.ge {D : zD} {T : Nat → Bool} {sz p : Nat} (h : rd9 D T sz p) : ge9 D p := ⟨p, h.2.2.1, by
  have h1 := h.2.1
  have h2 := h.2.2.2.1
  omega, Nat.le_refl _⟩
def set9 (D : zD) (st : zSet) : Prop := D.1 19 34 = nI st.1 ∧ D.1 19 35 = nI st.2.1 ∧ D.1 19 36 = nI st.2.2.1 ∧ D.1 19 37 = nI st.2.2.2.1 ∧ D.2 19 38 = lN st.2.2.2.2
theorem set9.fr {D D' : zD} {F : Nat → Nat → Bool} {st : zSet} (h : set9 D st) (hF : zfr F D D') (g : ∀ k, 34 ≤ k → k ≤ 38 → F 19 k = false) : set9 D' st := ⟨(hF.1 _ _ (g 34 (by omega) (by omega))).trans h.1, (hF.1 _ _ (g 35 (by omega) (by omega))).trans h.2.1, (hF.1 _ _ (g 36 (by omega) (by omega))).trans h.2.2.1, (hF.1 _ _ (g 37 (by omega) (by omega))).trans h.2.2.2.1, (hF.2 _ _ (g 38 (by omega) (by omega))).trans h.2.2.2.2⟩
theorem f9_set (k : Nat) (h1 : 34 ≤ k) (h2 : k ≤ 38) : f9 19 k = false := by
  unfold f9
  simp
  omega
def fS9 (a k : Nat) : Bool := f9 a k || (a == 19 && (decide (34 ≤ k) && decide (k ≤ 38)))
theorem fS9_9 (a k : Nat) (h : fS9 a k = false) : f9 a k = false := or_l h
theorem c_readSettings9 {d sz : Nat} {D : zD} {T : Nat → Bool} {Q : zQ} {sp : RT zSet} (hR : rd9 D T sz 0) (hK : sOpen T (8 * sz) 0 = sp) (hq : ∀ D', ((∃ st q, sp = .inr (st, q) ∧ okSet st ∧ set9 D' st ∧ rd9 D' T sz q) ∨ (∃ k pl, bad9 D' k pl ∧ sp = .inl (k, pl))) → zfr fS9 D D' → Q (.inl none) 0 D') :
    ZM yX9_readSettings iX9_readSettings (d + 3) [.ref 19] D Q := by
  refine z_method (by decide) rfl (Nat.le_of_ble_eq_true rfl) ?_
  refine z_at [(0, .ref 19)] ⟨rfl, trivial⟩ ?_
  have wk : ∀ {X Y : zD}, zfr f9 X Y → zfr fS9 X Y := fun h => h.wk fS9_9
  have lw : ∀ (st : zSet) (m w l : Nat) (D1 : zD), w + m = 5000 → l < 2 → set9 D1 st → rs9 D1 T sz (rbind (sWords T (8 * sz) m l) fun _ => rpure st) sp (okSet st ∧ ge9 D1 (32 * w + 1)) → zfr fS9 D D1 → Z (zmk iX9_readSettings (d + 3)) 0 190 (zl [(0, .ref 19), (3, .long (lN l))]) [] D1 Q := by
    intro st m
    induction m with
    | zero =>
      intro w l D1 hw hl hs h1 hF
      rcases h1 with ⟨p, hR1, hK1, ho, hg⟩ | ⟨k, pl, hb, e⟩
      · obtain ⟨p', e', h3, h4⟩ := hg
        have h8 := hR1.2.2.2.1
        have h9 := hR1.2.1
        have : p = p' := (pk_lEQ (by omega) (by omega)).mp (hR1.2.2.1.symm.trans e')
        omega
      · refine z_aload_n dX9_readSettings_190 (by exact rfl) ?_
        refine z_gfI zfx_X9_264 (by exact rfl) dX9_readSettings_191 ?_
        refine z_if_ne (tgt := 237) dX9_readSettings_194 (by decide) (fun _ => ?_) (fun q9 => absurd q9 (hb.z))
        exact z_vret (st := []) rfl dX9_readSettings_237 (hq D1 (.inr ⟨k, pl, hb, e⟩) hF)
    | succ m ih =>
      intro w l D1 hw hl hs h1 hF
      refine z_aload_n dX9_readSettings_190 (by exact rfl) ?_
      refine z_gfI zfx_X9_264 (by exact rfl) dX9_readSettings_191 ?_
      refine z_if_ne (tgt := 237) dX9_readSettings_194 (by decide) (fun c194 => ?_) (fun c194 => ?_)
      · exact z_vret (st := []) rfl dX9_readSettings_237 (hq D1 (by
          rcases h1 with ⟨p, hR1, _⟩ | hb
          · exact absurd hR1.2.2.2.2.1 c194
          · exact .inr hb) hF)
      · refine z_lload_n dX9_readSettings_197 (by exact rfl) ?_
        refine z_lconst dX9_readSettings_198 ?_
        refine z_ne (tgt := 237) dX9_readSettings_199 dX9_readSettings_200 (by decide) (fun c199 => ?_) (fun c199 => ?_)
        · exact z_vret (st := []) rfl dX9_readSettings_237 (hq D1 (by
            have hl1 : l = 1 := by
              have : ¬ l = 0 := fun q => c199 (by rw [q]; rfl)
              omega
            subst hl1
            rw [sWords, if_pos rfl] at h1
            rcases h1 with ⟨p, hR1, hK1, ho, hg⟩ | hb
            · exact .inl ⟨st, p, hK1.symm, ho, hs, hR1⟩
            · exact .inr hb) hF)
        · have hl0 : ¬ l = 1 := fun q => by
            rw [q] at c199
            exact absurd c199 (by decide)
          rw [sWords_s hl0] at h1
          refine z_aload_n dX9_readSettings_203 (by exact rfl) ?_
          refine z_iconst dX9_readSettings_204 ?_
          refine z_cV dX9_readSettings_205 zk_X9_277 (by exact rfl) (by exact rfl) (by exact rfl) (Nat.le_of_ble_eq_true rfl) (Nat.le_of_ble_eq_true rfl) (Nat.le_refl _) ?_
          refine c_takeP (w := 1) (by omega) h1 (fun D2 l2 hl2 h2 hf2 => ?_)
          refine z_lstore_n dX9_readSettings_208 (Nat.le_of_ble_eq_true rfl) ?_
          refine z_aload_n dX9_readSettings_209 (by exact rfl) ?_
          refine z_bipush dX9_readSettings_210 ?_
          refine z_lconst dX9_readSettings_212 ?_
          refine z_ldcL dX9_readSettings_213 zclx_X9_309 ?_
          refine z_cV dX9_readSettings_216 zk_X9_280 (by exact rfl) (by exact rfl) (by exact rfl) (Nat.le_of_ble_eq_true rfl) (Nat.le_of_ble_eq_true rfl) (Nat.le_refl _) ?_
          refine c_takeInP (w := 7) (by omega) (fun _ => kIn_c (lo := 1) (hi := 126) (by omega) (by omega) (by omega)) h2 (fun D3 v3 hv3 h3 hf3 => ?_)
          refine z_lstore_n dX9_readSettings_219 (Nat.le_of_ble_eq_true rfl) ?_
          refine z_aload_n dX9_readSettings_220 (by exact rfl) ?_
          refine z_ldcL dX9_readSettings_221 zclx_X9_73 ?_
          refine z_aload_n dX9_readSettings_224 (by exact rfl) ?_
          refine z_bipush dX9_readSettings_225 ?_
          refine z_cV dX9_readSettings_227 zk_X9_277 (by exact rfl) (by exact rfl) (by exact rfl) (Nat.le_of_ble_eq_true rfl) (Nat.le_of_ble_eq_true rfl) (Nat.le_refl _) ?_
          refine c_takeP (w := 24) (by omega) h3 (fun D4 len hv4 h4 hf4 => ?_)
          have hlen : len < 16777216 := hv4
          refine z_lmul dX9_readSettings_230 ?_
          refine z_eJ (lN (8 * len)) (lN_mul 8 len) ?_
          refine z_cV dX9_readSettings_231 zk_X9_305 (by exact rfl) (by exact rfl) (by exact rfl) (Nat.le_of_ble_eq_true rfl) (Nat.le_of_ble_eq_true rfl) (Nat.le_refl _) ?_
          refine c_passOverP (w := 8 * len) (by omega) h4 (fun D5 h5 hf5 => ?_)
          have hf := ((hf2.tr hf3).tr hf4).tr hf5
          refine z_goto (tgt := 190) dX9_readSettings_234 (by decide) ?_
          exact z_at [(0, .ref 19), (3, .long (lN l2))] ⟨rfl, rfl, trivial⟩ (ih (w + 1) l2 D5 (by omega) hl2 (hs.fr hf f9_set) (h5.mp (fun _ hp => by
            obtain ⟨⟨⟨⟨⟨ho, hg⟩, m1⟩, _, m2⟩, m3⟩, m4⟩ := hp
            exact ⟨ho, ((((hg.mv m1).mv m2).mv m3).mv m4).le (by omega)⟩)) (hF.tr (wk hf)))
  have t183 : ∀ (st : zSet) (l : Nat) (D1 : zD), l < 2 → set9 D1 st → rs9 D1 T sz (rbind (rpass (8 * sz) 128) fun _ => gW9 T (8 * sz) l st) sp (okSet st ∧ ge9 D1 0) → zfr fS9 D D1 → Z (zmk iX9_readSettings (d + 3)) 0 183 (zl [(0, .ref 19), (3, .long (lN l))]) [] D1 Q := by
    intro st l D1 hl hs h1 hF
    refine z_aload_n dX9_readSettings_183 (by exact rfl) ?_
    refine z_ldcL dX9_readSettings_184 zclx_X9_303 ?_
    refine z_cV dX9_readSettings_187 zk_X9_305 (by exact rfl) (by exact rfl) (by exact rfl) (Nat.le_of_ble_eq_true rfl) (Nat.le_of_ble_eq_true rfl) (Nat.le_refl _) ?_
    refine c_passOverP (w := 128) (by omega) h1 (fun D2 h2 hf2 => ?_)
    exact lw st 5000 0 l D2 (by omega) hl (hs.fr hf2 f9_set) (h2.mp (fun _ hp => ⟨hp.1.1, (hp.1.2.mv hp.2).le (by omega)⟩)) (hF.tr (wk hf2))
  rw [sOpen_b] at hK
  refine z_aload_n dX9_readSettings_0 (by exact rfl) ?_
  refine z_bipush dX9_readSettings_1 ?_
  refine z_ldcL dX9_readSettings_3 zclx_X9_242 ?_
  refine z_ldcL dX9_readSettings_6 zclx_X9_242 ?_
  refine z_cV dX9_readSettings_9 zk_X9_280 (by exact rfl) (by exact rfl) (by exact rfl) (Nat.le_of_ble_eq_true rfl) (Nat.le_of_ble_eq_true rfl) (Nat.le_refl _) ?_
  refine c_takeInU (w := 32) (P := True) (by omega) (fun _ => kEq_c (due := 1716281667) (by omega) (by omega)) (.inl ⟨0, hR, hK, trivial⟩) (fun D1 v1 hv1 h1 hf1 => ?_)
  refine z_lstore_n dX9_readSettings_12 (Nat.le_of_ble_eq_true rfl) ?_
  refine z_aload_n dX9_readSettings_13 (by exact rfl) ?_
  refine z_iconst dX9_readSettings_14 ?_
  refine z_cV dX9_readSettings_15 zk_X9_277 (by exact rfl) (by exact rfl) (by exact rfl) (Nat.le_of_ble_eq_true rfl) (Nat.le_of_ble_eq_true rfl) (Nat.le_refl _) ?_
  refine c_takeU (w := 1) (by omega) h1 (fun D2 l hl h2 hf2 => ?_)
  refine z_lstore_n dX9_readSettings_18 (Nat.le_of_ble_eq_true rfl) ?_
  refine z_aload_n dX9_readSettings_19 (by exact rfl) ?_
  refine z_bipush dX9_readSettings_20 ?_
  refine z_lconst dX9_readSettings_22 ?_
  refine z_lconst dX9_readSettings_23 ?_
  refine z_cV dX9_readSettings_24 zk_X9_280 (by exact rfl) (by exact rfl) (by exact rfl) (Nat.le_of_ble_eq_true rfl) (Nat.le_of_ble_eq_true rfl) (Nat.le_refl _) ?_
  refine c_takeInU (w := 7) (by omega) (fun _ => kEq_c (due := 0) (by omega) (by omega)) h2 (fun D3 v3 hv3 h3 hf3 => ?_)
  refine z_lstore_n dX9_readSettings_27 (Nat.le_of_ble_eq_true rfl) ?_
  refine z_aload_n dX9_readSettings_28 (by exact rfl) ?_
  refine z_bipush dX9_readSettings_29 ?_
  refine z_ldcL dX9_readSettings_31 zclx_X9_244 ?_
  refine z_ldcL dX9_readSettings_34 zclx_X9_244 ?_
  refine z_cV dX9_readSettings_37 zk_X9_280 (by exact rfl) (by exact rfl) (by exact rfl) (Nat.le_of_ble_eq_true rfl) (Nat.le_of_ble_eq_true rfl) (Nat.le_refl _) ?_
  refine c_takeInU (w := 24) (by omega) (fun _ => kEq_c (due := 34) (by omega) (by omega)) h3 (fun D4 v4 hv4 h4 hf4 => ?_)
  have h4 := h4.mp (P' := True) (fun _ _ => trivial)
  have hF4 := wk (((hf1.tr hf2).tr hf3).tr hf4)
  refine z_lstore_n dX9_readSettings_40 (Nat.le_of_ble_eq_true rfl) ?_
  refine z_aload_n dX9_readSettings_41 (by exact rfl) ?_
  refine z_aload_n dX9_readSettings_42 (by exact rfl) ?_
  refine z_bipush dX9_readSettings_43 ?_
  refine z_ldcL dX9_readSettings_45 zclx_X9_83 ?_
  refine z_ldcL dX9_readSettings_48 zclx_X9_85 ?_
  refine z_cV dX9_readSettings_51 zk_X9_280 (by exact rfl) (by exact rfl) (by exact rfl) (Nat.le_of_ble_eq_true rfl) (Nat.le_of_ble_eq_true rfl) (Nat.le_refl _) ?_
  refine c_takeInU (w := 16) (by omega) (fun _ => kIn_c (lo := 16) (hi := 256) (by omega) (by omega) (by omega)) h4 (fun D5 bl hbl h5 hf5 => ?_)
  have hbl2 : bl < 65536 := hbl
  refine z_l2i dX9_readSettings_54 ?_
  refine z_eI (nI bl) (lN_i _) ?_
  refine z_pfI zfx_X9_284 (by exact rfl) dX9_readSettings_55 ?_
  have h5 := h5.fr (D' := zuI D5 19 34 (nI bl)) (F := fun a k => a == 19 && k == 34) (zfr.rf.uI _ rfl) rfl rfl rfl rfl (fun _ => rfl)
  have hF5 := (hF4.tr (wk hf5)).uI (a := 19) (k := 34) (nI bl) rfl
  refine z_aload_n dX9_readSettings_58 (by exact rfl) ?_
  refine z_bipush dX9_readSettings_59 ?_
  refine z_aload_n dX9_readSettings_61 (by exact rfl) ?_
  refine z_gfI zfx_X9_284 (by exact rfl) dX9_readSettings_62 ?_
  refine z_eI (nI bl) rfl ?_
  refine z_i2l dX9_readSettings_65 ?_
  refine z_eJ (lN bl) (nI_l (by omega)) ?_
  refine z_aload_n dX9_readSettings_66 (by exact rfl) ?_
  refine z_gfI zfx_X9_284 (by exact rfl) dX9_readSettings_67 ?_
  refine z_eI (nI bl) rfl ?_
  refine z_i2l dX9_readSettings_70 ?_
  refine z_eJ (lN bl) (nI_l (by omega)) ?_
  refine z_cV dX9_readSettings_71 zk_X9_280 (by exact rfl) (by exact rfl) (by exact rfl) (Nat.le_of_ble_eq_true rfl) (Nat.le_of_ble_eq_true rfl) (Nat.le_refl _) ?_
  refine c_takeInU (w := 16) (by omega) (fun _ => kEq_c (due := bl) (by omega) (by omega)) h5 (fun D6 v6 hv6 h6 hf6 => ?_)
  refine z_lstore_n dX9_readSettings_74 (Nat.le_of_ble_eq_true rfl) ?_
  refine z_aload_n dX9_readSettings_75 (by exact rfl) ?_
  refine z_bipush dX9_readSettings_76 ?_
  refine z_cV dX9_readSettings_78 zk_X9_277 (by exact rfl) (by exact rfl) (by exact rfl) (Nat.le_of_ble_eq_true rfl) (Nat.le_of_ble_eq_true rfl) (Nat.le_refl _) ?_
  refine c_takeU (w := 24) (by omega) h6 (fun D7 v7 hv7 h7 hf7 => ?_)
  refine z_lstore_n dX9_readSettings_81 (Nat.le_of_ble_eq_true rfl) ?_
  refine z_aload_n dX9_readSettings_82 (by exact rfl) ?_
  refine z_bipush dX9_readSettings_83 ?_
  refine z_cV dX9_readSettings_85 zk_X9_277 (by exact rfl) (by exact rfl) (by exact rfl) (Nat.le_of_ble_eq_true rfl) (Nat.le_of_ble_eq_true rfl) (Nat.le_refl _) ?_
  refine c_takeU (w := 24) (by omega) h7 (fun D8 v8 hv8 h8 hf8 => ?_)
  refine z_lstore_n dX9_readSettings_88 (Nat.le_of_ble_eq_true rfl) ?_
  refine z_aload_n dX9_readSettings_89 (by exact rfl) ?_
  refine z_aload_n dX9_readSettings_90 (by exact rfl) ?_
  refine z_bipush dX9_readSettings_91 ?_
  refine z_lconst dX9_readSettings_93 ?_
  refine z_ldcL dX9_readSettings_94 zclx_X9_87 ?_
  refine z_cV dX9_readSettings_97 zk_X9_280 (by exact rfl) (by exact rfl) (by exact rfl) (Nat.le_of_ble_eq_true rfl) (Nat.le_of_ble_eq_true rfl) (Nat.le_refl _) ?_
  refine c_takeInU (w := 20) (by omega) (fun _ => kIn_c (lo := 1) (hi := 655350) (by omega) (by omega) (by omega)) h8 (fun D9 rt hrt h9 hf9 => ?_)
  have h9 := h9.mp (P' := (16 ≤ bl ∧ bl ≤ 256) ∧ (1 ≤ rt ∧ rt ≤ 655350)) (fun _ hp => ⟨kIn_0 hp.1.1.2, kIn_0 hp.2⟩)
  have hF9 := hF5.tr (wk (((hf6.tr hf7).tr hf8).tr hf9))
  have e9 : D9.1 19 34 = nI bl := (((hf6.tr hf7).tr hf8).tr hf9).1 19 34 rfl
  refine z_l2i dX9_readSettings_100 ?_
  refine z_eI (nI rt) (lN_i _) ?_
  refine z_pfI zfx_X9_287 (by exact rfl) dX9_readSettings_101 ?_
  have h9 := h9.fr (D' := zuI D9 19 35 (nI rt)) (F := fun a k => a == 19 && k == 35) (zfr.rf.uI _ rfl) rfl rfl rfl rfl (fun _ => rfl)
  have hF9 := hF9.uI (a := 19) (k := 35) (nI rt) rfl
  refine z_aload_n dX9_readSettings_104 (by exact rfl) ?_
  refine z_aload_n dX9_readSettings_105 (by exact rfl) ?_
  refine z_iconst dX9_readSettings_106 ?_
  refine z_cV dX9_readSettings_107 zk_X9_277 (by exact rfl) (by exact rfl) (by exact rfl) (Nat.le_of_ble_eq_true rfl) (Nat.le_of_ble_eq_true rfl) (Nat.le_refl _) ?_
  refine c_takeU (w := 3) (by omega) h9 (fun D10 c hc h10 hf10 => ?_)
  have hc2 : c < 8 := hc
  have e10 : D10.1 19 34 = nI bl ∧ D10.1 19 35 = nI rt := ⟨(hf10.1 19 34 rfl).trans e9, hf10.1 19 35 rfl⟩
  refine z_l2i dX9_readSettings_110 ?_
  refine z_eI (nI c) (lN_i _) ?_
  refine z_iconst dX9_readSettings_111 ?_
  refine z_iadd dX9_readSettings_112 ?_
  refine z_eI (nI (c + 1)) (nI_1 c) ?_
  refine z_pfI zfx_X9_290 (by exact rfl) dX9_readSettings_113 ?_
  have h10 := h10.fr (D' := zuI D10 19 36 (nI (c + 1))) (F := fun a k => a == 19 && k == 36) (zfr.rf.uI _ rfl) rfl rfl rfl rfl (fun _ => rfl)
  have hF10 := (hF9.tr (wk hf10)).uI (a := 19) (k := 36) (nI (c + 1)) rfl
  refine z_aload_n dX9_readSettings_116 (by exact rfl) ?_
  refine z_aload_n dX9_readSettings_117 (by exact rfl) ?_
  refine z_iconst dX9_readSettings_118 ?_
  refine z_ldcL dX9_readSettings_119 zclx_X9_113 ?_
  refine z_ldcL dX9_readSettings_122 zclx_X9_293 ?_
  refine z_cV dX9_readSettings_125 zk_X9_280 (by exact rfl) (by exact rfl) (by exact rfl) (Nat.le_of_ble_eq_true rfl) (Nat.le_of_ble_eq_true rfl) (Nat.le_refl _) ?_
  refine c_takeInU (w := 5) (by omega) (fun _ => kIn_c (lo := 3) (hi := 23) (by omega) (by omega) (by omega)) h10 (fun D11 b hb h11 hf11 => ?_)
  have e11 : D11.1 19 34 = nI bl ∧ D11.1 19 35 = nI rt ∧ D11.1 19 36 = nI (c + 1) := ⟨(hf11.1 19 34 rfl).trans e10.1, (hf11.1 19 35 rfl).trans e10.2, hf11.1 19 36 rfl⟩
  refine z_l2i dX9_readSettings_128 ?_
  refine z_eI (nI b) (lN_i _) ?_
  refine z_iconst dX9_readSettings_129 ?_
  refine z_iadd dX9_readSettings_130 ?_
  refine z_eI (nI (b + 1)) (nI_1 b) ?_
  refine z_pfI zfx_X9_295 (by exact rfl) dX9_readSettings_131 ?_
  have h11 := h11.fr (D' := zuI D11 19 37 (nI (b + 1))) (F := fun a k => a == 19 && k == 37) (zfr.rf.uI _ rfl) rfl rfl rfl rfl (fun _ => rfl)
  have hF11 := (hF10.tr (wk hf11)).uI (a := 19) (k := 37) (nI (b + 1)) rfl
  refine z_aload_n dX9_readSettings_134 (by exact rfl) ?_
  refine z_gfL zfx_X9_267 (by exact rfl) dX9_readSettings_135 ?_
  refine z_lstore dX9_readSettings_138 (Nat.le_of_ble_eq_true rfl) ?_
  refine z_aload_n dX9_readSettings_140 (by exact rfl) ?_
  refine z_aload_n dX9_readSettings_141 (by exact rfl) ?_
  refine z_bipush dX9_readSettings_142 ?_
  refine z_cV dX9_readSettings_144 zk_X9_277 (by exact rfl) (by exact rfl) (by exact rfl) (Nat.le_of_ble_eq_true rfl) (Nat.le_of_ble_eq_true rfl) (Nat.le_refl _) ?_
  refine c_takeG (w := 36) (by omega) h11 (fun D12 m hm h12 hf12 => ?_)
  have hm2 : m < 68719476736 := hm
  have hF12 := (hF11.tr (wk hf12)).uL (a := 19) (k := 38) (lN m) rfl
  have hs : set9 (zuL D12 19 38 (lN m)) (bl, rt, c + 1, b + 1, m) := ⟨(hf12.1 19 34 rfl).trans e11.1, (hf12.1 19 35 rfl).trans e11.2.1, (hf12.1 19 36 rfl).trans e11.2.2, hf12.1 19 37 rfl, rfl⟩
  have hmc : m * (c + 1) < 2 ^ 40 := by
    have : m * (c + 1) ≤ 68719476736 * 8 := Nat.mul_le_mul (by omega) (by omega)
    omega
  refine z_pfL zfx_X9_298 (by exact rfl) dX9_readSettings_147 ?_
  refine z_aload_n dX9_readSettings_150 (by exact rfl) ?_
  refine z_gfI zfx_X9_264 (by exact rfl) dX9_readSettings_151 ?_
  refine z_if_ne (tgt := 183) dX9_readSettings_154 (by decide) (fun c154 => ?_) (fun c154 => ?_)
  · exact z_at [(0, .ref 19), (3, .long (lN l))] ⟨rfl, rfl, trivial⟩ (t183 (bl, rt, c + 1, b + 1, m) l _ hl hs (by
      rcases h12 with ⟨p, _, _, hR9, _⟩ | ⟨k, pl, hb, e⟩
      · exact absurd hR9.2.2.2.2.1 c154
      · exact .inr ⟨k, pl, hb, e⟩) hF12)
  · refine z_aload_n dX9_readSettings_157 (by exact rfl) ?_
    refine z_gfL zfx_X9_298 (by exact rfl) dX9_readSettings_158 ?_
    refine z_eJ (lN m) rfl ?_
    refine z_aload_n dX9_readSettings_161 (by exact rfl) ?_
    refine z_gfI zfx_X9_290 (by exact rfl) dX9_readSettings_162 ?_
    refine z_eI (nI (c + 1)) hs.2.2.1 ?_
    refine z_i2l dX9_readSettings_165 ?_
    refine z_eJ (lN (c + 1)) (nI_l (by omega)) ?_
    refine z_lmul dX9_readSettings_166 ?_
    refine z_eJ (lN (m * (c + 1))) (lN_mul _ _) ?_
    refine z_ldcL dX9_readSettings_167 zclx_X9_301 ?_
    refine z_le (tgt := 183) dX9_readSettings_170 dX9_readSettings_171 (by decide) (fun c170 => ?_) (fun c170 => ?_)
    · exact z_at [(0, .ref 19), (3, .long (lN l))] ⟨rfl, rfl, trivial⟩ (t183 (bl, rt, c + 1, b + 1, m) l _ hl hs (by
        have hle : m * (c + 1) ≤ 4096 := (pk_lLE (a := m * (c + 1)) (b := 4096) (by omega) (by omega)).mp c170
        rcases h12 with ⟨p, _, _, hR9, hk, _, hP⟩ | ⟨k, pl, hb, e⟩
        · have hP2 := kIn_0 hP.2
          exact .inl ⟨p + 36, ⟨hR9.1, hR9.2.1, hR9.2.2.1, hR9.2.2.2⟩, hk (if_pos hle), ⟨⟨hP.1.1, hP.1.2, ⟨Nat.succ_pos c, hc2⟩, ⟨Nat.succ_le_succ hP2.1, Nat.succ_le_succ hP2.2⟩, hle⟩, (hR9.ge).le (Nat.zero_le _)⟩⟩
        · exact .inr ⟨k, pl, hb, e⟩) hF12)
    · refine z_aload_n dX9_readSettings_174 (by exact rfl) ?_
      refine z_iconst dX9_readSettings_175 ?_
      refine z_lload dX9_readSettings_176 (by exact rfl) ?_
      refine z_cV dX9_readSettings_178 zk_X9_273 (by exact rfl) (by exact rfl) (by exact rfl) (Nat.le_of_ble_eq_true rfl) (Nat.le_of_ble_eq_true rfl) (Nat.le_refl _) ?_
      refine c_wrong (fun _ => ?_) (fun q => absurd c154 q)
      refine z_istore dX9_readSettings_181 (Nat.le_of_ble_eq_true rfl) ?_
      exact z_at [(0, .ref 19), (3, .long (lN l))] ⟨rfl, rfl, trivial⟩ (t183 (bl, rt, c + 1, b + 1, m) l _ hl ⟨hs.1, hs.2.1, hs.2.2.1, hs.2.2.2.1, hs.2.2.2.2⟩ (by
        have hle : ¬ m * (c + 1) ≤ 4096 := fun q => c170 ((pk_lLE (a := m * (c + 1)) (b := 4096) (by omega) (by omega)).mpr q)
        rcases h12 with ⟨p, e1, _, hR9, hk, hkn, hP⟩ | ⟨k, pl, hb, e⟩
        · have e8 := hkn (by rw [if_neg hle]; decide)
          rw [if_neg hle] at e8
          exact .inr ⟨4, p, ⟨rfl, by rw [← lN_i p, ← e1]; rfl, by omega, by omega⟩, e8⟩
        · exact absurd c154 hb.z) ((hF12.uI _ rfl).uI _ rfl))
