/-! ===== the reference's place in the tape; readAssignment, readByte, readNumber, readSum ===== -/
def mv9 (D D' : zD) (w : Nat) : Prop := ∃ p, D.2 19 32 = lN p ∧ D'.2 19 32 = lN (p + w) ∧ p + w < 2 ^ 40
def pos9 (D : zD) (r : Nat) : Prop := ∃ p, D.2 19 32 = lN p ∧ p < 2 ^ 40 ∧ p % 8 = r % 8
theorem pos9.mv {D D' : zD} {r w : Nat} (h : pos9 D r) (hm : mv9 D D' w) : pos9 D' (r + w) := by
  obtain ⟨p, e, h1, h2⟩ := h
  obtain ⟨p', e', h3, h4⟩ := hm
  have : p = p' := (pk_lEQ (by omega) (by omega)).mp (e.symm.trans e')
  subst this
  exact ⟨p + w, h3, h4, by omega⟩
theorem pos9.eq {D : zD} {r r' : Nat} (h : pos9 D r) (e : r % 8 = r' % 8) : pos9 D r' := by
  obtain ⟨p, e1, h1, h2⟩ := h
  exact ⟨p, e1, h1, by omega⟩
theorem pos9.fr {D D' : zD} {F : Nat → Nat → Bool} {r : Nat} (h : pos9 D r) (hF : zfr F D D') (g : F 19 32 = false) : pos9 D' r := by
  obtain ⟨p, e1, h1, h2⟩ := h
  exact ⟨p, (hF.2 _ _ g).trans e1, h1, h2⟩
theorem rd9.pos {D : zD} {T : Nat → Bool} {sz p : Nat} (h : rd9 D T sz p) : pos9 D p := ⟨p, h.2.2.1, by
  have h1 := h.2.1
  have h2 := h.2.2.2.1
  omega, rfl⟩
theorem rd9.mv9 {D D' : zD} {T : Nat → Bool} {sz p w : Nat} (h : rd9 D T sz p) (h' : rd9 D' T sz (p + w)) : mv9 D D' w := ⟨p, h.2.2.1, h'.2.2.1, by
  have h1 := h'.2.1
  have h2 := h'.2.2.2.1
  omega⟩
theorem c_takeP {β : Type} {d w sz : Nat} {D : zD} {T : Nat → Bool} {Q : zQ} {K : Nat → RS β} {sp : RT β} {P : Prop} (hw : w ≤ 62) (h : rs9 D T sz (rbind (rit T (8 * sz) w kAny) K) sp P) (hq : ∀ D' v, v < 2 ^ w → rs9 D' T sz (K v) sp (P ∧ mv9 D D' w) → zfr f9 D D' → Q (.inl (some (.long (lN v)))) 0 D') :
    ZM yX9_take iX9_take (d + 1) [.ref 19, .int (nI w)] D Q :=
  c_takeG hw h (fun D' v hv hc hF => hq D' v hv (hc.elim (fun ⟨p, _, hR0, hR, hk, _, hP⟩ => .inl ⟨_, hR, hk rfl, hP, hR0.mv9 hR⟩) .inr) hF)
theorem c_takeInP {β : Type} {d w sz : Nat} {D : zD} {T : Nat → Bool} {Q : zQ} {f : Nat → Nat} {K : Nat → RS β} {sp : RT β} {P : Prop} {lo hi : Int64} (hw : w ≤ 62) (hf : D.1 19 22 = 0 → ∀ v, v < 2 ^ w → (lo ≤ lN v ∧ lN v ≤ hi → f v = 0) ∧ (¬ (lo ≤ lN v ∧ lN v ≤ hi) → f v = 2)) (h : rs9 D T sz (rbind (rit T (8 * sz) w f) K) sp P) (hq : ∀ D' v, v < 2 ^ w → rs9 D' T sz (K v) sp (P ∧ f v = 0 ∧ mv9 D D' w) → zfr f9 D D' → Q (.inl (some (.long (lN v)))) 0 D') :
    ZM yX9_takeIn iX9_takeIn (d + 2) [.ref 19, .int (nI w), .long lo, .long hi] D Q := by
  rcases h with ⟨p, hR, hK, hP⟩ | ⟨k, pl, hb, e⟩
  · have hf := hf hR.2.2.2.2.1
    refine c_takeIn hw hR (fun hle a b => ?_) (fun hle a => ?_) (fun hn => ?_)
    · have h0 := (hf _ (bv_lt T p w)).1 ⟨a, b⟩
      exact hq _ _ (bv_lt T p w) (.inl ⟨_, hR.mv hle, (rbind_r (rit_r hle h0)).symm.trans hK, hP, h0, hR.mv9 (hR.mv hle)⟩) (zfr.rf.uL _ rfl)
    · have h0 := (hf _ (bv_lt T p w)).2 a
      exact hq _ _ (bv_lt T p w) (.inr ⟨2, p, ⟨rfl, rfl, by omega, by omega⟩, hK.symm.trans (rbind_l (rit_k hle h0 (by omega)))⟩) (zfr_fail9 (zfr.rf.uL _ rfl))
    · exact hq _ 0 (Nat.two_pow_pos w) (.inr ⟨1, p, ⟨rfl, rfl, by omega, by omega⟩, hK.symm.trans (rbind_l (rit_1 hn))⟩) (zfr_fail9 zfr.rf)
  · exact c_takeInF hb.f (hq D 0 (Nat.two_pow_pos w) (.inr ⟨k, pl, hb, e⟩) zfr.rf)
theorem c_passOverP {β : Type} {d w sz : Nat} {D : zD} {T : Nat → Bool} {Q : zQ} {K : Unit → RS β} {sp : RT β} {P : Prop} (hw : w < 2 ^ 40) (h : rs9 D T sz (rbind (rpass (8 * sz) w) K) sp P) (hq : ∀ D', rs9 D' T sz (K ()) sp (P ∧ mv9 D D' w) → zfr f9 D D' → Q (.inl none) 0 D') :
    ZM yX9_passOver iX9_passOver (d + 1) [.ref 19, .long (lN w)] D Q := by
  rcases h with ⟨p, hR, hK, hP⟩ | ⟨k, pl, hb, e⟩
  · exact c_passOver hw hR (fun hle => hq _ (.inl ⟨_, hR.mv hle, (rbind_r (rpass_r hle)).symm.trans hK, hP, hR.mv9 (hR.mv hle)⟩) (zfr.rf.uL _ rfl)) (fun hn => hq _ (.inr ⟨1, p, ⟨rfl, rfl, by omega, by omega⟩, hK.symm.trans (rbind_l (rpass_1 hn))⟩) ((zfr_fail9 zfr.rf).uL _ rfl))
  · exact c_passOverF hb.f (hq _ (.inr ⟨k, pl, hb, e⟩) (zfr.rf.uL _ rfl))
theorem c_readAssignment {β : Type} {d sz ch : Nat} {D : zD} {T : Nat → Bool} {Q : zQ} {K : Nat → RS β} {sp : RT β} {P : Prop} (hch : D.1 19 36 = nI ch) (hc : 1 ≤ ch ∧ ch ≤ 8) (h : rs9 D T sz (rbind (rit T (8 * sz) 4 (kAsg ch)) K) sp P) (hq : ∀ D' v, v < 16 → rs9 D' T sz (K v) sp (P ∧ kAsg ch v = 0 ∧ mv9 D D' 4) → zfr f9 D D' → Q (.inl (some (.int (nI v)))) 0 D') :
    ZM yX9_readAssignment iX9_readAssignment (d + 2) [.ref 19] D Q := by
  refine z_method (by decide) rfl (Nat.le_of_ble_eq_true rfl) ?_
  refine z_at [(0, .ref 19)] ⟨rfl, trivial⟩ ?_
  have le64 : ∀ a b : Nat, a < 2000000 → b < 2000000 → (lN a ≤ lN b ↔ a ≤ b) := fun a b ha hb => pk_lLE (by omega) (by omega)
  refine z_aload_n dX9_readAssignment_0 (by exact rfl) ?_
  refine z_gfL zfx_X9_267 (by exact rfl) dX9_readAssignment_1 ?_
  refine z_lstore_n dX9_readAssignment_4 (Nat.le_of_ble_eq_true rfl) ?_
  refine z_aload_n dX9_readAssignment_5 (by exact rfl) ?_
  refine z_iconst dX9_readAssignment_6 ?_
  refine z_cV dX9_readAssignment_7 zk_X9_277 (by exact rfl) (by exact rfl) (by exact rfl) (Nat.le_of_ble_eq_true rfl) (Nat.le_of_ble_eq_true rfl) (Nat.le_refl _) ?_
  refine c_takeG (w := 4) (by omega) h (fun D1 v hv h1 hf1 => ?_)
  have hv16 : v < 16 := hv
  have hch1 : D1.1 19 36 = nI ch := (hf1.1 19 36 rfl).trans hch
  have good : kAsg ch v = 0 → D1.1 19 22 = 0 → rs9 D1 T sz (K v) sp (P ∧ kAsg ch v = 0 ∧ mv9 D D1 4) := fun h0 h2 => by
    rcases h1 with ⟨p, e1, hR0, hR, hk, hkn, hP⟩ | ⟨k, pl, hb, e⟩
    · exact .inl ⟨p + 4, hR, hk h0, hP, h0, hR0.mv9 hR⟩
    · exact absurd h2 hb.z
  have sub1 : D1.1 19 36 - Int32.ofInt 1 = nI (ch - 1) := by
    rw [hch1]
    exact pk_sub (a := ch) (b := 1) hc.1
  refine z_l2i dX9_readAssignment_10 ?_
  refine z_eI (nI v) (lN_i v) ?_
  refine z_istore_n dX9_readAssignment_11 (Nat.le_of_ble_eq_true rfl) ?_
  refine z_aload_n dX9_readAssignment_12 (by exact rfl) ?_
  refine z_gfI zfx_X9_264 (by exact rfl) dX9_readAssignment_13 ?_
  refine z_if_ne (tgt := 59) dX9_readAssignment_16 (by decide) (fun c16 => ?_) (fun c16 => ?_)
  · refine z_iload_n dX9_readAssignment_59 (by exact rfl) ?_
    exact z_iret (st := []) rfl dX9_readAssignment_60 (hq D1 v hv16 (by
      rcases h1 with ⟨p, e1, hR0, hR, hk, hkn, hP⟩ | hb
      · exact absurd hR.2.2.2.2.1 c16
      · exact .inr hb) hf1)
  · refine z_iload_n dX9_readAssignment_19 (by exact rfl) ?_
    refine z_aload_n dX9_readAssignment_20 (by exact rfl) ?_
    refine z_gfI zfx_X9_290 (by exact rfl) dX9_readAssignment_21 ?_
    refine z_iconst dX9_readAssignment_24 ?_
    refine z_isub dX9_readAssignment_25 ?_
    refine z_eI (nI (ch - 1)) sub1 ?_
    refine z_icmp_eq (tgt := 59) dX9_readAssignment_26 (by decide) (fun c26 => ?_) (fun c26 => ?_)
    · refine z_iload_n dX9_readAssignment_59 (by exact rfl) ?_
      exact z_iret (st := []) rfl dX9_readAssignment_60 (hq D1 v hv16 (good (by
        have := (nI_eq (a := v) (b := ch - 1) (by omega) (by omega)).mp c26
        unfold kAsg
        rw [if_pos (by omega)]) c16) hf1)
    · refine z_aload_n dX9_readAssignment_29 (by exact rfl) ?_
      refine z_gfI zfx_X9_290 (by exact rfl) dX9_readAssignment_30 ?_
      refine z_eI (nI ch) hch1 ?_
      refine z_iconst dX9_readAssignment_33 ?_
      refine z_icmp_ne (tgt := 51) dX9_readAssignment_34 (by decide) (fun c34 => ?_) (fun c34 => ?_)
      · refine z_aload_n dX9_readAssignment_51 (by exact rfl) ?_
        refine z_iconst dX9_readAssignment_52 ?_
        refine z_lload_n dX9_readAssignment_53 (by exact rfl) ?_
        refine z_cV dX9_readAssignment_54 zk_X9_273 (by exact rfl) (by exact rfl) (by exact rfl) (Nat.le_of_ble_eq_true rfl) (Nat.le_of_ble_eq_true rfl) (Nat.le_refl _) ?_
        refine c_wrong (fun _ => ?_) (fun q => absurd c16 q)
        refine z_istore dX9_readAssignment_57 (Nat.le_of_ble_eq_true rfl) ?_
        refine z_iload_n dX9_readAssignment_59 (by exact rfl) ?_
        exact z_iret (st := []) rfl dX9_readAssignment_60 (hq _ v hv16 (by
          have g1 : ¬ v = ch - 1 := fun q => c26 ((nI_eq (a := v) (b := ch - 1) (by omega) (by omega)).mpr q)
          have g2 : ¬ ch = 2 := fun q => c34 ((nI_eq (a := ch) (b := 2) (by omega) (by omega)).mpr q)
          rcases h1 with ⟨p, e1, hR0, hR, hk, hkn, hP⟩ | ⟨k, pl, hb, e⟩
          · have e9 : kAsg ch v = 2 := if_neg (by omega)
            exact .inr ⟨2, p, ⟨rfl, by rw [← lN_i p, ← e1]; rfl, by omega, by omega⟩, by rw [hkn (by rw [e9]; decide), e9]⟩
          · exact absurd c16 hb.z) (zfr_fail9 hf1))
      · refine z_iload_n dX9_readAssignment_37 (by exact rfl) ?_
        refine z_i2l dX9_readAssignment_38 ?_
        refine z_eJ (lN v) (nI_l (by omega)) ?_
        refine z_ldcL dX9_readAssignment_39 zclx_X9_73 ?_
        refine z_ldcL dX9_readAssignment_42 zclx_X9_323 ?_
        refine z_cS dX9_readAssignment_45 zk_X9_75 (by exact rfl) (Nat.le_of_ble_eq_true rfl) (Nat.le_of_ble_eq_true rfl) (Nat.le_refl _) ?_
        refine c_in (fun a45 b45 => ?_) (fun n45 => ?_)
        · refine z_if_ne (tgt := 59) dX9_readAssignment_48 (by decide) (fun _ => ?_) (fun q9 => absurd q9 (by decide))
          refine z_iload_n dX9_readAssignment_59 (by exact rfl) ?_
          exact z_iret (st := []) rfl dX9_readAssignment_60 (hq D1 v hv16 (good (by
            have g2 : ch = 2 := (nI_eq (a := ch) (b := 2) (by omega) (by omega)).mp c34
            have g3 : 8 ≤ v ∧ v ≤ 10 := ⟨(le64 8 _ (by omega) (by omega)).mp a45, (le64 _ 10 (by omega) (by omega)).mp b45⟩
            unfold kAsg
            rw [if_pos (by omega)]) c16) hf1)
        · refine z_if_ne (tgt := 59) dX9_readAssignment_48 (by decide) (fun q9 => absurd rfl q9) (fun _ => ?_)
          refine z_aload_n dX9_readAssignment_51 (by exact rfl) ?_
          refine z_iconst dX9_readAssignment_52 ?_
          refine z_lload_n dX9_readAssignment_53 (by exact rfl) ?_
          refine z_cV dX9_readAssignment_54 zk_X9_273 (by exact rfl) (by exact rfl) (by exact rfl) (Nat.le_of_ble_eq_true rfl) (Nat.le_of_ble_eq_true rfl) (Nat.le_refl _) ?_
          refine c_wrong (fun _ => ?_) (fun q => absurd c16 q)
          refine z_istore dX9_readAssignment_57 (Nat.le_of_ble_eq_true rfl) ?_
          refine z_iload_n dX9_readAssignment_59 (by exact rfl) ?_
          exact z_iret (st := []) rfl dX9_readAssignment_60 (hq _ v hv16 (by
            have g1 : ¬ v = ch - 1 := fun q => c26 ((nI_eq (a := v) (b := ch - 1) (by omega) (by omega)).mpr q)
            have g3 : ¬ (8 ≤ v ∧ v ≤ 10) := fun q => n45 ⟨(le64 8 _ (by omega) (by omega)).mpr q.1, (le64 _ 10 (by omega) (by omega)).mpr q.2⟩
            rcases h1 with ⟨p, e1, hR0, hR, hk, hkn, hP⟩ | ⟨k, pl, hb, e⟩
            · have e9 : kAsg ch v = 2 := if_neg (by omega)
              exact .inr ⟨2, p, ⟨rfl, by rw [← lN_i p, ← e1]; rfl, by omega, by omega⟩, by rw [hkn (by rw [e9]; decide), e9]⟩
            · exact absurd c16 hb.z) (zfr_fail9 hf1))
/-- a byte of a frame's number: what it may be at all, and what is due -/
def kByte (first : Bool) (due : Nat) : Nat → Nat := fun v => if v = due then 0 else if (if first = true then v ≤ 127 ∨ (192 ≤ v ∧ v ≤ 223) else 128 ≤ v ∧ v ≤ 191) then 4 else 2
theorem c_readByte {β : Type} {d sz due : Nat} {first : Bool} {D : zD} {T : Nat → Bool} {Q : zQ} {K : Nat → RS β} {sp : RT β} {P : Prop} (hdue : due < 256) (h : rs9 D T sz (rbind (rit T (8 * sz) 8 (kByte first due)) K) sp P) (hq : ∀ D' v, rs9 D' T sz (K v) sp (P ∧ mv9 D D' 8) → zfr f9 D D' → Q (.inl none) 0 D') :
    ZM yX9_readByte iX9_readByte (d + 2) [.ref 19, .long (lN due), .int (nI first.toNat)] D Q := by
  refine z_method (by decide) rfl (Nat.le_of_ble_eq_true rfl) ?_
  refine z_at [(0, .ref 19), (1, .long (lN due)), (3, .int (nI first.toNat))] ⟨rfl, rfl, rfl, trivial⟩ ?_
  have le64 : ∀ a b : Nat, a < 2000000 → b < 2000000 → (lN a ≤ lN b ↔ a ≤ b) := fun a b ha hb => pk_lLE (by omega) (by omega)
  have tl : ∀ (v : Nat) (can : Bool) (D1 : zD), v < 256 → (can = true ↔ (if first = true then v ≤ 127 ∨ (192 ≤ v ∧ v ≤ 223) else 128 ≤ v ∧ v ≤ 191)) → ((∃ p, D.2 19 32 = lN p ∧ rd9 D T sz p ∧ rd9 D1 T sz (p + 8) ∧ (kByte first due v = 0 → K v (p + 8) = sp) ∧ (¬ kByte first due v = 0 → sp = .inl (kByte first due v, p)) ∧ P) ∨ (∃ k pl, bad9 D1 k pl ∧ sp = .inl (k, pl))) → zfr f9 D D1 → Z (zmk iX9_readByte (d + 2)) 0 63 (zl [(0, .ref 19), (1, .long (lN due)), (4, .long (D.2 19 32)), (6, .long (lN v))]) [.int (nI can.toNat)] D1 Q := by
    intro v can D1 hv hcan h1 hf1
    have wrong : ∀ (kd : Nat), (kd = 2 ∨ kd = 4) → D1.1 19 22 = 0 → ¬ v = due → (kd = if can = true then 4 else 2) → Q (.inl none) 0 (zfail9 D1 (nI kd) (D.2 19 32).toInt32) := fun kd h9 h22 hne hkd => by
      refine hq _ v ?_ (zfr_fail9 hf1)
      rcases h1 with ⟨p, e1, hR0, hR, hk, hkn, hP⟩ | ⟨k, pl, hb, e⟩
      · have e9 : kByte first due v = kd := by
          unfold kByte
          rw [if_neg hne, hkd]
          by_cases hc : can = true
          · rw [if_pos hc, if_pos (hcan.mp hc)]
          · rw [if_neg hc, if_neg (fun q => hc (hcan.mpr q))]
        exact .inr ⟨kd, p, ⟨rfl, by rw [← lN_i p, ← e1]; rfl, by omega, by omega⟩, by rw [hkn (by rw [e9]; omega), e9]⟩
      · exact absurd h22 hb.z
    cases can with
    | true =>
      refine z_istore dX9_readByte_63 (Nat.le_of_ble_eq_true rfl) ?_
      refine z_aload_n dX9_readByte_65 (by exact rfl) ?_
      refine z_gfI zfx_X9_264 (by exact rfl) dX9_readByte_66 ?_
      refine z_if_ne (tgt := 97) dX9_readByte_69 (by decide) (fun c69 => ?_) (fun c69 => ?_)
      · exact z_vret (st := []) rfl dX9_readByte_97 (hq D1 v (by
          rcases h1 with ⟨p, e1, hR0, hR, hk, hkn, hP⟩ | hb
          · exact absurd hR.2.2.2.2.1 c69
          · exact .inr hb) hf1)
      · refine z_lload dX9_readByte_72 (by exact rfl) ?_
        refine z_lload_n dX9_readByte_74 (by exact rfl) ?_
        refine z_eq (tgt := 97) dX9_readByte_75 dX9_readByte_76 (by decide) (fun c75 => ?_) (fun c75 => ?_)
        · exact z_vret (st := []) rfl dX9_readByte_97 (hq D1 v (by
            have e9 : v = due := (pk_lEQ (by omega) (by omega)).mp c75
            rcases h1 with ⟨p, e1, hR0, hR, hk, hkn, hP⟩ | hb
            · exact .inl ⟨p + 8, hR, hk (if_pos e9), hP, hR0.mv9 hR⟩
            · exact .inr hb) hf1)
        · refine z_aload_n dX9_readByte_79 (by exact rfl) ?_
          refine z_iload dX9_readByte_80 (by exact rfl) ?_
          refine z_if_eq (tgt := 89) dX9_readByte_82 (by decide) (fun q9 => absurd q9 ((by decide))) (fun _ => ?_)
          refine z_iconst dX9_readByte_85 ?_
          refine z_goto (tgt := 90) dX9_readByte_86 (by decide) ?_
          refine z_lload dX9_readByte_90 (by exact rfl) ?_
          refine z_cV dX9_readByte_92 zk_X9_273 (by exact rfl) (by exact rfl) (by exact rfl) (Nat.le_of_ble_eq_true rfl) (Nat.le_of_ble_eq_true rfl) (Nat.le_refl _) ?_
          refine c_wrong (fun _ => ?_) (fun q => absurd c69 q)
          refine z_istore dX9_readByte_95 (Nat.le_of_ble_eq_true rfl) ?_
          exact z_vret (st := []) rfl dX9_readByte_97 (wrong 4 (by omega) c69 (fun q => c75 ((pk_lEQ (by omega) (by omega)).mpr q)) rfl)
    | false =>
      refine z_istore dX9_readByte_63 (Nat.le_of_ble_eq_true rfl) ?_
      refine z_aload_n dX9_readByte_65 (by exact rfl) ?_
      refine z_gfI zfx_X9_264 (by exact rfl) dX9_readByte_66 ?_
      refine z_if_ne (tgt := 97) dX9_readByte_69 (by decide) (fun c69 => ?_) (fun c69 => ?_)
      · exact z_vret (st := []) rfl dX9_readByte_97 (hq D1 v (by
          rcases h1 with ⟨p, e1, hR0, hR, hk, hkn, hP⟩ | hb
          · exact absurd hR.2.2.2.2.1 c69
          · exact .inr hb) hf1)
      · refine z_lload dX9_readByte_72 (by exact rfl) ?_
        refine z_lload_n dX9_readByte_74 (by exact rfl) ?_
        refine z_eq (tgt := 97) dX9_readByte_75 dX9_readByte_76 (by decide) (fun c75 => ?_) (fun c75 => ?_)
        · exact z_vret (st := []) rfl dX9_readByte_97 (hq D1 v (by
            have e9 : v = due := (pk_lEQ (by omega) (by omega)).mp c75
            rcases h1 with ⟨p, e1, hR0, hR, hk, hkn, hP⟩ | hb
            · exact .inl ⟨p + 8, hR, hk (if_pos e9), hP, hR0.mv9 hR⟩
            · exact .inr hb) hf1)
        · refine z_aload_n dX9_readByte_79 (by exact rfl) ?_
          refine z_iload dX9_readByte_80 (by exact rfl) ?_
          refine z_if_eq (tgt := 89) dX9_readByte_82 (by decide) (fun _ => ?_) (fun q9 => absurd ((by decide)) q9)
          refine z_iconst dX9_readByte_89 ?_
          refine z_lload dX9_readByte_90 (by exact rfl) ?_
          refine z_cV dX9_readByte_92 zk_X9_273 (by exact rfl) (by exact rfl) (by exact rfl) (Nat.le_of_ble_eq_true rfl) (Nat.le_of_ble_eq_true rfl) (Nat.le_refl _) ?_
          refine c_wrong (fun _ => ?_) (fun q => absurd c69 q)
          refine z_istore dX9_readByte_95 (Nat.le_of_ble_eq_true rfl) ?_
          exact z_vret (st := []) rfl dX9_readByte_97 (wrong 2 (by omega) c69 (fun q => c75 ((pk_lEQ (by omega) (by omega)).mpr q)) rfl)
  have st : ∀ {v : Nat} {can : Bool} {D1 : zD} {L : zLo} {x : Int32}, v < 256 → (can = true ↔ (if first = true then v ≤ 127 ∨ (192 ≤ v ∧ v ≤ 223) else 128 ≤ v ∧ v ≤ 191)) → ((∃ p, D.2 19 32 = lN p ∧ rd9 D T sz p ∧ rd9 D1 T sz (p + 8) ∧ (kByte first due v = 0 → K v (p + 8) = sp) ∧ (¬ kByte first due v = 0 → sp = .inl (kByte first due v, p)) ∧ P) ∨ (∃ k pl, bad9 D1 k pl ∧ sp = .inl (k, pl))) → zfr f9 D D1 → zlall L [(0, .ref 19), (1, .long (lN due)), (4, .long (D.2 19 32)), (6, .long (lN v))] → x = nI can.toNat → Z (zmk iX9_readByte (d + 2)) 0 63 L [.int x] D1 Q := fun hv hcan h1 hf hL hx => by
    subst hx
    exact z_at _ hL (tl _ _ _ hv hcan h1 hf)
  cases first with
  | true =>
    refine z_aload_n dX9_readByte_0 (by exact rfl) ?_
    refine z_gfL zfx_X9_267 (by exact rfl) dX9_readByte_1 ?_
    refine z_lstore dX9_readByte_4 (Nat.le_of_ble_eq_true rfl) ?_
    refine z_aload_n dX9_readByte_6 (by exact rfl) ?_
    refine z_bipush dX9_readByte_7 ?_
    refine z_cV dX9_readByte_9 zk_X9_277 (by exact rfl) (by exact rfl) (by exact rfl) (Nat.le_of_ble_eq_true rfl) (Nat.le_of_ble_eq_true rfl) (Nat.le_refl _) ?_
    refine c_takeG (w := 8) (by omega) h (fun D1 v hv h1 hf1 => ?_)
    have hv8 : v < 256 := hv
    refine z_lstore dX9_readByte_12 (Nat.le_of_ble_eq_true rfl) ?_
    refine z_iload_n dX9_readByte_14 (by exact rfl) ?_
    refine z_if_eq (tgt := 52) dX9_readByte_15 (by decide) (fun q9 => absurd q9 ((by decide))) (fun _ => ?_)
    refine z_lload dX9_readByte_18 (by exact rfl) ?_
    refine z_lconst dX9_readByte_20 ?_
    refine z_ldcL dX9_readByte_21 zclx_X9_311 ?_
    refine z_cS dX9_readByte_24 zk_X9_75 (by exact rfl) (Nat.le_of_ble_eq_true rfl) (Nat.le_of_ble_eq_true rfl) (Nat.le_refl _) ?_
    refine c_in (fun a24 b24 => ?_) (fun n24 => ?_)
    · refine z_if_ne (tgt := 44) dX9_readByte_27 (by decide) (fun _ => ?_) (fun q9 => absurd q9 (by decide))
      refine z_iconst dX9_readByte_44 ?_
      refine z_goto (tgt := 63) dX9_readByte_45 (by decide) ?_
      exact st (can := true) hv8 (by
        have : v ≤ 127 := (le64 _ 127 (by omega) (by omega)).mp b24
        simp
        omega) h1 hf1 ⟨rfl, rfl, rfl, rfl, trivial⟩ rfl
    · refine z_if_ne (tgt := 44) dX9_readByte_27 (by decide) (fun q9 => absurd rfl q9) (fun _ => ?_)
      refine z_lload dX9_readByte_30 (by exact rfl) ?_
      refine z_ldcL dX9_readByte_32 zclx_X9_313 ?_
      refine z_ldcL dX9_readByte_35 zclx_X9_315 ?_
      refine z_cS dX9_readByte_38 zk_X9_75 (by exact rfl) (Nat.le_of_ble_eq_true rfl) (Nat.le_of_ble_eq_true rfl) (Nat.le_refl _) ?_
      refine c_in (fun a38 b38 => ?_) (fun n38 => ?_)
      · refine z_if_eq (tgt := 48) dX9_readByte_41 (by decide) (fun q9 => absurd q9 (by decide)) (fun _ => ?_)
        refine z_iconst dX9_readByte_44 ?_
        refine z_goto (tgt := 63) dX9_readByte_45 (by decide) ?_
        exact st (can := true) hv8 (by
          have := (le64 192 _ (by omega) (by omega)).mp a38
          have := (le64 _ 223 (by omega) (by omega)).mp b38
          simp
          omega) h1 hf1 ⟨rfl, rfl, rfl, rfl, trivial⟩ rfl
      · refine z_if_eq (tgt := 48) dX9_readByte_41 (by decide) (fun _ => ?_) (fun q9 => absurd q9 (by decide))
        refine z_iconst dX9_readByte_48 ?_
        refine z_goto (tgt := 63) dX9_readByte_49 (by decide) ?_
        exact st (can := false) hv8 (by
          have g1 : ¬ v ≤ 127 := fun q => n24 ⟨(le64 0 _ (by omega) (by omega)).mpr (Nat.zero_le _), (le64 _ 127 (by omega) (by omega)).mpr q⟩
          have g2 : ¬ (192 ≤ v ∧ v ≤ 223) := fun q => n38 ⟨(le64 192 _ (by omega) (by omega)).mpr q.1, (le64 _ 223 (by omega) (by omega)).mpr q.2⟩
          simp
          omega) h1 hf1 ⟨rfl, rfl, rfl, rfl, trivial⟩ rfl
  | false =>
    refine z_aload_n dX9_readByte_0 (by exact rfl) ?_
    refine z_gfL zfx_X9_267 (by exact rfl) dX9_readByte_1 ?_
    refine z_lstore dX9_readByte_4 (Nat.le_of_ble_eq_true rfl) ?_
    refine z_aload_n dX9_readByte_6 (by exact rfl) ?_
    refine z_bipush dX9_readByte_7 ?_
    refine z_cV dX9_readByte_9 zk_X9_277 (by exact rfl) (by exact rfl) (by exact rfl) (Nat.le_of_ble_eq_true rfl) (Nat.le_of_ble_eq_true rfl) (Nat.le_refl _) ?_
    refine c_takeG (w := 8) (by omega) h (fun D1 v hv h1 hf1 => ?_)
    have hv8 : v < 256 := hv
    refine z_lstore dX9_readByte_12 (Nat.le_of_ble_eq_true rfl) ?_
    refine z_iload_n dX9_readByte_14 (by exact rfl) ?_
    refine z_if_eq (tgt := 52) dX9_readByte_15 (by decide) (fun _ => ?_) (fun q9 => absurd ((by decide)) q9)
    refine z_lload dX9_readByte_52 (by exact rfl) ?_
    refine z_ldcL dX9_readByte_54 zclx_X9_303 ?_
    refine z_ldcL dX9_readByte_57 zclx_X9_317 ?_
    refine z_cS dX9_readByte_60 zk_X9_75 (by exact rfl) (Nat.le_of_ble_eq_true rfl) (Nat.le_of_ble_eq_true rfl) (Nat.le_refl _) ?_
    refine c_in (fun a60 b60 => ?_) (fun n60 => ?_)
    · exact st (can := true) hv8 (by
        have := (le64 128 _ (by omega) (by omega)).mp a60
        have := (le64 _ 191 (by omega) (by omega)).mp b60
        simp
        omega) h1 hf1 ⟨rfl, rfl, rfl, rfl, trivial⟩ rfl
    · exact st (can := false) hv8 (by
        have g2 : ¬ (128 ≤ v ∧ v ≤ 191) := fun q => n60 ⟨(le64 128 _ (by omega) (by omega)).mpr q.1, (le64 _ 191 (by omega) (by omega)).mpr q.2⟩
        simp
        omega) h1 hf1 ⟨rfl, rfl, rfl, rfl, trivial⟩ rfl
