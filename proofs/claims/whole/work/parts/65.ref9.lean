/-! ===== the reference's reading: good with what is left K, or with its fault told; sp is the reading's end ===== -/
def bad9 (D : zD) (k pl : Nat) : Prop := D.1 19 22 = nI k ∧ D.1 19 23 = nI pl ∧ 1 ≤ k ∧ k ≤ 4
def rs9 {β : Type} (D : zD) (T : Nat → Bool) (sz : Nat) (K : RS β) (sp : RT β) (P : Prop) : Prop := (∃ p, rd9 D T sz p ∧ K p = sp ∧ P) ∨ (∃ k pl, bad9 D k pl ∧ sp = .inl (k, pl))
theorem bad9.f {D : zD} {k pl : Nat} (h : bad9 D k pl) : ¬ D.1 19 22 ≤ 0 := by
  rw [h.1]
  exact nI_nle h.2.2.1 (by have := h.2.2.2; omega)
theorem bad9.z {D : zD} {k pl : Nat} (h : bad9 D k pl) : ¬ D.1 19 22 = 0 := by
  rw [h.1]
  exact nI_ne0 h.2.2.1 (by have := h.2.2.2; omega)
def f9 (a k : Nat) : Bool := a == 19 && (k == 22 || (k == 23 || k == 32))
theorem bad9_fail {D : zD} {k pl : Nat} (hk : 1 ≤ k ∧ k ≤ 4) : bad9 (zfail9 D (nI k) (nI pl)) k pl := ⟨rfl, rfl, hk.1, hk.2⟩
theorem zfr_fail9 {D D' : zD} {a b : Int32} (h : zfr f9 D D') : zfr f9 D (zfail9 D' a b) := (h.uI _ rfl).uI _ rfl
theorem rit_i {T : Nat → Bool} {e w p : Nat} {f : Nat → Nat} : (p + w ≤ e ∧ f (bv T p w) = 0 ∧ rit T e w f p = .inr (bv T p w, p + w)) ∨ (p + w ≤ e ∧ ¬ f (bv T p w) = 0 ∧ rit T e w f p = .inl (f (bv T p w), p)) ∨ (¬ p + w ≤ e ∧ rit T e w f p = .inl (1, p)) := by
  by_cases h : p + w ≤ e
  · by_cases h2 : f (bv T p w) = 0
    · exact .inl ⟨h, h2, rit_r h h2⟩
    · exact .inr (.inl ⟨h, h2, rit_k h rfl h2⟩)
  · exact .inr (.inr ⟨h, rit_1 h⟩)
/-- take, with a check that comes later: good at p, or told -/
theorem c_takeG {β : Type} {d w sz : Nat} {D : zD} {T : Nat → Bool} {Q : zQ} {f : Nat → Nat} {K : Nat → RS β} {sp : RT β} {P : Prop} (hw : w ≤ 62) (h : rs9 D T sz (rbind (rit T (8 * sz) w f) K) sp P)
    (hq : ∀ D' v, v < 2 ^ w → ((∃ p, D.2 19 32 = lN p ∧ rd9 D T sz p ∧ rd9 D' T sz (p + w) ∧ (f v = 0 → K v (p + w) = sp) ∧ (¬ f v = 0 → sp = .inl (f v, p)) ∧ P) ∨ (∃ k pl, bad9 D' k pl ∧ sp = .inl (k, pl))) → zfr f9 D D' → Q (.inl (some (.long (lN v)))) 0 D') :
    ZM yX9_take iX9_take (d + 1) [.ref 19, .int (nI w)] D Q := by
  rcases h with ⟨p, hR, hK, hP⟩ | ⟨k, pl, hb, e⟩
  · refine c_take hw hR (fun hle => hq _ _ (bv_lt T p w) (.inl ⟨p, hR.2.2.1, hR, hR.mv hle, fun h0 => (rbind_r (rit_r hle h0)).symm.trans hK, fun h0 => hK.symm.trans (rbind_l (rit_k hle rfl h0)), hP⟩) (zfr.rf.uL _ rfl)) (fun hn => hq _ 0 (Nat.two_pow_pos w) (.inr ⟨1, p, ⟨rfl, rfl, by omega, by omega⟩, hK.symm.trans (rbind_l (rit_1 hn))⟩) (zfr_fail9 zfr.rf))
  · exact c_takeF hb.f (hq D 0 (Nat.two_pow_pos w) (.inr ⟨k, pl, hb, e⟩) zfr.rf)
theorem c_takeU {β : Type} {d w sz : Nat} {D : zD} {T : Nat → Bool} {Q : zQ} {K : Nat → RS β} {sp : RT β} {P : Prop} (hw : w ≤ 62) (h : rs9 D T sz (rbind (rit T (8 * sz) w kAny) K) sp P) (hq : ∀ D' v, v < 2 ^ w → rs9 D' T sz (K v) sp P → zfr f9 D D' → Q (.inl (some (.long (lN v)))) 0 D') :
    ZM yX9_take iX9_take (d + 1) [.ref 19, .int (nI w)] D Q :=
  c_takeG hw h (fun D' v hv hc hF => hq D' v hv (hc.elim (fun ⟨p, _, _, hR, hk, _, hP⟩ => .inl ⟨_, hR, hk rfl, hP⟩) .inr) hF)
theorem c_takeSignedU {β : Type} {d w sz : Nat} {D : zD} {T : Nat → Bool} {Q : zQ} {K : Nat → RS β} {sp : RT β} {P : Prop} (hw : w ≤ 62) (h : rs9 D T sz (rbind (rit T (8 * sz) w kAny) K) sp P) (hq : ∀ D' v, v < 2 ^ w → rs9 D' T sz (K v) sp P → zfr f9 D D' → Q (.inl (some (.long (lI (sgI w v))))) 0 D') :
    ZM yX9_takeSigned iX9_takeSigned (d + 2) [.ref 19, .int (nI w)] D Q := by
  have z0 : Int64.ofInt 0 = lI (sgI w 0) := by rw [sgI_0]
  rcases h with ⟨p, hR, hK, hP⟩ | ⟨k, pl, hb, e⟩
  · refine c_takeSigned hw hR (fun hle => hq _ _ (bv_lt T p w) (.inl ⟨_, hR.mv hle, (rbind_r (rit_r hle rfl)).symm.trans hK, hP⟩) (zfr.rf.uL _ rfl)) (fun hn => ?_)
    rw [z0]
    exact hq _ 0 (Nat.two_pow_pos w) (.inr ⟨1, p, ⟨rfl, rfl, by omega, by omega⟩, hK.symm.trans (rbind_l (rit_1 hn))⟩) (zfr_fail9 zfr.rf)
  · refine c_takeSignedF hw hb.f ?_
    rw [z0]
    exact hq D 0 (Nat.two_pow_pos w) (.inr ⟨k, pl, hb, e⟩) zfr.rf
theorem c_takeInU {β : Type} {d w sz : Nat} {D : zD} {T : Nat → Bool} {Q : zQ} {f : Nat → Nat} {K : Nat → RS β} {sp : RT β} {P : Prop} {lo hi : Int64} (hw : w ≤ 62) (hf : D.1 19 22 = 0 → ∀ v, v < 2 ^ w → (lo ≤ lN v ∧ lN v ≤ hi → f v = 0) ∧ (¬ (lo ≤ lN v ∧ lN v ≤ hi) → f v = 2)) (h : rs9 D T sz (rbind (rit T (8 * sz) w f) K) sp P) (hq : ∀ D' v, v < 2 ^ w → rs9 D' T sz (K v) sp (P ∧ f v = 0) → zfr f9 D D' → Q (.inl (some (.long (lN v)))) 0 D') :
    ZM yX9_takeIn iX9_takeIn (d + 2) [.ref 19, .int (nI w), .long lo, .long hi] D Q := by
  rcases h with ⟨p, hR, hK, hP⟩ | ⟨k, pl, hb, e⟩
  · have hf := hf hR.2.2.2.2.1
    refine c_takeIn hw hR (fun hle a b => ?_) (fun hle a => ?_) (fun hn => ?_)
    · have h0 := (hf _ (bv_lt T p w)).1 ⟨a, b⟩
      exact hq _ _ (bv_lt T p w) (.inl ⟨_, hR.mv hle, (rbind_r (rit_r hle h0)).symm.trans hK, hP, h0⟩) (zfr.rf.uL _ rfl)
    · have h0 := (hf _ (bv_lt T p w)).2 a
      exact hq _ _ (bv_lt T p w) (.inr ⟨2, p, ⟨rfl, rfl, by omega, by omega⟩, hK.symm.trans (rbind_l (rit_k hle h0 (by omega)))⟩) (zfr_fail9 (zfr.rf.uL _ rfl))
    · exact hq _ 0 (Nat.two_pow_pos w) (.inr ⟨1, p, ⟨rfl, rfl, by omega, by omega⟩, hK.symm.trans (rbind_l (rit_1 hn))⟩) (zfr_fail9 zfr.rf)
  · exact c_takeInF hb.f (hq D 0 (Nat.two_pow_pos w) (.inr ⟨k, pl, hb, e⟩) zfr.rf)
theorem c_takeRowU {β : Type} {d sz : Nat} {D : zD} {T : Nat → Bool} {Q : zQ} {K : Nat → RS β} {sp : RT β} {P : Prop} (hsz : sz ≤ 20000) (h : rs9 D T sz (rbind (sRun T (8 * sz)) K) sp P) (hq : ∀ D' z, z < 2 ^ 20 → rs9 D' T sz (K z) sp P → zfr f9 D D' → Q (.inl (some (.long (lN z)))) 0 D') :
    ZM yX9_takeRow iX9_takeRow (d + 2) [.ref 19] D Q := by
  rcases h with ⟨p, hR, hK, hP⟩ | ⟨k, pl, hb, e⟩
  · exact c_takeRow hR (fun z hz hz0 hz1 => hq _ z (by omega) (.inl ⟨_, hR.mv (by omega), (rbind_r (sRun_r hz hz0 hz1)).symm.trans hK, hP⟩) (zfr.rf.uL _ rfl)) (fun h => hq _ (8 * sz - p) (by omega) (.inr ⟨1, p, ⟨rfl, rfl, by omega, by omega⟩, hK.symm.trans (rbind_l (sRun_l h))⟩) (zfr_fail9 (zfr.rf.uL _ rfl)))
  · exact c_takeRowF hb.f (hq D 0 (by omega) (.inr ⟨k, pl, hb, e⟩) zfr.rf)
theorem c_passOverU {β : Type} {d w sz : Nat} {D : zD} {T : Nat → Bool} {Q : zQ} {K : Unit → RS β} {sp : RT β} {P : Prop} (hw : w < 2 ^ 40) (h : rs9 D T sz (rbind (rpass (8 * sz) w) K) sp P) (hq : ∀ D', rs9 D' T sz (K ()) sp P → zfr f9 D D' → Q (.inl none) 0 D') :
    ZM yX9_passOver iX9_passOver (d + 1) [.ref 19, .long (lN w)] D Q := by
  rcases h with ⟨p, hR, hK, hP⟩ | ⟨k, pl, hb, e⟩
  · exact c_passOver hw hR (fun hle => hq _ (.inl ⟨_, hR.mv hle, (rbind_r (rpass_r hle)).symm.trans hK, hP⟩) (zfr.rf.uL _ rfl)) (fun hn => hq _ (.inr ⟨1, p, ⟨rfl, rfl, by omega, by omega⟩, hK.symm.trans (rbind_l (rpass_1 hn))⟩) ((zfr_fail9 zfr.rf).uL _ rfl))
  · exact c_passOverF hb.f (hq _ (.inr ⟨k, pl, hb, e⟩) (zfr.rf.uL _ rfl))
theorem rs9.mp {β : Type} {D : zD} {T : Nat → Bool} {sz : Nat} {K : RS β} {sp : RT β} {P P' : Prop} (h : rs9 D T sz K sp P) (g : D.1 19 22 = 0 → P → P') : rs9 D T sz K sp P' := h.elim (fun ⟨p, hR, hK, hP⟩ => .inl ⟨p, hR, hK, g hR.2.2.2.2.1 hP⟩) .inr
theorem rs9.fr {β : Type} {D D' : zD} {T : Nat → Bool} {sz : Nat} {K : RS β} {sp : RT β} {P : Prop} {F : Nat → Nat → Bool} (h : rs9 D T sz K sp P) (hF : zfr F D D') (g1 : F 19 22 = false) (g2 : F 19 23 = false) (g3 : F 19 32 = false) (g4 : F 19 33 = false) (g5 : ∀ k, F 60 k = false) : rs9 D' T sz K sp P := by
  rcases h with ⟨p, hR, hK, hP⟩ | ⟨k, pl, hb, e⟩
  · obtain ⟨r1, r2, r3, r4, r5, r6, r7⟩ := hR
    refine .inl ⟨p, ⟨(hF.2 _ _ g4).trans r1, r2, (hF.2 _ _ g3).trans r3, r4, (hF.1 _ _ g1).trans r5, fun i hi => ?_, (hF.1 _ _ g2).trans r7⟩, hK, hP⟩
    rw [show D'.2 60 = D.2 60 from funext fun k => hF.2 60 k (g5 k)]
    exact r6 i hi
  · exact .inr ⟨k, pl, ⟨(hF.1 _ _ g1).trans hb.1, (hF.1 _ _ g2).trans hb.2.1, hb.2.2.1, hb.2.2.2⟩, e⟩
theorem c_unfolded9 {β : Type} {d k sz : Nat} {D : zD} {T : Nat → Bool} {Q : zQ} {K : Nat → RS β} {sp : RT β} {P : Prop} (hsz : sz ≤ 20000) (hk : k ≤ 31) (h : rs9 D T sz (rbind (sRun T (8 * sz)) fun z => rbind (rit T (8 * sz) k kAny) fun r => K (z * 2 ^ k + r)) sp P) (hq : ∀ D' u, u < 2 ^ 52 → rs9 D' T sz (K u) sp P → zfr f9 D D' → Q (.inl (some (.long (lI (unfI u))))) 0 D') :
    ZM yX9_unfolded iX9_unfolded (d + 3) [.ref 19, .int (nI k)] D Q := by
  refine z_method (by decide) rfl (Nat.le_of_ble_eq_true rfl) ?_
  refine z_at [(0, .ref 19), (1, .int (nI k))] ⟨rfl, rfl, trivial⟩ ?_
  refine z_aload_n dX9_unfolded_0 (by exact rfl) ?_
  refine z_cV dX9_unfolded_1 zk_X9_347 (by exact rfl) (by exact rfl) (by exact rfl) (Nat.le_of_ble_eq_true rfl) (Nat.le_of_ble_eq_true rfl) (Nat.le_refl _) ?_
  refine c_takeRowU hsz h (fun D1 z hz h1 hf1 => ?_)
  refine z_iload_n dX9_unfolded_4 (by exact rfl) ?_
  refine z_lshl dX9_unfolded_5 ?_
  refine z_lstore_n dX9_unfolded_6 (Nat.le_of_ble_eq_true rfl) ?_
  refine z_lload_n dX9_unfolded_7 (by exact rfl) ?_
  refine z_aload_n dX9_unfolded_8 (by exact rfl) ?_
  refine z_iload_n dX9_unfolded_9 (by exact rfl) ?_
  refine z_cV dX9_unfolded_10 zk_X9_277 (by exact rfl) (by exact rfl) (by exact rfl) (Nat.le_of_ble_eq_true rfl) (Nat.le_of_ble_eq_true rfl) (Nat.le_refl _) ?_
  refine c_takeU (by omega) h1 (fun D2 v hv h2 hf2 => ?_)
  have hu : z * 2 ^ k + v < 2 ^ 52 := by
    have h7 : 2 ^ k ≤ 2 ^ 31 := Nat.pow_le_pow_right (by omega) hk
    have h9 : (2 : Nat) ^ 20 * 2 ^ 31 = 2 ^ 51 := by decide
    have h10 : (z + 1) * 2 ^ k ≤ 2 ^ 20 * 2 ^ 31 := Nat.mul_le_mul (by omega) h7
    rw [Nat.succ_mul] at h10
    omega
  obtain ⟨u, eu⟩ : ∃ u, u = z * 2 ^ k + v := ⟨_, rfl⟩
  rw [← eu] at hu h2
  have qu := q_unf (u := u) (by omega)
  refine z_lor dX9_unfolded_13 ?_
  refine z_eJ (lN u) (by rw [eu]; exact q_join2 hz hk hv) ?_
  refine z_lstore_n dX9_unfolded_14 (Nat.le_of_ble_eq_true rfl) ?_
  refine z_lload_n dX9_unfolded_15 (by exact rfl) ?_
  refine z_ldcL dX9_unfolded_16 zclx_X9_111 ?_
  refine z_lrem dX9_unfolded_19 q_2 ?_
  refine z_lconst dX9_unfolded_20 ?_
  refine z_ne (tgt := 33) dX9_unfolded_21 dX9_unfolded_22 (by decide) (fun c21 => ?_) (fun c21 => ?_)
  · refine z_lload_n dX9_unfolded_33 (by exact rfl) ?_
    refine z_ldcL dX9_unfolded_34 zclx_X9_111 ?_
    refine z_ldiv dX9_unfolded_37 q_2 ?_
    refine z_lneg dX9_unfolded_38 ?_
    refine z_lconst dX9_unfolded_39 ?_
    refine z_lsub dX9_unfolded_40 ?_
    exact z_lret (st := []) rfl dX9_unfolded_41 (by
      have hne : ¬ u % 2 = 0 := fun q => c21 (qu.1.mpr q)
      have e : lI (unfI u) = -(lN u / 2) - Int64.ofNat ((1 : Fin 2) : Nat) := by
        unfold unfI
        rw [if_neg hne, qu.2.1]
        exact qu.2.2.2.symm
      have := hq D2 u hu h2 (hf1.tr hf2)
      rw [e] at this
      exact this)
  · refine z_lload_n dX9_unfolded_25 (by exact rfl) ?_
    refine z_ldcL dX9_unfolded_26 zclx_X9_111 ?_
    refine z_ldiv dX9_unfolded_29 q_2 ?_
    refine z_goto (tgt := 41) dX9_unfolded_30 (by decide) ?_
    exact z_lret (st := []) rfl dX9_unfolded_41 (by
      have heq : u % 2 = 0 := qu.1.mp c21
      have e : lI (unfI u) = lN u / 2 := by
        unfold unfI
        rw [if_pos heq, qu.2.1]
        exact qu.2.2.1
      have := hq D2 u hu h2 (hf1.tr hf2)
      rw [e] at this
      exact this)
theorem c_o {d t : Nat} {D : zD} {Q : zQ} (ht : 8 ≤ t ∧ t < 64) (hq : Q (.inl (some (.int (nI (ordN t))))) 0 D) : ZM yX9_o iX9_o d [.int (nI t)] D Q := by
  refine z_method (by decide) rfl (Nat.le_of_ble_eq_true rfl) ?_
  refine z_at [(0, .int (nI t))] ⟨rfl, trivial⟩ ?_
  unfold ordN at hq
  rw [if_neg (by omega)] at hq
  refine z_iload_n dX9_o_0 (by exact rfl) ?_
  refine z_bipush dX9_o_1 ?_
  refine z_icmp_le (tgt := 13) dX9_o_3 (by decide) (fun c3 => ?_) (fun c3 => ?_)
  · refine z_iload_n dX9_o_13 (by exact rfl) ?_
    refine z_bipush dX9_o_14 ?_
    refine z_isub dX9_o_16 ?_
    exact z_iret (st := []) rfl dX9_o_17 (by
      have : t ≤ 31 := (nI_leI (a := t) (b := 31) (by omega) (by omega)).mp c3
      rw [if_pos (by omega)] at hq
      rw [show nI t - (Int8.ofInt 8).toInt32 = nI (t - 8) from pk_sub (a := t) (b := 8) (by omega)]
      exact hq)
  · refine z_iload_n dX9_o_6 (by exact rfl) ?_
    refine z_bipush dX9_o_7 ?_
    refine z_isub dX9_o_9 ?_
    refine z_goto (tgt := 17) dX9_o_10 (by decide) ?_
    exact z_iret (st := []) rfl dX9_o_17 (by
      have : ¬ t ≤ 31 := fun q => c3 ((nI_leI (a := t) (b := 31) (by omega) (by omega)).mpr q)
      rw [if_neg (by omega)] at hq
      rw [show nI t - (Int8.ofInt 31).toInt32 = nI (t - 31) from pk_sub (a := t) (b := 31) (by omega)]
      exact hq)
