/-! ===== the reference's making: offer, measure ===== -/
def of9 (D : zD) (s : Option zWay) : Prop := match s with
  | none => D.2 19 30 = lI (-1)
  | some w => D.1 19 28 = nI w.1 ∧ D.1 19 29 = iI w.2.1 ∧ D.2 19 30 = lN w.2.2 ∧ w.2.2 < 2 ^ 62
theorem of9.fr {D D' : zD} {F : Nat → Nat → Bool} {s : Option zWay} (h : of9 D s) (hF : zfr F D D') (h1 : F 19 28 = false) (h2 : F 19 29 = false) (h3 : F 19 30 = false) : of9 D' s := by
  cases s with
  | none => exact (hF.2 _ _ h3).trans h
  | some w => exact ⟨(hF.1 _ _ h1).trans h.1, (hF.1 _ _ h2).trans h.2.1, (hF.2 _ _ h3).trans h.2.2.1, h.2.2.2⟩
def fO9 (a k : Nat) : Bool := a == 19 && (k == 28 || (k == 29 || k == 30))
theorem c_offer9 {d t z : Nat} {q : Int} {D : zD} {Q : zQ} {s : Option zWay} (hz : z < 2 ^ 62) (hs : of9 D s) (hq : ∀ D', of9 D' (off t q z s) → zfr fO9 D D' → Q (.inl none) 0 D') : ZM yX9_offer iX9_offer d [.ref 19, .int (nI t), .int (iI q), .long (lN z)] D Q := by
  refine z_method (by decide) rfl (Nat.le_of_ble_eq_true rfl) ?_
  refine z_at [(0, .ref 19), (1, .int (nI t)), (2, .int (iI q)), (3, .long (lN z))] ⟨rfl, rfl, rfl, rfl, trivial⟩ ?_
  have tk : off t q z s = some (t, q, z) → Z (zmk iX9_offer d) 0 19 (zl [(0, .ref 19), (1, .int (nI t)), (2, .int (iI q)), (3, .long (lN z))]) [] D Q := by
    intro e
    refine z_aload_n dX9_offer_19 (by exact rfl) ?_
    refine z_iload_n dX9_offer_20 (by exact rfl) ?_
    refine z_pfI zfx_X9_158 (by exact rfl) dX9_offer_21 ?_
    refine z_aload_n dX9_offer_24 (by exact rfl) ?_
    refine z_iload_n dX9_offer_25 (by exact rfl) ?_
    refine z_pfI zfx_X9_161 (by exact rfl) dX9_offer_26 ?_
    refine z_aload_n dX9_offer_29 (by exact rfl) ?_
    refine z_lload_n dX9_offer_30 (by exact rfl) ?_
    refine z_pfL zfx_X9_154 (by exact rfl) dX9_offer_31 ?_
    exact z_vret (st := []) rfl dX9_offer_34 (hq _ (by rw [e]; exact ⟨rfl, rfl, rfl, hz⟩) (((zfr.rf.uI _ rfl).uI _ rfl).uL _ rfl))
  cases s with
  | none =>
    refine z_aload_n dX9_offer_0 (by exact rfl) ?_
    refine z_gfL zfx_X9_154 (by exact rfl) dX9_offer_1 ?_
    refine z_eJ (lI (-1)) hs ?_
    refine z_lconst dX9_offer_4 ?_
    refine z_lt (tgt := 19) dX9_offer_5 dX9_offer_6 (by decide) (fun _ => ?_) (fun q9 => absurd ((by decide)) q9)
    exact tk rfl
  | some w =>
    obtain ⟨h1, h2, h3, h4⟩ := id hs
    refine z_aload_n dX9_offer_0 (by exact rfl) ?_
    refine z_gfL zfx_X9_154 (by exact rfl) dX9_offer_1 ?_
    refine z_eJ (lN w.2.2) h3 ?_
    refine z_lconst dX9_offer_4 ?_
    refine z_lt (tgt := 19) dX9_offer_5 dX9_offer_6 (by decide) (fun q9 => absurd q9 ((fun q => absurd ((pk_lLT (a := w.2.2) (b := 0) (by omega) (by omega)).mp q) (by omega)))) (fun _ => ?_)
    refine z_lload_n dX9_offer_9 (by exact rfl) ?_
    refine z_aload_n dX9_offer_10 (by exact rfl) ?_
    refine z_gfL zfx_X9_154 (by exact rfl) dX9_offer_11 ?_
    refine z_eJ (lN w.2.2) h3 ?_
    refine z_lt (tgt := 19) dX9_offer_14 dX9_offer_15 (by decide) (fun c14 => ?_) (fun c14 => ?_)
    · exact tk (by
        have : z < w.2.2 := (pk_lLT (by omega) (by omega)).mp c14
        unfold off
        exact if_pos this)
    · exact z_vret (st := []) rfl dX9_offer_18 (hq D (by
        have : ¬ z < w.2.2 := fun q => c14 ((pk_lLT (by omega) (by omega)).mpr q)
        have e : off t q z (some w) = some w := by
          unfold off
          exact if_neg this
        rw [e]
        exact hs) zfr.rf)
def fMs (a k : Nat) : Bool := a == 61 || (a == 62 || (a == 19 && (decide (27 ≤ k) && decide (k ≤ 31))))
theorem fMs_61 (a k : Nat) (h : fMs a k = false) : f61 a k = false := or_l h
theorem fMs_62 (a k : Nat) (h : fMs a k = false) : f62 a k = false := or_l (or_r h)
theorem fMs_31 (a k : Nat) (h : fMs a k = false) : f31 a k = false := by
  have := or_r (or_r h)
  unfold f31
  simp at this ⊢
  omega
theorem fMs_o (a k : Nat) (h : fMs a k = false) : fO9 a k = false := by
  have := or_r (or_r h)
  unfold fO9
  simp at this ⊢
  omega
theorem c_measure9 {d n b o s : Nat} {cs : Nat → Int} {D : zD} {Q : zQ} {a : zRow} (h24 : D.1 19 24 = nI n) (hn : 1 ≤ n ∧ n ≤ 256) (hb : 1 ≤ b ∧ b ≤ 25) (ha : rowL D a n) (hab : allB b n a) (hw : own9 D o s cs) (hs : s ≤ 14) (ho : o ≤ 8)
    (hq : ∀ D', wst n a < b → D'.1 19 27 = nI (wst n a) → D'.1 19 28 = nI (wayA n b a (s, cs) o).1 → D'.1 19 29 = iI (wayA n b a (s, cs) o).2.1 → D'.2 19 30 = lN (wsz n b a (s, cs) o) → rowL D' (shR (wst n a) a) n → zfr fMs D D' → Q (.inl none) 0 D') :
    ZM yX9_measure iX9_measure (d + 5) [.ref 19, .int (nI b)] D Q := by
  refine z_method (by decide) rfl (Nat.le_of_ble_eq_true rfl) ?_
  refine z_at [(0, .ref 19), (1, .int (nI b))] ⟨rfl, rfl, trivial⟩ ?_
  refine z_aload_n dX9_measure_0 (by exact rfl) ?_
  refine z_aload_n dX9_measure_1 (by exact rfl) ?_
  refine z_cV dX9_measure_2 zk_X9_164 (by exact rfl) (by exact rfl) (by exact rfl) (Nat.le_of_ble_eq_true rfl) (Nat.le_of_ble_eq_true rfl) (Nat.le_refl _) ?_
  refine c_takeWaste h24 hn.2 hb ha hab (fun D1 hwb hr1 hf1 => ?_)
  obtain ⟨w, ew⟩ : ∃ w, w = wst n a := ⟨_, rfl⟩
  obtain ⟨c, hc⟩ : ∃ c, c = b - w := ⟨_, rfl⟩
  obtain ⟨a', ha'⟩ : ∃ a', a' = shR w a := ⟨_, rfl⟩
  have hW : offA n c a' (s, cs) o = some (wayA n b a (s, cs) o) := by
    rw [offA_some, hc, ha', ew]
    rfl
  have hsz : wsz n b a (s, cs) o = 8 + w + (wayA n b a (s, cs) o).2.2 := by
    rw [ew]
    rfl
  have hle := wayA_le (n := n) (b := b) (a := a) (pr := (s, cs)) (o := o)
  rw [← ew] at hq hwb hr1 hle
  rw [← ew]
  rw [← hc] at hle
  rw [← ha'] at hr1 hq
  have nc : n * c ≤ 256 * 25 := Nat.mul_le_mul hn.2 (by omega)
  have k0 : ∀ {D2 : zD}, zfr fMs D1 D2 → D2.1 19 24 = nI n ∧ own9 D2 o s cs := fun hF => ⟨((hf1.1 19 24 rfl).trans h24 ▸ hF.1 19 24 rfl), (hw.fr hf1 rfl rfl (fun _ => rfl)).fr hF rfl rfl (fun _ => rfl)⟩
  -- state behind: row, waste
  have st : ∀ {D2 D3 : zD} {F : Nat → Nat → Bool}, (rowL D2 a' n ∧ D2.1 19 27 = nI w) → zfr F D2 D3 → (∀ k, F 61 k = false) → F 19 27 = false → (rowL D3 a' n ∧ D3.1 19 27 = nI w) := fun h hF h1 h2 => ⟨h.1.fr hF h1, (hF.1 _ _ h2).trans h.2⟩
  have last : ∀ (D2 : zD) (s2 : Option zWay), s2 = offO n c a' (s, cs) o (offFs n c a' 5 (off0 n c a')) → of9 D2 s2 → (rowL D2 a' n ∧ D2.1 19 27 = nI w) → zfr fMs D1 D2 → Z (zmk iX9_measure (d + 5)) 0 181 (zl [(0, .ref 19), (2, .int (nI c))]) [] D2 Q := by
    intro D2 s2 es h2 hst hF2
    refine z_aload_n dX9_measure_181 (by exact rfl) ?_
    refine z_iconst dX9_measure_182 ?_
    refine z_iconst dX9_measure_183 ?_
    refine z_aload_n dX9_measure_184 (by exact rfl) ?_
    refine z_gfI zfx_X9_108 (by exact rfl) dX9_measure_185 ?_
    refine z_eI (nI n) (k0 hF2).1 ?_
    refine z_i2l dX9_measure_188 ?_
    refine z_eJ (lN n) (nI_l (by omega)) ?_
    refine z_iload_n dX9_measure_189 (by exact rfl) ?_
    refine z_i2l dX9_measure_190 ?_
    refine z_eJ (lN c) (nI_l (by omega)) ?_
    refine z_lmul dX9_measure_191 ?_
    refine z_eJ (lN (n * c)) (lN_mul _ _) ?_
    refine z_cV dX9_measure_192 zk_X9_177 (by exact rfl) (by exact rfl) (by exact rfl) (Nat.le_of_ble_eq_true rfl) (Nat.le_of_ble_eq_true rfl) (Nat.le_refl _) ?_
    refine c_offer9 (t := 1) (q := -1) (by omega) h2 (fun D3 h3 hf3 => ?_)
    rw [es] at h3
    have h3 : of9 D3 (offA n c a' (s, cs) o) := h3
    rw [hW] at h3
    obtain ⟨g1, g2, g3, g4⟩ := h3
    obtain ⟨j1, j2⟩ := st hst hf3 (fun _ => rfl) rfl
    refine z_aload_n dX9_measure_195 (by exact rfl) ?_
    refine z_dup dX9_measure_196 (by exact rfl) ?_
    refine z_gfL zfx_X9_154 (by exact rfl) dX9_measure_197 ?_
    refine z_eJ (lN (wayA n b a (s, cs) o).2.2) g3 ?_
    refine z_ldcL dX9_measure_200 zclx_X9_73 ?_
    refine z_aload_n dX9_measure_203 (by exact rfl) ?_
    refine z_gfI zfx_X9_168 (by exact rfl) dX9_measure_204 ?_
    refine z_eI (nI w) j2 ?_
    refine z_i2l dX9_measure_207 ?_
    refine z_eJ (lN w) (nI_l (by omega)) ?_
    refine z_ladd dX9_measure_208 ?_
    refine z_eJ (lN (8 + w)) (lN_add 8 w) ?_
    refine z_ladd dX9_measure_209 ?_
    refine z_eJ (lN (wsz n b a (s, cs) o)) (by rw [lN_add, hsz, Nat.add_comm]) ?_
    refine z_pfL zfx_X9_154 (by exact rfl) dX9_measure_210 ?_
    exact z_vret (st := []) rfl dX9_measure_213 (hq _ hwb j2 g1 g2 rfl (j1.fr (F := fO9) (zfr.rf.uL _ rfl) (fun _ => rfl)) ((((hf1.wk fMs_61).tr hF2).tr (hf3.wk fMs_o)).uL _ rfl))
  have own : ∀ (D2 : zD) (s2 : Option zWay), s2 = offFs n c a' 5 (off0 n c a') → of9 D2 s2 → (rowL D2 a' n ∧ D2.1 19 27 = nI w) → zfr fMs D1 D2 → Z (zmk iX9_measure (d + 5)) 0 103 (zl [(0, .ref 19), (2, .int (nI c))]) [] D2 Q := by
    intro D2 s2 es h2 hst hF2
    have hne : ¬ (1 ≤ o ∧ o ≤ n ∧ rsOk (s, cs) o n a') → s2 = offO n c a' (s, cs) o (offFs n c a' 5 (off0 n c a')) := fun q => by
      rw [es]
      unfold offO
      rw [zif_n q]
    have oc : o * c ≤ 8 * 25 := Nat.mul_le_mul ho (by omega)
    have take : ∀ (D3 : zD), 1 ≤ o → o ≤ n → rsOk (s, cs) o n a' → leftE D3 (s, cs) o n a' → zfr f62 D2 D3 → Z (zmk iX9_measure (d + 5)) 0 137 (zl [(0, .ref 19), (2, .int (nI c)), (3, .int (nI (31 + o)))]) [] D3 Q := by
      intro D3 h1o hon hok hl hf3
      have hF3 := hF2.tr (hf3.wk fMs_62)
      have hlb : lc (rsU (s, cs) o a') n o < 20000000000000 := pcs_bd (bqR_vq (u := rsU (s, cs) o a') hon 3 (Nat.le_refl _)).1 hn.2 (rsU_bd hok) (Nat.le_refl _)
      refine z_aload_n dX9_measure_137 (by exact rfl) ?_
      refine z_gfI zfx_X9_97 (by exact rfl) dX9_measure_138 ?_
      refine z_eI (nI o) (k0 hF3).2.1 ?_
      refine z_i2l dX9_measure_141 ?_
      refine z_eJ (lN o) (nI_l (by omega)) ?_
      refine z_iload_n dX9_measure_142 (by exact rfl) ?_
      refine z_i2l dX9_measure_143 ?_
      refine z_eJ (lN c) (nI_l (by omega)) ?_
      refine z_lmul dX9_measure_144 ?_
      refine z_eJ (lN (o * c)) (lN_mul _ _) ?_
      refine z_ldcL dX9_measure_145 zclx_X9_188 ?_
      refine z_ladd dX9_measure_148 ?_
      refine z_eJ (lN (o * c + 9)) (lN_add _ 9) ?_
      refine z_ldcL dX9_measure_149 zclx_X9_190 ?_
      refine z_aload_n dX9_measure_152 (by exact rfl) ?_
      refine z_gfI zfx_X9_97 (by exact rfl) dX9_measure_153 ?_
      refine z_eI (nI o) (k0 hF3).2.1 ?_
      refine z_i2l dX9_measure_156 ?_
      refine z_eJ (lN o) (nI_l (by omega)) ?_
      refine z_lmul dX9_measure_157 ?_
      refine z_eJ (lN (15 * o)) (lN_mul 15 o) ?_
      refine z_ladd dX9_measure_158 ?_
      refine z_eJ (lN (o * c + 9 + 15 * o)) (lN_add _ _) ?_
      refine z_aload_n dX9_measure_159 (by exact rfl) ?_
      refine z_aload_n dX9_measure_160 (by exact rfl) ?_
      refine z_gfI zfx_X9_97 (by exact rfl) dX9_measure_161 ?_
      refine z_eI (nI o) (k0 hF3).2.1 ?_
      refine z_cV dX9_measure_164 zk_X9_185 (by exact rfl) (by exact rfl) (by exact rfl) (Nat.le_of_ble_eq_true rfl) (Nat.le_of_ble_eq_true rfl) (Nat.le_refl _) ?_
      refine c_leftCost (k0 hF3).1 (leftU.of hl hok) hon hn.2 (fun D4 h31 hf4 => ?_)
      have hF4 := hF3.tr (hf4.wk fMs_31)
      refine z_ladd dX9_measure_167 ?_
      refine z_eJ (lN (o * c + 9 + 15 * o + lc (rsU (s, cs) o a') n o)) (lN_add _ _) ?_
      refine z_lstore dX9_measure_168 (Nat.le_of_ble_eq_true rfl) ?_
      refine z_aload_n dX9_measure_170 (by exact rfl) ?_
      refine z_iload_n dX9_measure_171 (by exact rfl) ?_
      refine z_aload_n dX9_measure_172 (by exact rfl) ?_
      refine z_gfI zfx_X9_147 (by exact rfl) dX9_measure_173 ?_
      refine z_eI (iI ((bq (rsU (s, cs) o a') n o : Nat) : Int)) (by rw [h31, iI_N]) ?_
      refine z_lload dX9_measure_176 (by exact rfl) ?_
      refine z_cV dX9_measure_178 zk_X9_177 (by exact rfl) (by exact rfl) (by exact rfl) (Nat.le_of_ble_eq_true rfl) (Nat.le_of_ble_eq_true rfl) (Nat.le_refl _) ?_
      refine c_offer9 (by omega) ((h2.fr hf3 rfl rfl rfl).fr hf4 rfl rfl rfl) (fun D5 h5 hf5 => ?_)
      exact z_at [(0, .ref 19), (2, .int (nI c))] ⟨rfl, rfl, trivial⟩ (last D5 _ (by
        unfold offO
        rw [zif_p ⟨h1o, hon, hok⟩, es]) h5 (st (st (st hst hf3 (fun _ => rfl) rfl) hf4 (fun _ => rfl) rfl) hf5 (fun _ => rfl) rfl) (hF4.tr (hf5.wk fMs_o)))
    refine z_bipush dX9_measure_103 ?_
    refine z_aload_n dX9_measure_105 (by exact rfl) ?_
    refine z_gfI zfx_X9_97 (by exact rfl) dX9_measure_106 ?_
    refine z_eI (nI o) (k0 hF2).2.1 ?_
    refine z_iadd dX9_measure_109 ?_
    refine z_eI (nI (31 + o)) (nI_add 31 o) ?_
    refine z_istore_n dX9_measure_110 (Nat.le_of_ble_eq_true rfl) ?_
    refine z_aload_n dX9_measure_111 (by exact rfl) ?_
    refine z_gfI zfx_X9_97 (by exact rfl) dX9_measure_112 ?_
    refine z_eI (nI o) (k0 hF2).2.1 ?_
    refine z_if_le (tgt := 181) dX9_measure_115 (by decide) (fun c115 => ?_) (fun c115 => ?_)
    · exact z_at [(0, .ref 19), (2, .int (nI c))] ⟨rfl, rfl, trivial⟩ (last D2 s2 (hne (fun q => by
        have := (nI_leI (a := o) (b := 0) (by omega) (by omega)).mp c115
        omega)) h2 hst hF2)
    · refine z_aload_n dX9_measure_118 (by exact rfl) ?_
      refine z_gfI zfx_X9_97 (by exact rfl) dX9_measure_119 ?_
      refine z_eI (nI o) (k0 hF2).2.1 ?_
      refine z_aload_n dX9_measure_122 (by exact rfl) ?_
      refine z_gfI zfx_X9_108 (by exact rfl) dX9_measure_123 ?_
      refine z_eI (nI n) (k0 hF2).1 ?_
      refine z_icmp_gt (tgt := 181) dX9_measure_126 (by decide) (fun c126 => ?_) (fun c126 => ?_)
      · exact z_at [(0, .ref 19), (2, .int (nI c))] ⟨rfl, rfl, trivial⟩ (last D2 s2 (hne (fun q => by
          have := (nI_ltI (a := n) (b := o) (by omega) (by omega)).mp c126
          omega)) h2 hst hF2)
      · have h1o : 1 ≤ o := by
          rcases Nat.eq_zero_or_pos o with h | h
          · subst h
            exact absurd (by decide) c115
          · exact h
        have hon : o ≤ n := by
          rcases Nat.lt_or_ge n o with h | h
          · exact absurd (nI_lt h (by omega)) c126
          · exact h
        refine z_aload_n dX9_measure_129 (by exact rfl) ?_
        refine z_iload_n dX9_measure_130 (by exact rfl) ?_
        refine z_cV dX9_measure_131 zk_X9_181 (by exact rfl) (by exact rfl) (by exact rfl) (Nat.le_of_ble_eq_true rfl) (Nat.le_of_ble_eq_true rfl) (Nat.le_refl _) ?_
        refine c_leave (pr := (s, cs)) (.inr ⟨rfl, h1o, ho, hs, (k0 hF2).2⟩) (k0 hF2).1 hon hn.2 hst.1 (fun D3 bb hbb hl hf3 => ?_)
        refine z_if_eq (tgt := 181) dX9_measure_134 (by decide) (fun c134 => ?_) (fun c134 => ?_)
        · exact z_at [(0, .ref 19), (2, .int (nI c))] ⟨rfl, rfl, trivial⟩ (last D3 s2 (hne (fun q => by
            have := hbb.mpr q.2.2
            subst this
            exact absurd c134 (by decide))) (h2.fr hf3 rfl rfl rfl) (st hst hf3 (fun _ => rfl) rfl) (hF2.tr (hf3.wk fMs_62)))
        · exact z_at [(0, .ref 19), (2, .int (nI c)), (3, .int (nI (31 + o)))] ⟨rfl, rfl, rfl, trivial⟩ (take D3 h1o hon (hbb.mp (by
            cases bb with
            | true => rfl
            | false => exact absurd rfl c134)) hl hf3)
  have fx : ∀ (m i : Nat) (D2 : zD), i + m = 5 → of9 D2 (offFs n c a' i (off0 n c a')) → (rowL D2 a' n ∧ D2.1 19 27 = nI w) → zfr fMs D1 D2 → Z (zmk iX9_measure (d + 5)) 0 40 (zl [(0, .ref 19), (2, .int (nI c)), (3, .int (nI (8 + i)))]) [] D2 Q := by
    intro m
    induction m with
    | zero =>
      intro i D2 hi h2 hst hF2
      have hi : i = 5 := by omega
      subst hi
      refine z_iload_n dX9_measure_40 (by exact rfl) ?_
      refine z_bipush dX9_measure_41 ?_
      refine z_icmp_ge (tgt := 103) dX9_measure_43 (by decide) (fun _ => ?_) (fun q9 => absurd ((by decide)) q9)
      exact z_at [(0, .ref 19), (2, .int (nI c))] ⟨rfl, rfl, trivial⟩ (own D2 _ rfl h2 hst hF2)
    | succ m ih =>
      intro i D2 hi h2 hst hF2
      have eo : ordN (8 + i) = i := by
        unfold ordN
        rw [if_neg (by omega), if_pos (by omega), Nat.add_sub_cancel_left]
      have ic : i * c ≤ 4 * 25 := Nat.mul_le_mul (by omega) (by omega)
      have nx : ∀ (D3 : zD), of9 D3 (offFs n c a' (i + 1) (off0 n c a')) → (rowL D3 a' n ∧ D3.1 19 27 = nI w) → zfr fMs D1 D3 → Z (zmk iX9_measure (d + 5)) 0 97 (zl [(0, .ref 19), (2, .int (nI c)), (3, .int (nI (8 + i)))]) [] D3 Q := by
        intro D3 h3 hst3 hF3
        refine z_iinc dX9_measure_97 (by exact rfl) ?_
        refine z_at [(0, .ref 19), (2, .int (nI c)), (3, .int (nI (8 + (i + 1))))] ⟨rfl, rfl, congrArg (fun x => some (Value.int x)) (nI_1 _), trivial⟩ ?_
        refine z_goto (tgt := 40) dX9_measure_100 (by decide) ?_
        exact ih (i + 1) D3 (by omega) h3 hst3 hF3
      refine z_iload_n dX9_measure_40 (by exact rfl) ?_
      refine z_bipush dX9_measure_41 ?_
      refine z_icmp_ge (tgt := 103) dX9_measure_43 (by decide) (fun q9 => absurd q9 ((nI_ge (a := 8 + i) (b := 13) (by omega) (by omega)))) (fun _ => ?_)
      refine z_iload_n dX9_measure_46 (by exact rfl) ?_
      refine z_cS dX9_measure_47 zk_X9_117 (by exact rfl) (Nat.le_of_ble_eq_true rfl) (Nat.le_of_ble_eq_true rfl) (Nat.le_refl _) ?_
      refine c_o (t := 8 + i) (by omega) ?_
      rw [eo]
      refine z_aload_n dX9_measure_50 (by exact rfl) ?_
      refine z_gfI zfx_X9_108 (by exact rfl) dX9_measure_51 ?_
      refine z_eI (nI n) (k0 hF2).1 ?_
      refine z_icmp_le (tgt := 60) dX9_measure_54 (by decide) (fun c54 => ?_) (fun c54 => ?_)
      · have hin : i ≤ n := (nI_leI (a := i) (b := n) (by omega) (by omega)).mp c54
        have hok : rsOk (0, fxC i) i n a' := fx_ok (by omega) (fun j hj => (hst.1 j hj).2)
        have hlb : lc (fxU i a') n i < 20000000000000 := pcs_bd (bqR_vq (u := fxU i a') hin 3 (Nat.le_refl _)).1 hn.2 (rsU_bd hok) (Nat.le_refl _)
        refine z_aload_n dX9_measure_60 (by exact rfl) ?_
        refine z_iload_n dX9_measure_61 (by exact rfl) ?_
        refine z_cV dX9_measure_62 zk_X9_181 (by exact rfl) (by exact rfl) (by exact rfl) (Nat.le_of_ble_eq_true rfl) (Nat.le_of_ble_eq_true rfl) (Nat.le_refl _) ?_
        refine c_leave (o := i) (pr := (0, fxC i)) (.inl ⟨rfl, by omega, rfl⟩) (k0 hF2).1 hin hn.2 hst.1 (fun D3 bb hbb hl hf3 => ?_)
        have hF3 := hF2.tr (hf3.wk fMs_62)
        refine z_istore dX9_measure_65 (Nat.le_of_ble_eq_true rfl) ?_
        refine z_iload_n dX9_measure_67 (by exact rfl) ?_
        refine z_cS dX9_measure_68 zk_X9_117 (by exact rfl) (Nat.le_of_ble_eq_true rfl) (Nat.le_of_ble_eq_true rfl) (Nat.le_refl _) ?_
        refine c_o (t := 8 + i) (by omega) ?_
        rw [eo]
        refine z_i2l dX9_measure_71 ?_
        refine z_eJ (lN i) (nI_l (by omega)) ?_
        refine z_iload_n dX9_measure_72 (by exact rfl) ?_
        refine z_i2l dX9_measure_73 ?_
        refine z_eJ (lN c) (nI_l (by omega)) ?_
        refine z_lmul dX9_measure_74 ?_
        refine z_eJ (lN (i * c)) (lN_mul _ _) ?_
        refine z_aload_n dX9_measure_75 (by exact rfl) ?_
        refine z_iload_n dX9_measure_76 (by exact rfl) ?_
        refine z_cS dX9_measure_77 zk_X9_117 (by exact rfl) (Nat.le_of_ble_eq_true rfl) (Nat.le_of_ble_eq_true rfl) (Nat.le_refl _) ?_
        refine c_o (t := 8 + i) (by omega) ?_
        rw [eo]
        refine z_cV dX9_measure_80 zk_X9_185 (by exact rfl) (by exact rfl) (by exact rfl) (Nat.le_of_ble_eq_true rfl) (Nat.le_of_ble_eq_true rfl) (Nat.le_refl _) ?_
        refine c_leftCost (k0 hF3).1 (leftU.of hl hok) hin hn.2 (fun D4 h31 hf4 => ?_)
        have hF4 := hF3.tr (hf4.wk fMs_31)
        refine z_ladd dX9_measure_83 ?_
        refine z_eJ (lN (i * c + lc (fxU i a') n i)) (lN_add _ _) ?_
        refine z_lstore dX9_measure_84 (Nat.le_of_ble_eq_true rfl) ?_
        refine z_aload_n dX9_measure_86 (by exact rfl) ?_
        refine z_iload_n dX9_measure_87 (by exact rfl) ?_
        refine z_aload_n dX9_measure_88 (by exact rfl) ?_
        refine z_gfI zfx_X9_147 (by exact rfl) dX9_measure_89 ?_
        refine z_eI (iI ((bq (fxU i a') n i : Nat) : Int)) (by rw [h31, iI_N]; rfl) ?_
        refine z_lload dX9_measure_92 (by exact rfl) ?_
        refine z_cV dX9_measure_94 zk_X9_177 (by exact rfl) (by exact rfl) (by exact rfl) (Nat.le_of_ble_eq_true rfl) (Nat.le_of_ble_eq_true rfl) (Nat.le_refl _) ?_
        refine c_offer9 (by omega) ((h2.fr hf3 rfl rfl rfl).fr hf4 rfl rfl rfl) (fun D5 h5 hf5 => ?_)
        exact z_at [(0, .ref 19), (2, .int (nI c)), (3, .int (nI (8 + i)))] ⟨rfl, rfl, rfl, trivial⟩ (nx D5 (by
          show of9 D5 (offF n c a' i _)
          unfold offF
          rw [if_pos hin]
          exact h5) (st (st (st hst hf3 (fun _ => rfl) rfl) hf4 (fun _ => rfl) rfl) hf5 (fun _ => rfl) rfl) (hF4.tr (hf5.wk fMs_o)))
      · refine z_goto (tgt := 97) dX9_measure_57 (by decide) ?_
        exact z_at [(0, .ref 19), (2, .int (nI c)), (3, .int (nI (8 + i)))] ⟨rfl, rfl, rfl, trivial⟩ (nx D2 (by
          have hin : ¬ i ≤ n := fun q => c54 (nI_le q (by omega))
          show of9 D2 (offF n c a' i _)
          unfold offF
          rw [if_neg hin]
          exact h2) hst hF2)
  refine z_pfI zfx_X9_168 (by exact rfl) dX9_measure_5 ?_
  have st0 : rowL (zuI D1 19 27 (nI w)) a' n ∧ (zuI D1 19 27 (nI w)).1 19 27 = nI w := ⟨hr1, rfl⟩
  have hF0 : zfr fMs D1 (zuI D1 19 27 (nI w)) := zfr.rf.uI _ rfl
  refine z_iload_n dX9_measure_8 (by exact rfl) ?_
  refine z_aload_n dX9_measure_9 (by exact rfl) ?_
  refine z_gfI zfx_X9_168 (by exact rfl) dX9_measure_10 ?_
  refine z_eI (nI w) rfl ?_
  refine z_isub dX9_measure_13 ?_
  refine z_eI (nI c) (by rw [hc]; exact pk_sub (by omega)) ?_
  refine z_istore_n dX9_measure_14 (Nat.le_of_ble_eq_true rfl) ?_
  refine z_aload_n dX9_measure_15 (by exact rfl) ?_
  refine z_ldcL dX9_measure_16 zclx_X9_171 ?_
  refine z_pfL zfx_X9_154 (by exact rfl) dX9_measure_19 ?_
  have st1 : rowL (zuL (zuI D1 19 27 (nI w)) 19 30 (lI (-1))) a' n ∧ (zuL (zuI D1 19 27 (nI w)) 19 30 (lI (-1))).1 19 27 = nI w := ⟨st0.1.fr (F := fO9) (zfr.rf.uL _ rfl) (fun _ => rfl), rfl⟩
  have hF1 : zfr fMs D1 (zuL (zuI D1 19 27 (nI w)) 19 30 (lI (-1))) := hF0.uL _ rfl
  refine z_aload_n dX9_measure_22 (by exact rfl) ?_
  refine z_cV dX9_measure_23 zk_X9_173 (by exact rfl) (by exact rfl) (by exact rfl) (Nat.le_of_ble_eq_true rfl) (Nat.le_of_ble_eq_true rfl) (Nat.le_refl _) ?_
  refine c_isConstant (k0 hF1).1 hn st1.1 (fun bb hbb => ?_)
  refine z_if_eq (tgt := 37) dX9_measure_26 (by decide) (fun c26 => ?_) (fun c26 => ?_)
  · skip
    refine z_bipush dX9_measure_37 ?_
    refine z_istore_n dX9_measure_39 (Nat.le_of_ble_eq_true rfl) ?_
    exact z_at [(0, .ref 19), (2, .int (nI c)), (3, .int (nI (8 + 0)))] ⟨rfl, rfl, rfl, trivial⟩ (fx 5 0 _ (by omega) (by
      have hno : ¬ ∀ i, i < n → a' i = a' 0 := fun q => by
        have := hbb.mpr q
        subst this
        exact absurd c26 (by decide)
      show of9 _ (off0 n c a')
      unfold off0
      rw [zif_n hno]
      exact rfl) st1 hF1)
  · refine z_aload_n dX9_measure_29 (by exact rfl) ?_
    refine z_iconst dX9_measure_30 ?_
    refine z_iconst dX9_measure_31 ?_
    refine z_iload_n dX9_measure_32 (by exact rfl) ?_
    refine z_i2l dX9_measure_33 ?_
    refine z_eJ (lN c) (nI_l (by omega)) ?_
    refine z_cV dX9_measure_34 zk_X9_177 (by exact rfl) (by exact rfl) (by exact rfl) (Nat.le_of_ble_eq_true rfl) (Nat.le_of_ble_eq_true rfl) (Nat.le_refl _) ?_
    refine c_offer9 (t := 0) (q := -1) (s := none) (by omega) rfl (fun D2 h2 hf2 => ?_)
    skip
    refine z_bipush dX9_measure_37 ?_
    refine z_istore_n dX9_measure_39 (Nat.le_of_ble_eq_true rfl) ?_
    exact z_at [(0, .ref 19), (2, .int (nI c)), (3, .int (nI (8 + 0)))] ⟨rfl, rfl, rfl, trivial⟩ (fx 5 0 D2 (by omega) (by
      have hyes : ∀ i, i < n → a' i = a' 0 := hbb.mp (by
        cases bb with
        | true => rfl
        | false => exact absurd rfl c26)
      show of9 _ (off0 n c a')
      unfold off0
      rw [zif_p hyes]
      exact h2) (st st1 hf2 (fun _ => rfl) rfl) (hF1.tr (hf2.wk fMs_o)))
