/-! ===== read, of the reference ===== -/
def fRd9 (a k : Nat) : Bool := a == 53 || (a == 61 || (a == 63 || (a == 64 || (a == 65 || (a == 19 && (decide (k ≤ 4) || (k == 8 || (k == 20 || (k == 22 || (k == 23 || decide (32 ≤ k)))))))))))
theorem fRd9_S (a k : Nat) (h : fRd9 a k = false) : fS9 a k = false := by
  unfold fRd9 at h
  unfold fS9 f9
  simp at h ⊢
  omega
theorem fRd9_F (a k : Nat) (h : fRd9 a k = false) : fF9 a k = false := by
  unfold fRd9 at h
  unfold fF9 fG9 fK9 fW9 f9
  simp at h ⊢
  omega
theorem c_read9 {d sz : Nat} {D : zD} {T : Nat → Bool} {Q : zQ} (hsz : D.1 19 20 = nI sz) (hsz2 : sz ≤ 20000) (hT : ∀ i, i < 8 * sz → bt64 (D.2 60) i = T i)
    (h1 : ∀ D' st S q, sRead T (8 * sz) 0 = .inr ((st, S), q) → okSet st → (D'.1 19 1 = nI st.2.2.1 ∧ D'.1 19 2 = nI st.2.2.2.1 ∧ D'.1 19 3 = nI st.1 ∧ D'.1 19 4 = nI st.2.1) → (∀ j, j < st.2.2.2.2 * st.2.2.1 → D'.1 53 j = iI (S j)) → D'.1 19 8 = nI (st.2.2.2.2 * st.2.2.1) → D'.1 19 20 = 0 → D'.1 19 22 = 0 → D'.1 19 23 = Int32.ofInt (-1) → D'.1 19 0 = 0 → zfr fRd9 D D' → Q (.inl (some (.int (nI (st.2.2.2.2 * st.2.2.1))))) 0 D')
    (h0 : ∀ D' k pl, sRead T (8 * sz) 0 = .inl (k, pl) → D'.1 19 20 = 0 → bad9 D' k pl → D'.1 19 0 = 1 → zfr (fun a k => fRd9 a k && !(a == 53 || (a == 19 && ((decide (1 ≤ k) && decide (k ≤ 4)) || k == 8)))) D D' → Q (.inl (some (.int 0))) 0 D') :
    ZM yX9_read iX9_read (d + 7) [.ref 19] D Q := by
  refine z_method (by decide) rfl (Nat.le_of_ble_eq_true rfl) ?_
  refine z_at [(0, .ref 19)] ⟨rfl, trivial⟩ ?_
  obtain ⟨F0, eF0⟩ : ∃ F0 : Nat → Nat → Bool, F0 = fun a k => fRd9 a k && !(a == 53 || (a == 19 && ((decide (1 ≤ k) && decide (k ≤ 4)) || k == 8))) := ⟨_, rfl⟩
  rw [← eF0] at h0
  have F0_R : ∀ a k, fRd9 a k = false → F0 a k = false := fun a k h => by
    rw [eF0]
    show (fRd9 a k && _) = false
    rw [h]
    rfl
  have F0_S : ∀ a k, F0 a k = false → fS9 a k = false := fun a k h => by
    rw [eF0] at h
    unfold fRd9 at h
    unfold fS9 f9
    simp at h ⊢
    omega
  have F0_F : ∀ a k, F0 a k = false → fF9 a k = false := fun a k h => by
    rw [eF0] at h
    unfold fRd9 at h
    unfold fF9 fG9 fK9 fW9 f9
    simp at h ⊢
    omega
  obtain ⟨sp, hsp⟩ : ∃ sp, sp = sRead T (8 * sz) 0 := ⟨_, rfl⟩
  rw [← hsp] at h1 h0
  have hK := hsp.symm
  unfold sRead at hK
  have bad2 : ∀ (D1 : zD) (k pl : Nat), bad9 D1 k pl → sp = .inl (k, pl) → D1.1 19 20 = 0 → zfr F0 D D1 → Z (zmk iX9_read (d + 7)) 0 145 (zl [(0, .ref 19)]) [] D1 Q := by
    intro D1 k pl hb e h20 hF
    refine z_aload_n dX9_read_145 (by exact rfl) ?_
    refine z_aload_n dX9_read_146 (by exact rfl) ?_
    refine z_gfI zfx_X9_264 (by exact rfl) dX9_read_147 ?_
    refine z_if_le (tgt := 157) dX9_read_150 (by decide) (fun q9 => absurd q9 (hb.f)) (fun _ => ?_)
    refine z_iconst dX9_read_153 ?_
    refine z_goto (tgt := 158) dX9_read_154 (by decide) ?_
    refine z_pfI zfx_X9_70 (by exact rfl) dX9_read_158 ?_
    refine z_aload_n dX9_read_161 (by exact rfl) ?_
    refine z_gfI zfx_X9_70 (by exact rfl) dX9_read_162 ?_
    refine z_eI 1 rfl ?_
    refine z_if_le (tgt := 170) dX9_read_165 (by decide) (fun q9 => absurd q9 ((by decide))) (fun _ => ?_)
    refine z_iconst dX9_read_168 ?_
    exact z_iret (st := []) rfl dX9_read_169 (h0 _ k pl e h20 ⟨hb.1, hb.2.1, hb.2.2⟩ rfl (hF.uI _ (by rw [eF0]; rfl)))
  have bad : ∀ (D1 : zD) (k pl : Nat), bad9 D1 k pl → sp = .inl (k, pl) → D1.1 19 20 = 0 → zfr F0 D D1 → Z (zmk iX9_read (d + 7)) 0 116 (zl [(0, .ref 19)]) [] D1 Q := by
    intro D1 k pl hb e h20 hF
    refine z_aload_n dX9_read_116 (by exact rfl) ?_
    refine z_gfI zfx_X9_264 (by exact rfl) dX9_read_117 ?_
    refine z_if_ne (tgt := 145) dX9_read_120 (by decide) (fun _ => ?_) (fun q9 => absurd q9 (hb.z))
    exact bad2 D1 k pl hb e h20 hF
  have cp : ∀ (st : zSet) (S : zRow), okSet st → (∀ D', (D'.1 19 1 = nI st.2.2.1 ∧ D'.1 19 2 = nI st.2.2.2.1 ∧ D'.1 19 3 = nI st.1 ∧ D'.1 19 4 = nI st.2.1) → (∀ j, j < st.2.2.2.2 * st.2.2.1 → D'.1 53 j = iI (S j)) → D'.1 19 8 = nI (st.2.2.2.2 * st.2.2.1) → D'.1 19 20 = 0 → D'.1 19 22 = 0 → D'.1 19 23 = Int32.ofInt (-1) → D'.1 19 0 = 0 → zfr fRd9 D D' → Q (.inl (some (.int (nI (st.2.2.2.2 * st.2.2.1))))) 0 D') →
      ∀ (m i : Nat) (D1 : zD), i + m = st.2.2.2.2 * st.2.2.1 → smp9 D1 S (st.2.2.2.2 * st.2.2.1) → (∀ j, j < i → D1.1 53 j = iI (S j)) → (D1.1 19 1 = nI st.2.2.1 ∧ D1.1 19 2 = nI st.2.2.2.1 ∧ D1.1 19 3 = nI st.1 ∧ D1.1 19 4 = nI st.2.1) → D1.1 19 39 = nI (st.2.2.2.2 * st.2.2.1) → D1.1 19 8 = nI (st.2.2.2.2 * st.2.2.1) → D1.1 19 20 = 0 → D1.1 19 22 = 0 → D1.1 19 23 = Int32.ofInt (-1) → D1.1 19 0 = 0 → zfr fRd9 D D1 → Z (zmk iX9_read (d + 7)) 0 212 (zl [(0, .ref 19), (2, .int (nI i))]) [] D1 Q := by
    intro st S ho h1 m
    have o5 := ho.2.2.2.2
    induction m with
    | zero =>
      intro i D1 hm hS hc hs h39 h8 h20 h22 h23 h00 hF
      have hm : i = st.2.2.2.2 * st.2.2.1 := by omega
      refine z_iload_n dX9_read_212 (by exact rfl) ?_
      refine z_aload_n dX9_read_213 (by exact rfl) ?_
      refine z_gfI zfx_X9_342 (by exact rfl) dX9_read_214 ?_
      refine z_eI (nI (st.2.2.2.2 * st.2.2.1)) h39 ?_
      refine z_icmp_ge (tgt := 238) dX9_read_217 (by decide) (fun _ => ?_) (fun q9 => absurd ((by rw [hm]; exact nI_le (Nat.le_refl _) (by omega))) q9)
      refine z_aload_n dX9_read_238 (by exact rfl) ?_
      refine z_gfI zfx_X9_89 (by exact rfl) dX9_read_239 ?_
      refine z_eI (nI (st.2.2.2.2 * st.2.2.1)) h8 ?_
      exact z_iret (st := []) rfl dX9_read_242 (h1 D1 hs (fun j hj => hc j (by omega)) h8 h20 h22 h23 h00 hF)
    | succ m ih =>
      intro i D1 hm hS hc hs h39 h8 h20 h22 h23 h00 hF
      have cl : (nI i).toNatClampNeg = i := nI_clamp (by omega)
      refine z_iload_n dX9_read_212 (by exact rfl) ?_
      refine z_aload_n dX9_read_213 (by exact rfl) ?_
      refine z_gfI zfx_X9_342 (by exact rfl) dX9_read_214 ?_
      refine z_eI (nI (st.2.2.2.2 * st.2.2.1)) h39 ?_
      refine z_icmp_ge (tgt := 238) dX9_read_217 (by decide) (fun q9 => absurd q9 ((nI_ge (a := i) (b := st.2.2.2.2 * st.2.2.1) (by omega) (by omega)))) (fun _ => ?_)
      refine z_aload_n dX9_read_220 (by exact rfl) ?_
      refine z_gfA zfx_X9_27 (by exact rfl) dX9_read_221 ?_
      refine z_iload_n dX9_read_224 (by exact rfl) ?_
      refine z_aload_n dX9_read_225 (by exact rfl) ?_
      refine z_gfA zfx_X9_61 (by exact rfl) dX9_read_226 ?_
      refine z_iload_n dX9_read_229 (by exact rfl) ?_
      refine z_aI (by exact rfl) dX9_read_230 (vp_in_nI (by omega) (by omega)) ?_
      refine z_eI (iI (S i)) (by rw [cl]; exact hS i (by omega)) ?_
      refine z_sI (by exact rfl) dX9_read_231 (vp_in_nI (by omega) (by omega)) ?_
      rw [cl]
      refine z_iinc dX9_read_232 (by exact rfl) ?_
      refine z_at [(0, .ref 19), (2, .int (nI (i + 1)))] ⟨rfl, congrArg (fun x => some (Value.int x)) (nI_1 i), trivial⟩ ?_
      refine z_goto (tgt := 212) dX9_read_235 (by decide) ?_
      exact ih (i + 1) _ (by omega) hS (fun j hj => by
        obtain q | q : j = i ∨ j < i := by omega
        · subst q
          exact zuI_at _ _ _ _
        · rw [zuI_ne (by omega)]
          exact hc j q) hs h39 h8 h20 h22 h23 h00 (hF.uI _ rfl)
  have lp : ∀ (st : zSet), okSet st → ∀ (mm f : Nat) (D1 : zD) (p1 : Nat) (S : zRow), f + mm = (st.2.2.2.2 + st.1 - 1) / st.1 → p1 % 8 = 0 → set9 D1 st → D1.1 19 39 = nI (min (f * st.1) st.2.2.2.2 * st.2.2.1) → smp9 D1 S (min (f * st.1) st.2.2.2.2 * st.2.2.1) → rd9 D1 T sz p1 → D1.1 19 20 = 0 → D1.1 19 0 = 0 → zfr F0 D D1 → (rbind (rloop (fun f S => rbind (sFrame T (8 * sz) st.2.2.1 st.2.2.2.1 f (min st.1 (st.2.2.2.2 - f * st.1))) fun U => rpure (lay st.2.2.1 (f * st.1) (min st.1 (st.2.2.2.2 - f * st.1)) U S)) f mm S) fun S p => if p = 8 * sz then .inr ((st, S), p) else .inl (2, p)) p1 = sp → Z (zmk iX9_read (d + 7)) 0 51 (zl [(0, .ref 19), (1, .int (nI f)), (2, .long (lN (f * st.1)))]) [] D1 Q := by
    rintro ⟨bl, rt, ch, bi, mo⟩ ⟨o1, o2, o3, o4, o5⟩ mm
    simp only at *
    have hmo : mo ≤ 4096 := Nat.le_trans (Nat.le_mul_of_pos_right _ (by omega)) o5
    induction mm with
    | zero =>
      intro f D1 p1 S hm hp8 hs h39 hS hR1 h20 h00 hF hK1
      have hge : ¬ f * bl < mo := fun q => by
        have := (nf_lt (by omega)).mpr q
        omega
      have hfl : f ≤ 4096 := by
        rcases Nat.eq_zero_or_pos f with h | h
        · omega
        · have := (nf_lt (f := f - 1) (m := mo) (bl := bl) (by omega)).mp (by omega)
          have h2 : f - 1 ≤ (f - 1) * bl := Nat.le_mul_of_pos_right _ (by omega)
          omega
      have hfb : f * bl < 2 ^ 21 := by
        have : f * bl ≤ 4096 * 256 := Nat.mul_le_mul hfl o1.2
        omega
      have hmin : min (f * bl) mo = mo := by omega
      rw [hmin] at hS h39
      have hK2 : (if p1 = 8 * sz then .inr (((bl, rt, ch, bi, mo), S), p1) else .inl (2, p1)) = sp := hK1
      have hpl := hR1.2.2.2.1
      refine z_lload_n dX9_read_51 (by exact rfl) ?_
      refine z_aload_n dX9_read_52 (by exact rfl) ?_
      refine z_gfL zfx_X9_298 (by exact rfl) dX9_read_53 ?_
      refine z_eJ (lN mo) hs.2.2.2.2 ?_
      refine z_ge (tgt := 116) dX9_read_56 dX9_read_57 (by decide) (fun _ => ?_) (fun q9 => absurd (((pk_lLE (a := mo) (b := f * bl) (by omega) (by omega)).mpr (by omega))) q9)
      refine z_aload_n dX9_read_116 (by exact rfl) ?_
      refine z_gfI zfx_X9_264 (by exact rfl) dX9_read_117 ?_
      refine z_if_ne (tgt := 145) dX9_read_120 (by decide) (fun q9 => absurd (hR1.2.2.2.2.1) q9) (fun _ => ?_)
      refine z_aload_n dX9_read_123 (by exact rfl) ?_
      refine z_gfL zfx_X9_267 (by exact rfl) dX9_read_124 ?_
      refine z_eJ (lN p1) hR1.2.2.1 ?_
      refine z_aload_n dX9_read_127 (by exact rfl) ?_
      refine z_gfL zfx_X9_270 (by exact rfl) dX9_read_128 ?_
      refine z_eJ (lN (8 * sz)) hR1.1 ?_
      refine z_ge (tgt := 145) dX9_read_131 dX9_read_132 (by decide) (fun c131 => ?_) (fun c131 => ?_)
      · have hpe : p1 = 8 * sz := by
          have := (pk_lLE (a := 8 * sz) (b := p1) (by omega) (by omega)).mp c131
          omega
        rw [if_pos hpe] at hK2
        refine z_aload_n dX9_read_145 (by exact rfl) ?_
        refine z_aload_n dX9_read_146 (by exact rfl) ?_
        refine z_gfI zfx_X9_264 (by exact rfl) dX9_read_147 ?_
        refine z_if_le (tgt := 157) dX9_read_150 (by decide) (fun _ => ?_) (fun q9 => absurd ((by rw [hR1.2.2.2.2.1]; decide)) q9)
        refine z_iconst dX9_read_157 ?_
        refine z_pfI zfx_X9_70 (by exact rfl) dX9_read_158 ?_
        refine z_aload_n dX9_read_161 (by exact rfl) ?_
        refine z_gfI zfx_X9_70 (by exact rfl) dX9_read_162 ?_
        refine z_eI 0 rfl ?_
        refine z_if_le (tgt := 170) dX9_read_165 (by decide) (fun _ => ?_) (fun q9 => absurd ((by decide)) q9)
        refine z_aload_n dX9_read_170 (by exact rfl) ?_
        refine z_aload_n dX9_read_171 (by exact rfl) ?_
        refine z_gfI zfx_X9_290 (by exact rfl) dX9_read_172 ?_
        refine z_eI (nI ch) hs.2.2.1 ?_
        refine z_pfI zfx_X9_7 (by exact rfl) dX9_read_175 ?_
        refine z_aload_n dX9_read_178 (by exact rfl) ?_
        refine z_aload_n dX9_read_179 (by exact rfl) ?_
        refine z_gfI zfx_X9_295 (by exact rfl) dX9_read_180 ?_
        refine z_eI (nI bi) hs.2.2.2.1 ?_
        refine z_pfI zfx_X9_13 (by exact rfl) dX9_read_183 ?_
        refine z_aload_n dX9_read_186 (by exact rfl) ?_
        refine z_aload_n dX9_read_187 (by exact rfl) ?_
        refine z_gfI zfx_X9_284 (by exact rfl) dX9_read_188 ?_
        refine z_eI (nI bl) hs.1 ?_
        refine z_pfI zfx_X9_16 (by exact rfl) dX9_read_191 ?_
        refine z_aload_n dX9_read_194 (by exact rfl) ?_
        refine z_aload_n dX9_read_195 (by exact rfl) ?_
        refine z_gfI zfx_X9_287 (by exact rfl) dX9_read_196 ?_
        refine z_eI (nI rt) hs.2.1 ?_
        refine z_pfI zfx_X9_20 (by exact rfl) dX9_read_199 ?_
        refine z_aload_n dX9_read_202 (by exact rfl) ?_
        refine z_aload_n dX9_read_203 (by exact rfl) ?_
        refine z_gfI zfx_X9_342 (by exact rfl) dX9_read_204 ?_
        refine z_eI (nI (mo * ch)) h39 ?_
        refine z_pfI zfx_X9_89 (by exact rfl) dX9_read_207 ?_
        refine z_iconst dX9_read_210 ?_
        refine z_istore_n dX9_read_211 (Nat.le_of_ble_eq_true rfl) ?_
        exact z_at [(0, .ref 19), (2, .int (nI 0))] ⟨rfl, rfl, trivial⟩ (cp (bl, rt, ch, bi, mo) S ⟨o1, o2, o3, o4, o5⟩ (fun D' => h1 D' (bl, rt, ch, bi, mo) S p1 hK2.symm ⟨o1, o2, o3, o4, o5⟩) (mo * ch) 0 _ (Nat.zero_add _) hS (fun j hj => by omega) ⟨rfl, rfl, rfl, rfl⟩ h39 rfl h20 hR1.2.2.2.2.1 hR1.2.2.2.2.2.2 rfl ((((((((hF.wk F0_R)).uI _ rfl).uI _ rfl).uI _ rfl).uI _ rfl).uI _ rfl).uI _ rfl))
      · refine z_aload_n dX9_read_135 (by exact rfl) ?_
        refine z_iconst dX9_read_136 ?_
        refine z_aload_n dX9_read_137 (by exact rfl) ?_
        refine z_gfL zfx_X9_267 (by exact rfl) dX9_read_138 ?_
        refine z_eJ (lN p1) hR1.2.2.1 ?_
        refine z_cV dX9_read_141 zk_X9_273 (by exact rfl) (by exact rfl) (by exact rfl) (Nat.le_of_ble_eq_true rfl) (Nat.le_of_ble_eq_true rfl) (Nat.le_refl _) ?_
        refine c_wrong (fun _ => ?_) (fun q => absurd hR1.2.2.2.2.1 q)
        refine z_istore_n dX9_read_144 (Nat.le_of_ble_eq_true rfl) ?_
        exact z_at [(0, .ref 19)] ⟨rfl, trivial⟩ (bad2 _ 2 p1 ⟨rfl, lN_i p1, by omega, by omega⟩ (by
          have hpe : ¬ p1 = 8 * sz := fun q => c131 ((pk_lLE (a := 8 * sz) (b := p1) (by omega) (by omega)).mpr (by omega))
          rw [← hK2, if_neg hpe]) h20 ((hF.uI _ (by rw [eF0]; rfl)).uI _ (by rw [eF0]; rfl)))
    | succ mm ih =>
      intro f D1 p1 S hm hp8 hs h39 hS hR1 h20 h00 hF hK1
      have hlt : f * bl < mo := (nf_lt (by omega)).mp (by omega)
      have hf256 : f < 256 := by
        have : f * 16 ≤ f * bl := Nat.mul_le_mul_left _ o1.1
        omega
      have hmin : min (f * bl) mo = f * bl := by omega
      rw [hmin] at hS h39
      obtain ⟨n, hn⟩ : ∃ n, n = min bl (mo - f * bl) := ⟨_, rfl⟩
      have hn2 : 1 ≤ n ∧ n ≤ 256 := by omega
      have hfn : f * bl + n = min ((f + 1) * bl) mo := by
        rw [Nat.succ_mul]
        omega
      have hK2 : (rbind (sFrame T (8 * sz) ch bi f n) fun U => rbind (rloop (fun f S => rbind (sFrame T (8 * sz) ch bi f (min bl (mo - f * bl))) fun U => rpure (lay ch (f * bl) (min bl (mo - f * bl)) U S)) (f + 1) mm (lay ch (f * bl) n U S)) fun S p => if p = 8 * sz then .inr (((bl, rt, ch, bi, mo), S), p) else .inl (2, p)) p1 = sp := by
        rw [← hK1, hn]
        show _ = rbind (rbind (rbind _ _) _) _ p1
        rw [rassoc, rassoc]
        rfl
      have tl : Z (zmk iX9_read (d + 7)) 0 99 (zl [(0, .ref 19), (1, .int (nI f)), (2, .long (lN (f * bl)))]) [.int (nI n), .int (nI f), .ref 19] D1 Q := by
        refine z_cV dX9_read_99 zk_X9_373 (by exact rfl) (by exact rfl) (by exact rfl) (Nat.le_of_ble_eq_true rfl) (Nat.le_of_ble_eq_true rfl) (Nat.le_refl _) ?_
        refine c_readFrame9 (block := bl) (S := S) (sp := sFrame T (8 * sz) ch bi f n p1) hs.2.2.1 hs.2.2.2.1 o3 o4 hf256 hn2 (by
          rw [hfn]
          exact Nat.le_trans (Nat.mul_le_mul_right _ (Nat.min_le_right _ _)) o5) hp8 hR1 h39 hS rfl (fun D2 h2 hf2 => ?_)
        have hs2 : set9 D2 (bl, rt, ch, bi, mo) := hs.fr hf2 (fun k a b => by
          unfold fF9 fG9 fK9 fW9 f9
          simp
          omega)
        have h220 : D2.1 19 20 = 0 := (hf2.1 19 20 rfl).trans h20
        refine z_iinc dX9_read_102 (by exact rfl) ?_
        refine z_lload_n dX9_read_105 (by exact rfl) ?_
        refine z_aload_n dX9_read_106 (by exact rfl) ?_
        refine z_gfI zfx_X9_284 (by exact rfl) dX9_read_107 ?_
        refine z_eI (nI bl) hs2.1 ?_
        refine z_i2l dX9_read_110 ?_
        refine z_eJ (lN bl) (nI_l (by omega)) ?_
        refine z_ladd dX9_read_111 ?_
        refine z_eJ (lN ((f + 1) * bl)) (by rw [lN_add, Nat.succ_mul]) ?_
        refine z_lstore_n dX9_read_112 (Nat.le_of_ble_eq_true rfl) ?_
        refine z_at [(0, .ref 19), (1, .int (nI (f + 1))), (2, .long (lN ((f + 1) * bl)))] ⟨rfl, congrArg (fun x => some (Value.int x)) (nI_1 f), rfl, trivial⟩ ?_
        rcases h2 with ⟨U, q, e, hR2, hq8, g39, hS2⟩ | ⟨k, pl, hb, e⟩
        · refine z_goto (tgt := 51) dX9_read_113 (by decide) ?_
          exact ih (f + 1) D2 q _ (by omega) hq8 hs2 (by rw [← hfn]; exact g39) (by rw [← hfn]; exact hS2) hR2 h220 ((hf2.1 19 0 rfl).trans h00) (hF.tr (hf2.wk F0_F)) ((rbind_r e).symm.trans hK2)
        refine z_goto (tgt := 51) dX9_read_113 (by decide) ?_
        refine z_lload_n dX9_read_51 (by exact rfl) ?_
        refine z_aload_n dX9_read_52 (by exact rfl) ?_
        refine z_gfL zfx_X9_298 (by exact rfl) dX9_read_53 ?_
        refine z_ge (tgt := 116) dX9_read_56 dX9_read_57 (by decide) (fun c56 => ?_) (fun c56 => ?_)
        · exact z_at [(0, .ref 19)] ⟨rfl, trivial⟩ (bad D2 k pl hb (hK2.symm.trans (rbind_l e)) h220 (hF.tr (hf2.wk F0_F)))
        · refine z_aload_n dX9_read_60 (by exact rfl) ?_
          refine z_gfI zfx_X9_264 (by exact rfl) dX9_read_61 ?_
          refine z_if_ne (tgt := 116) dX9_read_64 (by decide) (fun _ => ?_) (fun q9 => absurd q9 (hb.z))
          exact z_at [(0, .ref 19)] ⟨rfl, trivial⟩ (bad D2 k pl hb (hK2.symm.trans (rbind_l e)) h220 (hF.tr (hf2.wk F0_F)))
      refine z_lload_n dX9_read_51 (by exact rfl) ?_
      refine z_aload_n dX9_read_52 (by exact rfl) ?_
      refine z_gfL zfx_X9_298 (by exact rfl) dX9_read_53 ?_
      refine z_eJ (lN mo) hs.2.2.2.2 ?_
      refine z_ge (tgt := 116) dX9_read_56 dX9_read_57 (by decide) (fun q9 => absurd q9 ((fun q => absurd ((pk_lLE (a := mo) (b := f * bl) (by omega) (by omega)).mp q) (by omega)))) (fun _ => ?_)
      refine z_aload_n dX9_read_60 (by exact rfl) ?_
      refine z_gfI zfx_X9_264 (by exact rfl) dX9_read_61 ?_
      refine z_if_ne (tgt := 116) dX9_read_64 (by decide) (fun q9 => absurd (hR1.2.2.2.2.1) q9) (fun _ => ?_)
      refine z_aload_n dX9_read_67 (by exact rfl) ?_
      refine z_iload_n dX9_read_68 (by exact rfl) ?_
      refine z_aload_n dX9_read_69 (by exact rfl) ?_
      refine z_gfL zfx_X9_298 (by exact rfl) dX9_read_70 ?_
      refine z_eJ (lN mo) hs.2.2.2.2 ?_
      refine z_lload_n dX9_read_73 (by exact rfl) ?_
      refine z_lsub dX9_read_74 ?_
      refine z_eJ (lN (mo - f * bl)) (lN_sub (by omega)) ?_
      refine z_aload_n dX9_read_75 (by exact rfl) ?_
      refine z_gfI zfx_X9_284 (by exact rfl) dX9_read_76 ?_
      refine z_eI (nI bl) hs.1 ?_
      refine z_i2l dX9_read_79 ?_
      refine z_eJ (lN bl) (nI_l (by omega)) ?_
      refine z_ge (tgt := 93) dX9_read_80 dX9_read_81 (by decide) (fun c80 => ?_) (fun c80 => ?_)
      · have hnb : n = bl := by
          have := (pk_lLE (a := bl) (b := mo - f * bl) (by omega) (by omega)).mp c80
          omega
        refine z_aload_n dX9_read_93 (by exact rfl) ?_
        refine z_gfI zfx_X9_284 (by exact rfl) dX9_read_94 ?_
        refine z_eI (nI bl) hs.1 ?_
        refine z_i2l dX9_read_97 ?_
        refine z_eJ (lN bl) (nI_l (by omega)) ?_
        refine z_l2i dX9_read_98 ?_
        refine z_eI (nI n) (by rw [lN_i, hnb]) ?_
        exact tl
      · have hnb : n = mo - f * bl := by
          have : ¬ bl ≤ mo - f * bl := fun q => c80 ((pk_lLE (a := bl) (b := mo - f * bl) (by omega) (by omega)).mpr q)
          omega
        refine z_aload_n dX9_read_84 (by exact rfl) ?_
        refine z_gfL zfx_X9_298 (by exact rfl) dX9_read_85 ?_
        refine z_eJ (lN mo) hs.2.2.2.2 ?_
        refine z_lload_n dX9_read_88 (by exact rfl) ?_
        refine z_lsub dX9_read_89 ?_
        refine z_eJ (lN (mo - f * bl)) (lN_sub (by omega)) ?_
        refine z_goto (tgt := 98) dX9_read_90 (by decide) ?_
        refine z_l2i dX9_read_98 ?_
        refine z_eI (nI n) (by rw [lN_i, hnb]) ?_
        exact tl
  have hR0 : ∀ D1 : zD, D1.2 19 33 = lN (8 * sz) → D1.2 19 32 = lN 0 → D1.1 19 22 = 0 → D1.2 60 = D.2 60 → D1.1 19 23 = Int32.ofInt (-1) → rd9 D1 T sz 0 := fun D1 e1 e2 e3 e4 e5 => ⟨e1, hsz2, e2, Nat.zero_le _, e3, fun i hi => by rw [e4]; exact hT i hi, e5⟩
  refine z_aload_n dX9_read_0 (by exact rfl) ?_
  refine z_iconst dX9_read_1 ?_
  refine z_pfI zfx_X9_70 (by exact rfl) dX9_read_2 ?_
  refine z_aload_n dX9_read_5 (by exact rfl) ?_
  refine z_iconst dX9_read_6 ?_
  refine z_pfI zfx_X9_264 (by exact rfl) dX9_read_7 ?_
  refine z_aload_n dX9_read_10 (by exact rfl) ?_
  refine z_iconst dX9_read_11 ?_
  refine z_pfI zfx_X9_52 (by exact rfl) dX9_read_12 ?_
  refine z_aload_n dX9_read_15 (by exact rfl) ?_
  refine z_lconst dX9_read_16 ?_
  refine z_pfL zfx_X9_267 (by exact rfl) dX9_read_17 ?_
  refine z_aload_n dX9_read_20 (by exact rfl) ?_
  refine z_ldcL dX9_read_21 zclx_X9_73 ?_
  refine z_aload_n dX9_read_24 (by exact rfl) ?_
  refine z_gfI zfx_X9_259 (by exact rfl) dX9_read_25 ?_
  refine z_eI (nI sz) hsz ?_
  refine z_i2l dX9_read_28 ?_
  refine z_eJ (lN sz) (nI_l (by omega)) ?_
  refine z_lmul dX9_read_29 ?_
  refine z_eJ (lN (8 * sz)) (lN_mul 8 sz) ?_
  refine z_pfL zfx_X9_270 (by exact rfl) dX9_read_30 ?_
  refine z_aload_n dX9_read_33 (by exact rfl) ?_
  refine z_iconst dX9_read_34 ?_
  refine z_pfI zfx_X9_259 (by exact rfl) dX9_read_35 ?_
  refine z_aload_n dX9_read_38 (by exact rfl) ?_
  refine z_iconst dX9_read_39 ?_
  refine z_pfI zfx_X9_342 (by exact rfl) dX9_read_40 ?_
  refine z_aload_n dX9_read_43 (by exact rfl) ?_
  refine z_cV dX9_read_44 zk_X9_370 (by exact rfl) (by exact rfl) (by exact rfl) (Nat.le_of_ble_eq_true rfl) (Nat.le_of_ble_eq_true rfl) (Nat.le_refl _) ?_
  refine c_readSettings9 (sp := sOpen T (8 * sz) 0) (hR0 _ rfl rfl rfl rfl rfl) rfl (fun D1 h2 hf1 => ?_)
  have hF1 : zfr F0 D D1 := by
    refine zfr.tr ?_ (hf1.wk F0_S)
    rw [eF0]
    exact ((((((zfr.rf.uI _ rfl).uI _ rfl).uI _ rfl).uL _ rfl).uL _ rfl).uI _ rfl).uI _ rfl
  have g20 : D1.1 19 20 = 0 := hf1.1 19 20 rfl
  have g00 : D1.1 19 0 = 0 := hf1.1 19 0 rfl
  have g39 : D1.1 19 39 = nI 0 := hf1.1 19 39 rfl
  rcases h2 with ⟨st, q, e, ho, hs, hR1⟩ | ⟨k, pl, hb, e⟩
  · refine z_iconst dX9_read_47 ?_
    refine z_istore_n dX9_read_48 (Nat.le_of_ble_eq_true rfl) ?_
    refine z_lconst dX9_read_49 ?_
    refine z_lstore_n dX9_read_50 (Nat.le_of_ble_eq_true rfl) ?_
    exact z_at [(0, .ref 19), (1, .int (nI 0)), (2, .long (lN (0 * st.1)))] ⟨rfl, rfl, by rw [Nat.zero_mul]; rfl, trivial⟩ (lp st ho _ 0 D1 q (fun _ => 0) (Nat.zero_add _) (ra_open _ _ _ _ _ e) hs (by rw [Nat.zero_mul, Nat.zero_min, Nat.zero_mul]; exact g39) (fun j hj => by
      rw [Nat.zero_mul, Nat.zero_min, Nat.zero_mul] at hj
      omega) hR1 g20 g00 hF1 ((rbind_r e).symm.trans hK))
  refine z_iconst dX9_read_47 ?_
  refine z_istore_n dX9_read_48 (Nat.le_of_ble_eq_true rfl) ?_
  refine z_lconst dX9_read_49 ?_
  refine z_lstore_n dX9_read_50 (Nat.le_of_ble_eq_true rfl) ?_
  refine z_lload_n dX9_read_51 (by exact rfl) ?_
  refine z_aload_n dX9_read_52 (by exact rfl) ?_
  refine z_gfL zfx_X9_298 (by exact rfl) dX9_read_53 ?_
  refine z_ge (tgt := 116) dX9_read_56 dX9_read_57 (by decide) (fun c56 => ?_) (fun c56 => ?_)
  · exact z_at [(0, .ref 19)] ⟨rfl, trivial⟩ (bad D1 k pl hb (hK.symm.trans (rbind_l e)) g20 hF1)
  · refine z_aload_n dX9_read_60 (by exact rfl) ?_
    refine z_gfI zfx_X9_264 (by exact rfl) dX9_read_61 ?_
    refine z_if_ne (tgt := 116) dX9_read_64 (by decide) (fun _ => ?_) (fun q9 => absurd q9 (hb.z))
    exact z_at [(0, .ref 19)] ⟨rfl, trivial⟩ (bad D1 k pl hb (hK.symm.trans (rbind_l e)) g20 hF1)
