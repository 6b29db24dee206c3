/-! ===== make, of the reference ===== -/
def told9 (D : zD) (S : zRow) (ch bits block mo : Nat) (pr : zPr) (o F : Nat) : Prop := ∀ f, f < F → D.1 59 f = nI (asgW S ch bits pr o (f * block) (min block (mo - f * block))) ∧ ∀ c, c < ch → wyF9 D S ch bits pr o (f * block) (min block (mo - f * block)) (f * ch + c) (rowOfN (asgW S ch bits pr o (f * block) (min block (mo - f * block))) c)
def fMk9 (a k : Nat) : Bool := fWF a k || (a == 19 && (k == 0 || (k == 10 || (k == 13 || k == 14))))
theorem fMk9_f (a k : Nat) (h : fMk9 a k = false) : fWF a k = false := or_l h
theorem fMk9_m (a k : Nat) (h : fMk9 a k = false) : fMad a k = false := fWF_m a k (or_l h)
theorem fMk9_lo (k : Nat) (h : k < 7) (h0 : ¬ k = 0) : fMk9 19 k = false := by
  unfold fMk9
  rw [fWF_lo k h h0]
  simp
  omega
theorem c_make9 {d m ch bits block rate o s0 : Nat} {cs : Nat → Int} {D : zD} {Q : zQ} {S : zRow} (hs : set9m D S ch bits block o s0 cs m) (h8 : D.1 19 8 = nI m) (h4 : D.1 19 4 = nI rate) (hc : 1 ≤ ch ∧ ch ≤ 8) (hb : 4 ≤ bits ∧ bits ≤ 24) (hbl : 16 ≤ block ∧ block ≤ 256) (hrt : 1 ≤ rate ∧ rate ≤ 655350) (hm2 : m ≤ 4096) (hsh : s0 ≤ 14) (ho : o ≤ 8)
    (hq : ∀ D' mo F, m = mo * ch → F = (mo + block - 1) / block → madW D' (wmade S ch bits block rate mo (s0, cs) o) → D'.1 19 0 = 0 → D'.1 19 10 = nI ((wmade S ch bits block rate mo (s0, cs) o).1 / 8) → D'.1 19 14 = nI F → D'.1 19 13 = nI ch → told9 D' S ch bits block mo (s0, cs) o F → zfr fMk9 D D' → Q (.inl (some (.int (nI ((wmade S ch bits block rate mo (s0, cs) o).1 / 8))))) 0 D') (hx : ¬ m % ch = 0 → Q (.inl (some (.int 0))) 0 (zuI D 19 0 1)) :
    ZM yX9_make iX9_make (d + 9) [.ref 19] D Q := by
  refine z_method (by decide) rfl (Nat.le_of_ble_eq_true rfl) ?_
  refine z_at [(0, .ref 19)] ⟨rfl, trivial⟩ ?_
  have hch0 : ¬ nI ch = 0 := nI_ne0 hc.1 (by omega)
  have hml : m % ch < ch := Nat.mod_lt _ hc.1
  by_cases hmod : m % ch = 0
  rotate_left
  · refine z_aload_n dX9_make_0 (by exact rfl) ?_
    refine z_aload_n dX9_make_1 (by exact rfl) ?_
    refine z_gfI zfx_X9_89 (by exact rfl) dX9_make_2 ?_
    refine z_eI (nI m) h8 ?_
    refine z_aload_n dX9_make_5 (by exact rfl) ?_
    refine z_gfI zfx_X9_7 (by exact rfl) dX9_make_6 ?_
    refine z_eI (nI ch) hs.1 ?_
    refine z_irem dX9_make_9 hch0 ?_
    refine z_eI (nI (m % ch)) (pk_rem (by omega) hc.1 (by omega)) ?_
    refine z_if_ne (tgt := 17) dX9_make_10 (by decide) (fun _ => ?_) (fun q9 => absurd q9 ((nI_ne0 (by omega) (by omega))))
    refine z_iconst dX9_make_17 ?_
    refine z_pfI zfx_X9_70 (by exact rfl) dX9_make_18 ?_
    refine z_aload_n dX9_make_21 (by exact rfl) ?_
    refine z_gfI zfx_X9_70 (by exact rfl) dX9_make_22 ?_
    refine z_eI 1 rfl ?_
    refine z_if_le (tgt := 30) dX9_make_25 (by decide) (fun q9 => absurd q9 ((by decide))) (fun _ => ?_)
    refine z_iconst dX9_make_28 ?_
    exact z_iret (st := []) rfl dX9_make_29 (hx hmod)
  obtain ⟨mo, emo⟩ : ∃ mo, mo = m / ch := ⟨_, rfl⟩
  have em : m = mo * ch := by
    have := Nat.div_add_mod m ch
    rw [hmod, Nat.add_zero, Nat.mul_comm] at this
    rw [emo]
    exact this.symm
  have hmo : mo ≤ 4096 := Nat.le_trans (Nat.le_mul_of_pos_right _ hc.1) (by omega)
  obtain ⟨F, eF⟩ : ∃ F, F = (mo + block - 1) / block := ⟨_, rfl⟩
  have hq := fun D' => hq D' mo F em eF
  have ewm : wmade S ch bits block rate mo (s0, cs) o = wall S ch bits block rate mo (s0, cs) o 0 F (wbegin ch bits block rate mo (0, fun _ => false)) := by
    rw [eF]
    rfl
  rw [ewm] at hq
  have hF256 : F ≤ 256 := by
    rcases Nat.lt_or_ge 256 F with h | h
    · have := (nf_lt (f := 256) (m := mo) (bl := block) (by omega)).mp (by omega)
      have : 256 * 16 ≤ 256 * block := Nat.mul_le_mul_left _ hbl.1
      omega
    · exact h
  have kp : ∀ {D1 : zD}, zfr fMk9 D D1 → set9m D1 S ch bits block o s0 cs m ∧ D1.1 19 4 = nI rate := fun hF => ⟨hs.fr hF fMk9_lo (fun _ => rfl) (fun _ => rfl), (hF.1 19 4 rfl).trans h4⟩
  have mk : ∀ {X Y : zD}, zfr fMad X Y → zfr fMk9 X Y := fun h => h.wk fMk9_m
  have lp : ∀ (j f : Nat) (D2 : zD) (sf : WS), f + j = F → madW D2 sf → sf.1 % 8 = 0 → sf.1 ≤ posB ch block mo f → wall S ch bits block rate mo (s0, cs) o f j sf = wall S ch bits block rate mo (s0, cs) o 0 F (wbegin ch bits block rate mo (0, fun _ => false)) → D2.1 19 0 = 0 → D2.1 19 14 = nI f → D2.1 19 13 = nI ch → told9 D2 S ch bits block mo (s0, cs) o f → zfr fMk9 D D2 → Z (zmk iX9_make (d + 9)) 0 177 (zl [(0, .ref 19), (1, .int (nI mo)), (2, .int (nI (f * block)))]) [] D2 Q := by
    intro j
    induction j with
    | zero =>
      intro f D2 sf hj hR2 h82 hpos hw k0 k1 k2 ht hF2
      have hj : f = F := by omega
      subst hj
      have hge : ¬ f * block < mo := fun q => by
        have := (nf_lt (f := f) (m := mo) (bl := block) (by omega)).mpr q
        omega
      have hfb : f * block < 2 ^ 21 := by
        have : f * block ≤ 256 * 256 := Nat.mul_le_mul hF256 hbl.2
        omega
      have hw : sf = _ := hw
      rw [← hw] at hq
      have hl := hR2.le
      refine z_iload_n dX9_make_177 (by exact rfl) ?_
      refine z_iload_n dX9_make_178 (by exact rfl) ?_
      refine z_icmp_ge (tgt := 230) dX9_make_179 (by decide) (fun _ => ?_) (fun q9 => absurd ((nI_le (by omega) (by omega))) q9)
      refine z_aload_n dX9_make_230 (by exact rfl) ?_
      refine z_aload_n dX9_make_231 (by exact rfl) ?_
      refine z_gfL zfx_X9_192 (by exact rfl) dX9_make_232 ?_
      refine z_eJ (lN sf.1) hR2.bit ?_
      refine z_ldcL dX9_make_235 zclx_X9_73 ?_
      refine z_ldiv dX9_make_238 q_8 ?_
      refine z_eJ (lN (sf.1 / 8)) (q_ldiv8 (by omega)) ?_
      refine z_l2i dX9_make_239 ?_
      refine z_eI (nI (sf.1 / 8)) (lN_i _) ?_
      refine z_pfI zfx_X9_256 (by exact rfl) dX9_make_240 ?_
      refine z_aload_n dX9_make_243 (by exact rfl) ?_
      refine z_gfI zfx_X9_256 (by exact rfl) dX9_make_244 ?_
      refine z_eI (nI (sf.1 / 8)) rfl ?_
      exact z_iret (st := []) rfl dX9_make_247 (hq _ (hR2.fr (F := fun a k => a == 19 && k == 10) (zfr.rf.uI _ rfl) rfl (fun _ => rfl)) k0 rfl k1 k2 (fun f' hf' => ⟨(ht f' hf').1, (ht f' hf').2⟩) (hF2.uI _ rfl))
    | succ j ih =>
      intro f D2 sf hj hR2 h82 hpos hw k0 k1 k2 ht hF2
      have hlt : f * block < mo := (nf_lt (by omega)).mp (by omega)
      obtain ⟨p1, p2, p3, p4, p5, p6, p7, p8, p9⟩ := posB_s (S := S) (pr := (s0, cs)) (o := o) hc hb hbl (by omega) (fun j hj => (hs.2.2.2.2 j (by omega)).2) hlt h82 hpos
      obtain ⟨n, en⟩ : ∃ n, n = min block (mo - f * block) := ⟨_, rfl⟩
      rw [← en] at p3 p4 p5 p6 p7 p9
      have hw2 : wall S ch bits block rate mo (s0, cs) o (f + 1) j (wframe S ch bits (s0, cs) o f (f * block) n sf) = wall S ch bits block rate mo (s0, cs) o 0 F (wbegin ch bits block rate mo (0, fun _ => false)) := by
        rw [en]
        exact hw
      have tl : Z (zmk iX9_make (d + 9)) 0 207 (zl [(0, .ref 19), (1, .int (nI mo)), (2, .int (nI (f * block)))]) [.int (nI n), .int (nI f), .ref 19] D2 Q := by
        refine z_cV dX9_make_207 zk_X9_252 (by exact rfl) (by exact rfl) (by exact rfl) (Nat.le_of_ble_eq_true rfl) (Nat.le_of_ble_eq_true rfl) (Nat.le_refl _) ?_
        refine c_writeFrame (S := S) (n := n) (st := sf) (kp hF2).1 hc hb p3 p1 p2 (by omega) hm2 hsh ho hR2 h82 (by omega) (fun D3 hR3 g8 gw g9 gx hf3 => ?_)
        have hF3 := hF2.tr (hf3.wk fMk9_f)
        refine z_aload_n dX9_make_210 (by exact rfl) ?_
        refine z_dup dX9_make_211 (by exact rfl) ?_
        refine z_gfI zfx_X9_246 (by exact rfl) dX9_make_212 ?_
        refine z_eI (nI f) ((hf3.1 19 14 rfl).trans k1) ?_
        refine z_iconst dX9_make_215 ?_
        refine z_iadd dX9_make_216 ?_
        refine z_eI (nI (f + 1)) (nI_1 f) ?_
        refine z_pfI zfx_X9_246 (by exact rfl) dX9_make_217 ?_
        refine z_iload_n dX9_make_220 (by exact rfl) ?_
        refine z_aload_n dX9_make_221 (by exact rfl) ?_
        refine z_gfI zfx_X9_16 (by exact rfl) dX9_make_222 ?_
        refine z_eI (nI block) (kp hF3).1.2.2.1 ?_
        refine z_iadd dX9_make_225 ?_
        refine z_eI (nI ((f + 1) * block)) (by rw [nI_add, Nat.succ_mul]) ?_
        refine z_istore_n dX9_make_226 (Nat.le_of_ble_eq_true rfl) ?_
        refine z_goto (tgt := 177) dX9_make_227 (by decide) ?_
        exact z_at [(0, .ref 19), (1, .int (nI mo)), (2, .int (nI ((f + 1) * block)))] ⟨rfl, rfl, rfl, trivial⟩ (ih (f + 1) _ _ (by omega) (hR3.fr (F := fun a k => a == 19 && k == 14) (zfr.rf.uI _ rfl) rfl (fun _ => rfl)) p5 p7 hw2 ((hf3.1 19 0 rfl).trans k0) rfl ((hf3.1 19 13 rfl).trans k2) (fun f' hf' => by
          obtain e | e : f' = f ∨ f' < f := by omega
          · subst e
            rw [← en]
            exact ⟨g8, gw⟩
          · obtain ⟨t1, t2⟩ := ht f' e
            refine ⟨(gx f' e).trans t1, fun c hc' => (t2 c hc').fr (fun a h1 h2 => ?_)⟩
            have h7 : (f' + 1) * ch ≤ f * ch := Nat.mul_le_mul_right _ e
            rw [Nat.succ_mul] at h7
            rw [zuI_ne (by omega)]
            exact g9 a h1 h2 _ (by omega)) (hF3.uI _ rfl))
      refine z_iload_n dX9_make_177 (by exact rfl) ?_
      refine z_iload_n dX9_make_178 (by exact rfl) ?_
      refine z_icmp_ge (tgt := 230) dX9_make_179 (by decide) (fun q9 => absurd q9 ((nI_ge hlt (by omega)))) (fun _ => ?_)
      refine z_aload_n dX9_make_182 (by exact rfl) ?_
      refine z_aload_n dX9_make_183 (by exact rfl) ?_
      refine z_gfI zfx_X9_246 (by exact rfl) dX9_make_184 ?_
      refine z_eI (nI f) k1 ?_
      refine z_iload_n dX9_make_187 (by exact rfl) ?_
      refine z_iload_n dX9_make_188 (by exact rfl) ?_
      refine z_isub dX9_make_189 ?_
      refine z_eI (nI (mo - f * block)) (pk_sub (by omega)) ?_
      refine z_aload_n dX9_make_190 (by exact rfl) ?_
      refine z_gfI zfx_X9_16 (by exact rfl) dX9_make_191 ?_
      refine z_eI (nI block) (kp hF2).1.2.2.1 ?_
      refine z_icmp_ge (tgt := 203) dX9_make_194 (by decide) (fun c194 => ?_) (fun c194 => ?_)
      · refine z_aload_n dX9_make_203 (by exact rfl) ?_
        refine z_gfI zfx_X9_16 (by exact rfl) dX9_make_204 ?_
        refine z_eI (nI n) (by
          have hle : block ≤ mo - f * block := by
            rcases Nat.lt_or_ge (mo - f * block) block with h | h
            · exact absurd c194 (nI_ge h (by omega))
            · exact h
          rw [(kp hF2).1.2.2.1, en]
          congr 1
          omega) ?_
        exact tl
      · refine z_iload_n dX9_make_197 (by exact rfl) ?_
        refine z_iload_n dX9_make_198 (by exact rfl) ?_
        refine z_isub dX9_make_199 ?_
        refine z_eI (nI n) (by
          have hle : ¬ block ≤ mo - f * block := fun q => c194 (nI_le q (by omega))
          rw [show nI mo - nI (f * block) = nI (mo - f * block) from pk_sub (by omega), en]
          congr 1
          omega) ?_
        refine z_goto (tgt := 207) dX9_make_200 (by decide) ?_
        exact tl
  refine z_aload_n dX9_make_0 (by exact rfl) ?_
  refine z_aload_n dX9_make_1 (by exact rfl) ?_
  refine z_gfI zfx_X9_89 (by exact rfl) dX9_make_2 ?_
  refine z_eI (nI m) h8 ?_
  refine z_aload_n dX9_make_5 (by exact rfl) ?_
  refine z_gfI zfx_X9_7 (by exact rfl) dX9_make_6 ?_
  refine z_eI (nI ch) hs.1 ?_
  refine z_irem dX9_make_9 hch0 ?_
  refine z_eI (nI (m % ch)) (pk_rem (by omega) hc.1 (by omega)) ?_
  refine z_if_ne (tgt := 17) dX9_make_10 (by decide) (fun q9 => absurd ((by rw [hmod]; rfl)) q9) (fun _ => ?_)
  refine z_iconst dX9_make_13 ?_
  refine z_goto (tgt := 18) dX9_make_14 (by decide) ?_
  refine z_pfI zfx_X9_70 (by exact rfl) dX9_make_18 ?_
  refine z_aload_n dX9_make_21 (by exact rfl) ?_
  refine z_gfI zfx_X9_70 (by exact rfl) dX9_make_22 ?_
  refine z_eI 0 rfl ?_
  refine z_if_le (tgt := 30) dX9_make_25 (by decide) (fun _ => ?_) (fun q9 => absurd ((by decide)) q9)
  refine z_aload_n dX9_make_30 (by exact rfl) ?_
  refine z_lconst dX9_make_31 ?_
  refine z_pfL zfx_X9_192 (by exact rfl) dX9_make_32 ?_
  have hR0 : madW (zuL (zuI D 19 0 0) 19 12 (lN 0)) (0, fun _ => false) := ⟨⟨rfl, by show 0 ≤ 160000; omega, fun i hi => absurd hi (Nat.not_lt_zero _), fun i _ hi => absurd hi (by
    show ¬ i < 64 * ((0 + 63) / 64)
    omega)⟩, fun i _ => rfl⟩
  have hF0 : zfr fMk9 D (zuL (zuI D 19 0 0) 19 12 (lN 0)) := (zfr.rf.uI _ rfl).uL _ rfl
  refine z_aload_n dX9_make_35 (by exact rfl) ?_
  refine z_gfI zfx_X9_89 (by exact rfl) dX9_make_36 ?_
  refine z_eI (nI m) h8 ?_
  refine z_aload_n dX9_make_39 (by exact rfl) ?_
  refine z_gfI zfx_X9_7 (by exact rfl) dX9_make_40 ?_
  refine z_eI (nI ch) hs.1 ?_
  refine z_idiv dX9_make_43 hch0 ?_
  refine z_eI (nI mo) (by rw [emo]; exact pk_div (by omega) hc.1 (by omega)) ?_
  refine z_istore_n dX9_make_44 (Nat.le_of_ble_eq_true rfl) ?_
  refine z_aload_n dX9_make_45 (by exact rfl) ?_
  refine z_bipush dX9_make_46 ?_
  refine z_ldcL dX9_make_48 zclx_X9_242 ?_
  refine z_cV dX9_make_51 zk_X9_217 (by exact rfl) (by exact rfl) (by exact rfl) (Nat.le_of_ble_eq_true rfl) (Nat.le_of_ble_eq_true rfl) (Nat.le_refl _) ?_
  refine c_writeW (w := 32) (x := 1716281667) (by omega) (by show 0 + 32 ≤ 160000; omega) hR0 (fun D1 hR1 hf1 => ?_)
  refine z_aload_n dX9_make_54 (by exact rfl) ?_
  refine z_iconst dX9_make_55 ?_
  refine z_lconst dX9_make_56 ?_
  refine z_cV dX9_make_57 zk_X9_217 (by exact rfl) (by exact rfl) (by exact rfl) (Nat.le_of_ble_eq_true rfl) (Nat.le_of_ble_eq_true rfl) (Nat.le_refl _) ?_
  refine c_writeW (w := 1) (x := 1) (by omega) (by show 0 + 32 + 1 ≤ 160000; omega) hR1 (fun D2 hR2 hf2 => ?_)
  refine z_aload_n dX9_make_60 (by exact rfl) ?_
  refine z_bipush dX9_make_61 ?_
  refine z_lconst dX9_make_63 ?_
  refine z_cV dX9_make_64 zk_X9_217 (by exact rfl) (by exact rfl) (by exact rfl) (Nat.le_of_ble_eq_true rfl) (Nat.le_of_ble_eq_true rfl) (Nat.le_refl _) ?_
  refine c_writeW (w := 7) (x := 0) (by omega) (by show 0 + 32 + 1 + 7 ≤ 160000; omega) hR2 (fun D3 hR3 hf3 => ?_)
  refine z_aload_n dX9_make_67 (by exact rfl) ?_
  refine z_bipush dX9_make_68 ?_
  refine z_ldcL dX9_make_70 zclx_X9_244 ?_
  refine z_cV dX9_make_73 zk_X9_217 (by exact rfl) (by exact rfl) (by exact rfl) (Nat.le_of_ble_eq_true rfl) (Nat.le_of_ble_eq_true rfl) (Nat.le_refl _) ?_
  refine c_writeW (w := 24) (x := 34) (by omega) (by show 0 + 32 + 1 + 7 + 24 ≤ 160000; omega) hR3 (fun D4 hR4 hf4 => ?_)
  have hF4 := hF0.tr (mk (((hf1.tr hf2).tr hf3).tr hf4))
  refine z_aload_n dX9_make_76 (by exact rfl) ?_
  refine z_bipush dX9_make_77 ?_
  refine z_aload_n dX9_make_79 (by exact rfl) ?_
  refine z_gfI zfx_X9_16 (by exact rfl) dX9_make_80 ?_
  refine z_eI (nI block) (kp hF4).1.2.2.1 ?_
  refine z_i2l dX9_make_83 ?_
  refine z_eJ (lI ((block : Nat) : Int)) (nI_lI (by omega)) ?_
  refine z_cV dX9_make_84 zk_X9_217 (by exact rfl) (by exact rfl) (by exact rfl) (Nat.le_of_ble_eq_true rfl) (Nat.le_of_ble_eq_true rfl) (Nat.le_refl _) ?_
  refine c_writeW (w := 16) (by omega) (by show 0 + 32 + 1 + 7 + 24 + 16 ≤ 160000; omega) hR4 (fun D5 hR5 hf5 => ?_)
  have hF5 := hF4.tr (mk hf5)
  refine z_aload_n dX9_make_87 (by exact rfl) ?_
  refine z_bipush dX9_make_88 ?_
  refine z_aload_n dX9_make_90 (by exact rfl) ?_
  refine z_gfI zfx_X9_16 (by exact rfl) dX9_make_91 ?_
  refine z_eI (nI block) (kp hF5).1.2.2.1 ?_
  refine z_i2l dX9_make_94 ?_
  refine z_eJ (lI ((block : Nat) : Int)) (nI_lI (by omega)) ?_
  refine z_cV dX9_make_95 zk_X9_217 (by exact rfl) (by exact rfl) (by exact rfl) (Nat.le_of_ble_eq_true rfl) (Nat.le_of_ble_eq_true rfl) (Nat.le_refl _) ?_
  refine c_writeW (w := 16) (by omega) (by show 0 + 32 + 1 + 7 + 24 + 16 + 16 ≤ 160000; omega) hR5 (fun D6 hR6 hf6 => ?_)
  refine z_aload_n dX9_make_98 (by exact rfl) ?_
  refine z_bipush dX9_make_99 ?_
  refine z_lconst dX9_make_101 ?_
  refine z_cV dX9_make_102 zk_X9_217 (by exact rfl) (by exact rfl) (by exact rfl) (Nat.le_of_ble_eq_true rfl) (Nat.le_of_ble_eq_true rfl) (Nat.le_refl _) ?_
  refine c_writeW (w := 48) (x := 0) (by omega) (by show 0 + 32 + 1 + 7 + 24 + 16 + 16 + 48 ≤ 160000; omega) hR6 (fun D7 hR7 hf7 => ?_)
  rw [wp_z 48 hR6.2] at hR7
  have hF7 := hF5.tr (mk (hf6.tr hf7))
  refine z_aload_n dX9_make_105 (by exact rfl) ?_
  refine z_bipush dX9_make_106 ?_
  refine z_aload_n dX9_make_108 (by exact rfl) ?_
  refine z_gfI zfx_X9_20 (by exact rfl) dX9_make_109 ?_
  refine z_eI (nI rate) (kp hF7).2 ?_
  refine z_i2l dX9_make_112 ?_
  refine z_eJ (lI ((rate : Nat) : Int)) (nI_lI (by omega)) ?_
  refine z_cV dX9_make_113 zk_X9_217 (by exact rfl) (by exact rfl) (by exact rfl) (Nat.le_of_ble_eq_true rfl) (Nat.le_of_ble_eq_true rfl) (Nat.le_refl _) ?_
  refine c_writeW (w := 20) (by omega) (by show 0 + 32 + 1 + 7 + 24 + 16 + 16 + 48 + 20 ≤ 160000; omega) hR7 (fun D8 hR8 hf8 => ?_)
  have hF8 := hF7.tr (mk hf8)
  refine z_aload_n dX9_make_116 (by exact rfl) ?_
  refine z_iconst dX9_make_117 ?_
  refine z_aload_n dX9_make_118 (by exact rfl) ?_
  refine z_gfI zfx_X9_7 (by exact rfl) dX9_make_119 ?_
  refine z_eI (nI ch) (kp hF8).1.1 ?_
  refine z_iconst dX9_make_122 ?_
  refine z_isub dX9_make_123 ?_
  refine z_eI (nI (ch - 1)) (pk_sub (a := ch) (b := 1) hc.1) ?_
  refine z_i2l dX9_make_124 ?_
  refine z_eJ (lI ((ch - 1 : Nat) : Int)) (nI_lI (by omega)) ?_
  refine z_cV dX9_make_125 zk_X9_217 (by exact rfl) (by exact rfl) (by exact rfl) (Nat.le_of_ble_eq_true rfl) (Nat.le_of_ble_eq_true rfl) (Nat.le_refl _) ?_
  refine c_writeW (w := 3) (by omega) (by show 0 + 32 + 1 + 7 + 24 + 16 + 16 + 48 + 20 + 3 ≤ 160000; omega) hR8 (fun D9 hR9 hf9 => ?_)
  have hF9 := hF8.tr (mk hf9)
  refine z_aload_n dX9_make_128 (by exact rfl) ?_
  refine z_iconst dX9_make_129 ?_
  refine z_aload_n dX9_make_130 (by exact rfl) ?_
  refine z_gfI zfx_X9_13 (by exact rfl) dX9_make_131 ?_
  refine z_eI (nI bits) (kp hF9).1.2.1 ?_
  refine z_iconst dX9_make_134 ?_
  refine z_isub dX9_make_135 ?_
  refine z_eI (nI (bits - 1)) (pk_sub (a := bits) (b := 1) (by omega)) ?_
  refine z_i2l dX9_make_136 ?_
  refine z_eJ (lI ((bits - 1 : Nat) : Int)) (nI_lI (by omega)) ?_
  refine z_cV dX9_make_137 zk_X9_217 (by exact rfl) (by exact rfl) (by exact rfl) (Nat.le_of_ble_eq_true rfl) (Nat.le_of_ble_eq_true rfl) (Nat.le_refl _) ?_
  refine c_writeW (w := 5) (by omega) (by show 0 + 32 + 1 + 7 + 24 + 16 + 16 + 48 + 20 + 3 + 5 ≤ 160000; omega) hR9 (fun D10 hR10 hf10 => ?_)
  refine z_aload_n dX9_make_140 (by exact rfl) ?_
  refine z_bipush dX9_make_141 ?_
  refine z_iload_n dX9_make_143 (by exact rfl) ?_
  refine z_i2l dX9_make_144 ?_
  refine z_eJ (lI ((mo : Nat) : Int)) (nI_lI (by omega)) ?_
  refine z_cV dX9_make_145 zk_X9_217 (by exact rfl) (by exact rfl) (by exact rfl) (Nat.le_of_ble_eq_true rfl) (Nat.le_of_ble_eq_true rfl) (Nat.le_refl _) ?_
  refine c_writeW (w := 36) (by omega) (by show 0 + 32 + 1 + 7 + 24 + 16 + 16 + 48 + 20 + 3 + 5 + 36 ≤ 160000; omega) hR10 (fun D11 hR11 hf11 => ?_)
  refine z_aload_n dX9_make_148 (by exact rfl) ?_
  refine z_bipush dX9_make_149 ?_
  refine z_lconst dX9_make_151 ?_
  refine z_cV dX9_make_152 zk_X9_217 (by exact rfl) (by exact rfl) (by exact rfl) (Nat.le_of_ble_eq_true rfl) (Nat.le_of_ble_eq_true rfl) (Nat.le_refl _) ?_
  refine c_writeW (w := 64) (x := 0) (by omega) (by show 0 + 32 + 1 + 7 + 24 + 16 + 16 + 48 + 20 + 3 + 5 + 36 + 64 ≤ 160000; omega) hR11 (fun D12 hR12 hf12 => ?_)
  refine z_aload_n dX9_make_155 (by exact rfl) ?_
  refine z_bipush dX9_make_156 ?_
  refine z_lconst dX9_make_158 ?_
  refine z_cV dX9_make_159 zk_X9_217 (by exact rfl) (by exact rfl) (by exact rfl) (Nat.le_of_ble_eq_true rfl) (Nat.le_of_ble_eq_true rfl) (Nat.le_refl _) ?_
  refine c_writeW (w := 64) (x := 0) (by omega) (by show 0 + 32 + 1 + 7 + 24 + 16 + 16 + 48 + 20 + 3 + 5 + 36 + 64 + 64 ≤ 160000; omega) hR12 (fun D13 hR13 hf13 => ?_)
  rw [wp_z 64 hR12.2, wp_z 64 hR11.2, wz_wz] at hR13
  have hff := (((((((((((hf1.tr hf2).tr hf3).tr hf4).tr hf5).tr hf6).tr hf7).tr hf8).tr hf9).tr hf10).tr hf11).tr hf12).tr hf13
  have hF13 := hF0.tr (mk hff)
  refine z_aload_n dX9_make_162 (by exact rfl) ?_
  refine z_iconst dX9_make_163 ?_
  refine z_pfI zfx_X9_246 (by exact rfl) dX9_make_164 ?_
  have hF14 := hF13.uI (a := 19) (k := 14) (Int32.ofInt 0) rfl
  refine z_aload_n dX9_make_167 (by exact rfl) ?_
  refine z_aload_n dX9_make_168 (by exact rfl) ?_
  refine z_gfI zfx_X9_7 (by exact rfl) dX9_make_169 ?_
  refine z_eI (nI ch) (kp hF14).1.1 ?_
  refine z_pfI zfx_X9_249 (by exact rfl) dX9_make_172 ?_
  refine z_iconst dX9_make_175 ?_
  refine z_istore_n dX9_make_176 (Nat.le_of_ble_eq_true rfl) ?_
  exact z_at [(0, .ref 19), (1, .int (nI mo)), (2, .int (nI (0 * block)))] ⟨rfl, rfl, by rw [Nat.zero_mul]; rfl, trivial⟩ (lp F 0 _ (wbegin ch bits block rate mo (0, fun _ => false)) (by omega) (hR13.fr (F := fun a k => a == 19 && (k == 14 || k == 13)) ((zfr.rf.uI _ rfl).uI _ rfl) rfl (fun _ => rfl)) (by
    rw [(wbegin_len ch bits block rate mo _).1]
    rfl) (by
    rw [(wbegin_len ch bits block rate mo _).1]
    unfold posB
    show 0 + 336 ≤ _
    omega) rfl (hff.1 19 0 rfl) rfl rfl (fun f hf => by omega) (hF14.uI _ rfl))
