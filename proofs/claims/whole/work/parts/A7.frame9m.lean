/-! ===== the reference's writing: writeFrame ===== -/
def wy9 (D : zD) (k t w : Nat) (q : Int) (z : Nat) : Prop := D.1 55 k = nI t ∧ D.1 56 k = nI w ∧ D.1 57 k = iI q ∧ D.1 58 k = nI z
def wyF9 (D : zD) (S : zRow) (ch bits : Nat) (pr : zPr) (o first n k w : Nat) : Prop := wy9 D k (wayA n (bW bits w) (rwW S ch first w) pr o).1 (wst n (rwW S ch first w)) (wayA n (bW bits w) (rwW S ch first w) pr o).2.1 (fsz S ch bits pr o first n w)
theorem wy9.fr {D D' : zD} {k t w z : Nat} {q : Int} (h : wy9 D k t w q z) (hF : ∀ a, 55 ≤ a → a ≤ 58 → D'.1 a k = D.1 a k) : wy9 D' k t w q z := ⟨(hF 55 (by omega) (by omega)).trans h.1, (hF 56 (by omega) (by omega)).trans h.2.1, (hF 57 (by omega) (by omega)).trans h.2.2.1, (hF 58 (by omega) (by omega)).trans h.2.2.2⟩
def fWF (a k : Nat) : Bool := fMd a k || (fMad a k || (decide (55 ≤ a) && decide (a ≤ 59)))
theorem fWF_d (a k : Nat) (h : fWF a k = false) : fMd a k = false := or_l h
theorem fWF_m (a k : Nat) (h : fWF a k = false) : fMad a k = false := or_l (or_r h)
theorem fWF_r (a k : Nat) (h : fWF a k = false) : fWR a k = false := by
  have h1 := or_l h
  have h2 := fWF_m a k h
  unfold fWR
  rw [h2]
  have := or_l (or_r (or_l h1))
  exact this
theorem fWF_lo (k : Nat) (h : k < 7) (h0 : ¬ k = 0) : fWF 19 k = false := by
  unfold fWF
  rw [fMd_lo k h h0]
  unfold fMad
  simp
  omega
theorem mad_crc {D : zD} {s : WS} {w from0 : Nat} (h : madW D s) (h8 : s.1 % 8 = 0) (hf : from0 ≤ s.1 / 8) : (crc w (crPoly w) (bt64 (D.2 54)) (8 * from0) (8 * (s.1 / 8 - from0))).toInt64 = lI (crc w (crPoly w) s.2 (8 * from0) (s.1 - 8 * from0)).toInt := by
  rw [i32_l, show 8 * (s.1 / 8 - from0) = s.1 - 8 * from0 by omega, crc_congr (T' := s.2) (fun i h1 h2 => h.1.2.2.1 i (by omega))]
theorem c_writeFrame {d f ch bits block o s0 n m : Nat} {cs : Nat → Int} {D : zD} {Q : zQ} {S : zRow} {st : WS} (hs : set9m D S ch bits block o s0 cs m) (hc : 1 ≤ ch ∧ ch ≤ 8) (hb : 4 ≤ bits ∧ bits ≤ 24) (hn : 1 ≤ n ∧ n ≤ 256) (hf2 : f < 256) (hfk : f * ch + ch ≤ 264) (hfn : (f * block + n) * ch ≤ m) (hm : m ≤ 4096) (hsh : s0 ≤ 14) (ho : o ≤ 8) (hR : madW D st) (h8 : st.1 % 8 = 0) (hbd : (wframe S ch bits (s0, cs) o f (f * block) n st).1 ≤ 160000)
    (hq : ∀ D', madW D' (wframe S ch bits (s0, cs) o f (f * block) n st) → D'.1 59 f = nI (asgW S ch bits (s0, cs) o (f * block) n) → (∀ c, c < ch → wyF9 D' S ch bits (s0, cs) o (f * block) n (f * ch + c) (rowOfN (asgW S ch bits (s0, cs) o (f * block) n) c)) → (∀ a, 55 ≤ a → a ≤ 58 → ∀ i, i < f * ch → D'.1 a i = D.1 a i) → (∀ i, i < f → D'.1 59 i = D.1 59 i) → zfr fWF D D' → Q (.inl none) 0 D') :
    ZM yX9_writeFrame iX9_writeFrame (d + 8) [.ref 19, .int (nI f), .int (nI n)] D Q := by
  refine z_method (by decide) rfl (Nat.le_of_ble_eq_true rfl) ?_
  refine z_at [(0, .ref 19), (1, .int (nI f)), (2, .int (nI n))] ⟨rfl, rfl, rfl, trivial⟩ ?_
  obtain ⟨pr, epr⟩ : ∃ pr : zPr, pr = (s0, cs) := ⟨_, rfl⟩
  rw [← epr] at hbd hq
  obtain ⟨first, efi⟩ : ∃ first, first = f * block := ⟨_, rfl⟩
  rw [← efi] at hbd hq
  obtain ⟨asg, easg⟩ : ∃ asg, asg = asgW S ch bits pr o first n := ⟨_, rfl⟩
  have hasg : okAsg asg ch := by
    rw [easg]
    exact asgW_ok hc
  have ha16 := hasg.lt
  obtain ⟨s1, e1⟩ : ∃ s1, s1 = whead asg f n st := ⟨_, rfl⟩
  obtain ⟨s2, e2⟩ : ∃ s2, s2 = wsum 8 (st.1 / 8) s1 := ⟨_, rfl⟩
  obtain ⟨s3, e3⟩ : ∃ s3, s3 = wsubs S ch bits pr o first n asg 0 ch s2 := ⟨_, rfl⟩
  obtain ⟨s4, e4⟩ : ∃ s4, s4 = wfill s3 := ⟨_, rfl⟩
  obtain ⟨s5, e5⟩ : ∃ s5, s5 = wsum 16 (st.1 / 8) s4 := ⟨_, rfl⟩
  have ew : wframe S ch bits pr o f first n st = s5 := by
    rw [e5, e4, e3, e2, e1, easg]
    rfl
  rw [ew] at hbd hq
  rw [← easg] at hq
  have l5 : s4.1 + 16 = s5.1 := by rw [e5]; rfl
  have l4 : s3.1 ≤ s4.1 ∧ s4.1 = 8 * ((s3.1 + 7) / 8) := by
    rw [e4]
    exact ⟨wfill_ge _, rfl⟩
  have l3 : s2.1 ≤ s3.1 := by
    rw [e3]
    exact wsubs_ge _ _ _
  have l2 : s1.1 + 8 = s2.1 := by rw [e2]; rfl
  have l1 : s1.1 = st.1 + (40 + if f < 128 then 8 else 16) := by
    rw [e1]
    exact (whead_len asg f n st).1
  have l18 : s1.1 % 8 = 0 ∧ st.1 ≤ s1.1 := by
    rw [l1]
    split <;> omega
  have kp : ∀ {D1 : zD}, zfr fWF D D1 → set9m D1 S ch bits block o s0 cs m := fun hF => hs.fr hF fWF_lo (fun _ => rfl) (fun _ => rfl)
  -- the end: bits 0 up to a whole byte
  have pad : ∀ (j i : Nat) (D1 : zD), s3.1 + i + j = s4.1 → madW D1 (wz i s3) → D1.1 59 f = nI asg → (∀ c, c < ch → wyF9 D1 S ch bits pr o first n (f * ch + c) (rowOfN asg c)) → (∀ a, 55 ≤ a → a ≤ 58 → ∀ i, i < f * ch → D1.1 a i = D.1 a i) → (∀ i, i < f → D1.1 59 i = D.1 59 i) → zfr fWF D D1 → Z (zmk iX9_writeFrame (d + 8)) 0 219 (zl [(0, .ref 19), (3, .int (nI (st.1 / 8)))]) [] D1 Q := by
    intro j
    induction j with
    | zero =>
      intro i D1 hi hR1 g59 gw g9 gx hF
      have hR1 : madW D1 s4 := by
        have : wz i s3 = s4 := by
          rw [e4]
          show (s3.1 + i, s3.2) = (8 * ((s3.1 + 7) / 8), s3.2)
          rw [show s3.1 + i = 8 * ((s3.1 + 7) / 8) by omega]
        rw [← this]
        exact hR1
      refine z_aload_n dX9_writeFrame_219 (by exact rfl) ?_
      refine z_gfL zfx_X9_192 (by exact rfl) dX9_writeFrame_220 ?_
      refine z_eJ (lN s4.1) hR1.bit ?_
      refine z_ldcL dX9_writeFrame_223 zclx_X9_73 ?_
      refine z_lrem dX9_writeFrame_226 q_8 ?_
      refine z_eJ (lN (s4.1 % 8)) (q_lrem8 (by omega)) ?_
      refine z_lconst dX9_writeFrame_227 ?_
      refine z_eq (tgt := 241) dX9_writeFrame_228 dX9_writeFrame_229 (by decide) (fun _ => ?_) (fun q9 => absurd ((by rw [show s4.1 % 8 = 0 by omega]; rfl)) q9)
      refine z_aload_n dX9_writeFrame_241 (by exact rfl) ?_
      refine z_bipush dX9_writeFrame_242 ?_
      refine z_aload_n dX9_writeFrame_244 (by exact rfl) ?_
      refine z_gfA zfx_X9_30 (by exact rfl) dX9_writeFrame_245 ?_
      refine z_iload_n dX9_writeFrame_248 (by exact rfl) ?_
      refine z_aload_n dX9_writeFrame_249 (by exact rfl) ?_
      refine z_gfL zfx_X9_192 (by exact rfl) dX9_writeFrame_250 ?_
      refine z_eJ (lN s4.1) hR1.bit ?_
      refine z_ldcL dX9_writeFrame_253 zclx_X9_73 ?_
      refine z_ldiv dX9_writeFrame_256 q_8 ?_
      refine z_eJ (lN (s4.1 / 8)) (q_ldiv8 (by omega)) ?_
      refine z_l2i dX9_writeFrame_257 ?_
      refine z_eI (nI (s4.1 / 8)) (lN_i _) ?_
      refine z_iconst dX9_writeFrame_258 ?_
      refine z_cS dX9_writeFrame_259 zk_X9_232 (by exact rfl) (Nat.le_of_ble_eq_true rfl) (Nat.le_of_ble_eq_true rfl) (Nat.le_refl _) ?_
      refine c_sum9 (a := 54) (n := 2500) (w := 16) (from0 := st.1 / 8) rfl (by omega) (.inr rfl) ⟨fun q => absurd q (by decide), fun q => absurd q (by decide)⟩ (by omega) (by omega) ?_
      refine z_i2l dX9_writeFrame_262 ?_
      refine z_eJ (lI (crc 16 (crPoly 16) s4.2 (8 * (st.1 / 8)) (s4.1 - 8 * (st.1 / 8))).toInt) (mad_crc hR1 (by omega) (by omega)) ?_
      refine z_cV dX9_writeFrame_263 zk_X9_217 (by exact rfl) (by exact rfl) (by exact rfl) (Nat.le_of_ble_eq_true rfl) (Nat.le_of_ble_eq_true rfl) (Nat.le_refl _) ?_
      refine c_writeW (w := 16) (by omega) (by show s4.1 + 16 ≤ 160000; omega) hR1 (fun D3 hR3 hf3 => ?_)
      exact z_vret (st := []) rfl dX9_writeFrame_266 (hq D3 (by rw [e5]; exact hR3) ((hf3.1 59 f rfl).trans g59) (fun c hc' => (gw c hc').fr (fun a h1 h2 => hf3.1 a _ (by
        unfold fMad
        simp
        omega))) (fun a h1 h2 i hi => (hf3.1 a _ (by
        unfold fMad
        simp
        omega)).trans (g9 a h1 h2 i hi)) (fun i hi => (hf3.1 59 i rfl).trans (gx i hi)) (hF.tr (hf3.wk fWF_m)))
    | succ j ih =>
      intro i D1 hi hR1 g59 gw g9 gx hF
      have hle : s3.1 + i ≤ 160000 := hR1.le
      refine z_aload_n dX9_writeFrame_219 (by exact rfl) ?_
      refine z_gfL zfx_X9_192 (by exact rfl) dX9_writeFrame_220 ?_
      refine z_eJ (lN (s3.1 + i)) hR1.bit ?_
      refine z_ldcL dX9_writeFrame_223 zclx_X9_73 ?_
      refine z_lrem dX9_writeFrame_226 q_8 ?_
      refine z_eJ (lN ((s3.1 + i) % 8)) (q_lrem8 (by omega)) ?_
      refine z_lconst dX9_writeFrame_227 ?_
      refine z_eq (tgt := 241) dX9_writeFrame_228 dX9_writeFrame_229 (by decide) (fun q9 => absurd q9 ((fun q => absurd ((pk_lEQ (a := (s3.1 + i) % 8) (b := 0) (by omega) (by omega)).mp q) (by omega)))) (fun _ => ?_)
      refine z_aload_n dX9_writeFrame_232 (by exact rfl) ?_
      refine z_iconst dX9_writeFrame_233 ?_
      refine z_lconst dX9_writeFrame_234 ?_
      refine z_cV dX9_writeFrame_235 zk_X9_217 (by exact rfl) (by exact rfl) (by exact rfl) (Nat.le_of_ble_eq_true rfl) (Nat.le_of_ble_eq_true rfl) (Nat.le_refl _) ?_
      refine c_writeW (w := 1) (x := 0) (by omega) (by show s3.1 + i + 1 ≤ 160000; omega) hR1 (fun D3 hR3 hf3 => ?_)
      rw [wp_z 1 hR1.2, wz_wz] at hR3
      refine z_goto (tgt := 219) dX9_writeFrame_238 (by decide) ?_
      exact z_at [(0, .ref 19), (3, .int (nI (st.1 / 8)))] ⟨rfl, rfl, trivial⟩ (ih (i + 1) D3 (by omega) hR3 ((hf3.1 59 f rfl).trans g59) (fun c hc' => (gw c hc').fr (fun a h1 h2 => hf3.1 a _ (by
        unfold fMad
        simp
        omega))) (fun a h1 h2 i hi => (hf3.1 a _ (by
        unfold fMad
        simp
        omega)).trans (g9 a h1 h2 i hi)) (fun i hi => (hf3.1 59 i rfl).trans (gx i hi)) (hF.tr (hf3.wk fWF_m)))
  have subs : ∀ (j c : Nat) (D1 : zD) (sc : WS), c + j = ch → madW D1 sc → wsubs S ch bits pr o first n asg c j sc = s3 → D1.1 59 f = nI asg → (∀ c', c' < c → wyF9 D1 S ch bits pr o first n (f * ch + c') (rowOfN asg c')) → (∀ a, 55 ≤ a → a ≤ 58 → ∀ i, i < f * ch → D1.1 a i = D.1 a i) → (∀ i, i < f → D1.1 59 i = D.1 59 i) → zfr fWF D D1 → Z (zmk iX9_writeFrame (d + 8)) 0 112 (zl [(0, .ref 19), (1, .int (nI f)), (2, .int (nI n)), (3, .int (nI (st.1 / 8))), (4, .int (nI c))]) [] D1 Q := by
    intro j
    induction j with
    | zero =>
      intro c D1 sc hj hR1 hsc g59 gw g9 gx hF
      have hj : c = ch := by omega
      subst hj
      have hsc : sc = s3 := hsc
      subst hsc
      refine z_iload dX9_writeFrame_112 (by exact rfl) ?_
      refine z_aload_n dX9_writeFrame_114 (by exact rfl) ?_
      refine z_gfI zfx_X9_7 (by exact rfl) dX9_writeFrame_115 ?_
      refine z_eI (nI c) (kp hF).1 ?_
      refine z_icmp_ge (tgt := 219) dX9_writeFrame_118 (by decide) (fun _ => ?_) (fun q9 => absurd ((nI_le (Nat.le_refl _) (by omega))) q9)
      exact z_at [(0, .ref 19), (3, .int (nI (st.1 / 8)))] ⟨rfl, rfl, trivial⟩ (pad (s4.1 - sc.1) 0 D1 (by omega) hR1 g59 gw g9 gx hF)
    | succ j ih =>
      intro c D1 sc hj hR1 hsc g59 gw g9 gx hF
      have hcc : c < ch := by omega
      obtain ⟨w, ew⟩ : ∃ w, w = rowOfN asg c := ⟨_, rfl⟩
      have hwo : okRow ch w := by
        rw [ew]
        exact okRow.of hasg hcc
      have hstep : wsubs S ch bits pr o first n asg (c + 1) j (wsub n (bW bits w) (rwW S ch first w) pr o sc) = s3 := by
        rw [ew]
        exact hsc
      have hb1 : (wsub n (bW bits w) (rwW S ch first w) pr o sc).1 ≤ 160000 := by
        have := wsubs_ge (S := S) (ch := ch) (bits := bits) (pr := pr) (o := o) (first := first) (n := n) (asg := asg) (c + 1) j (wsub n (bW bits w) (rwW S ch first w) pr o sc)
        rw [hstep] at this
        omega
      rw [epr] at hb1
      obtain ⟨k, ek⟩ : ∃ k, k = f * ch + c := ⟨_, rfl⟩
      have hk : k < 264 := by omega
      have clk : (nI k).toNatClampNeg = k := nI_clamp (by omega)
      refine z_iload dX9_writeFrame_112 (by exact rfl) ?_
      refine z_aload_n dX9_writeFrame_114 (by exact rfl) ?_
      refine z_gfI zfx_X9_7 (by exact rfl) dX9_writeFrame_115 ?_
      refine z_eI (nI ch) (kp hF).1 ?_
      refine z_icmp_ge (tgt := 219) dX9_writeFrame_118 (by decide) (fun q9 => absurd q9 ((nI_ge (a := c) (b := ch) (by omega) (by omega)))) (fun _ => ?_)
      refine z_aload_n dX9_writeFrame_121 (by exact rfl) ?_
      refine z_gfA zfx_X9_46 (by exact rfl) dX9_writeFrame_122 ?_
      refine z_iload_n dX9_writeFrame_125 (by exact rfl) ?_
      refine z_aI (by exact rfl) dX9_writeFrame_126 (vp_in_nI (by omega) (by omega)) ?_
      refine z_eI (nI asg) (by rw [nI_clamp (n := f) (by omega)]; exact g59) ?_
      refine z_iload dX9_writeFrame_127 (by exact rfl) ?_
      refine z_cS dX9_writeFrame_129 zk_X9_236 (by exact rfl) (Nat.le_of_ble_eq_true rfl) (Nat.le_of_ble_eq_true rfl) (Nat.le_refl _) ?_
      refine c_rowOf hasg hcc ?_
      rw [← ew]
      refine z_istore dX9_writeFrame_132 (Nat.le_of_ble_eq_true rfl) ?_
      refine z_aload_n dX9_writeFrame_134 (by exact rfl) ?_
      refine z_iload_n dX9_writeFrame_135 (by exact rfl) ?_
      refine z_iload dX9_writeFrame_136 (by exact rfl) ?_
      refine z_iload_n dX9_writeFrame_138 (by exact rfl) ?_
      refine z_cV dX9_writeFrame_139 zk_X9_214 (by exact rfl) (by exact rfl) (by exact rfl) (Nat.le_of_ble_eq_true rfl) (Nat.le_of_ble_eq_true rfl) (Nat.le_refl _) ?_
      refine c_measured (kp hF) hc hb hsh ho hwo hn hfn hm (fun D2 mz hf2 => ?_)
      rw [← efi, ← epr] at mz
      rw [← efi, ← epr]
      obtain ⟨m1, m2, m3, m4, m5, m6⟩ := mz
      have hF2 := hF.tr (hf2.wk fWF_d)
      refine z_lstore dX9_writeFrame_142 (Nat.le_of_ble_eq_true rfl) ?_
      refine z_iload_n dX9_writeFrame_144 (by exact rfl) ?_
      refine z_aload_n dX9_writeFrame_145 (by exact rfl) ?_
      refine z_gfI zfx_X9_7 (by exact rfl) dX9_writeFrame_146 ?_
      refine z_eI (nI ch) (kp hF2).1 ?_
      refine z_imul dX9_writeFrame_149 ?_
      refine z_iload dX9_writeFrame_150 (by exact rfl) ?_
      refine z_iadd dX9_writeFrame_152 ?_
      refine z_eI (nI k) (by rw [pk_mul, nI_add, ek]) ?_
      refine z_istore dX9_writeFrame_153 (Nat.le_of_ble_eq_true rfl) ?_
      refine z_aload_n dX9_writeFrame_155 (by exact rfl) ?_
      refine z_gfA zfx_X9_34 (by exact rfl) dX9_writeFrame_156 ?_
      refine z_iload dX9_writeFrame_159 (by exact rfl) ?_
      refine z_aload_n dX9_writeFrame_161 (by exact rfl) ?_
      refine z_gfI zfx_X9_158 (by exact rfl) dX9_writeFrame_162 ?_
      refine z_eI _ m3 ?_
      refine z_sI (by exact rfl) dX9_writeFrame_165 (vp_in_nI (by omega) (by omega)) ?_
      rw [clk]
      refine z_aload_n dX9_writeFrame_166 (by exact rfl) ?_
      refine z_gfA zfx_X9_37 (by exact rfl) dX9_writeFrame_167 ?_
      refine z_iload dX9_writeFrame_170 (by exact rfl) ?_
      refine z_aload_n dX9_writeFrame_172 (by exact rfl) ?_
      refine z_gfI zfx_X9_168 (by exact rfl) dX9_writeFrame_173 ?_
      refine z_eI _ m2 ?_
      refine z_sI (by exact rfl) dX9_writeFrame_176 (vp_in_nI (by omega) (by omega)) ?_
      rw [clk]
      refine z_aload_n dX9_writeFrame_177 (by exact rfl) ?_
      refine z_gfA zfx_X9_40 (by exact rfl) dX9_writeFrame_178 ?_
      refine z_iload dX9_writeFrame_181 (by exact rfl) ?_
      refine z_aload_n dX9_writeFrame_183 (by exact rfl) ?_
      refine z_gfI zfx_X9_161 (by exact rfl) dX9_writeFrame_184 ?_
      refine z_eI _ m4 ?_
      refine z_sI (by exact rfl) dX9_writeFrame_187 (vp_in_nI (by omega) (by omega)) ?_
      rw [clk]
      refine z_aload_n dX9_writeFrame_188 (by exact rfl) ?_
      refine z_gfA zfx_X9_43 (by exact rfl) dX9_writeFrame_189 ?_
      refine z_iload dX9_writeFrame_192 (by exact rfl) ?_
      refine z_lload dX9_writeFrame_194 (by exact rfl) ?_
      refine z_l2i dX9_writeFrame_196 ?_
      refine z_eI (nI (fsz S ch bits pr o first n w)) (lN_i _) ?_
      refine z_sI (by exact rfl) dX9_writeFrame_197 (vp_in_nI (by omega) (by omega)) ?_
      rw [clk]
      obtain ⟨D3, eD3⟩ : ∃ D3, D3 = zuI (zuI (zuI (zuI D2 55 k (nI (wayA n (bW bits w) (rwW S ch first w) pr o).1)) 56 k (nI (wst n (rwW S ch first w)))) 57 k (iI (wayA n (bW bits w) (rwW S ch first w) pr o).2.1)) 58 k (nI (fsz S ch bits pr o first n w)) := ⟨_, rfl⟩
      rw [← eD3]
      have hf3 : zfr (fun a i => decide (55 ≤ a) && decide (a ≤ 58)) D2 D3 := by
        rw [eD3]
        exact (((zfr.rf.uI _ rfl).uI _ rfl).uI _ rfl).uI _ rfl
      have hw3 : wyF9 D3 S ch bits pr o first n k w := by
        rw [eD3]
        exact ⟨by
          rw [zuI_ne (by omega), zuI_ne (by omega), zuI_ne (by omega), zuI_at], by
          rw [zuI_ne (by omega), zuI_ne (by omega), zuI_at], by
          rw [zuI_ne (by omega), zuI_at], by
          rw [zuI_at]⟩
      have ho3 : ∀ a i, ¬ i = k → D3.1 a i = D2.1 a i := fun a i h => by
        rw [eD3, zuI_ne (by omega), zuI_ne (by omega), zuI_ne (by omega), zuI_ne (by omega)]
      have w3 : ∀ a i, fWF a i = false → (decide (55 ≤ a) && decide (a ≤ 58)) = false := fun a i h => by
        have := or_r (or_r h)
        simp at this ⊢
        omega
      have hF3 := hF2.tr (hf3.wk w3)
      have d2 : ∀ {a i : Nat}, 55 ≤ a → a ≤ 59 → fMd a i = false := fun h1 h2 => by
        unfold fMd fMs
        simp
        omega
      refine z_aload_n dX9_writeFrame_198 (by exact rfl) ?_
      refine z_aload_n dX9_writeFrame_199 (by exact rfl) ?_
      refine z_iload dX9_writeFrame_200 (by exact rfl) ?_
      refine z_cV dX9_writeFrame_202 zk_X9_207 (by exact rfl) (by exact rfl) (by exact rfl) (Nat.le_of_ble_eq_true rfl) (Nat.le_of_ble_eq_true rfl) (Nat.le_refl _) ?_
      refine c_bitsOf (kp hF3).2.1 (hwo.lt hc.2) ?_
      refine z_aload_n dX9_writeFrame_205 (by exact rfl) ?_
      refine z_gfI zfx_X9_168 (by exact rfl) dX9_writeFrame_206 ?_
      refine z_eI (nI (wst n (rwW S ch first w))) ((hf3.1 19 27 rfl).trans m2) ?_
      refine z_isub dX9_writeFrame_209 ?_
      refine z_eI (nI (bW bits w - wst n (rwW S ch first w))) (pk_sub (by omega)) ?_
      refine z_cV dX9_writeFrame_210 zk_X9_239 (by exact rfl) (by exact rfl) (by exact rfl) (Nat.le_of_ble_eq_true rfl) (Nat.le_of_ble_eq_true rfl) (Nat.le_refl _) ?_
      refine c_writeRow (a := rwW S ch first w) hn (bW_le hb) m6 ((hf3.1 19 24 rfl).trans m1) ((hf3.1 19 27 rfl).trans m2) (by rw [← epr]; exact (hf3.1 19 28 rfl).trans m3) (by rw [← epr]; exact (hf3.1 19 29 rfl).trans m4) (m5.fr hf3 (fun _ => rfl)) (kp hF3).2.2.2.1 hsh ho ((hR1.fr hf2 rfl (fun _ => rfl)).fr hf3 rfl (fun _ => rfl)) hb1 (fun D4 hR4 hf4 => ?_)
      rw [← epr] at hR4
      have r4 : ∀ {a i : Nat}, 55 ≤ a → a ≤ 59 → fWR a i = false := fun h1 h2 => by
        unfold fWR fMad
        simp
        omega
      refine z_iinc dX9_writeFrame_213 (by exact rfl) ?_
      refine z_at [(0, .ref 19), (1, .int (nI f)), (2, .int (nI n)), (3, .int (nI (st.1 / 8))), (4, .int (nI (c + 1)))] ⟨rfl, rfl, rfl, rfl, congrArg (fun x => some (Value.int x)) (nI_1 c), trivial⟩ ?_
      refine z_goto (tgt := 112) dX9_writeFrame_216 (by decide) ?_
      exact ih (c + 1) D4 _ (by omega) hR4 hstep (((hf4.1 59 f (r4 (by omega) (by omega))).trans (hf3.1 59 f rfl)).trans ((hf2.1 59 f (d2 (by omega) (by omega))).trans g59)) (fun c' hc' => by
        obtain e9 | e9 : c' = c ∨ c' < c := by omega
        · subst e9
          rw [← ew, ← ek]
          exact wy9.fr hw3 (fun a h1 h2 => hf4.1 a _ (r4 h1 (by omega)))
        · exact (gw c' e9).fr (fun a h1 h2 => by
            rw [hf4.1 a _ (r4 h1 (by omega)), ho3 a _ (by omega)]
            exact hf2.1 a _ (d2 h1 (by omega)))) (fun a h1 h2 i hi => by
        rw [hf4.1 a _ (r4 h1 (by omega)), ho3 a _ (by omega), hf2.1 a _ (d2 h1 (by omega))]
        exact g9 a h1 h2 i hi) (fun i hi => by
        rw [hf4.1 59 _ (r4 (by omega) (by omega)), hf3.1 59 _ rfl, hf2.1 59 _ (d2 (by omega) (by omega))]
        exact gx i hi) (hF3.tr (hf4.wk fWF_r))
  have b7 : (wnumb f (wp 4 0 (wp 4 (asg : Nat) (wp 4 0 (wp 4 6 (wp 2 0 (wp 14 16382 st))))))).1 ≤ 160000 := by
    have : (whead asg f n st).1 ≤ 160000 := by
      rw [← e1]
      omega
    exact Nat.le_trans ((wp_len _ _).ge _) this
  have b6 : (wp 4 0 (wp 4 (asg : Nat) (wp 4 0 (wp 4 6 (wp 2 0 (wp 14 16382 st)))))).1 ≤ 160000 := Nat.le_trans (wnumb_ge f _) b7
  have b5 : (wp 4 (asg : Nat) (wp 4 0 (wp 4 6 (wp 2 0 (wp 14 16382 st))))).1 ≤ 160000 := Nat.le_trans ((wp_len _ _).ge _) b6
  have b4 : (wp 4 0 (wp 4 6 (wp 2 0 (wp 14 16382 st)))).1 ≤ 160000 := Nat.le_trans ((wp_len _ _).ge _) b5
  have b3 : (wp 4 6 (wp 2 0 (wp 14 16382 st))).1 ≤ 160000 := Nat.le_trans ((wp_len _ _).ge _) b4
  have b2 : (wp 2 0 (wp 14 16382 st)).1 ≤ 160000 := Nat.le_trans ((wp_len _ _).ge _) b3
  have b1 : (wp 14 16382 st).1 ≤ 160000 := Nat.le_trans ((wp_len _ _).ge _) b2
  have mk : ∀ {X Y : zD}, zfr fMad X Y → zfr fWF X Y := fun h => h.wk fWF_m
  have hle := hR.le
  refine z_aload_n dX9_writeFrame_0 (by exact rfl) ?_
  refine z_gfL zfx_X9_192 (by exact rfl) dX9_writeFrame_1 ?_
  refine z_eJ (lN st.1) hR.bit ?_
  refine z_ldcL dX9_writeFrame_4 zclx_X9_73 ?_
  refine z_ldiv dX9_writeFrame_7 q_8 ?_
  refine z_eJ (lN (st.1 / 8)) (q_ldiv8 (by omega)) ?_
  refine z_l2i dX9_writeFrame_8 ?_
  refine z_eI (nI (st.1 / 8)) (lN_i _) ?_
  refine z_istore_n dX9_writeFrame_9 (Nat.le_of_ble_eq_true rfl) ?_
  refine z_aload_n dX9_writeFrame_10 (by exact rfl) ?_
  refine z_gfA zfx_X9_46 (by exact rfl) dX9_writeFrame_11 ?_
  refine z_iload_n dX9_writeFrame_14 (by exact rfl) ?_
  refine z_aload_n dX9_writeFrame_15 (by exact rfl) ?_
  refine z_iload_n dX9_writeFrame_16 (by exact rfl) ?_
  refine z_iload_n dX9_writeFrame_17 (by exact rfl) ?_
  refine z_cV dX9_writeFrame_18 zk_X9_224 (by exact rfl) (by exact rfl) (by exact rfl) (Nat.le_of_ble_eq_true rfl) (Nat.le_of_ble_eq_true rfl) (Nat.le_refl _) ?_
  refine c_assignment hs hc hb hsh ho hn hfn hm (fun D1 hf1 => ?_)
  rw [← efi, ← epr, ← easg]
  refine z_sI (by exact rfl) dX9_writeFrame_21 (vp_in_nI (by omega) (by omega)) ?_
  rw [nI_clamp (n := f) (by omega)]
  have hR1 : madW (zuI D1 59 f (nI asg)) st := (hR.fr hf1 rfl (fun _ => rfl)).fr (F := fun a _ => a == 59) (zfr.rf.uI _ rfl) rfl (fun _ => rfl)
  have hF1 : zfr fWF D (zuI D1 59 f (nI asg)) := (hf1.wk fWF_d).uI _ rfl
  have hg59 : (zuI D1 59 f (nI asg)).1 59 f = nI asg := zuI_at _ _ _ _
  refine z_aload_n dX9_writeFrame_22 (by exact rfl) ?_
  refine z_bipush dX9_writeFrame_23 ?_
  refine z_ldcL dX9_writeFrame_25 zclx_X9_227 ?_
  refine z_cV dX9_writeFrame_28 zk_X9_217 (by exact rfl) (by exact rfl) (by exact rfl) (Nat.le_of_ble_eq_true rfl) (Nat.le_of_ble_eq_true rfl) (Nat.le_refl _) ?_
  refine c_writeW (w := 14) (x := 16382) (by omega) b1 hR1 (fun D2 hR2 hf2 => ?_)
  refine z_aload_n dX9_writeFrame_31 (by exact rfl) ?_
  refine z_iconst dX9_writeFrame_32 ?_
  refine z_lconst dX9_writeFrame_33 ?_
  refine z_cV dX9_writeFrame_34 zk_X9_217 (by exact rfl) (by exact rfl) (by exact rfl) (Nat.le_of_ble_eq_true rfl) (Nat.le_of_ble_eq_true rfl) (Nat.le_refl _) ?_
  refine c_writeW (w := 2) (x := 0) (by omega) b2 hR2 (fun D3 hR3 hf3 => ?_)
  refine z_aload_n dX9_writeFrame_37 (by exact rfl) ?_
  refine z_iconst dX9_writeFrame_38 ?_
  refine z_ldcL dX9_writeFrame_39 zclx_X9_115 ?_
  refine z_cV dX9_writeFrame_42 zk_X9_217 (by exact rfl) (by exact rfl) (by exact rfl) (Nat.le_of_ble_eq_true rfl) (Nat.le_of_ble_eq_true rfl) (Nat.le_refl _) ?_
  refine c_writeW (w := 4) (x := 6) (by omega) b3 hR3 (fun D4 hR4 hf4 => ?_)
  refine z_aload_n dX9_writeFrame_45 (by exact rfl) ?_
  refine z_iconst dX9_writeFrame_46 ?_
  refine z_lconst dX9_writeFrame_47 ?_
  refine z_cV dX9_writeFrame_48 zk_X9_217 (by exact rfl) (by exact rfl) (by exact rfl) (Nat.le_of_ble_eq_true rfl) (Nat.le_of_ble_eq_true rfl) (Nat.le_refl _) ?_
  refine c_writeW (w := 4) (x := 0) (by omega) b4 hR4 (fun D5 hR5 hf5 => ?_)
  have hf25 := ((hf2.tr hf3).tr hf4).tr hf5
  refine z_aload_n dX9_writeFrame_51 (by exact rfl) ?_
  refine z_iconst dX9_writeFrame_52 ?_
  refine z_aload_n dX9_writeFrame_53 (by exact rfl) ?_
  refine z_gfA zfx_X9_46 (by exact rfl) dX9_writeFrame_54 ?_
  refine z_iload_n dX9_writeFrame_57 (by exact rfl) ?_
  refine z_aI (by exact rfl) dX9_writeFrame_58 (vp_in_nI (by omega) (by omega)) ?_
  refine z_eI (nI asg) (by rw [nI_clamp (n := f) (by omega)]; exact (hf25.1 59 f rfl).trans hg59) ?_
  refine z_i2l dX9_writeFrame_59 ?_
  refine z_eJ (lI ((asg : Nat) : Int)) (nI_lI (by omega)) ?_
  refine z_cV dX9_writeFrame_60 zk_X9_217 (by exact rfl) (by exact rfl) (by exact rfl) (Nat.le_of_ble_eq_true rfl) (Nat.le_of_ble_eq_true rfl) (Nat.le_refl _) ?_
  refine c_writeW (w := 4) (by omega) b5 hR5 (fun D6 hR6 hf6 => ?_)
  refine z_aload_n dX9_writeFrame_63 (by exact rfl) ?_
  refine z_iconst dX9_writeFrame_64 ?_
  refine z_lconst dX9_writeFrame_65 ?_
  refine z_cV dX9_writeFrame_66 zk_X9_217 (by exact rfl) (by exact rfl) (by exact rfl) (Nat.le_of_ble_eq_true rfl) (Nat.le_of_ble_eq_true rfl) (Nat.le_refl _) ?_
  refine c_writeW (w := 4) (x := 0) (by omega) b6 hR6 (fun D7 hR7 hf7 => ?_)
  refine z_aload_n dX9_writeFrame_69 (by exact rfl) ?_
  refine z_iload_n dX9_writeFrame_70 (by exact rfl) ?_
  refine z_cV dX9_writeFrame_71 zk_X9_229 (by exact rfl) (by exact rfl) (by exact rfl) (Nat.le_of_ble_eq_true rfl) (Nat.le_of_ble_eq_true rfl) (Nat.le_refl _) ?_
  refine c_writeNumber (by omega) hR7 b7 (fun D8 hR8 hf8 => ?_)
  refine z_aload_n dX9_writeFrame_74 (by exact rfl) ?_
  refine z_bipush dX9_writeFrame_75 ?_
  refine z_iload_n dX9_writeFrame_77 (by exact rfl) ?_
  refine z_iconst dX9_writeFrame_78 ?_
  refine z_isub dX9_writeFrame_79 ?_
  refine z_eI (nI (n - 1)) (pk_sub (a := n) (b := 1) hn.1) ?_
  refine z_i2l dX9_writeFrame_80 ?_
  refine z_eJ (lI ((n - 1 : Nat) : Int)) (nI_lI (by omega)) ?_
  refine z_cV dX9_writeFrame_81 zk_X9_217 (by exact rfl) (by exact rfl) (by exact rfl) (Nat.le_of_ble_eq_true rfl) (Nat.le_of_ble_eq_true rfl) (Nat.le_refl _) ?_
  refine c_writeW (w := 8) (by omega) (by
    have : (whead asg f n st).1 ≤ 160000 := by
      rw [← e1]
      omega
    exact this) hR8 (fun D9 hR9 hf9 => ?_)
  have hR9 : madW D9 s1 := by
    rw [e1]
    exact hR9
  have hf29 := (((hf25.tr hf6).tr hf7).tr hf8).tr hf9
  refine z_aload_n dX9_writeFrame_84 (by exact rfl) ?_
  refine z_bipush dX9_writeFrame_85 ?_
  refine z_aload_n dX9_writeFrame_87 (by exact rfl) ?_
  refine z_gfA zfx_X9_30 (by exact rfl) dX9_writeFrame_88 ?_
  refine z_iload_n dX9_writeFrame_91 (by exact rfl) ?_
  refine z_aload_n dX9_writeFrame_92 (by exact rfl) ?_
  refine z_gfL zfx_X9_192 (by exact rfl) dX9_writeFrame_93 ?_
  refine z_eJ (lN s1.1) hR9.bit ?_
  refine z_ldcL dX9_writeFrame_96 zclx_X9_73 ?_
  refine z_ldiv dX9_writeFrame_99 q_8 ?_
  refine z_eJ (lN (s1.1 / 8)) (q_ldiv8 (by omega)) ?_
  refine z_l2i dX9_writeFrame_100 ?_
  refine z_eI (nI (s1.1 / 8)) (lN_i _) ?_
  refine z_iconst dX9_writeFrame_101 ?_
  refine z_cS dX9_writeFrame_102 zk_X9_232 (by exact rfl) (Nat.le_of_ble_eq_true rfl) (Nat.le_of_ble_eq_true rfl) (Nat.le_refl _) ?_
  refine c_sum9 (a := 54) (n := 2500) (w := 8) (from0 := st.1 / 8) rfl (by omega) (.inl rfl) ⟨fun _ => rfl, fun _ => rfl⟩ (by omega) (by omega) ?_
  refine z_i2l dX9_writeFrame_105 ?_
  refine z_eJ (lI (crc 8 (crPoly 8) s1.2 (8 * (st.1 / 8)) (s1.1 - 8 * (st.1 / 8))).toInt) (mad_crc hR9 l18.1 (by omega)) ?_
  refine z_cV dX9_writeFrame_106 zk_X9_217 (by exact rfl) (by exact rfl) (by exact rfl) (Nat.le_of_ble_eq_true rfl) (Nat.le_of_ble_eq_true rfl) (Nat.le_refl _) ?_
  refine c_writeW (w := 8) (by omega) (by show s1.1 + 8 ≤ 160000; omega) hR9 (fun D10 hR10 hf10 => ?_)
  have hR10 : madW D10 s2 := by
    rw [e2]
    exact hR10
  have hfe := hf29.tr hf10
  have mn : ∀ {a i : Nat}, 55 ≤ a → a ≤ 59 → fMad a i = false ∧ fMd a i = false := fun h1 h2 => by
    unfold fMad fMd fMs
    simp
    omega
  refine z_iconst dX9_writeFrame_109 ?_
  refine z_istore dX9_writeFrame_110 (Nat.le_of_ble_eq_true rfl) ?_
  exact z_at [(0, .ref 19), (1, .int (nI f)), (2, .int (nI n)), (3, .int (nI (st.1 / 8))), (4, .int (nI 0))] ⟨rfl, rfl, rfl, rfl, rfl, trivial⟩ (subs ch 0 D10 s2 (by omega) hR10 e3.symm ((hfe.1 59 f rfl).trans hg59) (fun c' hc' => by omega) (fun a h1 h2 i hi => by
    rw [hfe.1 a i (mn h1 (by omega)).1, zuI_ne (by omega)]
    exact hf1.1 a i (mn h1 (by omega)).2) (fun i hi => by
    rw [hfe.1 59 i rfl, zuI_ne (by omega)]
    exact hf1.1 59 i (mn (by omega) (by omega)).2) (hF1.tr (mk hfe)))
