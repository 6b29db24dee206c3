/-! ===== Maker.addFrame ===== -/
theorem wsub_ge {n b : Nat} {a : zRow} {pr : zPr} {o : Nat} (s : WS) : s.1 ≤ (wsub n b a pr o s).1 := wsub_len.ge s
theorem wsubs_ge {S : zRow} {ch bits : Nat} {pr : zPr} {o first n asg : Nat} (c m : Nat) (s : WS) : s.1 ≤ (wsubs S ch bits pr o first n asg c m s).1 := wl_ge (fun j s => wsub_ge s) m c s
theorem wfill_ge (s : WS) : s.1 ≤ (wfill s).1 := by
  show s.1 ≤ 8 * ((s.1 + 7) / 8)
  omega
theorem penW.hat {D : zD} {s : WS} (h : penW D s) : D.1 6 1 = nI s.1 := h.1
theorem penW.le {D : zD} {s : WS} (h : penW D s) : s.1 ≤ 160000 := h.2.1
theorem pen_crc {D : zD} {s : WS} {w from0 : Nat} {poly : Int32} (h : penW D s) (hp : poly = crPoly w) (h8 : s.1 % 8 = 0) (hf : from0 ≤ s.1 / 8) : (crc w poly (bt8 (D.1 7)) (8 * from0) (8 * ((s.1 + 7) / 8 - from0))).toInt64 = lI (crc w (crPoly w) s.2 (8 * from0) (s.1 - 8 * from0)).toInt := by
  have hl := h.le
  rw [hp, i32_l, show 8 * ((s.1 + 7) / 8 - from0) = s.1 - 8 * from0 by omega, crc_congr (T' := s.2) (fun i h1 h2 => h.2.2.1 i (by omega))]
theorem c_addFrame {d f ch bits o s0 first n : Nat} {cs : Nat → Int} {D : zD} {Q : zQ} {S : zRow} {st : WS} (hf : D.1 5 1 = nI f) (hch : D.1 5 2 = nI ch) (hc : 1 ≤ ch ∧ ch ≤ 8) (hb : 4 ≤ bits ∧ bits ≤ 24) (hn : 1 ≤ n ∧ n ≤ 256) (hf2 : f < 256) (hfk : f * ch + ch ≤ 264) (hfn : (first + n) * ch ≤ 4096) (hS : ∀ j, j < (first + n) * ch → D.1 4 j = iI (S j) ∧ inB bits (S j)) (hp : pred8 D 2 3 o s0 cs) (hsh : s0 ≤ 14) (ho : o ≤ 8) (hR : penW D st) (h8 : st.1 % 8 = 0) (hbd : (wframe S ch bits (s0, cs) o f first n st).1 ≤ 160000)
    (hq : ∀ D', penW D' (wframe S ch bits (s0, cs) o f first n st) → D'.1 5 1 = nI (f + 1) → D'.1 8 f = nI (asgW S ch bits (s0, cs) o first n) → (∀ c, c < ch → wyF D' S ch bits (s0, cs) o first n (f * ch + c) (rowOfN (asgW S ch bits (s0, cs) o first n) c)) → (∀ i, i < 4 * (f * ch) → D'.1 9 i = D.1 9 i) → (∀ i, i < f → D'.1 8 i = D.1 8 i) → zfr fAF D D' → Q (.inl none) 0 D') :
    ZM yX1_addFrame iX1_addFrame (d + 5) [.ref 5, .ref 4, .int (nI first), .int (nI n), .int (nI bits), .ref 2] D Q := by
  refine z_method (by decide) rfl (Nat.le_of_ble_eq_true rfl) ?_
  refine z_at [(0, .ref 5), (1, .ref 4), (2, .int (nI first)), (3, .int (nI n)), (4, .int (nI bits)), (5, .ref 2)] ⟨rfl, rfl, rfl, rfl, rfl, rfl, trivial⟩ ?_
  obtain ⟨pr, epr⟩ : ∃ pr : zPr, pr = (s0, cs) := ⟨_, rfl⟩
  rw [← epr] at hbd hq
  obtain ⟨asg, easg⟩ : ∃ asg, asg = asgW S ch bits pr o first n := ⟨_, rfl⟩
  have hasg : okAsg asg ch := by
    rw [easg]
    exact asgW_ok hc
  have ha16 := hasg.lt
  have hSin : ∀ j, j < (first + n) * ch → inB bits (S j) := fun j hj => (hS j hj).2
  have hset : ∀ {D1 : zD}, zfr (fun a k => fAF a k && !(a == 5)) D D1 → D1.1 5 1 = nI f ∧ D1.1 5 2 = nI ch ∧ (∀ j, j < (first + n) * ch → D1.1 4 j = iI (S j)) ∧ pred8 D1 2 3 o s0 cs := fun hF => ⟨(hF.1 5 1 rfl).trans hf, (hF.1 5 2 rfl).trans hch, fun j hj => (hF.1 4 j rfl).trans (hS j hj).1, hp.fr hF (fun _ => rfl) (fun _ => rfl)⟩
  have wA : ∀ {F : Nat → Nat → Bool} {X Y : zD}, (∀ a k, fAF a k = false → F a k = false) → (∀ k, F 5 k = false) → zfr F X Y → zfr (fun a k => fAF a k && !(a == 5)) X Y := fun h h5 hF => hF.wk (fun a k q => by
    by_cases e : a = 5
    · subst e
      exact h5 k
    · apply h
      simp at q
      cases e2 : fAF a k with
      | false => rfl
      | true => exact absurd (q e2) e)
  have wAF : ∀ {X Y : zD}, zfr (fun a k => fAF a k && !(a == 5)) X Y → zfr fAF X Y := fun h => h.wk (fun a k q => by
    show (fAF a k && _) = false
    rw [q]
    rfl)
  -- the frame's parts
  obtain ⟨s1, e1⟩ : ∃ s1, s1 = whead asg f n st := ⟨_, rfl⟩
  obtain ⟨s2, e2⟩ : ∃ s2, s2 = wsum 8 (st.1 / 8) s1 := ⟨_, rfl⟩
  obtain ⟨s3, e3⟩ : ∃ s3, s3 = wsubs S ch bits pr o first n asg 0 ch s2 := ⟨_, rfl⟩
  obtain ⟨s4, e4⟩ : ∃ s4, s4 = wfill s3 := ⟨_, rfl⟩
  obtain ⟨s5, e5⟩ : ∃ s5, s5 = wsum 16 (st.1 / 8) s4 := ⟨_, rfl⟩
  have ew : wframe S ch bits pr o f first n st = s5 := by
    rw [e5, e4, e3, e2, e1, easg]
    rfl
  rw [ew] at hbd hq
  rw [← easg] at hq
  have l5 : s4.1 + 16 = s5.1 := by rw [e5]; rfl
  have l4 : s3.1 ≤ s4.1 ∧ s4.1 = 8 * ((s3.1 + 7) / 8) := by
    rw [e4]
    exact ⟨wfill_ge _, rfl⟩
  have l3 : s2.1 ≤ s3.1 := by
    rw [e3]
    exact wsubs_ge _ _ _
  have l2 : s1.1 + 8 = s2.1 := by rw [e2]; rfl
  have l1 : s1.1 = st.1 + (40 + if f < 128 then 8 else 16) := by
    rw [e1]
    exact (whead_len asg f n st).1
  have l18 : s1.1 % 8 = 0 ∧ st.1 ≤ s1.1 := by
    rw [l1]
    split <;> omega
  -- the subframes written
  have subs : ∀ (m c : Nat) (D1 : zD) (sc : WS), c + m = ch → penW D1 sc → wsubs S ch bits pr o first n asg c m sc = s3 → (∀ w, okRow ch w → rdyS D1 S ch bits pr o first n w) → (∀ c', c' < c → wyF D1 S ch bits pr o first n (f * ch + c') (rowOfN asg c')) → (∀ i, i < 4 * (f * ch) → D1.1 9 i = D.1 9 i) → (∀ i, D1.1 8 i = D.1 8 i) → zfr (fun a k => fAF a k && !(a == 5)) D D1 → Z (zmk iX1_addFrame (d + 5)) 0 209 (zl [(0, .ref 5), (3, .int (nI n)), (5, .ref 2), (6, .int (nI asg)), (7, .int (nI (st.1 / 8))), (8, .int (nI c))]) [] D1 Q := by
    intro m
    induction m with
    | zero =>
      intro c D1 sc hm hR1 hsc hrd hwy h9 h8' hF
      have hm : c = ch := by omega
      subst hm
      have hsc : sc = s3 := hsc
      subst hsc
      refine z_iload dX1_addFrame_209 (by exact rfl) ?_
      refine z_aload_n dX1_addFrame_211 (by exact rfl) ?_
      refine z_gfI zfx_X1_22 (by exact rfl) dX1_addFrame_212 ?_
      refine z_eI (nI c) (hset hF).2.1 ?_
      refine z_icmp_ge (tgt := 261) dX1_addFrame_215 (by decide) (fun _ => ?_) (fun q9 => absurd ((nI_le (Nat.le_refl _) (by omega))) q9)
      refine z_aload_n dX1_addFrame_261 (by exact rfl) ?_
      refine z_gfA zfx_X1_12 (by exact rfl) dX1_addFrame_262 ?_
      refine z_cV dX1_addFrame_265 zk_X1_117 (by exact rfl) (by exact rfl) (by exact rfl) (Nat.le_of_ble_eq_true rfl) (Nat.le_of_ble_eq_true rfl) (Nat.le_refl _) ?_
      refine c_fillByte (n := sc.1) (S := sc.2) (by omega) hR1 (fun D2 hf2 hR2 => ?_)
      have hR2 : penW D2 s4 := by
        rw [e4]
        exact hR2
      have hF2 := hF.tr (wA fAF_p (fun _ => rfl) hf2)
      refine z_aload_n dX1_addFrame_268 (by exact rfl) ?_
      refine z_gfA zfx_X1_12 (by exact rfl) dX1_addFrame_269 ?_
      refine z_bipush dX1_addFrame_272 ?_
      refine z_aload_n dX1_addFrame_274 (by exact rfl) ?_
      refine z_gfA zfx_X1_12 (by exact rfl) dX1_addFrame_275 ?_
      refine z_gfA zfx_X1_97 (by exact rfl) dX1_addFrame_278 ?_
      refine z_iload dX1_addFrame_281 (by exact rfl) ?_
      refine z_aload_n dX1_addFrame_283 (by exact rfl) ?_
      refine z_gfA zfx_X1_12 (by exact rfl) dX1_addFrame_284 ?_
      refine z_cV dX1_addFrame_287 zk_X1_91 (by exact rfl) (by exact rfl) (by exact rfl) (Nat.le_of_ble_eq_true rfl) (Nat.le_of_ble_eq_true rfl) (Nat.le_refl _) ?_
      refine c_size (at0 := s4.1) hR2.hat (by omega) ?_
      refine z_bipush dX1_addFrame_290 ?_
      refine z_ldcI dX1_addFrame_292 zcix_X1_120 ?_
      refine z_cN dX1_addFrame_294 zk_X1_101 rfl (by exact rfl) (Nat.le_of_ble_eq_true rfl) (Nat.le_of_ble_eq_true rfl) (Nat.le_refl _) ?_
      refine c_sum8 (w := 16) (n := 20000) (from0 := st.1 / 8) rfl (by omega) (.inr rfl) (by omega) (by omega) ?_
      refine z_i2l dX1_addFrame_297 ?_
      refine z_eJ (lI (crc 16 (crPoly 16) s4.2 (8 * (st.1 / 8)) (s4.1 - 8 * (st.1 / 8))).toInt) (pen_crc hR2 rfl (by omega) (by omega)) ?_
      refine z_cV dX1_addFrame_298 zk_X1_54 (by exact rfl) (by exact rfl) (by exact rfl) (Nat.le_of_ble_eq_true rfl) (Nat.le_of_ble_eq_true rfl) (Nat.le_refl _) ?_
      refine c_putW (w := 16) (by omega) (by show s4.1 + 16 ≤ 160000; omega) hR2 (fun D3 hR3 hf3 => ?_)
      have hR3 : penW D3 s5 := by
        rw [e5]
        exact hR3
      have hF3 := hF2.tr (wA fAF_p (fun _ => rfl) hf3)
      have hff := hf2.tr hf3
      refine z_aload_n dX1_addFrame_301 (by exact rfl) ?_
      refine z_gfA zfx_X1_25 (by exact rfl) dX1_addFrame_302 ?_
      refine z_aload_n dX1_addFrame_305 (by exact rfl) ?_
      refine z_gfI zfx_X1_18 (by exact rfl) dX1_addFrame_306 ?_
      refine z_eI (nI f) (hset hF3).1 ?_
      refine z_iload dX1_addFrame_309 (by exact rfl) ?_
      refine z_sI (by exact rfl) dX1_addFrame_311 (vp_in_nI (by omega) (by omega)) ?_
      rw [nI_clamp (n := f) (by omega)]
      refine z_aload_n dX1_addFrame_312 (by exact rfl) ?_
      refine z_dup dX1_addFrame_313 (by exact rfl) ?_
      refine z_gfI zfx_X1_18 (by exact rfl) dX1_addFrame_314 ?_
      refine z_eI (nI f) (hset hF3).1 ?_
      refine z_iconst dX1_addFrame_317 ?_
      refine z_iadd dX1_addFrame_318 ?_
      refine z_eI (nI (f + 1)) (nI_1 f) ?_
      refine z_pfI zfx_X1_18 (by exact rfl) dX1_addFrame_319 ?_
      exact z_vret (st := []) rfl dX1_addFrame_322 (hq _ (hR3.fr (F := fun a k => a == 8 || a == 5) ((zfr.rf.uI _ rfl).uI _ rfl) (fun _ => rfl) (fun _ => rfl)) rfl (by
        rw [zuI_ne (by omega)]
        exact zuI_at _ _ _ _) (fun c' hc' => (hwy c' hc').fr (fun i _ _ => by
        rw [zuI_ne (by omega), zuI_ne (by omega)]
        exact hff.1 9 i rfl)) (fun i hi => by
        rw [zuI_ne (by omega), zuI_ne (by omega)]
        exact (hff.1 9 i rfl).trans (h9 i hi)) (fun i hi => by
        rw [zuI_ne (by omega), zuI_ne (by omega)]
        exact (hff.1 8 i rfl).trans (h8' i)) (((wAF hF3).uI _ rfl).uI _ rfl))
    | succ m ih =>
      intro c D1 sc hm hR1 hsc hrd hwy h9 h8' hF
      have hcc : c < ch := by omega
      have hl := sfI_lt hasg hcc
      obtain ⟨w, ew⟩ : ∃ w, w = rowOfN asg c := ⟨_, rfl⟩
      have hwo : okRow ch w := by
        rw [ew]
        exact okRow.of hasg hcc
      rw [← ew] at hl
      have hX := isSf_at _ hl
      have hXl := hX.2.2.2
      obtain ⟨r1, r2, r3, r4⟩ := hrd w hwo
      have hstep : wsubs S ch bits pr o first n asg (c + 1) m (wsub n (bW bits w) (rwW S ch first w) pr o sc) = s3 := by
        rw [ew]
        exact hsc
      have hb1 : (wsub n (bW bits w) (rwW S ch first w) pr o sc).1 ≤ 160000 := by
        have := wsubs_ge (S := S) (ch := ch) (bits := bits) (pr := pr) (o := o) (first := first) (n := n) (asg := asg) (c + 1) m (wsub n (bW bits w) (rwW S ch first w) pr o sc)
        rw [hstep] at this
        omega
      rw [epr] at hb1
      have hk : f * ch + c < 264 := by omega
      refine z_iload dX1_addFrame_209 (by exact rfl) ?_
      refine z_aload_n dX1_addFrame_211 (by exact rfl) ?_
      refine z_gfI zfx_X1_22 (by exact rfl) dX1_addFrame_212 ?_
      refine z_eI (nI ch) (hset hF).2.1 ?_
      refine z_icmp_ge (tgt := 261) dX1_addFrame_215 (by decide) (fun q9 => absurd q9 ((nI_ge (a := c) (b := ch) (by omega) (by omega)))) (fun _ => ?_)
      refine z_aload_n dX1_addFrame_218 (by exact rfl) ?_
      refine z_gfA zfx_X1_41 (by exact rfl) dX1_addFrame_219 ?_
      refine z_iload dX1_addFrame_222 (by exact rfl) ?_
      refine z_iload dX1_addFrame_224 (by exact rfl) ?_
      refine z_cS dX1_addFrame_226 zk_X1_105 (by exact rfl) (Nat.le_of_ble_eq_true rfl) (Nat.le_of_ble_eq_true rfl) (Nat.le_refl _) ?_
      refine c_subframeOf hasg hcc ?_
      rw [← ew]
      refine z_sfld hl dX1_addFrame_229 ?_
      refine z_astore dX1_addFrame_230 (Nat.le_of_ble_eq_true rfl) ?_
      refine z_aload_n dX1_addFrame_232 (by exact rfl) ?_
      refine z_gfA zfx_X1_35 (by exact rfl) dX1_addFrame_233 ?_
      refine z_aload dX1_addFrame_236 (by exact rfl) ?_
      refine z_aload dX1_addFrame_238 (by exact rfl) ?_
      refine z_aload_n dX1_addFrame_240 (by exact rfl) ?_
      refine z_gfA zfx_X1_12 (by exact rfl) dX1_addFrame_241 ?_
      refine z_cV dX1_addFrame_244 zk_X1_109 (by exact rfl) (by exact rfl) (by exact rfl) (Nat.le_of_ble_eq_true rfl) (Nat.le_of_ble_eq_true rfl) (Nat.le_refl _) ?_
      refine c_write0 (a := rwW S ch first w) (b := bW bits w) hX hn (bW_le hb) r1 r2 r3 (by rw [← epr]; exact r4) (hset hF).2.2.2 hsh ho hR1 hb1 (fun D2 hR2 hf2 => ?_)
      rw [← epr] at hR2
      have hF2 := hF.tr (wA fAF_w (fun _ => rfl) hf2)
      have hrd2 : ∀ w, okRow ch w → rdyS D2 S ch bits pr o first n w := fun w hw => by
        obtain ⟨s, hs1, hs2⟩ := wI_of hc hw
        have := wI_ok hc.2 hs1
        rw [hs2] at this
        exact (hrd w hw).fr hf2 (fun k => fWr_n (by omega) (by omega) (by omega)) (fun k => fWr_n (by omega) (by omega) (by omega))
      obtain ⟨q1, q2, q3, q4⟩ := hrd2 w hwo
      refine z_aload_n dX1_addFrame_247 (by exact rfl) ?_
      refine z_aload dX1_addFrame_248 (by exact rfl) ?_
      refine z_iload dX1_addFrame_250 (by exact rfl) ?_
      refine z_cV dX1_addFrame_252 zk_X1_113 (by exact rfl) rfl (by exact rfl) (Nat.le_of_ble_eq_true rfl) (Nat.le_of_ble_eq_true rfl) (Nat.le_refl _) ?_
      refine c_keepWay (c := c) hX (hset hF2).1 (hset hF2).2.1 hk q2 q4 (fun D3 k1 k2 hf3 => ?_)
      have hF3 := hF2.tr (wA fAF_9 (fun _ => rfl) hf3)
      refine z_iinc dX1_addFrame_255 (by exact rfl) ?_
      refine z_at [(0, .ref 5), (3, .int (nI n)), (5, .ref 2), (6, .int (nI asg)), (7, .int (nI (st.1 / 8))), (8, .int (nI (c + 1)))] ⟨rfl, rfl, rfl, rfl, rfl, congrArg (fun x => some (Value.int x)) (nI_1 c), trivial⟩ ?_
      refine z_goto (tgt := 209) dX1_addFrame_258 (by decide) ?_
      exact ih (c + 1) D3 _ (by omega) (hR2.fr hf3 (fun _ => rfl) (fun _ => rfl)) hstep (fun w' hw' => by
        obtain ⟨s, hs1, hs2⟩ := wI_of hc hw'
        have := wI_ok hc.2 hs1
        rw [hs2] at this
        exact (hrd2 w' hw').fr hf3 (fun k => by simp; omega) (fun k => by simp; omega)) (fun c' hc' => by
        obtain e9 | e9 : c' = c ∨ c' < c := by omega
        · subst e9
          rw [← ew]
          exact k1
        · refine (hwy c' e9).fr (fun i h1 h2 => ?_)
          rw [k2 i (by omega)]
          exact hf2.1 9 i rfl) (fun i hi => by
        rw [k2 i (by omega)]
        exact (hf2.1 9 i rfl).trans (h9 i hi)) (fun i => ((hf3.1 8 i rfl).trans (hf2.1 8 i rfl)).trans (h8' i)) hF3
  have t157 : ∀ (D1 : zD), (∀ w, okRow ch w → rdyS D1 S ch bits pr o first n w) → penW D1 st → (∀ i, D1.1 9 i = D.1 9 i) → (∀ i, D1.1 8 i = D.1 8 i) → zfr (fun a k => fAF a k && !(a == 5)) D D1 → Z (zmk iX1_addFrame (d + 5)) 0 157 (zl [(0, .ref 5), (3, .int (nI n)), (5, .ref 2), (6, .int (nI asg))]) [] D1 Q := by
    intro D1 hrd hR1 h9 h8' hF
    have hRw : ∀ {D2 : zD}, zfr fPen D1 D2 → ∀ w, okRow ch w → rdyS D2 S ch bits pr o first n w := fun hf2 w hw => by
      obtain ⟨s, hs1, hs2⟩ := wI_of hc hw
      have := wI_ok hc.2 hs1
      rw [hs2] at this
      exact (hrd w hw).fr hf2 (fun k => fPen_n (by omega) (by omega)) (fun k => fPen_n (by omega) (by omega))
    refine z_aload_n dX1_addFrame_157 (by exact rfl) ?_
    refine z_gfA zfx_X1_12 (by exact rfl) dX1_addFrame_158 ?_
    refine z_cV dX1_addFrame_161 zk_X1_91 (by exact rfl) (by exact rfl) (by exact rfl) (Nat.le_of_ble_eq_true rfl) (Nat.le_of_ble_eq_true rfl) (Nat.le_refl _) ?_
    refine c_size (at0 := st.1) hR1.hat (by have := hR1.le; omega) ?_
    refine z_eI (nI (st.1 / 8)) (by congr 1; omega) ?_
    refine z_istore dX1_addFrame_164 (Nat.le_of_ble_eq_true rfl) ?_
    refine z_aload_n dX1_addFrame_166 (by exact rfl) ?_
    refine z_iload dX1_addFrame_167 (by exact rfl) ?_
    refine z_iload_n dX1_addFrame_169 (by exact rfl) ?_
    refine z_cV dX1_addFrame_170 zk_X1_94 (by exact rfl) (by exact rfl) (by exact rfl) (Nat.le_of_ble_eq_true rfl) (Nat.le_of_ble_eq_true rfl) (Nat.le_refl _) ?_
    refine c_writeHeader (hset hF).1 hf2 ha16 hn hR1 (by rw [← e1]; omega) (fun D2 hR2 hf2 => ?_)
    rw [← e1] at hR2
    have hF2 := hF.tr (wA fAF_p (fun _ => rfl) hf2)
    refine z_aload_n dX1_addFrame_173 (by exact rfl) ?_
    refine z_gfA zfx_X1_12 (by exact rfl) dX1_addFrame_174 ?_
    refine z_bipush dX1_addFrame_177 ?_
    refine z_aload_n dX1_addFrame_179 (by exact rfl) ?_
    refine z_gfA zfx_X1_12 (by exact rfl) dX1_addFrame_180 ?_
    refine z_gfA zfx_X1_97 (by exact rfl) dX1_addFrame_183 ?_
    refine z_iload dX1_addFrame_186 (by exact rfl) ?_
    refine z_aload_n dX1_addFrame_188 (by exact rfl) ?_
    refine z_gfA zfx_X1_12 (by exact rfl) dX1_addFrame_189 ?_
    refine z_cV dX1_addFrame_192 zk_X1_91 (by exact rfl) (by exact rfl) (by exact rfl) (Nat.le_of_ble_eq_true rfl) (Nat.le_of_ble_eq_true rfl) (Nat.le_refl _) ?_
    refine c_size (at0 := s1.1) hR2.hat (by omega) ?_
    refine z_bipush dX1_addFrame_195 ?_
    refine z_bipush dX1_addFrame_197 ?_
    refine z_cN dX1_addFrame_199 zk_X1_101 rfl (by exact rfl) (Nat.le_of_ble_eq_true rfl) (Nat.le_of_ble_eq_true rfl) (Nat.le_refl _) ?_
    refine c_sum8 (w := 8) (n := 20000) (from0 := st.1 / 8) rfl (by omega) (.inl rfl) (by omega) (by omega) ?_
    refine z_i2l dX1_addFrame_202 ?_
    refine z_eJ (lI (crc 8 (crPoly 8) s1.2 (8 * (st.1 / 8)) (s1.1 - 8 * (st.1 / 8))).toInt) (pen_crc hR2 rfl l18.1 (by omega)) ?_
    refine z_cV dX1_addFrame_203 zk_X1_54 (by exact rfl) (by exact rfl) (by exact rfl) (Nat.le_of_ble_eq_true rfl) (Nat.le_of_ble_eq_true rfl) (Nat.le_refl _) ?_
    refine c_putW (w := 8) (by omega) (by show s1.1 + 8 ≤ 160000; omega) hR2 (fun D3 hR3 hf3 => ?_)
    have hR3 : penW D3 s2 := by
      rw [e2]
      exact hR3
    have hff := hf2.tr hf3
    refine z_iconst dX1_addFrame_206 ?_
    refine z_istore dX1_addFrame_207 (Nat.le_of_ble_eq_true rfl) ?_
    exact z_at [(0, .ref 5), (3, .int (nI n)), (5, .ref 2), (6, .int (nI asg)), (7, .int (nI (st.1 / 8))), (8, .int (nI 0))] ⟨rfl, rfl, rfl, rfl, rfl, rfl, trivial⟩ (subs ch 0 D3 s2 (by omega) hR3 e3.symm (hRw hff) (fun c' hc' => by omega) (fun i hi => (hff.1 9 i rfl).trans (h9 i)) (fun i => (hff.1 8 i rfl).trans (h8' i)) (hF2.tr (wA fAF_p (fun _ => rfl) hf3)))
  have chs : ∀ (m s : Nat) (D1 : zD), s + m = nR ch → (∀ s', s' < s → rdyS D1 S ch bits pr o first n (wI ch s')) → (∀ s', s ≤ s' → s' < nR ch → preS D1 S ch bits first n (wI ch s')) → penW D1 st → (∀ i, D1.1 9 i = D.1 9 i) → (∀ i, D1.1 8 i = D.1 8 i) → zfr (fun a k => fAF a k && !(a == 5)) D D1 → Z (zmk iX1_addFrame (d + 5)) 0 91 (zl [(0, .ref 5), (3, .int (nI n)), (5, .ref 2), (6, .int (nI s))]) [] D1 Q := by
    intro m
    induction m with
    | zero =>
      intro s D1 hm hrd hpre hR1 h9 h8' hF
      have hall : ∀ w, okRow ch w → rdyS D1 S ch bits pr o first n w := fun w hw => by
        obtain ⟨s', hs1, hs2⟩ := wI_of hc hw
        have := hrd s' (by omega)
        rw [hs2] at this
        exact this
      by_cases h2 : ch = 2
      · have hs4 : s = 4 := by
          have : nR ch = 4 := if_pos h2
          omega
        subst hs4
        refine z_iload dX1_addFrame_91 (by exact rfl) ?_
        refine z_aload_n dX1_addFrame_93 (by exact rfl) ?_
        refine z_gfI zfx_X1_22 (by exact rfl) dX1_addFrame_94 ?_
        refine z_eI (nI 2) (by rw [(hset hF).2.1, h2]) ?_
        refine z_iconst dX1_addFrame_97 ?_
        refine z_icmp_ne (tgt := 105) dX1_addFrame_98 (by decide) (fun q9 => absurd (rfl) q9) (fun _ => ?_)
        refine z_iconst dX1_addFrame_101 ?_
        refine z_goto (tgt := 109) dX1_addFrame_102 (by decide) ?_
        refine z_icmp_ge (tgt := 134) dX1_addFrame_109 (by decide) (fun _ => ?_) (fun q9 => absurd ((by decide)) q9)
        refine z_aload_n dX1_addFrame_134 (by exact rfl) ?_
        refine z_gfI zfx_X1_22 (by exact rfl) dX1_addFrame_135 ?_
        refine z_eI (nI 2) (by rw [(hset hF).2.1, h2]) ?_
        refine z_iconst dX1_addFrame_138 ?_
        refine z_icmp_ne (tgt := 149) dX1_addFrame_139 (by decide) (fun q9 => absurd (rfl) q9) (fun _ => ?_)
        refine z_aload_n dX1_addFrame_142 (by exact rfl) ?_
        refine z_cV dX1_addFrame_143 zk_X1_87 (by exact rfl) (by exact rfl) (by exact rfl) (Nat.le_of_ble_eq_true rfl) (Nat.le_of_ble_eq_true rfl) (Nat.le_refl _) ?_
        refine c_shortest (S := S) (bits := bits) (pr := pr) (o := o) (first := first) (n := n) (by have := hall 0 (.inl (by omega)); rw [h2] at this; exact this) (by have := hall 1 (.inl (by omega)); rw [h2] at this; exact this) (by have := hall 8 (.inr ⟨h2, .inl rfl⟩); rw [h2] at this; exact this) (by have := hall 9 (.inr ⟨h2, .inr rfl⟩); rw [h2] at this; exact this) ?_
        refine z_eI (nI asg) (by rw [easg, h2]) ?_
        refine z_goto (tgt := 155) dX1_addFrame_146 (by decide) ?_
        refine z_istore dX1_addFrame_155 (Nat.le_of_ble_eq_true rfl) ?_
        exact z_at [(0, .ref 5), (3, .int (nI n)), (5, .ref 2), (6, .int (nI asg))] ⟨rfl, rfl, rfl, rfl, trivial⟩ (t157 D1 hall hR1 h9 h8' hF)
      · have hs4 : s = ch := by
          have : nR ch = ch := if_neg h2
          omega
        subst hs4
        have hne : ¬ nI s = nI 2 := fun q => h2 ((nI_eq (by omega) (by omega)).mp q)
        refine z_iload dX1_addFrame_91 (by exact rfl) ?_
        refine z_aload_n dX1_addFrame_93 (by exact rfl) ?_
        refine z_gfI zfx_X1_22 (by exact rfl) dX1_addFrame_94 ?_
        refine z_eI (nI s) (hset hF).2.1 ?_
        refine z_iconst dX1_addFrame_97 ?_
        refine z_icmp_ne (tgt := 105) dX1_addFrame_98 (by decide) (fun _ => ?_) (fun q9 => absurd q9 (hne))
        refine z_aload_n dX1_addFrame_105 (by exact rfl) ?_
        refine z_gfI zfx_X1_22 (by exact rfl) dX1_addFrame_106 ?_
        refine z_eI (nI s) (hset hF).2.1 ?_
        refine z_icmp_ge (tgt := 134) dX1_addFrame_109 (by decide) (fun _ => ?_) (fun q9 => absurd ((nI_le (Nat.le_refl _) (by omega))) q9)
        refine z_aload_n dX1_addFrame_134 (by exact rfl) ?_
        refine z_gfI zfx_X1_22 (by exact rfl) dX1_addFrame_135 ?_
        refine z_eI (nI s) (hset hF).2.1 ?_
        refine z_iconst dX1_addFrame_138 ?_
        refine z_icmp_ne (tgt := 149) dX1_addFrame_139 (by decide) (fun _ => ?_) (fun q9 => absurd q9 (hne))
        refine z_aload_n dX1_addFrame_149 (by exact rfl) ?_
        refine z_gfI zfx_X1_22 (by exact rfl) dX1_addFrame_150 ?_
        refine z_eI (nI s) (hset hF).2.1 ?_
        refine z_iconst dX1_addFrame_153 ?_
        refine z_isub dX1_addFrame_154 ?_
        refine z_eI (nI asg) (by
          rw [show nI s - Int32.ofInt 1 = nI (s - 1) from pk_sub (a := s) (b := 1) hc.1, easg]
          unfold asgW
          rw [if_neg h2]) ?_
        refine z_istore dX1_addFrame_155 (Nat.le_of_ble_eq_true rfl) ?_
        exact z_at [(0, .ref 5), (3, .int (nI n)), (5, .ref 2), (6, .int (nI asg))] ⟨rfl, rfl, rfl, rfl, trivial⟩ (t157 D1 hall hR1 h9 h8' hF)
    | succ m ih =>
      intro s D1 hm hrd hpre hR1 h9 h8' hF
      obtain ⟨w1, w2, w3⟩ := wI_ok hc.2 (show s < nR ch by omega)
      have hin := rw_in hb.1 hc.2 w1 hSin
      obtain ⟨p1, p2, p3⟩ := hpre s (Nat.le_refl _) (by omega)
      have hX := isSf_at (sfI (wI ch s)) (by omega)
      have hXl := hX.2.2.2
      have tl : Z (zmk iX1_addFrame (d + 5)) 0 112 (zl [(0, .ref 5), (3, .int (nI n)), (5, .ref 2), (6, .int (nI s))]) [] D1 Q := by
        refine z_aload_n dX1_addFrame_112 (by exact rfl) ?_
        refine z_gfA zfx_X1_35 (by exact rfl) dX1_addFrame_113 ?_
        refine z_aload_n dX1_addFrame_116 (by exact rfl) ?_
        refine z_gfA zfx_X1_41 (by exact rfl) dX1_addFrame_117 ?_
        refine z_iload dX1_addFrame_120 (by exact rfl) ?_
        refine z_sfld w3 dX1_addFrame_122 ?_
        refine z_aload dX1_addFrame_123 (by exact rfl) ?_
        refine z_cV dX1_addFrame_125 zk_X1_83 (by exact rfl) (by exact rfl) (by exact rfl) (Nat.le_of_ble_eq_true rfl) (Nat.le_of_ble_eq_true rfl) (Nat.le_refl _) ?_
        refine (show ZM yX0_choose iX0_choose (d + 4) [.ref 10, .ref (21 + 2 * s), .ref 2] D1 _ from by
          rw [show 21 + 2 * s = 21 + 2 * sfI (wI ch s) by rw [w2]]
          refine c_choose hX hn (bW_le hb) p1 p2 p3 hin (hset hF).2.2.2 hsh ho (fun D2 g1 g2 g3 g4 hf2 => ?_)
          rw [← epr] at g4
          rw [w2] at hf2
          rw [w2] at hXl
          have oth : ∀ s', s' < nR ch → ¬ s' = s → ∀ k, fCh (21 + 2 * s) (21 + 2 * sfI (wI ch s')) k = false ∧ fCh (21 + 2 * s) (21 + 2 * sfI (wI ch s') + 1) k = false := fun s' h1 h2 k => by
            have := (wI_ok hc.2 h1).2.1
            rw [this]
            unfold fCh
            simp
            omega
          have hF2 := hF.tr (wA (fAF_ch hXl) (fun k => by unfold fCh; simp; omega) hf2)
          have z2 : ∀ {F : Nat → Nat → Bool} {a : Nat}, a < 10 → ∀ k, fCh (21 + 2 * s) a k = false := fun h k => by
            unfold fCh
            simp
            omega
          refine (show Z (zmk iX1_addFrame (d + 5)) 0 128 _ [] D2 Q from ?_)
          refine z_at [(0, .ref 5), (3, .int (nI n)), (5, .ref 2), (6, .int (nI s))] ⟨rfl, rfl, rfl, rfl, trivial⟩ ?_
          refine z_iinc dX1_addFrame_128 (by exact rfl) ?_
          refine z_at [(0, .ref 5), (3, .int (nI n)), (5, .ref 2), (6, .int (nI (s + 1)))] ⟨rfl, rfl, rfl, congrArg (fun x => some (Value.int x)) (nI_1 s), trivial⟩ ?_
          refine z_goto (tgt := 91) dX1_addFrame_131 (by decide) ?_
          exact ih (s + 1) D2 (by omega) (fun s' hs' => by
            obtain e9 | e9 : s' = s ∨ s' < s := by omega
            · subst e9
              exact ⟨g1, g2, g3, g4⟩
            · exact (hrd s' e9).fr hf2 (fun k => (oth s' (by omega) (by omega) k).1) (fun k => (oth s' (by omega) (by omega) k).2)) (fun s' h1 h2 => (hpre s' (by omega) h2).fr hf2 (fun k => (oth s' h2 (by omega) k).1) (fun k => (oth s' h2 (by omega) k).2)) (hR1.fr hf2 (z2 (F := fAF) (by omega)) (z2 (F := fAF) (by omega))) (fun i => (hf2.1 9 i (z2 (F := fAF) (by omega) i)).trans (h9 i)) (fun i => (hf2.1 8 i (z2 (F := fAF) (by omega) i)).trans (h8' i)) hF2
          )
        skip
      by_cases h2 : ch = 2
      · have hs4 : s < 4 := by
          have : nR ch = 4 := if_pos h2
          omega
        refine z_iload dX1_addFrame_91 (by exact rfl) ?_
        refine z_aload_n dX1_addFrame_93 (by exact rfl) ?_
        refine z_gfI zfx_X1_22 (by exact rfl) dX1_addFrame_94 ?_
        refine z_eI (nI 2) (by rw [(hset hF).2.1, h2]) ?_
        refine z_iconst dX1_addFrame_97 ?_
        refine z_icmp_ne (tgt := 105) dX1_addFrame_98 (by decide) (fun q9 => absurd (rfl) q9) (fun _ => ?_)
        refine z_iconst dX1_addFrame_101 ?_
        refine z_goto (tgt := 109) dX1_addFrame_102 (by decide) ?_
        refine z_icmp_ge (tgt := 134) dX1_addFrame_109 (by decide) (fun q9 => absurd q9 ((nI_ge (a := s) (b := 4) (by omega) (by omega)))) (fun _ => ?_)
        exact tl
      · have hs4 : s < ch := by
          have : nR ch = ch := if_neg h2
          omega
        have hne : ¬ nI ch = nI 2 := fun q => h2 ((nI_eq (by omega) (by omega)).mp q)
        refine z_iload dX1_addFrame_91 (by exact rfl) ?_
        refine z_aload_n dX1_addFrame_93 (by exact rfl) ?_
        refine z_gfI zfx_X1_22 (by exact rfl) dX1_addFrame_94 ?_
        refine z_eI (nI ch) (hset hF).2.1 ?_
        refine z_iconst dX1_addFrame_97 ?_
        refine z_icmp_ne (tgt := 105) dX1_addFrame_98 (by decide) (fun _ => ?_) (fun q9 => absurd q9 (hne))
        refine z_aload_n dX1_addFrame_105 (by exact rfl) ?_
        refine z_gfI zfx_X1_22 (by exact rfl) dX1_addFrame_106 ?_
        refine z_eI (nI ch) (hset hF).2.1 ?_
        refine z_icmp_ge (tgt := 134) dX1_addFrame_109 (by decide) (fun q9 => absurd q9 ((nI_ge (a := s) (b := ch) (by omega) (by omega)))) (fun _ => ?_)
        exact tl
  have erw : ∀ c j, c < ch → rwW S ch first c j = S ((first + j) * ch + c) := fun c j h => by
    unfold rwW
    rw [if_neg (by omega), if_neg (by omega)]
  have ebw : ∀ c, c < ch → bW bits c = bits ∧ sfI c = c := fun c h => by
    unfold bW sfI
    rw [if_neg (by omega), if_neg (by omega), if_neg (by omega)]
    exact ⟨rfl, rfl⟩
  have idx : ∀ c j, c < ch → j < n → (first + j) * ch + c < (first + n) * ch := fun c j h1 h2 => by
    have : (first + j + 1) * ch ≤ (first + n) * ch := Nat.mul_le_mul_right _ (by omega)
    rw [Nat.succ_mul] at this
    omega
  have smS : ∀ c j, c < ch → j < n → smI (S ((first + j) * ch + c)) := fun c j h1 h2 => inB_le (B := 24) (hSin _ (idx c j h1 h2)) (by omega)
  have inner : ∀ (c : Nat), c < ch → (∀ (D1 : zD), (∀ c', c' < c + 1 → preS D1 S ch bits first n c') → penW D1 st → (∀ i, D1.1 9 i = D.1 9 i) → (∀ i, D1.1 8 i = D.1 8 i) → zfr (fun a k => fAF a k && !(a == 5)) D D1 → Z (zmk iX1_addFrame (d + 5)) 0 67 (zl [(0, .ref 5), (1, .ref 4), (2, .int (nI first)), (3, .int (nI n)), (4, .int (nI bits)), (5, .ref 2), (6, .int (nI c))]) [] D1 Q) →
      ∀ (m i : Nat) (D1 : zD), i + m = n → (∀ c', c' < c → preS D1 S ch bits first n c') → sf7 D1 (21 + 2 * c) n bits 0 → sfW D1 (21 + 2 * c) 0 none → (∀ j, j < i → D1.1 (21 + 2 * c + 1) j = iI (S ((first + j) * ch + c))) → penW D1 st → (∀ i, D1.1 9 i = D.1 9 i) → (∀ i, D1.1 8 i = D.1 8 i) → zfr (fun a k => fAF a k && !(a == 5)) D D1 → Z (zmk iX1_addFrame (d + 5)) 0 28 (zl [(0, .ref 5), (1, .ref 4), (2, .int (nI first)), (3, .int (nI n)), (4, .int (nI bits)), (5, .ref 2), (6, .int (nI c)), (7, .int (nI i))]) [] D1 Q := by
    intro c hcc next m
    obtain ⟨⟨x0, x1, x2, x3, x4, x5, x6⟩, hr, ⟨fl, hfl⟩, hl⟩ := isSf_at c (by omega)
    induction m with
    | zero =>
      intro i D1 hi hpre g1 g2 g3 hR1 h9 h8' hF
      have hi : i = n := by omega
      subst hi
      refine z_iload dX1_addFrame_28 (by exact rfl) ?_
      refine z_iload_n dX1_addFrame_30 (by exact rfl) ?_
      refine z_icmp_ge (tgt := 67) dX1_addFrame_31 (by decide) (fun _ => ?_) (fun q9 => absurd ((nI_le (Nat.le_refl _) (by omega))) q9)
      exact z_at [(0, .ref 5), (1, .ref 4), (2, .int (nI first)), (3, .int (nI i)), (4, .int (nI bits)), (5, .ref 2), (6, .int (nI c))] ⟨rfl, rfl, rfl, rfl, rfl, rfl, rfl, trivial⟩ (next D1 (fun c' hc' => by
        obtain e9 | e9 : c' = c ∨ c' < c := by omega
        · subst e9
          unfold preS
          rw [(ebw c' hcc).1, (ebw c' hcc).2]
          exact ⟨g1, g2, fun j hj => by
            rw [erw c' j hcc]
            exact ⟨g3 j hj, smS c' j hcc hj⟩⟩
        · exact hpre c' e9) hR1 h9 h8' hF)
    | succ m ih =>
      intro i D1 hi hpre g1 g2 g3 hR1 h9 h8' hF
      have hix := idx c i hcc (by omega)
      refine z_iload dX1_addFrame_28 (by exact rfl) ?_
      refine z_iload_n dX1_addFrame_30 (by exact rfl) ?_
      refine z_icmp_ge (tgt := 67) dX1_addFrame_31 (by decide) (fun q9 => absurd q9 ((nI_ge (a := i) (b := n) (by omega) (by omega)))) (fun _ => ?_)
      refine z_aload_n dX1_addFrame_34 (by exact rfl) ?_
      refine z_gfA zfx_X1_41 (by exact rfl) dX1_addFrame_35 ?_
      refine z_iload dX1_addFrame_38 (by exact rfl) ?_
      refine z_sfld (by omega) dX1_addFrame_40 ?_
      refine z_gfA zfx_X1_77 x0 dX1_addFrame_41 ?_
      refine z_iload dX1_addFrame_44 (by exact rfl) ?_
      refine z_aload_n dX1_addFrame_46 (by exact rfl) ?_
      refine z_iload_n dX1_addFrame_47 (by exact rfl) ?_
      refine z_iload dX1_addFrame_48 (by exact rfl) ?_
      refine z_iadd dX1_addFrame_50 ?_
      refine z_eI (nI (first + i)) (nI_add _ _) ?_
      refine z_aload_n dX1_addFrame_51 (by exact rfl) ?_
      refine z_gfI zfx_X1_22 (by exact rfl) dX1_addFrame_52 ?_
      refine z_eI (nI ch) (hset hF).2.1 ?_
      refine z_imul dX1_addFrame_55 ?_
      refine z_iload dX1_addFrame_56 (by exact rfl) ?_
      refine z_iadd dX1_addFrame_58 ?_
      refine z_eI (nI ((first + i) * ch + c)) (by rw [pk_mul, nI_add]) ?_
      refine z_aI (by exact rfl) dX1_addFrame_59 (vp_in_nI (by omega) (by omega)) ?_
      refine z_eI (iI (S ((first + i) * ch + c))) (by
        rw [nI_clamp (n := (first + i) * ch + c) (by omega)]
        exact (hset hF).2.2.1 _ hix) ?_
      refine z_sI hr dX1_addFrame_60 (vp_in_nI (by omega) (by omega)) ?_
      rw [nI_clamp (n := i) (by omega)]
      refine z_iinc dX1_addFrame_61 (by exact rfl) ?_
      refine z_at [(0, .ref 5), (1, .ref 4), (2, .int (nI first)), (3, .int (nI n)), (4, .int (nI bits)), (5, .ref 2), (6, .int (nI c)), (7, .int (nI (i + 1)))] ⟨rfl, rfl, rfl, rfl, rfl, rfl, rfl, congrArg (fun x => some (Value.int x)) (nI_1 i), trivial⟩ ?_
      refine z_goto (tgt := 28) dX1_addFrame_64 (by decide) ?_
      exact (by
        have hf9 : ∀ (v : Int32), zfr (fun a k => a == 21 + 2 * c + 1) D1 (zuI D1 (21 + 2 * c + 1) i v) := fun v => zfr.rf.uI v (by simp)
        refine ih (i + 1) _ (by omega) (fun c' hc' => (hpre c' hc').fr (hf9 _) (fun k => by
          rw [(ebw c' (by omega)).2]
          simp
          omega) (fun k => by
          rw [(ebw c' (by omega)).2]
          simp
          omega)) (g1.fr (hf9 _) (fun k _ => by simp)) (g2.fr (hf9 _) (fun k => by simp)) (fun j hj => ?_) (hR1.fr (hf9 _) (fun k => by simp; omega) (fun k => by simp; omega)) (fun i => ((hf9 _).1 9 i (by simp; omega)).trans (h9 i)) (fun i => ((hf9 _).1 8 i (by simp; omega)).trans (h8' i)) (hF.tr ((hf9 _).wk (fun a k q => by
          unfold fAF at q
          simp at q ⊢
          omega)))
        obtain q | q : j = i ∨ j < i := by omega
        · subst q
          exact zuI_at _ _ _ _
        · rw [zuI_ne (by omega)]
          exact g3 j q)
  have outer : ∀ (m c : Nat) (D1 : zD), c + m = ch → (∀ c', c' < c → preS D1 S ch bits first n c') → penW D1 st → (∀ i, D1.1 9 i = D.1 9 i) → (∀ i, D1.1 8 i = D.1 8 i) → zfr (fun a k => fAF a k && !(a == 5)) D D1 → Z (zmk iX1_addFrame (d + 5)) 0 3 (zl [(0, .ref 5), (1, .ref 4), (2, .int (nI first)), (3, .int (nI n)), (4, .int (nI bits)), (5, .ref 2), (6, .int (nI c))]) [] D1 Q := by
    intro m
    induction m with
    | zero =>
      intro c D1 hm hpre hR1 h9 h8' hF
      have hm : c = ch := by omega
      subst hm
      by_cases h2 : c = 2
      · subst h2
        obtain ⟨p1, p2, p3⟩ := hpre 0 (by omega)
        obtain ⟨r1, r2, r3⟩ := hpre 1 (by omega)
        refine z_iload dX1_addFrame_3 (by exact rfl) ?_
        refine z_aload_n dX1_addFrame_5 (by exact rfl) ?_
        refine z_gfI zfx_X1_22 (by exact rfl) dX1_addFrame_6 ?_
        refine z_eI (nI 2) (hset hF).2.1 ?_
        refine z_icmp_ge (tgt := 73) dX1_addFrame_9 (by decide) (fun _ => ?_) (fun q9 => absurd ((by decide)) q9)
        refine z_aload_n dX1_addFrame_73 (by exact rfl) ?_
        refine z_gfI zfx_X1_22 (by exact rfl) dX1_addFrame_74 ?_
        refine z_eI (nI 2) (hset hF).2.1 ?_
        refine z_iconst dX1_addFrame_77 ?_
        refine z_icmp_ne (tgt := 88) dX1_addFrame_78 (by decide) (fun q9 => absurd (rfl) q9) (fun _ => ?_)
        refine z_aload_n dX1_addFrame_81 (by exact rfl) ?_
        refine z_iload_n dX1_addFrame_82 (by exact rfl) ?_
        refine z_iload dX1_addFrame_83 (by exact rfl) ?_
        refine z_cV dX1_addFrame_85 zk_X1_80 (by exact rfl) (by exact rfl) (by exact rfl) (Nat.le_of_ble_eq_true rfl) (Nat.le_of_ble_eq_true rfl) (Nat.le_refl _) ?_
        refine c_fillSideAndMiddle (a := rwW S 2 first 0) (b := rwW S 2 first 1) hn.2 p3 r3 (fun D2 g1 g2 g3 g4 g5 g6 hf2 => ?_)
        have hin8 := rw_in hb.1 hc.2 (.inr ⟨rfl, .inl rfl⟩ : okRow 2 8) hSin
        have hin9 := rw_in hb.1 hc.2 (.inr ⟨rfl, .inr rfl⟩ : okRow 2 9) hSin
        refine z_iconst dX1_addFrame_88 ?_
        refine z_istore dX1_addFrame_89 (Nat.le_of_ble_eq_true rfl) ?_
        exact z_at [(0, .ref 5), (3, .int (nI n)), (5, .ref 2), (6, .int (nI 0))] ⟨rfl, rfl, rfl, rfl, trivial⟩ (chs (nR 2) 0 D2 (by omega) (fun s' hs' => by omega) (fun s' _ hs' => by
          have hs' : s' < 4 := hs'
          obtain e | e | e | e : s' = 0 ∨ s' = 1 ∨ s' = 2 ∨ s' = 3 := by omega
          · subst e
            exact (hpre 0 (by omega)).fr hf2 (fun _ => rfl) (fun _ => rfl)
          · subst e
            exact (hpre 1 (by omega)).fr hf2 (fun _ => rfl) (fun _ => rfl)
          · subst e
            exact ⟨g1, g2, fun i hi => ⟨g5 i hi, inB_le (B := 24) (hin8 i hi) (by have : bW bits 8 = bits + 1 := rfl; omega)⟩⟩
          · subst e
            exact ⟨g3, g4, fun i hi => ⟨g6 i hi, inB_le (B := 24) (hin9 i hi) (by have : bW bits 9 = bits := rfl; omega)⟩⟩) (hR1.fr hf2 (fun _ => rfl) (fun _ => rfl)) (fun i => (hf2.1 9 i rfl).trans (h9 i)) (fun i => (hf2.1 8 i rfl).trans (h8' i)) (hF.tr (wA fAF_sm (fun _ => rfl) hf2)))
      · have hne : ¬ nI c = nI 2 := fun q => h2 ((nI_eq (by omega) (by omega)).mp q)
        refine z_iload dX1_addFrame_3 (by exact rfl) ?_
        refine z_aload_n dX1_addFrame_5 (by exact rfl) ?_
        refine z_gfI zfx_X1_22 (by exact rfl) dX1_addFrame_6 ?_
        refine z_eI (nI c) (hset hF).2.1 ?_
        refine z_icmp_ge (tgt := 73) dX1_addFrame_9 (by decide) (fun _ => ?_) (fun q9 => absurd ((nI_le (Nat.le_refl _) (by omega))) q9)
        refine z_aload_n dX1_addFrame_73 (by exact rfl) ?_
        refine z_gfI zfx_X1_22 (by exact rfl) dX1_addFrame_74 ?_
        refine z_eI (nI c) (hset hF).2.1 ?_
        refine z_iconst dX1_addFrame_77 ?_
        refine z_icmp_ne (tgt := 88) dX1_addFrame_78 (by decide) (fun _ => ?_) (fun q9 => absurd q9 (hne))
        refine z_iconst dX1_addFrame_88 ?_
        refine z_istore dX1_addFrame_89 (Nat.le_of_ble_eq_true rfl) ?_
        exact z_at [(0, .ref 5), (3, .int (nI n)), (5, .ref 2), (6, .int (nI 0))] ⟨rfl, rfl, rfl, rfl, trivial⟩ (chs (nR c) 0 D1 (by omega) (fun s' hs' => by omega) (fun s' _ hs' => by
          have hs2 : s' < c := by
            have : nR c = c := if_neg h2
            omega
          rw [wI_lt hs2]
          exact hpre s' hs2) hR1 h9 h8' hF)
    | succ m ih =>
      intro c D1 hm hpre hR1 h9 h8' hF
      have hcc : c < ch := by omega
      have hX := isSf_at c (by omega)
      have hXl := hX.2.2.2
      obtain ⟨fl, hfl⟩ := hX.2.2.1
      refine z_iload dX1_addFrame_3 (by exact rfl) ?_
      refine z_aload_n dX1_addFrame_5 (by exact rfl) ?_
      refine z_gfI zfx_X1_22 (by exact rfl) dX1_addFrame_6 ?_
      refine z_eI (nI ch) (hset hF).2.1 ?_
      refine z_icmp_ge (tgt := 73) dX1_addFrame_9 (by decide) (fun q9 => absurd q9 ((nI_ge (a := c) (b := ch) (by omega) (by omega)))) (fun _ => ?_)
      refine z_aload_n dX1_addFrame_12 (by exact rfl) ?_
      refine z_gfA zfx_X1_41 (by exact rfl) dX1_addFrame_13 ?_
      refine z_iload dX1_addFrame_16 (by exact rfl) ?_
      refine z_sfld (by omega) dX1_addFrame_18 ?_
      refine z_iload_n dX1_addFrame_19 (by exact rfl) ?_
      refine z_iload dX1_addFrame_20 (by exact rfl) ?_
      refine z_cV dX1_addFrame_22 zk_X1_73 (by exact rfl) hfl (by exact rfl) (Nat.le_of_ble_eq_true rfl) (Nat.le_of_ble_eq_true rfl) (Nat.le_refl _) ?_
      refine c_begin7 hX (fun D2 g1 g2 hf2 => ?_)
      have sf : ∀ {a k : Nat}, ¬ a = 21 + 2 * c → fSf (21 + 2 * c) a k = false := fun h => fSf_n h
      refine z_iconst dX1_addFrame_25 ?_
      refine z_istore dX1_addFrame_26 (Nat.le_of_ble_eq_true rfl) ?_
      exact z_at [(0, .ref 5), (1, .ref 4), (2, .int (nI first)), (3, .int (nI n)), (4, .int (nI bits)), (5, .ref 2), (6, .int (nI c)), (7, .int (nI 0))] ⟨rfl, rfl, rfl, rfl, rfl, rfl, rfl, rfl, trivial⟩ (inner c hcc (fun D3 k1 k2 k3 k4 hF3 => by
        refine z_iinc dX1_addFrame_67 (by exact rfl) ?_
        refine z_at [(0, .ref 5), (1, .ref 4), (2, .int (nI first)), (3, .int (nI n)), (4, .int (nI bits)), (5, .ref 2), (6, .int (nI (c + 1)))] ⟨rfl, rfl, rfl, rfl, rfl, rfl, congrArg (fun x => some (Value.int x)) (nI_1 c), trivial⟩ ?_
        refine z_goto (tgt := 3) dX1_addFrame_70 (by decide) ?_
        exact ih (c + 1) D3 (by omega) k1 k2 k3 k4 hF3
        ) n 0 D2 (by omega) (fun c' hc' => (hpre c' hc').fr hf2 (fun k => sf (by rw [(ebw c' (by omega)).2]; omega)) (fun k => sf (by rw [(ebw c' (by omega)).2]; omega))) g1 g2 (fun j hj => by omega) (hR1.fr hf2 (fun k => sf (by omega)) (fun k => sf (by omega))) (fun i => (hf2.1 9 i (sf (by omega))).trans (h9 i)) (fun i => (hf2.1 8 i (sf (by omega))).trans (h8' i)) (hF.tr (wA (fAF_sf hXl) (fun k => sf (by omega)) hf2)))
  refine z_iconst dX1_addFrame_0 ?_
  refine z_istore dX1_addFrame_1 (Nat.le_of_ble_eq_true rfl) ?_
  exact z_at [(0, .ref 5), (1, .ref 4), (2, .int (nI first)), (3, .int (nI n)), (4, .int (nI bits)), (5, .ref 2), (6, .int (nI 0))] ⟨rfl, rfl, rfl, rfl, rfl, rfl, rfl, trivial⟩ (outer ch 0 D (by omega) (fun c' hc' => by omega) hR (fun _ => rfl) (fun _ => rfl) zfr.rf)
