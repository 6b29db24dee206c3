/-! ===== the reference's readRow ===== -/
theorem q_ix {c i : Nat} : (Int16.ofInt 256).toInt32 * nI c + nI i = nI (256 * c + i) := by
  rw [show (Int16.ofInt 256).toInt32 = nI 256 from rfl, pk_mul, nI_add]
theorem q_ix0 {c : Nat} : (Int16.ofInt 256).toInt32 * nI c = nI (256 * c) := by
  rw [show (Int16.ofInt 256).toInt32 = nI 256 from rfl, pk_mul]
theorem kType_i {n t : Nat} (ht : t < 64) : (kType n t = 0 ∧ okT t ∧ ordN t ≤ n) ∨ (kType n t = 2 ∧ ¬ (okT t ∧ ordN t ≤ n)) := by
  unfold kType okT ordN
  split
  next h =>
    left
    refine ⟨rfl, by omega, ?_⟩
    split
    · omega
    · split <;> omega
  next h =>
    right
    refine ⟨rfl, fun q => h ?_⟩
    obtain ⟨q1, q2⟩ := q
    split at q2
    · omega
    · split at q2 <;> omega
theorem c_readRow {β : Type} {d0 c n b sz : Nat} {D : zD} {T : Nat → Bool} {Q : zQ} {K : zRow → RS β} {sp : RT β} {P : Prop} (hsz : sz ≤ 20000) (hc : c < 8) (hn : 1 ≤ n ∧ n ≤ 256) (hb : 4 ≤ b ∧ b ≤ 25) (h : rs9 D T sz (rbind (sSub T (8 * sz) n b) K) sp P)
    (hq : ∀ D' a, rs9 D' T sz (K a) sp (P ∧ row9 D' c a n) → zfr (fL9 c) D D' → Q (.inl none) 0 D') : ZM yX9_readRow iX9_readRow (d0 + 5) [.ref 19, .int (nI c), .int (nI n), .int (nI b)] D Q := by
  refine z_method (by decide) rfl (Nat.le_of_ble_eq_true rfl) ?_
  refine z_at [(0, .ref 19), (1, .int (nI c)), (2, .int (nI n)), (3, .int (nI b))] ⟨rfl, rfl, rfl, rfl, trivial⟩ ?_
  have wk : ∀ {X Y : zD}, zfr f9 X Y → zfr (fL9 c) X Y := fun h => h.wk (fL9_9 c)
  have f64 : ∀ {X : zD} {i : Nat} {x : Int64}, i < 256 → zfr (fL9 c) X (zuL X 64 (256 * c + i) x) := fun hi => zfr.rf.uL _ (fL9_n hi)
  -- the last loop
  have l3 : ∀ (t w : Nat), w < b → ∀ (a : zRow) (m i : Nat) (D1 : zD), i + m = n → rs9 D1 T sz (K (fun i => a i * 2 ^ w)) sp (P ∧ allB (b - w) n a ∧ ∀ j, j < n → D1.2 64 (256 * c + j) = lI (if j < i then a j * 2 ^ w else a j)) → zfr (fL9 c) D D1 → Z (zmk iX9_readRow (d0 + 5)) 0 289 (zl [(0, .ref 19), (1, .int (nI c)), (2, .int (nI n)), (10, .long (lN w)), (14, .int (nI i))]) [] D1 Q := by
    intro t w hw a m
    induction m with
    | zero =>
      intro i D1 hi h1 hF
      have hi : i = n := by omega
      subst hi
      refine z_iload dX9_readRow_289 (by exact rfl) ?_
      refine z_iload_n dX9_readRow_291 (by exact rfl) ?_
      refine z_icmp_ge (tgt := 320) dX9_readRow_292 (by decide) (fun _ => ?_) (fun q9 => absurd ((nI_le (Nat.le_refl _) (by omega))) q9)
      exact z_vret (st := []) rfl dX9_readRow_320 (hq D1 _ (h1.mp (fun _ hp => ⟨hp.1, fun j hj => ⟨by rw [hp.2.2 j hj, if_pos hj], inB_le (B := 24) (inB_shl hw (hp.2.1 j hj)) (by omega)⟩⟩)) hF)
    | succ m ih =>
      intro i D1 hi h1 hF
      have cli : (nI (256 * c + i)).toNatClampNeg = 256 * c + i := nI_clamp (by omega)
      refine z_iload dX9_readRow_289 (by exact rfl) ?_
      refine z_iload_n dX9_readRow_291 (by exact rfl) ?_
      refine z_icmp_ge (tgt := 320) dX9_readRow_292 (by decide) (fun q9 => absurd q9 ((nI_ge (a := i) (b := n) (by omega) (by omega)))) (fun _ => ?_)
      refine z_aload_n dX9_readRow_295 (by exact rfl) ?_
      refine z_gfA zfx_X9_64 (by exact rfl) dX9_readRow_296 ?_
      refine z_sipush dX9_readRow_299 ?_
      refine z_iload_n dX9_readRow_302 (by exact rfl) ?_
      refine z_imul dX9_readRow_303 ?_
      refine z_iload dX9_readRow_304 (by exact rfl) ?_
      refine z_iadd dX9_readRow_306 ?_
      refine z_eI (nI (256 * c + i)) q_ix ?_
      refine z_dup2 dX9_readRow_307 (by exact rfl) (by exact rfl) ?_
      refine z_aJ (by exact rfl) dX9_readRow_308 (vp_in_nI (by omega) (by omega)) ?_
      rw [cli]
      refine z_lload dX9_readRow_309 (by exact rfl) ?_
      refine z_l2i dX9_readRow_311 ?_
      refine z_eI (nI w) (lN_i w) ?_
      refine z_lshl dX9_readRow_312 ?_
      refine z_sJ (by exact rfl) dX9_readRow_313 (vp_in_nI (by omega) (by omega)) ?_
      rw [cli]
      refine z_iinc dX9_readRow_314 (by exact rfl) ?_
      refine z_at [(0, .ref 19), (1, .int (nI c)), (2, .int (nI n)), (10, .long (lN w)), (14, .int (nI (i + 1)))] ⟨rfl, rfl, rfl, rfl, congrArg (fun x => some (Value.int x)) (nI_1 i), trivial⟩ ?_
      refine z_goto (tgt := 289) dX9_readRow_317 (by decide) ?_
      exact ih (i + 1) _ (by omega) ((h1.fr (F := fun a _ => a == 64) (zfr.rf.uL _ rfl) rfl rfl rfl rfl (fun _ => rfl)).mp (fun _ hp => ⟨hp.1, hp.2.1, fun j hj => by
        by_cases e : j = i
        · subst e
          have h9 := hp.2.2 j hj
          rw [if_neg (by omega)] at h9
          rw [zuL_at, if_pos (by omega), h9, lI_shl (by omega)]
        · rw [zuL_ne (by omega), hp.2.2 j hj]
          by_cases h9 : j < i
          · rw [if_pos h9, if_pos (by omega)]
          · rw [if_neg h9, if_neg (by omega)]⟩)) (hF.tr (f64 (by omega)))
  have l30 : ∀ (t w : Nat), w < b → ∀ (a : zRow) (D1 : zD), rs9 D1 T sz (K (fun i => a i * 2 ^ w)) sp (P ∧ rowB D1 (b - w) c a n) → zfr (fL9 c) D D1 → Z (zmk iX9_readRow (d0 + 5)) 0 286 (zl [(0, .ref 19), (1, .int (nI c)), (2, .int (nI n)), (10, .long (lN w))]) [] D1 Q := by
    intro t w hw a D1 h1 hF
    refine z_iconst dX9_readRow_286 ?_
    refine z_istore dX9_readRow_287 (Nat.le_of_ble_eq_true rfl) ?_
    exact z_at [(0, .ref 19), (1, .int (nI c)), (2, .int (nI n)), (10, .long (lN w)), (14, .int (nI 0))] ⟨rfl, rfl, rfl, rfl, rfl, trivial⟩ (l3 t w hw a n 0 D1 (by omega) (h1.mp (fun _ hp => ⟨hp.1, fun j hj => (hp.2 j hj).2, fun j hj => by rw [if_neg (by omega)]; exact (hp.2 j hj).1⟩)) hF)
  -- the plain numbers
  have l1 : ∀ (t w d plain : Nat), d = b - w → w < b → plain ≤ 256 → ∀ (G : zRow → RS β),
      (∀ (D1 : zD) (a : zRow), rs9 D1 T sz (G a) sp P → rowB D1 d c a plain → zfr (fL9 c) D D1 → Z (zmk iX9_readRow (d0 + 5)) 0 226 (zl [(0, .ref 19), (1, .int (nI c)), (2, .int (nI n)), (8, .int (nI t)), (10, .long (lN w)), (12, .int (nI d))]) [] D1 Q) →
      ∀ (m i : Nat) (D1 : zD) (a : zRow), i + m = plain → rs9 D1 T sz (rbind (sNums T (8 * sz) d i m a) G) sp P → rowB D1 d c a i → zfr (fL9 c) D D1 → Z (zmk iX9_readRow (d0 + 5)) 0 194 (zl [(0, .ref 19), (1, .int (nI c)), (2, .int (nI n)), (8, .int (nI t)), (10, .long (lN w)), (12, .int (nI d)), (13, .int (nI plain)), (14, .int (nI i))]) [] D1 Q := by
    intro t w d plain hd hw hpl G next m
    induction m with
    | zero =>
      intro i D1 a hi h1 hr hF
      have hi : i = plain := by omega
      subst hi
      refine z_iload dX9_readRow_194 (by exact rfl) ?_
      refine z_iload dX9_readRow_196 (by exact rfl) ?_
      refine z_icmp_ge (tgt := 226) dX9_readRow_198 (by decide) (fun _ => ?_) (fun q9 => absurd ((nI_le (Nat.le_refl _) (by omega))) q9)
      exact z_at [(0, .ref 19), (1, .int (nI c)), (2, .int (nI n)), (8, .int (nI t)), (10, .long (lN w)), (12, .int (nI d))] ⟨rfl, rfl, rfl, rfl, rfl, rfl, trivial⟩ (next D1 a h1 hr hF)
    | succ m ih =>
      intro i D1 a hi h1 hr hF
      rw [sNums_s, rassoc] at h1
      refine z_iload dX9_readRow_194 (by exact rfl) ?_
      refine z_iload dX9_readRow_196 (by exact rfl) ?_
      refine z_icmp_ge (tgt := 226) dX9_readRow_198 (by decide) (fun q9 => absurd q9 ((nI_ge (a := i) (b := plain) (by omega) (by omega)))) (fun _ => ?_)
      refine z_aload_n dX9_readRow_201 (by exact rfl) ?_
      refine z_gfA zfx_X9_64 (by exact rfl) dX9_readRow_202 ?_
      refine z_sipush dX9_readRow_205 ?_
      refine z_iload_n dX9_readRow_208 (by exact rfl) ?_
      refine z_imul dX9_readRow_209 ?_
      refine z_iload dX9_readRow_210 (by exact rfl) ?_
      refine z_iadd dX9_readRow_212 ?_
      refine z_eI (nI (256 * c + i)) q_ix ?_
      refine z_aload_n dX9_readRow_213 (by exact rfl) ?_
      refine z_iload dX9_readRow_214 (by exact rfl) ?_
      refine z_cV dX9_readRow_216 zk_X9_351 (by exact rfl) (by exact rfl) (by exact rfl) (Nat.le_of_ble_eq_true rfl) (Nat.le_of_ble_eq_true rfl) (Nat.le_refl _) ?_
      refine c_takeSignedU (w := d) (by omega) h1 (fun D2 v hv h2 hf2 => ?_)
      refine z_sJ (by exact rfl) dX9_readRow_219 (vp_in_nI (by omega) (by omega)) ?_
      rw [nI_clamp (n := 256 * c + i) (by omega)]
      refine z_iinc dX9_readRow_220 (by exact rfl) ?_
      refine z_at [(0, .ref 19), (1, .int (nI c)), (2, .int (nI n)), (8, .int (nI t)), (10, .long (lN w)), (12, .int (nI d)), (13, .int (nI plain)), (14, .int (nI (i + 1)))] ⟨rfl, rfl, rfl, rfl, rfl, rfl, rfl, congrArg (fun x => some (Value.int x)) (nI_1 i), trivial⟩ ?_
      refine z_goto (tgt := 194) dX9_readRow_223 (by decide) ?_
      exact ih (i + 1) _ _ (by omega) (h2.fr (F := fun a _ => a == 64) (zfr.rf.uL _ rfl) rfl rfl rfl rfl (fun _ => rfl)) ((hr.fr hf2 (fun _ _ => rfl)).up (sgI_in hv (by omega))) ((hF.tr (wk hf2)).tr (f64 (by omega)))
  -- one number, n times
  have l2 : ∀ (w d : Nat) (x : Int), d = b - w → w < b → inB d x → ∀ (m i : Nat) (D1 : zD), i + m = n → 1 ≤ i → rs9 D1 T sz (K (fun _ => x * 2 ^ w)) sp P → rowB D1 d c (fun _ => x) i → zfr (fL9 c) D D1 → Z (zmk iX9_readRow (d0 + 5)) 0 229 (zl [(0, .ref 19), (1, .int (nI c)), (2, .int (nI n)), (8, .int (nI 0)), (10, .long (lN w)), (12, .int (nI d)), (14, .int (nI i))]) [] D1 Q := by
    intro w d x hd hw hx m
    induction m with
    | zero =>
      intro i D1 hi hi1 h1 hr hF
      have hi : i = n := by omega
      subst hi
      refine z_iload dX9_readRow_229 (by exact rfl) ?_
      refine z_iload_n dX9_readRow_231 (by exact rfl) ?_
      refine z_icmp_ge (tgt := 269) dX9_readRow_232 (by decide) (fun _ => ?_) (fun q9 => absurd ((nI_le (Nat.le_refl _) (by omega))) q9)
      refine z_iload dX9_readRow_269 (by exact rfl) ?_
      refine z_bipush dX9_readRow_271 ?_
      refine z_icmp_le (tgt := 286) dX9_readRow_273 (by decide) (fun _ => ?_) (fun q9 => absurd ((by decide)) q9)
      exact z_at [(0, .ref 19), (1, .int (nI c)), (2, .int (nI i)), (10, .long (lN w))] ⟨rfl, rfl, rfl, rfl, trivial⟩ (l30 0 w hw (fun _ => x) D1 (h1.mp (fun _ hp => ⟨hp, by rw [← hd]; exact hr⟩)) hF)
    | succ m ih =>
      intro i D1 hi hi1 h1 hr hF
      refine z_iload dX9_readRow_229 (by exact rfl) ?_
      refine z_iload_n dX9_readRow_231 (by exact rfl) ?_
      refine z_icmp_ge (tgt := 269) dX9_readRow_232 (by decide) (fun q9 => absurd q9 ((nI_ge (a := i) (b := n) (by omega) (by omega)))) (fun _ => ?_)
      refine z_iload dX9_readRow_235 (by exact rfl) ?_
      refine z_if_ne (tgt := 269) dX9_readRow_237 (by decide) (fun q9 => absurd (rfl) q9) (fun _ => ?_)
      refine z_aload_n dX9_readRow_240 (by exact rfl) ?_
      refine z_gfA zfx_X9_64 (by exact rfl) dX9_readRow_241 ?_
      refine z_sipush dX9_readRow_244 ?_
      refine z_iload_n dX9_readRow_247 (by exact rfl) ?_
      refine z_imul dX9_readRow_248 ?_
      refine z_iload dX9_readRow_249 (by exact rfl) ?_
      refine z_iadd dX9_readRow_251 ?_
      refine z_eI (nI (256 * c + i)) q_ix ?_
      refine z_aload_n dX9_readRow_252 (by exact rfl) ?_
      refine z_gfA zfx_X9_64 (by exact rfl) dX9_readRow_253 ?_
      refine z_sipush dX9_readRow_256 ?_
      refine z_iload_n dX9_readRow_259 (by exact rfl) ?_
      refine z_imul dX9_readRow_260 ?_
      refine z_eI (nI (256 * c)) q_ix0 ?_
      refine z_aJ (by exact rfl) dX9_readRow_261 (vp_in_nI (by omega) (by omega)) ?_
      refine z_eJ (lI x) (by rw [nI_clamp (n := 256 * c) (by omega)]; exact (hr 0 (by omega)).1) ?_
      refine z_sJ (by exact rfl) dX9_readRow_262 (vp_in_nI (by omega) (by omega)) ?_
      rw [nI_clamp (n := 256 * c + i) (by omega)]
      refine z_iinc dX9_readRow_263 (by exact rfl) ?_
      refine z_at [(0, .ref 19), (1, .int (nI c)), (2, .int (nI n)), (8, .int (nI 0)), (10, .long (lN w)), (12, .int (nI d)), (14, .int (nI (i + 1)))] ⟨rfl, rfl, rfl, rfl, rfl, rfl, congrArg (fun x => some (Value.int x)) (nI_1 i), trivial⟩ ?_
      refine z_goto (tgt := 229) dX9_readRow_266 (by decide) ?_
      exact ih (i + 1) _ (by omega) (by omega) (h1.fr (F := fun a _ => a == 64) (zfr.rf.uL _ rfl) rfl rfl rfl rfl (fun _ => rfl)) (fun j hj => by
        by_cases e : j = i
        · subst e
          rw [zuL_at]
          exact ⟨rfl, hx⟩
        · rw [zuL_ne (by omega)]
          exact hr j (by omega)) (hF.tr (f64 (by omega)))
  -- the body
  have body : ∀ (t w : Nat) (D1 : zD) (p1 : Nat), t < 64 → okT t → ordN t ≤ n → w < b → P → rd9 D1 T sz p1 → zfr (fL9 c) D D1 → rbind (sBody T (8 * sz) n t (b - w)) (fun a => K (fun i => a i * 2 ^ w)) p1 = sp → Z (zmk iX9_readRow (d0 + 5)) 0 158 (zl [(0, .ref 19), (1, .int (nI c)), (2, .int (nI n)), (3, .int (nI b)), (8, .int (nI t)), (10, .long (lN w))]) [] D1 Q := by
    intro t w D1 p1 ht64 hok hon hw hP hR1 hF hK1
    by_cases ht0 : t = 0
    · subst ht0
      have hK2 : rbind (sNums T (8 * sz) (b - w) 0 1 (fun _ => 0)) (fun a => K (fun i => a 0 * 2 ^ w)) p1 = sp := by
        rw [← hK1, sNums_s, rassoc]
        show _ = rbind (rbind (rit T (8 * sz) (b - w) kAny) fun v => rpure (fun _ => sgI (b - w) v)) (fun a => K (fun i => a i * 2 ^ w)) p1
        rw [rassoc]
        rfl
      refine z_iload_n dX9_readRow_158 (by exact rfl) ?_
      refine z_lload dX9_readRow_159 (by exact rfl) ?_
      refine z_l2i dX9_readRow_161 ?_
      refine z_eI (nI w) (lN_i w) ?_
      refine z_isub dX9_readRow_162 ?_
      refine z_eI (nI (b - w)) (pk_sub (by omega)) ?_
      refine z_istore dX9_readRow_163 (Nat.le_of_ble_eq_true rfl) ?_
      refine z_iload dX9_readRow_165 (by exact rfl) ?_
      refine z_if_ne (tgt := 174) dX9_readRow_167 (by decide) (fun q9 => absurd (rfl) q9) (fun _ => ?_)
      refine z_iconst dX9_readRow_170 ?_
      refine z_goto (tgt := 189) dX9_readRow_171 (by decide) ?_
      refine z_istore dX9_readRow_189 (Nat.le_of_ble_eq_true rfl) ?_
      refine z_iconst dX9_readRow_191 ?_
      refine z_istore dX9_readRow_192 (Nat.le_of_ble_eq_true rfl) ?_
      exact z_at [(0, .ref 19), (1, .int (nI c)), (2, .int (nI n)), (8, .int (nI 0)), (10, .long (lN w)), (12, .int (nI (b - w))), (13, .int (nI 1)), (14, .int (nI 0))] ⟨rfl, rfl, rfl, rfl, rfl, rfl, rfl, rfl, trivial⟩ (l1 0 w (b - w) 1 rfl hw (by omega) (fun a => K (fun i => a 0 * 2 ^ w)) (fun D2 a h2 hr2 hF2 => by
        refine z_iconst dX9_readRow_226 ?_
        refine z_istore dX9_readRow_227 (Nat.le_of_ble_eq_true rfl) ?_
        exact z_at [(0, .ref 19), (1, .int (nI c)), (2, .int (nI n)), (8, .int (nI 0)), (10, .long (lN w)), (12, .int (nI (b - w))), (14, .int (nI 1))] ⟨rfl, rfl, rfl, rfl, rfl, rfl, rfl, trivial⟩ (l2 w (b - w) (a 0) rfl hw (hr2 0 (by omega)).2 (n - 1) 1 D2 (by omega) (by omega) h2 (fun j hj => by
          have : j = 0 := by omega
          subst this
          exact hr2 0 (by omega)) hF2)
        ) 1 0 D1 (fun _ => 0) (by omega) (.inl ⟨p1, hR1, hK2, hP⟩) (fun j hj => by omega) hF)
    · have skip : ∀ (d plain : Nat) (D2 : zD) (a : zRow), d = b - w → (t = 1 → plain = n) → (¬ t = 1 → plain = ordN t) → rs9 D2 T sz (if t = 1 then K (fun i => a i * 2 ^ w) else rbind (sPred T (8 * sz) t) fun pr => rbind (sRes T (8 * sz) n d (ordN t) pr a) fun a => K (fun i => a i * 2 ^ w)) sp P → rowB D2 d c a plain → zfr (fL9 c) D D2 → Z (zmk iX9_readRow (d0 + 5)) 0 226 (zl [(0, .ref 19), (1, .int (nI c)), (2, .int (nI n)), (8, .int (nI t)), (10, .long (lN w)), (12, .int (nI d))]) [] D2 Q := by
        intro d plain D2 a hd hp1 hp2 h2 hr2 hF2
        have tail : Z (zmk iX9_readRow (d0 + 5)) 0 269 (zl [(0, .ref 19), (1, .int (nI c)), (2, .int (nI n)), (8, .int (nI t)), (10, .long (lN w)), (12, .int (nI d))]) [] D2 Q := by
          by_cases ht1 : t = 1
          · rw [if_pos ht1] at h2
            refine z_iload dX9_readRow_269 (by exact rfl) ?_
            refine z_bipush dX9_readRow_271 ?_
            refine z_icmp_le (tgt := 286) dX9_readRow_273 (by decide) (fun _ => ?_) (fun q9 => absurd ((nI_le (a := t) (b := 7) (by omega) (by omega))) q9)
            exact z_at [(0, .ref 19), (1, .int (nI c)), (2, .int (nI n)), (10, .long (lN w))] ⟨rfl, rfl, rfl, rfl, trivial⟩ (l30 t w hw a D2 (h2.mp (fun _ hp => ⟨hp, by rw [← hd, ← hp1 ht1]; exact hr2⟩)) hF2)
          · rw [if_neg ht1] at h2
            have ht8 : (8 ≤ t ∧ t ≤ 12) ∨ (32 ≤ t ∧ t < 64) := by
              unfold okT at hok
              omega
            refine z_iload dX9_readRow_269 (by exact rfl) ?_
            refine z_bipush dX9_readRow_271 ?_
            refine z_icmp_le (tgt := 286) dX9_readRow_273 (by decide) (fun q9 => absurd q9 ((nI_ge (a := 7) (b := t) (by omega) (by omega)))) (fun _ => ?_)
            refine z_aload_n dX9_readRow_276 (by exact rfl) ?_
            refine z_iload_n dX9_readRow_277 (by exact rfl) ?_
            refine z_iload_n dX9_readRow_278 (by exact rfl) ?_
            refine z_iload dX9_readRow_279 (by exact rfl) ?_
            refine z_iload dX9_readRow_281 (by exact rfl) ?_
            refine z_cV dX9_readRow_283 zk_X9_354 (by exact rfl) (by exact rfl) (by exact rfl) (Nat.le_of_ble_eq_true rfl) (Nat.le_of_ble_eq_true rfl) (Nat.le_refl _) ?_
            refine c_readLeft hsz hc hn (by omega) ht8 hon (h2.mp (fun _ hp => ⟨hp, by rw [← hp2 ht1]; exact hr2⟩)) (fun D3 a3 h3 hf3 => ?_)
            exact z_at [(0, .ref 19), (1, .int (nI c)), (2, .int (nI n)), (10, .long (lN w))] ⟨rfl, rfl, rfl, rfl, trivial⟩ (l30 t w hw a3 D3 (by rw [← hd]; exact h3) (hF2.tr hf3))
        refine z_iconst dX9_readRow_226 ?_
        refine z_istore dX9_readRow_227 (Nat.le_of_ble_eq_true rfl) ?_
        refine z_iload dX9_readRow_229 (by exact rfl) ?_
        refine z_iload_n dX9_readRow_231 (by exact rfl) ?_
        refine z_icmp_ge (tgt := 269) dX9_readRow_232 (by decide) (fun c232 => ?_) (fun c232 => ?_)
        · exact z_at [(0, .ref 19), (1, .int (nI c)), (2, .int (nI n)), (8, .int (nI t)), (10, .long (lN w)), (12, .int (nI d))] ⟨rfl, rfl, rfl, rfl, rfl, rfl, trivial⟩ tail
        · refine z_iload dX9_readRow_235 (by exact rfl) ?_
          refine z_if_ne (tgt := 269) dX9_readRow_237 (by decide) (fun _ => ?_) (fun q9 => absurd q9 ((nI_ne0 (by omega) (by omega))))
          exact z_at [(0, .ref 19), (1, .int (nI c)), (2, .int (nI n)), (8, .int (nI t)), (10, .long (lN w)), (12, .int (nI d))] ⟨rfl, rfl, rfl, rfl, rfl, rfl, trivial⟩ tail
      by_cases ht1 : t = 1
      · have hK2 : rbind (sNums T (8 * sz) (b - w) 0 n (fun _ => 0)) (fun a => if t = 1 then K (fun i => a i * 2 ^ w) else rbind (sPred T (8 * sz) t) fun pr => rbind (sRes T (8 * sz) n (b - w) (ordN t) pr a) fun a => K (fun i => a i * 2 ^ w)) p1 = sp := by
          subst ht1
          exact hK1
        refine z_iload_n dX9_readRow_158 (by exact rfl) ?_
        refine z_lload dX9_readRow_159 (by exact rfl) ?_
        refine z_l2i dX9_readRow_161 ?_
        refine z_eI (nI w) (lN_i w) ?_
        refine z_isub dX9_readRow_162 ?_
        refine z_eI (nI (b - w)) (pk_sub (by omega)) ?_
        refine z_istore dX9_readRow_163 (Nat.le_of_ble_eq_true rfl) ?_
        refine z_iload dX9_readRow_165 (by exact rfl) ?_
        refine z_if_ne (tgt := 174) dX9_readRow_167 (by decide) (fun _ => ?_) (fun q9 => absurd q9 ((nI_ne0 (by omega) (by omega))))
        refine z_iload dX9_readRow_174 (by exact rfl) ?_
        refine z_iconst dX9_readRow_176 ?_
        refine z_icmp_ne (tgt := 184) dX9_readRow_177 (by decide) (fun q9 => absurd ((by rw [ht1]; rfl)) q9) (fun _ => ?_)
        refine z_iload_n dX9_readRow_180 (by exact rfl) ?_
        refine z_goto (tgt := 189) dX9_readRow_181 (by decide) ?_
        refine z_istore dX9_readRow_189 (Nat.le_of_ble_eq_true rfl) ?_
        refine z_iconst dX9_readRow_191 ?_
        refine z_istore dX9_readRow_192 (Nat.le_of_ble_eq_true rfl) ?_
        exact z_at [(0, .ref 19), (1, .int (nI c)), (2, .int (nI n)), (8, .int (nI t)), (10, .long (lN w)), (12, .int (nI (b - w))), (13, .int (nI n)), (14, .int (nI 0))] ⟨rfl, rfl, rfl, rfl, rfl, rfl, rfl, rfl, trivial⟩ (l1 t w (b - w) n rfl hw hn.2 _ (fun D2 a h2 hr2 hF2 => skip (b - w) n D2 a rfl (fun _ => rfl) (fun q => absurd ht1 q) h2 hr2 hF2) n 0 D1 (fun _ => 0) (by omega) (.inl ⟨p1, hR1, hK2, hP⟩) (fun j hj => by omega) hF)
      · have hK2 : rbind (sNums T (8 * sz) (b - w) 0 (ordN t) (fun _ => 0)) (fun a => if t = 1 then K (fun i => a i * 2 ^ w) else rbind (sPred T (8 * sz) t) fun pr => rbind (sRes T (8 * sz) n (b - w) (ordN t) pr a) fun a => K (fun i => a i * 2 ^ w)) p1 = sp := by
          unfold sBody at hK1
          rw [if_neg ht0, if_neg ht1, rassoc] at hK1
          simp only [rassoc] at hK1
          rw [← hK1]
          congr 1
          funext a
          rw [if_neg ht1]
        have ht8 : 8 ≤ t := by
          unfold okT at hok
          omega
        refine z_iload_n dX9_readRow_158 (by exact rfl) ?_
        refine z_lload dX9_readRow_159 (by exact rfl) ?_
        refine z_l2i dX9_readRow_161 ?_
        refine z_eI (nI w) (lN_i w) ?_
        refine z_isub dX9_readRow_162 ?_
        refine z_eI (nI (b - w)) (pk_sub (by omega)) ?_
        refine z_istore dX9_readRow_163 (Nat.le_of_ble_eq_true rfl) ?_
        refine z_iload dX9_readRow_165 (by exact rfl) ?_
        refine z_if_ne (tgt := 174) dX9_readRow_167 (by decide) (fun _ => ?_) (fun q9 => absurd q9 ((nI_ne0 (by omega) (by omega))))
        refine z_iload dX9_readRow_174 (by exact rfl) ?_
        refine z_iconst dX9_readRow_176 ?_
        refine z_icmp_ne (tgt := 184) dX9_readRow_177 (by decide) (fun _ => ?_) (fun q9 => absurd q9 ((fun q => ht1 ((nI_eq (a := t) (b := 1) (by omega) (by omega)).mp q))))
        refine z_iload dX9_readRow_184 (by exact rfl) ?_
        refine z_cS dX9_readRow_186 zk_X9_117 (by exact rfl) (Nat.le_of_ble_eq_true rfl) (Nat.le_of_ble_eq_true rfl) (Nat.le_refl _) ?_
        refine c_o (by omega) ?_
        refine z_istore dX9_readRow_189 (Nat.le_of_ble_eq_true rfl) ?_
        refine z_iconst dX9_readRow_191 ?_
        refine z_istore dX9_readRow_192 (Nat.le_of_ble_eq_true rfl) ?_
        exact z_at [(0, .ref 19), (1, .int (nI c)), (2, .int (nI n)), (8, .int (nI t)), (10, .long (lN w)), (12, .int (nI (b - w))), (13, .int (nI (ordN t))), (14, .int (nI 0))] ⟨rfl, rfl, rfl, rfl, rfl, rfl, rfl, rfl, trivial⟩ (l1 t w (b - w) (ordN t) rfl hw (by omega) _ (fun D2 a h2 hr2 hF2 => skip (b - w) (ordN t) D2 a rfl (fun q => absurd q ht1) (fun _ => rfl) h2 hr2 hF2) (ordN t) 0 D1 (fun _ => 0) (by omega) (.inl ⟨p1, hR1, hK2, hP⟩) (fun j hj => by omega) hF)
  have le64 : ∀ a b : Nat, a < 2000000 → b < 2000000 → (lN a ≤ lN b ↔ a ≤ b) := fun a b ha hb => pk_lLE (by omega) (by omega)
  have at150 : ∀ (t w : Nat) (D2 : zD), t < 64 → ((∃ q, rd9 D2 T sz q ∧ w < b ∧ rbind (sBody T (8 * sz) n t (b - w)) (fun a => K (fun i => a i * 2 ^ w)) q = sp ∧ P ∧ okT t ∧ ordN t ≤ n) ∨ ∃ k pl, bad9 D2 k pl ∧ sp = .inl (k, pl)) → zfr (fL9 c) D D2 → Z (zmk iX9_readRow (d0 + 5)) 0 150 (zl [(0, .ref 19), (1, .int (nI c)), (2, .int (nI n)), (3, .int (nI b)), (8, .int (nI t)), (10, .long (lN w))]) [] D2 Q := by
    intro t w D2 ht64 h2 hF
    rcases h2 with ⟨q, hR, hw, hK1, hP, hok, hon⟩ | ⟨k, pl, hb9, e⟩
    · refine z_aload_n dX9_readRow_150 (by exact rfl) ?_
      refine z_gfI zfx_X9_264 (by exact rfl) dX9_readRow_151 ?_
      refine z_if_le (tgt := 158) dX9_readRow_154 (by decide) (fun _ => ?_) (fun q9 => absurd ((by rw [hR.2.2.2.2.1]; decide)) q9)
      exact body t w D2 q ht64 hok hon hw hP hR hF hK1
    · refine z_aload_n dX9_readRow_150 (by exact rfl) ?_
      refine z_gfI zfx_X9_264 (by exact rfl) dX9_readRow_151 ?_
      refine z_if_le (tgt := 158) dX9_readRow_154 (by decide) (fun q9 => absurd q9 (hb9.f)) (fun _ => ?_)
      exact z_vret (st := []) rfl dX9_readRow_157 (hq D2 (fun _ => 0) (.inr ⟨k, pl, hb9, e⟩) hF)
  have chk : ∀ (t w : Nat) (x : Int64) (D2 : zD), t < 64 → w < 2 ^ 21 → ((∃ p0 q, x = lN p0 ∧ rd9 D2 T sz q ∧ (w < b → rbind (sBody T (8 * sz) n t (b - w)) (fun a => K (fun i => a i * 2 ^ w)) q = sp) ∧ (¬ w < b → sp = .inl (2, p0)) ∧ P ∧ okT t ∧ ordN t ≤ n) ∨ ∃ k pl, bad9 D2 k pl ∧ sp = .inl (k, pl)) → zfr (fL9 c) D D2 → Z (zmk iX9_readRow (d0 + 5)) 0 126 (zl [(0, .ref 19), (1, .int (nI c)), (2, .int (nI n)), (3, .int (nI b)), (6, .long x), (8, .int (nI t)), (10, .long (lN w))]) [] D2 Q := by
    intro t w x D2 ht64 hw21 h2 hF
    rcases h2 with ⟨p0, q, ex, hR, hg, hbd, hP, hok, hon⟩ | ⟨k, pl, hb9, e⟩
    · subst ex
      refine z_aload_n dX9_readRow_126 (by exact rfl) ?_
      refine z_gfI zfx_X9_264 (by exact rfl) dX9_readRow_127 ?_
      refine z_if_ne (tgt := 150) dX9_readRow_130 (by decide) (fun q9 => absurd (hR.2.2.2.2.1) q9) (fun _ => ?_)
      refine z_lload dX9_readRow_133 (by exact rfl) ?_
      refine z_iload_n dX9_readRow_135 (by exact rfl) ?_
      refine z_i2l dX9_readRow_136 ?_
      refine z_eJ (lN b) (nI_l (by omega)) ?_
      refine z_lt (tgt := 150) dX9_readRow_137 dX9_readRow_138 (by decide) (fun c137 => ?_) (fun c137 => ?_)
      · exact z_at [(0, .ref 19), (1, .int (nI c)), (2, .int (nI n)), (3, .int (nI b)), (8, .int (nI t)), (10, .long (lN w))] ⟨rfl, rfl, rfl, rfl, rfl, rfl, trivial⟩ (by
          have hw : w < b := (pk_lLT (by omega) (by omega)).mp c137
          exact at150 t w D2 ht64 (.inl ⟨q, hR, hw, hg hw, hP, hok, hon⟩) hF)
      · refine z_aload_n dX9_readRow_141 (by exact rfl) ?_
        refine z_iconst dX9_readRow_142 ?_
        refine z_lload dX9_readRow_143 (by exact rfl) ?_
        refine z_cV dX9_readRow_145 zk_X9_273 (by exact rfl) (by exact rfl) (by exact rfl) (Nat.le_of_ble_eq_true rfl) (Nat.le_of_ble_eq_true rfl) (Nat.le_refl _) ?_
        refine c_wrong (fun _ => ?_) (fun q => absurd hR.2.2.2.2.1 q)
        refine z_istore dX9_readRow_148 (Nat.le_of_ble_eq_true rfl) ?_
        exact z_at [(0, .ref 19), (1, .int (nI c)), (2, .int (nI n)), (3, .int (nI b)), (8, .int (nI t)), (10, .long (lN w))] ⟨rfl, rfl, rfl, rfl, rfl, rfl, trivial⟩ (by
          have hw : ¬ w < b := fun q => c137 ((pk_lLT (by omega) (by omega)).mpr q)
          exact at150 t w _ ht64 (.inr ⟨2, p0, ⟨rfl, lN_i p0, by omega, by omega⟩, hbd hw⟩) (hF.tr (wk (zfr_fail9 zfr.rf))))
    · refine z_aload_n dX9_readRow_126 (by exact rfl) ?_
      refine z_gfI zfx_X9_264 (by exact rfl) dX9_readRow_127 ?_
      refine z_if_ne (tgt := 150) dX9_readRow_130 (by decide) (fun _ => ?_) (fun q9 => absurd q9 (hb9.z))
      exact z_at [(0, .ref 19), (1, .int (nI c)), (2, .int (nI n)), (3, .int (nI b)), (8, .int (nI t)), (10, .long (lN w))] ⟨rfl, rfl, rfl, rfl, rfl, rfl, trivial⟩ (at150 t w D2 ht64 (.inr ⟨k, pl, hb9, e⟩) hF)
  have ws : ∀ (t : Nat) (D1 : zD), t < 64 → rs9 D1 T sz (rbind (sWaste T (8 * sz) b) fun w => rbind (sBody T (8 * sz) n t (b - w)) fun a => K (fun i => a i * 2 ^ w)) sp (P ∧ okT t ∧ ordN t ≤ n) → zfr (fL9 c) D D1 → Z (zmk iX9_readRow (d0 + 5)) 0 98 (zl [(0, .ref 19), (1, .int (nI c)), (2, .int (nI n)), (3, .int (nI b)), (8, .int (nI t))]) [] D1 Q := by
    intro t D1 ht64 h1 hF
    unfold sWaste at h1
    rw [rassoc] at h1
    refine z_aload_n dX9_readRow_98 (by exact rfl) ?_
    refine z_iconst dX9_readRow_99 ?_
    refine z_cV dX9_readRow_100 zk_X9_277 (by exact rfl) (by exact rfl) (by exact rfl) (Nat.le_of_ble_eq_true rfl) (Nat.le_of_ble_eq_true rfl) (Nat.le_refl _) ?_
    refine c_takeU (w := 1) (by omega) h1 (fun D2 v hv h2 hf2 => ?_)
    refine z_lstore dX9_readRow_103 (Nat.le_of_ble_eq_true rfl) ?_
    refine z_aload_n dX9_readRow_105 (by exact rfl) ?_
    refine z_gfL zfx_X9_267 (by exact rfl) dX9_readRow_106 ?_
    refine z_lstore dX9_readRow_109 (Nat.le_of_ble_eq_true rfl) ?_
    refine z_lload dX9_readRow_111 (by exact rfl) ?_
    refine z_lconst dX9_readRow_113 ?_
    refine z_ne (tgt := 126) dX9_readRow_114 dX9_readRow_115 (by decide) (fun c114 => ?_) (fun c114 => ?_)
    · exact z_at [(0, .ref 19), (1, .int (nI c)), (2, .int (nI n)), (3, .int (nI b)), (6, .long (D2.2 19 32)), (8, .int (nI t)), (10, .long (lN v))] ⟨rfl, rfl, rfl, rfl, rfl, rfl, rfl, trivial⟩ (by
        have hv0 : v = 0 := by
          have : ¬ v = 1 := fun q => c114 ((pk_lEQ (a := v) (b := 1) (by omega) (by omega)).mpr q)
          omega
        subst hv0
        rw [if_neg (by decide)] at h2
        refine chk t 0 _ D2 ht64 (by omega) ?_ (hF.tr (wk hf2))
        rcases h2 with ⟨p, hR, hK2, hP, hok, hon⟩ | hb9
        · exact .inl ⟨p, p, hR.2.2.1, hR, fun _ => hK2, fun q => absurd (by omega) q, hP, hok, hon⟩
        · exact .inr hb9)
    · have hv1 : v = 1 := (pk_lEQ (a := v) (b := 1) (by omega) (by omega)).mp c114
      rw [if_pos hv1] at h2
      obtain ⟨p0, hp0⟩ : ∃ p0, (∃ q, rd9 D2 T sz q) → D2.2 19 32 = lN p0 ∧ rd9 D2 T sz p0 := by
        by_cases h9 : ∃ q, rd9 D2 T sz q
        · obtain ⟨q, hq9⟩ := h9
          exact ⟨q, fun _ => ⟨hq9.2.2.1, hq9⟩⟩
        · exact ⟨0, fun q => absurd q h9⟩
      have h3 : rs9 D2 T sz (rbind (sRun T (8 * sz)) fun z => rbind (fun q => if z + 1 < b then .inr (z + 1, q) else .inl (2, p0)) fun w => rbind (sBody T (8 * sz) n t (b - w)) fun a => K (fun i => a i * 2 ^ w)) sp (P ∧ okT t ∧ ordN t ≤ n ∧ D2.2 19 32 = lN p0) := by
        rcases h2 with ⟨p, hR, hK2, hP⟩ | hb9
        · have e9 : p = p0 := by
            have h9 := (hp0 ⟨p, hR⟩).1
            rw [hR.2.2.1] at h9
            have g1 := hR.2.2.2.1
            have g2 := (hp0 ⟨p, hR⟩).2.2.2.2.1
            exact (pk_lEQ (by omega) (by omega)).mp h9
          subst e9
          refine .inl ⟨p, hR, ?_, hP.1, hP.2.1, hP.2.2, hR.2.2.1⟩
          rw [← hK2, ← rassoc]
          rfl
        · exact .inr hb9
      refine z_lconst dX9_readRow_118 ?_
      refine z_aload_n dX9_readRow_119 (by exact rfl) ?_
      refine z_cV dX9_readRow_120 zk_X9_347 (by exact rfl) (by exact rfl) (by exact rfl) (Nat.le_of_ble_eq_true rfl) (Nat.le_of_ble_eq_true rfl) (Nat.le_refl _) ?_
      refine c_takeRowU hsz h3 (fun D3 z hz h4 hf3 => ?_)
      refine z_ladd dX9_readRow_123 ?_
      refine z_eJ (lN (z + 1)) (by
        rw [show Int64.ofNat ((1 : Fin 2) : Nat) = lN 1 from rfl, lN_add, Nat.add_comm]) ?_
      refine z_lstore dX9_readRow_124 (Nat.le_of_ble_eq_true rfl) ?_
      exact z_at [(0, .ref 19), (1, .int (nI c)), (2, .int (nI n)), (3, .int (nI b)), (6, .long (D2.2 19 32)), (8, .int (nI t)), (10, .long (lN (z + 1)))] ⟨rfl, rfl, rfl, rfl, rfl, rfl, rfl, trivial⟩ (by
        refine chk t (z + 1) _ D3 ht64 (by omega) ?_ (hF.tr (wk (hf2.tr hf3)))
        rcases h4 with ⟨q, hR, hK4, hP, hok, hon, e0⟩ | hb9
        · exact .inl ⟨p0, q, e0, hR, fun hw => (rbind_r (f := fun w => rbind (sBody T (8 * sz) n t (b - w)) fun a => K (fun i => a i * 2 ^ w)) (show (fun q => if z + 1 < b then (.inr (z + 1, q) : RT Nat) else .inl (2, p0)) q = .inr (z + 1, q) from if_pos hw)).symm.trans hK4, fun hw => hK4.symm.trans (rbind_l (if_neg hw)), hP, hok, hon⟩
        · exact .inr hb9)
  have gd : ∀ (t g : Nat) (x : Int64) (D2 : zD), t < 64 → (nI g = 0 ↔ ¬ (okT t ∧ ordN t ≤ n)) → ((∃ p, x = lN p ∧ rd9 D2 T sz (p + 6) ∧ (kType n t = 0 → (rbind (sWaste T (8 * sz) b) fun w => rbind (sBody T (8 * sz) n t (b - w)) fun a => K (fun i => a i * 2 ^ w)) (p + 6) = sp) ∧ (¬ kType n t = 0 → sp = .inl (kType n t, p)) ∧ P) ∨ (∃ k pl, bad9 D2 k pl ∧ sp = .inl (k, pl))) → zfr (fL9 c) D D2 → Z (zmk iX9_readRow (d0 + 5)) 0 77 (zl [(0, .ref 19), (1, .int (nI c)), (2, .int (nI n)), (3, .int (nI b)), (6, .long x), (8, .int (nI t)), (9, .int (nI g))]) [] D2 Q := by
    intro t g x D2 ht64 hg h2 hF
    rcases h2 with ⟨p, ex, hR, hk, hkn, hP⟩ | ⟨k, pl, hb9, e⟩
    · subst ex
      refine z_aload_n dX9_readRow_77 (by exact rfl) ?_
      refine z_gfI zfx_X9_264 (by exact rfl) dX9_readRow_78 ?_
      refine z_if_ne (tgt := 98) dX9_readRow_81 (by decide) (fun q9 => absurd (hR.2.2.2.2.1) q9) (fun _ => ?_)
      refine z_iload dX9_readRow_84 (by exact rfl) ?_
      refine z_if_ne (tgt := 98) dX9_readRow_86 (by decide) (fun c86 => ?_) (fun c86 => ?_)
      · exact z_at [(0, .ref 19), (1, .int (nI c)), (2, .int (nI n)), (3, .int (nI b)), (8, .int (nI t))] ⟨rfl, rfl, rfl, rfl, rfl, trivial⟩ (by
          rcases kType_i (n := n) ht64 with ⟨k0, k1, k2⟩ | ⟨k0, k1⟩
          · exact ws t D2 ht64 (.inl ⟨p + 6, hR, hk k0, hP, k1, k2⟩) hF
          · exact absurd (hg.mpr k1) c86)
      · refine z_aload_n dX9_readRow_89 (by exact rfl) ?_
        refine z_iconst dX9_readRow_90 ?_
        refine z_lload dX9_readRow_91 (by exact rfl) ?_
        refine z_cV dX9_readRow_93 zk_X9_273 (by exact rfl) (by exact rfl) (by exact rfl) (Nat.le_of_ble_eq_true rfl) (Nat.le_of_ble_eq_true rfl) (Nat.le_refl _) ?_
        refine c_wrong (fun _ => ?_) (fun q => absurd hR.2.2.2.2.1 q)
        refine z_istore dX9_readRow_96 (Nat.le_of_ble_eq_true rfl) ?_
        exact z_at [(0, .ref 19), (1, .int (nI c)), (2, .int (nI n)), (3, .int (nI b)), (8, .int (nI t))] ⟨rfl, rfl, rfl, rfl, rfl, trivial⟩ (by
          rcases kType_i (n := n) ht64 with ⟨k0, k1, k2⟩ | ⟨k0, k1⟩
          · exact absurd ⟨k1, k2⟩ (hg.mp c86)
          · exact ws t _ ht64 (.inr ⟨2, p, ⟨rfl, lN_i p, by omega, by omega⟩, by rw [hkn (by rw [k0]; decide), k0]⟩) (hF.tr (wk (zfr_fail9 zfr.rf))))
    · refine z_aload_n dX9_readRow_77 (by exact rfl) ?_
      refine z_gfI zfx_X9_264 (by exact rfl) dX9_readRow_78 ?_
      refine z_if_ne (tgt := 98) dX9_readRow_81 (by decide) (fun _ => ?_) (fun q9 => absurd q9 (hb9.z))
      exact z_at [(0, .ref 19), (1, .int (nI c)), (2, .int (nI n)), (3, .int (nI b)), (8, .int (nI t))] ⟨rfl, rfl, rfl, rfl, rfl, trivial⟩ (ws t D2 ht64 (.inr ⟨k, pl, hb9, e⟩) hF)
  unfold sSub at h
  rw [rassoc] at h
  refine z_aload_n dX9_readRow_0 (by exact rfl) ?_
  refine z_iconst dX9_readRow_1 ?_
  refine z_lconst dX9_readRow_2 ?_
  refine z_lconst dX9_readRow_3 ?_
  refine z_cV dX9_readRow_4 zk_X9_280 (by exact rfl) (by exact rfl) (by exact rfl) (Nat.le_of_ble_eq_true rfl) (Nat.le_of_ble_eq_true rfl) (Nat.le_refl _) ?_
  refine c_takeInU (w := 1) (by omega) (fun _ => kEq_c (due := 0) (by omega) (by omega)) h (fun D1 v hv h1 hf1 => ?_)
  rw [rassoc] at h1
  refine z_lstore dX9_readRow_7 (Nat.le_of_ble_eq_true rfl) ?_
  refine z_aload_n dX9_readRow_9 (by exact rfl) ?_
  refine z_gfL zfx_X9_267 (by exact rfl) dX9_readRow_10 ?_
  refine z_lstore dX9_readRow_13 (Nat.le_of_ble_eq_true rfl) ?_
  refine z_aload_n dX9_readRow_15 (by exact rfl) ?_
  refine z_bipush dX9_readRow_16 ?_
  refine z_cV dX9_readRow_18 zk_X9_277 (by exact rfl) (by exact rfl) (by exact rfl) (Nat.le_of_ble_eq_true rfl) (Nat.le_of_ble_eq_true rfl) (Nat.le_refl _) ?_
  refine c_takeG (w := 6) (by omega) h1 (fun D2 t ht h2 hf2 => ?_)
  have ht64 : t < 64 := ht
  have h2 : ((∃ p, D1.2 19 32 = lN p ∧ rd9 D2 T sz (p + 6) ∧ (kType n t = 0 → (rbind (sWaste T (8 * sz) b) fun w => rbind (sBody T (8 * sz) n t (b - w)) fun a => K (fun i => a i * 2 ^ w)) (p + 6) = sp) ∧ (¬ kType n t = 0 → sp = .inl (kType n t, p)) ∧ P) ∨ (∃ k pl, bad9 D2 k pl ∧ sp = .inl (k, pl))) := by
    rcases h2 with ⟨p, e1, _, hR, hk, hkn, hP⟩ | hb9
    · refine .inl ⟨p, e1, hR, fun k0 => ?_, hkn, hP.1⟩
      rw [← hk k0]
      simp only [rassoc]
      rfl
    · exact .inr hb9
  refine z_l2i dX9_readRow_21 ?_
  refine z_eI (nI t) (lN_i t) ?_
  refine z_istore dX9_readRow_22 (Nat.le_of_ble_eq_true rfl) ?_
  refine z_iload dX9_readRow_24 (by exact rfl) ?_
  refine z_iconst dX9_readRow_26 ?_
  refine z_icmp_lt (tgt := 70) dX9_readRow_27 (by decide) (fun c27 => ?_) (fun c27 => ?_)
  · refine z_iconst dX9_readRow_70 ?_
    refine z_goto (tgt := 75) dX9_readRow_71 (by decide) ?_
    refine z_istore dX9_readRow_75 (Nat.le_of_ble_eq_true rfl) ?_
    exact z_at [(0, .ref 19), (1, .int (nI c)), (2, .int (nI n)), (3, .int (nI b)), (6, .long (D1.2 19 32)), (8, .int (nI t)), (9, .int (nI 1))] ⟨rfl, rfl, rfl, rfl, rfl, rfl, rfl, trivial⟩ (gd t 1 _ D2 ht64 (by
      have h9 : okT t ∧ ordN t ≤ n := by
        unfold okT ordN
        have g2 : t < 2 := (nI_ltI (a := t) (b := 2) (by omega) (by omega)).mp c27
        refine ⟨by omega, ?_⟩
        rw [if_pos g2]
        omega
      exact ⟨fun q => absurd q (by decide), fun q => absurd h9 q⟩) h2 (wk (hf1.tr hf2)))
  · refine z_iload dX9_readRow_30 (by exact rfl) ?_
    refine z_i2l dX9_readRow_32 ?_
    refine z_eJ (lN t) (nI_l (by omega)) ?_
    refine z_ldcL dX9_readRow_33 zclx_X9_73 ?_
    refine z_ldcL dX9_readRow_36 zclx_X9_345 ?_
    refine z_cS dX9_readRow_39 zk_X9_75 (by exact rfl) (Nat.le_of_ble_eq_true rfl) (Nat.le_of_ble_eq_true rfl) (Nat.le_refl _) ?_
    refine c_in (fun a39 b39 => ?_) (fun n39 => ?_)
    · refine z_if_eq (tgt := 54) dX9_readRow_42 (by decide) (fun q9 => absurd q9 (by decide)) (fun _ => ?_)
      refine z_iload dX9_readRow_45 (by exact rfl) ?_
      refine z_bipush dX9_readRow_47 ?_
      refine z_isub dX9_readRow_49 ?_
      refine z_iload_n dX9_readRow_50 (by exact rfl) ?_
      refine z_icmp_le (tgt := 70) dX9_readRow_51 (by decide) (fun c51 => ?_) (fun c51 => ?_)
      · refine z_iconst dX9_readRow_70 ?_
        refine z_goto (tgt := 75) dX9_readRow_71 (by decide) ?_
        refine z_istore dX9_readRow_75 (Nat.le_of_ble_eq_true rfl) ?_
        exact z_at [(0, .ref 19), (1, .int (nI c)), (2, .int (nI n)), (3, .int (nI b)), (6, .long (D1.2 19 32)), (8, .int (nI t)), (9, .int (nI 1))] ⟨rfl, rfl, rfl, rfl, rfl, rfl, rfl, trivial⟩ (gd t 1 _ D2 ht64 (by
          have h9 : okT t ∧ ordN t ≤ n := by
            unfold okT ordN
            have g2 : 2 ≤ t := by
              rcases Nat.lt_or_ge t 2 with q | q
              · exact absurd (nI_lt q (by omega)) c27
              · exact q
            have gi : 8 ≤ t ∧ t ≤ 12 := ⟨(le64 8 _ (by omega) (by omega)).mp a39, (le64 _ 12 (by omega) (by omega)).mp b39⟩
            have g5 : t - 8 ≤ n := (nI_leI (a := t - 8) (b := n) (by omega) (by omega)).mp (by
              rw [show nI t - (Int8.ofInt 8).toInt32 = nI (t - 8) from pk_sub (a := t) (b := 8) (by omega)] at c51
              exact c51)
            refine ⟨by omega, ?_⟩
            split
            · omega
            · split <;> omega
          exact ⟨fun q => absurd q (by decide), fun q => absurd h9 q⟩) h2 (wk (hf1.tr hf2)))
      · refine z_iload dX9_readRow_54 (by exact rfl) ?_
        refine z_bipush dX9_readRow_56 ?_
        refine z_icmp_le (tgt := 74) dX9_readRow_58 (by decide) (fun c58 => ?_) (fun c58 => ?_)
        · refine z_iconst dX9_readRow_74 ?_
          refine z_istore dX9_readRow_75 (Nat.le_of_ble_eq_true rfl) ?_
          exact z_at [(0, .ref 19), (1, .int (nI c)), (2, .int (nI n)), (3, .int (nI b)), (6, .long (D1.2 19 32)), (8, .int (nI t)), (9, .int (nI 0))] ⟨rfl, rfl, rfl, rfl, rfl, rfl, rfl, trivial⟩ (gd t 0 _ D2 ht64 (by
            have h9 : ¬ (okT t ∧ ordN t ≤ n) := by
              unfold okT ordN
              have g2 : 2 ≤ t := by
                rcases Nat.lt_or_ge t 2 with q | q
                · exact absurd (nI_lt q (by omega)) c27
                · exact q
              have gi : 8 ≤ t ∧ t ≤ 12 := ⟨(le64 8 _ (by omega) (by omega)).mp a39, (le64 _ 12 (by omega) (by omega)).mp b39⟩
              have g5 : ¬ t - 8 ≤ n := fun q => c51 (by
                rw [show nI t - (Int8.ofInt 8).toInt32 = nI (t - 8) from pk_sub (a := t) (b := 8) (by omega)]
                exact nI_le q (by omega))
              have g31 : t ≤ 31 := (nI_leI (a := t) (b := 31) (by omega) (by omega)).mp c58
              intro q
              obtain ⟨q1, q2⟩ := q
              split at q2
              · omega
              · split at q2 <;> omega
            exact ⟨fun _ => h9, fun _ => rfl⟩) h2 (wk (hf1.tr hf2)))
        · refine z_iload dX9_readRow_61 (by exact rfl) ?_
          refine z_bipush dX9_readRow_63 ?_
          refine z_isub dX9_readRow_65 ?_
          refine z_iload_n dX9_readRow_66 (by exact rfl) ?_
          refine z_icmp_gt (tgt := 74) dX9_readRow_67 (by decide) (fun c67 => ?_) (fun c67 => ?_)
          · refine z_iconst dX9_readRow_74 ?_
            refine z_istore dX9_readRow_75 (Nat.le_of_ble_eq_true rfl) ?_
            exact z_at [(0, .ref 19), (1, .int (nI c)), (2, .int (nI n)), (3, .int (nI b)), (6, .long (D1.2 19 32)), (8, .int (nI t)), (9, .int (nI 0))] ⟨rfl, rfl, rfl, rfl, rfl, rfl, rfl, trivial⟩ (gd t 0 _ D2 ht64 (by
              have h9 : ¬ (okT t ∧ ordN t ≤ n) := by
                unfold okT ordN
                have g2 : 2 ≤ t := by
                  rcases Nat.lt_or_ge t 2 with q | q
                  · exact absurd (nI_lt q (by omega)) c27
                  · exact q
                have gi : 8 ≤ t ∧ t ≤ 12 := ⟨(le64 8 _ (by omega) (by omega)).mp a39, (le64 _ 12 (by omega) (by omega)).mp b39⟩
                have g31 : 31 < t := by
                  rcases Nat.lt_or_ge 31 t with q | q
                  · exact q
                  · exact absurd (nI_le q (by omega)) c58
                intro q
                obtain ⟨q1, q2⟩ := q
                split at q2
                · omega
                · split at q2 <;> omega
              exact ⟨fun _ => h9, fun _ => rfl⟩) h2 (wk (hf1.tr hf2)))
          · refine z_iconst dX9_readRow_70 ?_
            refine z_goto (tgt := 75) dX9_readRow_71 (by decide) ?_
            refine z_istore dX9_readRow_75 (Nat.le_of_ble_eq_true rfl) ?_
            exact z_at [(0, .ref 19), (1, .int (nI c)), (2, .int (nI n)), (3, .int (nI b)), (6, .long (D1.2 19 32)), (8, .int (nI t)), (9, .int (nI 1))] ⟨rfl, rfl, rfl, rfl, rfl, rfl, rfl, trivial⟩ (gd t 1 _ D2 ht64 (by
              have h9 : okT t ∧ ordN t ≤ n := by
                unfold okT ordN
                have g2 : 2 ≤ t := by
                  rcases Nat.lt_or_ge t 2 with q | q
                  · exact absurd (nI_lt q (by omega)) c27
                  · exact q
                have gi : 8 ≤ t ∧ t ≤ 12 := ⟨(le64 8 _ (by omega) (by omega)).mp a39, (le64 _ 12 (by omega) (by omega)).mp b39⟩
                have g31 : 31 < t := by
                  rcases Nat.lt_or_ge 31 t with q | q
                  · exact q
                  · exact absurd (nI_le q (by omega)) c58
                refine ⟨by omega, ?_⟩
                split
                · omega
                · split <;> omega
              exact ⟨fun q => absurd q (by decide), fun q => absurd h9 q⟩) h2 (wk (hf1.tr hf2)))
    · refine z_if_eq (tgt := 54) dX9_readRow_42 (by decide) (fun _ => ?_) (fun q9 => absurd q9 (by decide))
      refine z_iload dX9_readRow_54 (by exact rfl) ?_
      refine z_bipush dX9_readRow_56 ?_
      refine z_icmp_le (tgt := 74) dX9_readRow_58 (by decide) (fun c58 => ?_) (fun c58 => ?_)
      · refine z_iconst dX9_readRow_74 ?_
        refine z_istore dX9_readRow_75 (Nat.le_of_ble_eq_true rfl) ?_
        exact z_at [(0, .ref 19), (1, .int (nI c)), (2, .int (nI n)), (3, .int (nI b)), (6, .long (D1.2 19 32)), (8, .int (nI t)), (9, .int (nI 0))] ⟨rfl, rfl, rfl, rfl, rfl, rfl, rfl, trivial⟩ (gd t 0 _ D2 ht64 (by
          have h9 : ¬ (okT t ∧ ordN t ≤ n) := by
            unfold okT ordN
            have g2 : 2 ≤ t := by
              rcases Nat.lt_or_ge t 2 with q | q
              · exact absurd (nI_lt q (by omega)) c27
              · exact q
            have gi : ¬ (8 ≤ t ∧ t ≤ 12) := fun q => n39 ⟨(le64 8 _ (by omega) (by omega)).mpr q.1, (le64 _ 12 (by omega) (by omega)).mpr q.2⟩
            have g31 : t ≤ 31 := (nI_leI (a := t) (b := 31) (by omega) (by omega)).mp c58
            intro q
            obtain ⟨q1, q2⟩ := q
            split at q2
            · omega
            · split at q2 <;> omega
          exact ⟨fun _ => h9, fun _ => rfl⟩) h2 (wk (hf1.tr hf2)))
      · refine z_iload dX9_readRow_61 (by exact rfl) ?_
        refine z_bipush dX9_readRow_63 ?_
        refine z_isub dX9_readRow_65 ?_
        refine z_iload_n dX9_readRow_66 (by exact rfl) ?_
        refine z_icmp_gt (tgt := 74) dX9_readRow_67 (by decide) (fun c67 => ?_) (fun c67 => ?_)
        · refine z_iconst dX9_readRow_74 ?_
          refine z_istore dX9_readRow_75 (Nat.le_of_ble_eq_true rfl) ?_
          exact z_at [(0, .ref 19), (1, .int (nI c)), (2, .int (nI n)), (3, .int (nI b)), (6, .long (D1.2 19 32)), (8, .int (nI t)), (9, .int (nI 0))] ⟨rfl, rfl, rfl, rfl, rfl, rfl, rfl, trivial⟩ (gd t 0 _ D2 ht64 (by
            have h9 : ¬ (okT t ∧ ordN t ≤ n) := by
              unfold okT ordN
              have g2 : 2 ≤ t := by
                rcases Nat.lt_or_ge t 2 with q | q
                · exact absurd (nI_lt q (by omega)) c27
                · exact q
              have gi : ¬ (8 ≤ t ∧ t ≤ 12) := fun q => n39 ⟨(le64 8 _ (by omega) (by omega)).mpr q.1, (le64 _ 12 (by omega) (by omega)).mpr q.2⟩
              have g31 : 31 < t := by
                rcases Nat.lt_or_ge 31 t with q | q
                · exact q
                · exact absurd (nI_le q (by omega)) c58
              have g6 : n < t - 31 := (nI_ltI (a := n) (b := t - 31) (by omega) (by omega)).mp (by
                rw [show nI t - (Int8.ofInt 31).toInt32 = nI (t - 31) from pk_sub (a := t) (b := 31) (by omega)] at c67
                exact c67)
              intro q
              obtain ⟨q1, q2⟩ := q
              split at q2
              · omega
              · split at q2 <;> omega
            exact ⟨fun _ => h9, fun _ => rfl⟩) h2 (wk (hf1.tr hf2)))
        · refine z_iconst dX9_readRow_70 ?_
          refine z_goto (tgt := 75) dX9_readRow_71 (by decide) ?_
          refine z_istore dX9_readRow_75 (Nat.le_of_ble_eq_true rfl) ?_
          exact z_at [(0, .ref 19), (1, .int (nI c)), (2, .int (nI n)), (3, .int (nI b)), (6, .long (D1.2 19 32)), (8, .int (nI t)), (9, .int (nI 1))] ⟨rfl, rfl, rfl, rfl, rfl, rfl, rfl, trivial⟩ (gd t 1 _ D2 ht64 (by
            have h9 : okT t ∧ ordN t ≤ n := by
              unfold okT ordN
              have g2 : 2 ≤ t := by
                rcases Nat.lt_or_ge t 2 with q | q
                · exact absurd (nI_lt q (by omega)) c27
                · exact q
              have gi : ¬ (8 ≤ t ∧ t ≤ 12) := fun q => n39 ⟨(le64 8 _ (by omega) (by omega)).mpr q.1, (le64 _ 12 (by omega) (by omega)).mpr q.2⟩
              have g31 : 31 < t := by
                rcases Nat.lt_or_ge 31 t with q | q
                · exact q
                · exact absurd (nI_le q (by omega)) c58
              have g6 : ¬ n < t - 31 := fun q => c67 (by
                rw [show nI t - (Int8.ofInt 31).toInt32 = nI (t - 31) from pk_sub (a := t) (b := 31) (by omega)]
                exact nI_lt q (by omega))
              refine ⟨by omega, ?_⟩
              split
              · omega
              · split <;> omega
            exact ⟨fun q => absurd q (by decide), fun q => absurd h9 q⟩) h2 (wk (hf1.tr hf2)))
