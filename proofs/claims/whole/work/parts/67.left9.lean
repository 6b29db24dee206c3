/-! ===== the reference's readLeft ===== -/
def fL9 (c a k : Nat) : Bool := fW9 a k || (a == 61 || (a == 64 && (decide (256 * c ≤ k) && decide (k < 256 * c + 256))))
theorem fL9_w (c a k : Nat) (h : fL9 c a k = false) : fW9 a k = false := or_l h
theorem fL9_9 (c a k : Nat) (h : fL9 c a k = false) : f9 a k = false := or_l (or_l h)
theorem fL9_61 (c a k : Nat) (h : fL9 c a k = false) : f61 a k = false := or_l (or_r h)
theorem fL9_n {c i : Nat} (hi : i < 256) : fL9 c 64 (256 * c + i) = true := by
  unfold fL9
  simp
  omega
def rowB (D : zD) (d c : Nat) (a : zRow) (n : Nat) : Prop := ∀ i, i < n → D.2 64 (256 * c + i) = lI (a i) ∧ inB d (a i)
theorem rowB.s {D : zD} {d c n : Nat} {a : zRow} (h : rowB D d c a n) (hd : d ≤ 25) : row9 D c a n := fun i hi => ⟨(h i hi).1, inB_le (B := 24) (h i hi).2 (by omega)⟩
theorem rowB.fr {D D' : zD} {F : Nat → Nat → Bool} {d c n : Nat} {a : zRow} (h : rowB D d c a n) (hF : zfr F D D') (hn : ∀ i, i < n → F 64 (256 * c + i) = false) : rowB D' d c a n := fun i hi => by
  rw [hF.2 64 _ (hn i hi)]
  exact h i hi
theorem pred9.fr {D D' : zD} {F : Nat → Nat → Bool} {t : Nat} {pr : zPr} (h : pred9 D t pr) (hF : zfr F D D') (h1 : F 19 43 = false) (h2 : ∀ k, F 65 k = false) : pred9 D' t pr := ⟨h.1, fun ht => ⟨(hF.1 _ _ h1).trans (h.2 ht).1, (h.2 ht).2.1, fun j hj => by
  rw [hF.1 65 j (h2 j)]
  exact (h.2 ht).2.2 j hj⟩⟩
theorem rowB.up {D : zD} {d c i : Nat} {a : zRow} {x : Int} (h : rowB D d c a i) (hx : inB d x) : rowB (zuL D 64 (256 * c + i) (lI x)) d c (uN a i x) (i + 1) := by
  intro j hj
  obtain q | q : j = i ∨ j < i := by omega
  · subst q
    rw [uN_s, zuL_at]
    exact ⟨rfl, hx⟩
  · rw [uN_n (by omega), zuL_ne (by omega)]
    exact h j q
theorem q_i16 : ∀ q, q < 16 → ((nI q &&& 31).toBitVec.smod 32).toNat = q := by decide
theorem c_readLeft {β : Type} {d0 c n d t sz : Nat} {D : zD} {T : Nat → Bool} {Q : zQ} {a0 : zRow} {K : zRow → RS β} {sp : RT β} {P : Prop} (hsz : sz ≤ 20000) (hc : c < 8) (hn : 1 ≤ n ∧ n ≤ 256) (hd : 1 ≤ d ∧ d ≤ 25) (ht : (8 ≤ t ∧ t ≤ 12) ∨ (32 ≤ t ∧ t < 64)) (hon : ordN t ≤ n) (h : rs9 D T sz (rbind (sPred T (8 * sz) t) fun pr => rbind (sRes T (8 * sz) n d (ordN t) pr a0) K) sp (P ∧ rowB D d c a0 (ordN t)))
    (hq : ∀ D' a, rs9 D' T sz (K a) sp (P ∧ rowB D' d c a n) → zfr (fL9 c) D D' → Q (.inl none) 0 D') : ZM yX9_readLeft iX9_readLeft (d0 + 4) [.ref 19, .int (nI c), .int (nI n), .int (nI d), .int (nI t)] D Q := by
  refine z_method (by decide) rfl (Nat.le_of_ble_eq_true rfl) ?_
  refine z_at [(0, .ref 19), (1, .int (nI c)), (2, .int (nI n)), (3, .int (nI d)), (4, .int (nI t))] ⟨rfl, rfl, rfl, rfl, rfl, trivial⟩ ?_
  have wk : ∀ {X Y : zD}, zfr f9 X Y → zfr (fL9 c) X Y := fun h => h.wk (fL9_9 c)
  have wkw : ∀ {X Y : zD}, zfr fW9 X Y → zfr (fL9 c) X Y := fun h => h.wk (fL9_w c)
  have wk6 : ∀ {X Y : zD}, zfr f61 X Y → zfr (fL9 c) X Y := fun h => h.wk (fL9_61 c)
  have ho32 : ordN t ≤ 32 := by
    unfold ordN
    split
    · omega
    · split <;> omega
  obtain ⟨o, eo⟩ : ∃ o, o = ordN t := ⟨_, rfl⟩
  rw [← eo] at hon ho32 h
  have inner : ∀ (pr : zPr) (q part p : Nat), (p + 1) * part ≤ n → part ≤ 256 → p < 256 → q < 16 → ∀ (wide : Nat) (pl : Bool) (w : Nat), w ≤ 31 → ∀ (K2 : zRow → RS β),
      (∀ (D1 : zD) (a : zRow), rs9 D1 T sz (K2 a) sp (P ∧ pred9 D1 t pr ∧ rowB D1 d c a ((p + 1) * part)) → zfr (fL9 c) D D1 → Z (zmk iX9_readLeft (d0 + 4)) 0 287 (zl [(0, .ref 19), (1, .int (nI c)), (2, .int (nI n)), (3, .int (nI d)), (4, .int (nI t)), (5, .int (nI o)), (6, .int (nI wide)), (9, .int (nI q)), (10, .int (nI part)), (11, .int (nI p))]) [] D1 Q) →
      ∀ (m i : Nat) (D1 : zD) (a : zRow), i + m = (p + 1) * part → o ≤ i → rs9 D1 T sz (rbind (rloop (sOne T (8 * sz) d o pr pl w) i m a) K2) sp (P ∧ pred9 D1 t pr ∧ rowB D1 d c a i) → zfr (fL9 c) D D1 → Z (zmk iX9_readLeft (d0 + 4)) 0 173 (zl [(0, .ref 19), (1, .int (nI c)), (2, .int (nI n)), (3, .int (nI d)), (4, .int (nI t)), (5, .int (nI o)), (6, .int (nI wide)), (9, .int (nI q)), (10, .int (nI part)), (11, .int (nI p)), (12, .int (nI (if pl = true then 2 ^ wide - 1 else w))), (13, .int (nI pl.toNat)), (14, .int (nI (if pl = true then w else 0))), (15, .int (nI i))]) [] D1 Q := by
    intro pr q part p hpp hpart hp256 hq16 wide pl w hw K2 next m
    have emul : (nI p + Int32.ofInt 1) * nI part = nI ((p + 1) * part) := by
      rw [show nI p + Int32.ofInt 1 = nI (p + 1) from nI_1 p]
      exact pk_mul _ _
    induction m with
    | zero =>
      intro i D1 a hi hoi h1 hF
      have hi : i = (p + 1) * part := by omega
      refine z_iload dX9_readLeft_173 (by exact rfl) ?_
      refine z_iload dX9_readLeft_175 (by exact rfl) ?_
      refine z_iconst dX9_readLeft_177 ?_
      refine z_iadd dX9_readLeft_178 ?_
      refine z_iload dX9_readLeft_179 (by exact rfl) ?_
      refine z_imul dX9_readLeft_181 ?_
      refine z_eI (nI ((p + 1) * part)) emul ?_
      refine z_icmp_ge (tgt := 287) dX9_readLeft_182 (by decide) (fun _ => ?_) (fun q9 => absurd ((nI_le (by omega) (by omega))) q9)
      exact z_at [(0, .ref 19), (1, .int (nI c)), (2, .int (nI n)), (3, .int (nI d)), (4, .int (nI t)), (5, .int (nI o)), (6, .int (nI wide)), (9, .int (nI q)), (10, .int (nI part)), (11, .int (nI p))] ⟨rfl, rfl, rfl, rfl, rfl, rfl, rfl, rfl, rfl, rfl, trivial⟩ (next D1 a (by rw [← hi]; exact h1) hF)
    | succ m ih =>
      intro i D1 a hi hoi h1 hF
      rcases h1 with ⟨p1, hR1, hK1, hP, hpr, hro⟩ | hbad
      · have tl : ∀ (D3 : zD) (a' : zRow), rs9 D3 T sz (rbind (rloop (sOne T (8 * sz) d o pr pl w) (i + 1) m a') K2) sp (P ∧ pred9 D3 t pr ∧ rowB D3 d c a' (i + 1)) → zfr (fL9 c) D D3 → Z (zmk iX9_readLeft (d0 + 4)) 0 281 (zl [(0, .ref 19), (1, .int (nI c)), (2, .int (nI n)), (3, .int (nI d)), (4, .int (nI t)), (5, .int (nI o)), (6, .int (nI wide)), (9, .int (nI q)), (10, .int (nI part)), (11, .int (nI p)), (12, .int (nI (if pl = true then 2 ^ wide - 1 else w))), (13, .int (nI pl.toNat)), (14, .int (nI (if pl = true then w else 0))), (15, .int (nI i))]) [] D3 Q := by
          intro D3 a' h3 hF3
          refine z_iinc dX9_readLeft_281 (by exact rfl) ?_
          refine z_at [(0, .ref 19), (1, .int (nI c)), (2, .int (nI n)), (3, .int (nI d)), (4, .int (nI t)), (5, .int (nI o)), (6, .int (nI wide)), (9, .int (nI q)), (10, .int (nI part)), (11, .int (nI p)), (12, .int (nI (if pl = true then 2 ^ wide - 1 else w))), (13, .int (nI pl.toNat)), (14, .int (nI (if pl = true then w else 0))), (15, .int (nI (i + 1)))] ⟨rfl, rfl, rfl, rfl, rfl, rfl, rfl, rfl, rfl, rfl, rfl, rfl, rfl, congrArg (fun x => some (Value.int x)) (nI_1 i), trivial⟩ ?_
          refine z_goto (tgt := 173) dX9_readLeft_284 (by decide) ?_
          exact ih (i + 1) D3 a' (by omega) (by omega) h3 hF3
        have fin : ∀ (D2 : zD) (ev : Int), bd (2 ^ 51) ev → rs9 D2 T sz (rbind (fun q => zif (inB d (fore pr.2 pr.1 o a i + ev)) (.inr (uN a i (fore pr.2 pr.1 o a i + ev), q)) (.inl (2, p1))) fun a' => rbind (rloop (sOne T (8 * sz) d o pr pl w) (i + 1) m a') K2) sp True → zfr f9 D1 D2 → Z (zmk iX9_readLeft (d0 + 4)) 0 218 (zl [(0, .ref 19), (1, .int (nI c)), (2, .int (nI n)), (3, .int (nI d)), (4, .int (nI t)), (5, .int (nI o)), (6, .int (nI wide)), (7, .long (lN p1)), (9, .int (nI q)), (10, .int (nI part)), (11, .int (nI p)), (12, .int (nI (if pl = true then 2 ^ wide - 1 else w))), (13, .int (nI pl.toNat)), (14, .int (nI (if pl = true then w else 0))), (15, .int (nI i))]) [.long (lI ev)] D2 Q := by
          intro D2 ev hev h2 hf2
          have hpr2 : pred9 D2 t pr := hpr.fr hf2 rfl (fun _ => rfl)
          have hro2 : rowB D2 d c a i := hro.fr hf2 (fun _ _ => rfl)
          have eix : (Int16.ofInt 256).toInt32 * nI c + nI i = nI (256 * c + i) := by
            rw [show (Int16.ofInt 256).toInt32 = nI 256 from rfl, pk_mul, nI_add]
          have cli : (nI (256 * c + i)).toNatClampNeg = 256 * c + i := nI_clamp (by omega)
          have ho32' : o ≤ 32 := ho32
          have hwt : ∀ k, k < o → wtI (pr.2 k) := fun k hk => by
            rcases ht with h9 | h9
            · have e9 : o = t - 8 := by
                rw [eo]
                unfold ordN
                rw [if_neg (by omega), if_pos (by omega)]
              rw [hpr.1 (by omega)]
              exact fxC_w (t - 8) (by omega) k (by omega)
            · have e9 : o = t - 31 := by
                rw [eo]
                unfold ordN
                rw [if_neg (by omega), if_neg (by omega)]
              exact ((hpr.2 (by omega)).2.2 k (by omega)).2
          have hfb := fore_bd (c := pr.2) (a := a) (i := i) (s := pr.1) ho32 hwt (fun k hk => (hro.s hd.2 (i - 1 - k) (by omega)).2)
          unfold bd at hfb hev
          have hlt : i < 256 := by omega
          refine z_lstore dX9_readLeft_218 (Nat.le_of_ble_eq_true rfl) ?_
          refine z_aload_n dX9_readLeft_220 (by exact rfl) ?_
          refine z_gfA zfx_X9_64 (by exact rfl) dX9_readLeft_221 ?_
          refine z_sipush dX9_readLeft_224 ?_
          refine z_iload_n dX9_readLeft_227 (by exact rfl) ?_
          refine z_imul dX9_readLeft_228 ?_
          refine z_iload dX9_readLeft_229 (by exact rfl) ?_
          refine z_iadd dX9_readLeft_231 ?_
          refine z_eI (nI (256 * c + i)) eix ?_
          refine z_aload_n dX9_readLeft_232 (by exact rfl) ?_
          refine z_iload_n dX9_readLeft_233 (by exact rfl) ?_
          refine z_iload dX9_readLeft_234 (by exact rfl) ?_
          refine z_iload dX9_readLeft_236 (by exact rfl) ?_
          refine z_cV dX9_readLeft_238 zk_X9_367 (by exact rfl) (by exact rfl) (by exact rfl) (Nat.le_of_ble_eq_true rfl) (Nat.le_of_ble_eq_true rfl) (Nat.le_refl _) ?_
          refine c_foretold (a := a) (pr := pr) hc hlt ht (by rw [← eo]; exact hoi) (fun D3 x hx hf3 => ?_)
          have hx := hx hpr2 (hro2.s hd.2)
          rw [← eo] at hx
          refine z_lload dX9_readLeft_241 (by exact rfl) ?_
          refine z_ladd dX9_readLeft_243 ?_
          refine z_eJ (lI (fore pr.2 pr.1 o a i + ev)) (by rw [hx]; exact lI_add _ _) ?_
          refine z_sJ (by exact rfl) dX9_readLeft_244 (vp_in_nI (by omega) (by omega)) ?_
          rw [cli]
          have hF4 : zfr (fL9 c) D (zuL D3 64 (256 * c + i) (lI (fore pr.2 pr.1 o a i + ev))) := ((hF.tr (wk hf2)).tr (wk6 hf3)).uL _ (fL9_n hlt)
          have h3 := h2.fr hf3 rfl rfl rfl rfl (fun _ => rfl)
          have h4 := h3.fr (F := fun a _ => a == 64) (zfr.rf.uL (a := 64) (k := 256 * c + i) (lI (fore pr.2 pr.1 o a i + ev)) rfl) rfl rfl rfl rfl (fun _ => rfl)
          have pr4 : pred9 (zuL D3 64 (256 * c + i) (lI (fore pr.2 pr.1 o a i + ev))) t pr := (hpr2.fr hf3 rfl (fun _ => rfl)).fr (F := fun a _ => a == 64) (zfr.rf.uL _ rfl) rfl (fun _ => rfl)
          have ro3 : rowB D3 d c a i := hro2.fr hf3 (fun _ _ => rfl)
          refine z_aload_n dX9_readLeft_245 (by exact rfl) ?_
          refine z_gfI zfx_X9_264 (by exact rfl) dX9_readLeft_246 ?_
          refine z_if_ne (tgt := 281) dX9_readLeft_249 (by decide) (fun c249 => ?_) (fun c249 => ?_)
          · exact z_at [(0, .ref 19), (1, .int (nI c)), (2, .int (nI n)), (3, .int (nI d)), (4, .int (nI t)), (5, .int (nI o)), (6, .int (nI wide)), (9, .int (nI q)), (10, .int (nI part)), (11, .int (nI p)), (12, .int (nI (if pl = true then 2 ^ wide - 1 else w))), (13, .int (nI pl.toNat)), (14, .int (nI (if pl = true then w else 0))), (15, .int (nI i))] ⟨rfl, rfl, rfl, rfl, rfl, rfl, rfl, rfl, rfl, rfl, rfl, rfl, rfl, rfl, trivial⟩ (tl _ a (by
              rcases h4 with ⟨p4, hR4, _, _⟩ | hb
              · exact absurd hR4.2.2.2.2.1 c249
              · exact .inr hb) hF4)
          · have hg : ∃ p4, rd9 (zuL D3 64 (256 * c + i) (lI (fore pr.2 pr.1 o a i + ev))) T sz p4 ∧ rbind (fun q => zif (inB d (fore pr.2 pr.1 o a i + ev)) (.inr (uN a i (fore pr.2 pr.1 o a i + ev), q)) (.inl (2, p1))) (fun a' => rbind (rloop (sOne T (8 * sz) d o pr pl w) (i + 1) m a') K2) p4 = sp := by
              rcases h4 with ⟨p4, hR4, hK4, _⟩ | ⟨k, pl, hb, _⟩
              · exact ⟨p4, hR4, hK4⟩
              · exact absurd c249 hb.z
            obtain ⟨p4, hR4, hK4⟩ := hg
            refine z_aload_n dX9_readLeft_252 (by exact rfl) ?_
            refine z_gfA zfx_X9_64 (by exact rfl) dX9_readLeft_253 ?_
            refine z_sipush dX9_readLeft_256 ?_
            refine z_iload_n dX9_readLeft_259 (by exact rfl) ?_
            refine z_imul dX9_readLeft_260 ?_
            refine z_iload dX9_readLeft_261 (by exact rfl) ?_
            refine z_iadd dX9_readLeft_263 ?_
            refine z_eI (nI (256 * c + i)) eix ?_
            refine z_aJ (by exact rfl) dX9_readLeft_264 (vp_in_nI (by omega) (by omega)) ?_
            refine z_eJ (lI (fore pr.2 pr.1 o a i + ev)) (by rw [cli]; exact zuL_at _ _ _ _) ?_
            refine z_iload_n dX9_readLeft_265 (by exact rfl) ?_
            refine z_cS dX9_readLeft_266 zk_X9_104 (by exact rfl) (Nat.le_of_ble_eq_true rfl) (Nat.le_of_ble_eq_true rfl) (Nat.le_refl _) ?_
            refine c_fits9 (fun a266 b266 => ?_) (fun n266 => ?_)
            · refine z_if_ne (tgt := 281) dX9_readLeft_269 (by decide) (fun _ => ?_) (fun q9 => absurd q9 (by decide))
              exact z_at [(0, .ref 19), (1, .int (nI c)), (2, .int (nI n)), (3, .int (nI d)), (4, .int (nI t)), (5, .int (nI o)), (6, .int (nI wide)), (9, .int (nI q)), (10, .int (nI part)), (11, .int (nI p)), (12, .int (nI (if pl = true then 2 ^ wide - 1 else w))), (13, .int (nI pl.toNat)), (14, .int (nI (if pl = true then w else 0))), (15, .int (nI i))] ⟨rfl, rfl, rfl, rfl, rfl, rfl, rfl, rfl, rfl, rfl, rfl, rfl, rfl, rfl, trivial⟩ (by
                have hin := (zlim_in (b := d) (x := fore pr.2 pr.1 o a i + ev) hd.1 (by omega) (by omega) (by omega)).mp ⟨a266, b266⟩
                exact tl _ _ (.inl ⟨p4, hR4, (rbind_r (f := fun a' => rbind (rloop (sOne T (8 * sz) d o pr pl w) (i + 1) m a') K2) (zif_p hin)).symm.trans hK4, hP, pr4, ro3.up hin⟩) hF4)
            · refine z_if_ne (tgt := 281) dX9_readLeft_269 (by decide) (fun q9 => absurd rfl q9) (fun _ => ?_)
              refine z_aload_n dX9_readLeft_272 (by exact rfl) ?_
              refine z_iconst dX9_readLeft_273 ?_
              refine z_lload dX9_readLeft_274 (by exact rfl) ?_
              refine z_cV dX9_readLeft_276 zk_X9_273 (by exact rfl) (by exact rfl) (by exact rfl) (Nat.le_of_ble_eq_true rfl) (Nat.le_of_ble_eq_true rfl) (Nat.le_refl _) ?_
              refine c_wrong (fun _ => ?_) (fun q => absurd hR4.2.2.2.2.1 q)
              refine z_istore dX9_readLeft_279 (Nat.le_of_ble_eq_true rfl) ?_
              exact z_at [(0, .ref 19), (1, .int (nI c)), (2, .int (nI n)), (3, .int (nI d)), (4, .int (nI t)), (5, .int (nI o)), (6, .int (nI wide)), (9, .int (nI q)), (10, .int (nI part)), (11, .int (nI p)), (12, .int (nI (if pl = true then 2 ^ wide - 1 else w))), (13, .int (nI pl.toNat)), (14, .int (nI (if pl = true then w else 0))), (15, .int (nI i))] ⟨rfl, rfl, rfl, rfl, rfl, rfl, rfl, rfl, rfl, rfl, rfl, rfl, rfl, rfl, trivial⟩ (by
                have hni : ¬ inB d (fore pr.2 pr.1 o a i + ev) := fun q => n266 ((zlim_in (b := d) (x := fore pr.2 pr.1 o a i + ev) hd.1 (by omega) (by omega) (by omega)).mpr q)
                exact tl _ a (.inr ⟨2, p1, ⟨rfl, lN_i p1, by omega, by omega⟩, hK4.symm.trans (rbind_l (zif_n hni))⟩) (hF4.tr (wk (zfr_fail9 zfr.rf))))
        cases pl with
        | true =>
          have hK2 : rbind (rit T (8 * sz) w kAny) (fun v => rbind (fun q => zif (inB d (fore pr.2 pr.1 o a i + sgI w v)) (.inr (uN a i (fore pr.2 pr.1 o a i + sgI w v), q)) (.inl (2, p1))) fun a' => rbind (rloop (sOne T (8 * sz) d o pr true w) (i + 1) m a') K2) p1 = sp := by
            rw [← hK1]
            show _ = rbind (rbind (sOne T (8 * sz) d o pr true w i a) (rloop (sOne T (8 * sz) d o pr true w) (i + 1) m)) K2 p1
            rw [rassoc, ← rassoc]
            rfl
          refine z_iload dX9_readLeft_173 (by exact rfl) ?_
          refine z_iload dX9_readLeft_175 (by exact rfl) ?_
          refine z_iconst dX9_readLeft_177 ?_
          refine z_iadd dX9_readLeft_178 ?_
          refine z_iload dX9_readLeft_179 (by exact rfl) ?_
          refine z_imul dX9_readLeft_181 ?_
          refine z_eI (nI ((p + 1) * part)) emul ?_
          refine z_icmp_ge (tgt := 287) dX9_readLeft_182 (by decide) (fun q9 => absurd q9 ((nI_ge (a := i) (b := (p + 1) * part) (by omega) (by omega)))) (fun _ => ?_)
          refine z_aload_n dX9_readLeft_185 (by exact rfl) ?_
          refine z_gfI zfx_X9_264 (by exact rfl) dX9_readLeft_186 ?_
          refine z_if_ne (tgt := 287) dX9_readLeft_189 (by decide) (fun q9 => absurd (hR1.2.2.2.2.1) q9) (fun _ => ?_)
          refine z_aload_n dX9_readLeft_192 (by exact rfl) ?_
          refine z_gfL zfx_X9_267 (by exact rfl) dX9_readLeft_193 ?_
          refine z_eJ (lN p1) hR1.2.2.1 ?_
          refine z_lstore dX9_readLeft_196 (Nat.le_of_ble_eq_true rfl) ?_
          refine z_iload dX9_readLeft_198 (by exact rfl) ?_
          refine z_if_eq (tgt := 212) dX9_readLeft_200 (by decide) (fun q9 => absurd q9 ((by decide))) (fun _ => ?_)
          refine z_aload_n dX9_readLeft_203 (by exact rfl) ?_
          refine z_iload dX9_readLeft_204 (by exact rfl) ?_
          refine z_cV dX9_readLeft_206 zk_X9_351 (by exact rfl) (by exact rfl) (by exact rfl) (Nat.le_of_ble_eq_true rfl) (Nat.le_of_ble_eq_true rfl) (Nat.le_refl _) ?_
          refine c_takeSignedU (w := w) (P := True) (by omega) (.inl ⟨p1, hR1, hK2, trivial⟩) (fun D2 v hv h2 hf2 => ?_)
          have hsb : bd (2 ^ 31 : Int) (sgI w v) := by
            rcases Nat.eq_zero_or_pos w with q | q
            · subst q
              have : v = 0 := by omega
              subst this
              exact ⟨by decide, by decide⟩
            · exact inB_le (B := 31) (sgI_in hv q) (by omega)
          refine z_goto (tgt := 218) dX9_readLeft_209 (by decide) ?_
          exact z_at [(0, .ref 19), (1, .int (nI c)), (2, .int (nI n)), (3, .int (nI d)), (4, .int (nI t)), (5, .int (nI o)), (6, .int (nI wide)), (7, .long (lN p1)), (9, .int (nI q)), (10, .int (nI part)), (11, .int (nI p)), (12, .int (nI (if true = true then 2 ^ wide - 1 else w))), (13, .int (nI true.toNat)), (14, .int (nI (if true = true then w else 0))), (15, .int (nI i))] ⟨rfl, rfl, rfl, rfl, rfl, rfl, rfl, rfl, rfl, rfl, rfl, rfl, rfl, rfl, rfl, trivial⟩ (fin D2 _ (by unfold bd at hsb ⊢; omega) h2 hf2)
        | false =>
          have hK2 : rbind (sRun T (8 * sz)) (fun z => rbind (rit T (8 * sz) w kAny) fun v => (fun u => rbind (fun q => zif (inB d (fore pr.2 pr.1 o a i + unfI u)) (.inr (uN a i (fore pr.2 pr.1 o a i + unfI u), q)) (.inl (2, p1))) fun a' => rbind (rloop (sOne T (8 * sz) d o pr false w) (i + 1) m a') K2) (z * 2 ^ w + v)) p1 = sp := by
            rw [← hK1]
            show _ = rbind (rbind (sOne T (8 * sz) d o pr false w i a) (rloop (sOne T (8 * sz) d o pr false w) (i + 1) m)) K2 p1
            rw [rassoc]
            show _ = rbind (rbind (sRun T (8 * sz)) _) _ p1
            rw [rassoc]
            congr 1
            funext z
            rw [rassoc]
            rfl
          refine z_iload dX9_readLeft_173 (by exact rfl) ?_
          refine z_iload dX9_readLeft_175 (by exact rfl) ?_
          refine z_iconst dX9_readLeft_177 ?_
          refine z_iadd dX9_readLeft_178 ?_
          refine z_iload dX9_readLeft_179 (by exact rfl) ?_
          refine z_imul dX9_readLeft_181 ?_
          refine z_eI (nI ((p + 1) * part)) emul ?_
          refine z_icmp_ge (tgt := 287) dX9_readLeft_182 (by decide) (fun q9 => absurd q9 ((nI_ge (a := i) (b := (p + 1) * part) (by omega) (by omega)))) (fun _ => ?_)
          refine z_aload_n dX9_readLeft_185 (by exact rfl) ?_
          refine z_gfI zfx_X9_264 (by exact rfl) dX9_readLeft_186 ?_
          refine z_if_ne (tgt := 287) dX9_readLeft_189 (by decide) (fun q9 => absurd (hR1.2.2.2.2.1) q9) (fun _ => ?_)
          refine z_aload_n dX9_readLeft_192 (by exact rfl) ?_
          refine z_gfL zfx_X9_267 (by exact rfl) dX9_readLeft_193 ?_
          refine z_eJ (lN p1) hR1.2.2.1 ?_
          refine z_lstore dX9_readLeft_196 (Nat.le_of_ble_eq_true rfl) ?_
          refine z_iload dX9_readLeft_198 (by exact rfl) ?_
          refine z_if_eq (tgt := 212) dX9_readLeft_200 (by decide) (fun _ => ?_) (fun q9 => absurd ((by decide)) q9)
          refine z_aload_n dX9_readLeft_212 (by exact rfl) ?_
          refine z_iload dX9_readLeft_213 (by exact rfl) ?_
          refine z_cV dX9_readLeft_215 zk_X9_364 (by exact rfl) (by exact rfl) (by exact rfl) (Nat.le_of_ble_eq_true rfl) (Nat.le_of_ble_eq_true rfl) (Nat.le_refl _) ?_
          refine c_unfolded9 (k := w) (K := fun u => rbind (fun q => zif (inB d (fore pr.2 pr.1 o a i + unfI u)) (.inr (uN a i (fore pr.2 pr.1 o a i + unfI u), q)) (.inl (2, p1))) fun a' => rbind (rloop (sOne T (8 * sz) d o pr false w) (i + 1) m a') K2) (P := True) hsz (by omega) (.inl ⟨p1, hR1, hK2, trivial⟩) (fun D2 u hu h2 hf2 => ?_)
          exact z_at [(0, .ref 19), (1, .int (nI c)), (2, .int (nI n)), (3, .int (nI d)), (4, .int (nI t)), (5, .int (nI o)), (6, .int (nI wide)), (7, .long (lN p1)), (9, .int (nI q)), (10, .int (nI part)), (11, .int (nI p)), (12, .int (nI (if false = true then 2 ^ wide - 1 else w))), (13, .int (nI false.toNat)), (14, .int (nI (if false = true then w else 0))), (15, .int (nI i))] ⟨rfl, rfl, rfl, rfl, rfl, rfl, rfl, rfl, rfl, rfl, rfl, rfl, rfl, rfl, rfl, trivial⟩ (fin D2 _ (unf_bd (B := 2 ^ 51) (by omega)) h2 hf2)
      · obtain ⟨k, pp, hb, esp⟩ := hbad
        refine z_iload dX9_readLeft_173 (by exact rfl) ?_
        refine z_iload dX9_readLeft_175 (by exact rfl) ?_
        refine z_iconst dX9_readLeft_177 ?_
        refine z_iadd dX9_readLeft_178 ?_
        refine z_iload dX9_readLeft_179 (by exact rfl) ?_
        refine z_imul dX9_readLeft_181 ?_
        refine z_eI (nI ((p + 1) * part)) emul ?_
        refine z_icmp_ge (tgt := 287) dX9_readLeft_182 (by decide) (fun q9 => absurd q9 ((nI_ge (a := i) (b := (p + 1) * part) (by omega) (by omega)))) (fun _ => ?_)
        refine z_aload_n dX9_readLeft_185 (by exact rfl) ?_
        refine z_gfI zfx_X9_264 (by exact rfl) dX9_readLeft_186 ?_
        refine z_if_ne (tgt := 287) dX9_readLeft_189 (by decide) (fun _ => ?_) (fun q9 => absurd q9 (hb.z))
        exact z_at [(0, .ref 19), (1, .int (nI c)), (2, .int (nI n)), (3, .int (nI d)), (4, .int (nI t)), (5, .int (nI o)), (6, .int (nI wide)), (9, .int (nI q)), (10, .int (nI part)), (11, .int (nI p))] ⟨rfl, rfl, rfl, rfl, rfl, rfl, rfl, rfl, rfl, rfl, trivial⟩ (next D1 a (.inr ⟨k, pp, hb, esp⟩) hF)
  have fo : ∀ {D1 : zD}, zfr (fL9 c) D D1 → True := fun _ => trivial
  have outer : ∀ (pr : zPr) (me q : Nat), q < 16 → ∀ (wide : Nat), (wide = 4 ∨ wide = 5) → (me ≤ 1 → wide = 4 + me) → ∀ (m p : Nat) (D1 : zD) (a : zRow), p + m = 2 ^ q → rs9 D1 T sz (rbind (rloop (fun part => sPart T (8 * sz) d o pr (4 + me) (if part = 0 then o else part * (n / 2 ^ q)) ((part + 1) * (n / 2 ^ q))) p m a) K) sp (P ∧ pred9 D1 t pr ∧ rowB D1 d c a (if p = 0 then o else p * (n / 2 ^ q)) ∧ me ≤ 1 ∧ n % 2 ^ q = 0 ∧ o ≤ n / 2 ^ q) → zfr (fL9 c) D D1 → Z (zmk iX9_readLeft (d0 + 4)) 0 96 (zl [(0, .ref 19), (1, .int (nI c)), (2, .int (nI n)), (3, .int (nI d)), (4, .int (nI t)), (5, .int (nI o)), (6, .int (nI wide)), (9, .int (nI q)), (10, .int (nI (n / 2 ^ q))), (11, .int (nI p))]) [] D1 Q := by
    intro pr me q hq16 wide hwd hwm m
    have hq0 := Nat.two_pow_pos q
    have hq2 : 2 ^ q ≤ 65536 := Nat.pow_le_pow_right (n := 2) (j := 16) (by omega) (by omega)
    have hln : n / 2 ^ q ≤ 256 := Nat.le_trans (Nat.div_le_self _ _) hn.2
    induction m with
    | zero =>
      intro p D1 a hp h1 hF
      have hp : p = 2 ^ q := by omega
      subst hp
      refine z_iload dX9_readLeft_96 (by exact rfl) ?_
      refine z_iconst dX9_readLeft_98 ?_
      refine z_iload dX9_readLeft_99 (by exact rfl) ?_
      refine z_ishl dX9_readLeft_101 ?_
      refine z_eI (nI (2 ^ q)) (q_p2 q hq16) ?_
      refine z_icmp_ge (tgt := 293) dX9_readLeft_102 (by decide) (fun _ => ?_) (fun q9 => absurd ((nI_le (Nat.le_refl _) (by omega))) q9)
      exact z_vret (st := []) rfl dX9_readLeft_293 (hq D1 a (h1.mp (fun _ hP => ⟨hP.1, by
        have h9 := hP.2.2.1
        rw [if_neg (by omega), Nat.mul_comm, Nat.div_mul_cancel (Nat.dvd_of_mod_eq_zero hP.2.2.2.2.1)] at h9
        exact h9⟩)) hF)
    | succ m ih =>
      intro p D1 a hp h1 hF
      rcases h1 with ⟨p1, hR1, hK1, hP, hpr, hro, hme, hmod, hol⟩ | ⟨k, pp, hb, esp⟩
      · have hwide := hwm hme
        have hnq : 2 ^ q * (n / 2 ^ q) = n := by
          rw [Nat.mul_comm]
          exact Nat.div_mul_cancel (Nat.dvd_of_mod_eq_zero hmod)
        have hpn : (p + 1) * (n / 2 ^ q) ≤ n := by
          have h9 : (p + 1) * (n / 2 ^ q) ≤ 2 ^ q * (n / 2 ^ q) := Nat.mul_le_mul_right _ (by omega)
          rw [hnq] at h9
          exact h9
        have hq256 : 2 ^ q ≤ 256 := Nat.le_trans (Nat.le_of_dvd (by omega) ⟨n / 2 ^ q, hnq.symm⟩) hn.2
        have hofr : o ≤ if p = 0 then o else p * (n / 2 ^ q) := by
          split
          · exact Nat.le_refl _
          · exact Nat.le_trans hol (Nat.le_mul_of_pos_left _ (by omega))
        have hft : (if p = 0 then o else p * (n / 2 ^ q)) ≤ (p + 1) * (n / 2 ^ q) := by
          rw [Nat.succ_mul]
          split <;> omega
        have hK2 : rbind (rit T (8 * sz) (4 + me) kAny) (fun key => rbind (if key = 2 ^ (4 + me) - 1 then rbind (rit T (8 * sz) 5 kAny) fun w => rpure (true, w) else rpure (false, key)) fun k => rbind (rloop (sOne T (8 * sz) d o pr k.1 k.2) (if p = 0 then o else p * (n / 2 ^ q)) ((p + 1) * (n / 2 ^ q) - (if p = 0 then o else p * (n / 2 ^ q))) a) fun a' => rbind (rloop (fun part => sPart T (8 * sz) d o pr (4 + me) (if part = 0 then o else part * (n / 2 ^ q)) ((part + 1) * (n / 2 ^ q))) (p + 1) m a') K) p1 = sp := by
          rw [← hK1]
          show _ = rbind (rbind (sPart T (8 * sz) d o pr (4 + me) (if p = 0 then o else p * (n / 2 ^ q)) ((p + 1) * (n / 2 ^ q)) a) (rloop _ (p + 1) m)) K p1
          rw [rassoc]
          show _ = rbind (rbind (rbind _ _) _) _ p1
          rw [rassoc, rassoc]
        have go : ∀ (pl : Bool) (w : Nat) (D2 : zD), w ≤ 31 → rs9 D2 T sz (rbind (rloop (sOne T (8 * sz) d o pr pl w) (if p = 0 then o else p * (n / 2 ^ q)) ((p + 1) * (n / 2 ^ q) - (if p = 0 then o else p * (n / 2 ^ q))) a) fun a' => rbind (rloop (fun part => sPart T (8 * sz) d o pr (4 + me) (if part = 0 then o else part * (n / 2 ^ q)) ((part + 1) * (n / 2 ^ q))) (p + 1) m a') K) sp True → zfr f9 D1 D2 → Z (zmk iX9_readLeft (d0 + 4)) 0 156 (zl [(0, .ref 19), (1, .int (nI c)), (2, .int (nI n)), (3, .int (nI d)), (4, .int (nI t)), (5, .int (nI o)), (6, .int (nI wide)), (9, .int (nI q)), (10, .int (nI (n / 2 ^ q))), (11, .int (nI p)), (12, .int (nI (if pl = true then 2 ^ wide - 1 else w))), (13, .int (nI pl.toNat)), (14, .int (nI (if pl = true then w else 0)))]) [] D2 Q := by
          intro pl w D2 hw h2 hf2
          have go2 : Z (zmk iX9_readLeft (d0 + 4)) 0 173 (zl [(0, .ref 19), (1, .int (nI c)), (2, .int (nI n)), (3, .int (nI d)), (4, .int (nI t)), (5, .int (nI o)), (6, .int (nI wide)), (9, .int (nI q)), (10, .int (nI (n / 2 ^ q))), (11, .int (nI p)), (12, .int (nI (if pl = true then 2 ^ wide - 1 else w))), (13, .int (nI pl.toNat)), (14, .int (nI (if pl = true then w else 0))), (15, .int (nI (if p = 0 then o else p * (n / 2 ^ q))))]) [] D2 Q := by
            refine inner pr q (n / 2 ^ q) p hpn hln (by omega) hq16 wide pl w hw _ (fun D3 a' h3 hF3 => ?_) _ (if p = 0 then o else p * (n / 2 ^ q)) D2 a (by omega) hofr (h2.mp (fun _ _ => ⟨hP, hpr.fr hf2 rfl (fun _ => rfl), hro.fr hf2 (fun _ _ => rfl)⟩)) (hF.tr (wk hf2))
            refine z_iinc dX9_readLeft_287 (by exact rfl) ?_
            refine z_at [(0, .ref 19), (1, .int (nI c)), (2, .int (nI n)), (3, .int (nI d)), (4, .int (nI t)), (5, .int (nI o)), (6, .int (nI wide)), (9, .int (nI q)), (10, .int (nI (n / 2 ^ q))), (11, .int (nI (p + 1)))] ⟨rfl, rfl, rfl, rfl, rfl, rfl, rfl, rfl, rfl, congrArg (fun x => some (Value.int x)) (nI_1 p), trivial⟩ ?_
            refine z_goto (tgt := 96) dX9_readLeft_290 (by decide) ?_
            exact ih (p + 1) D3 a' (by omega) (h3.mp (fun _ g => ⟨g.1, g.2.1, by rw [if_neg (by omega)]; exact g.2.2, hme, hmod, hol⟩)) hF3
          rcases Nat.eq_zero_or_pos p with e9 | e9
          · subst e9
            refine z_iload dX9_readLeft_156 (by exact rfl) ?_
            refine z_if_ne (tgt := 166) dX9_readLeft_158 (by decide) (fun q9 => absurd (rfl) q9) (fun _ => ?_)
            refine z_iload dX9_readLeft_161 (by exact rfl) ?_
            refine z_goto (tgt := 171) dX9_readLeft_163 (by decide) ?_
            refine z_istore dX9_readLeft_171 (Nat.le_of_ble_eq_true rfl) ?_
            exact z_at [(0, .ref 19), (1, .int (nI c)), (2, .int (nI n)), (3, .int (nI d)), (4, .int (nI t)), (5, .int (nI o)), (6, .int (nI wide)), (9, .int (nI q)), (10, .int (nI (n / 2 ^ q))), (11, .int (nI 0)), (12, .int (nI (if pl = true then 2 ^ wide - 1 else w))), (13, .int (nI pl.toNat)), (14, .int (nI (if pl = true then w else 0))), (15, .int (nI (if 0 = 0 then o else 0 * (n / 2 ^ q))))] ⟨rfl, rfl, rfl, rfl, rfl, rfl, rfl, rfl, rfl, rfl, rfl, rfl, rfl, rfl, trivial⟩ go2
          · refine z_iload dX9_readLeft_156 (by exact rfl) ?_
            refine z_if_ne (tgt := 166) dX9_readLeft_158 (by decide) (fun _ => ?_) (fun q9 => absurd q9 ((nI_ne0 e9 (by omega))))
            refine z_iload dX9_readLeft_166 (by exact rfl) ?_
            refine z_iload dX9_readLeft_168 (by exact rfl) ?_
            refine z_imul dX9_readLeft_170 ?_
            refine z_eI (nI (if p = 0 then o else p * (n / 2 ^ q))) (by rw [if_neg (by omega)]; exact pk_mul _ _) ?_
            refine z_istore dX9_readLeft_171 (Nat.le_of_ble_eq_true rfl) ?_
            exact z_at [(0, .ref 19), (1, .int (nI c)), (2, .int (nI n)), (3, .int (nI d)), (4, .int (nI t)), (5, .int (nI o)), (6, .int (nI wide)), (9, .int (nI q)), (10, .int (nI (n / 2 ^ q))), (11, .int (nI p)), (12, .int (nI (if pl = true then 2 ^ wide - 1 else w))), (13, .int (nI pl.toNat)), (14, .int (nI (if pl = true then w else 0))), (15, .int (nI (if p = 0 then o else p * (n / 2 ^ q))))] ⟨rfl, rfl, rfl, rfl, rfl, rfl, rfl, rfl, rfl, rfl, rfl, rfl, rfl, rfl, trivial⟩ go2
        have hp32 : 2 ^ wide ≤ 32 := Nat.pow_le_pow_right (n := 2) (j := 5) (by omega) (by omega)
        have hK2' : rs9 D1 T sz (rbind (rit T (8 * sz) wide kAny) (fun key => rbind (if key = 2 ^ wide - 1 then rbind (rit T (8 * sz) 5 kAny) fun w => rpure (true, w) else rpure (false, key)) fun k => rbind (rloop (sOne T (8 * sz) d o pr k.1 k.2) (if p = 0 then o else p * (n / 2 ^ q)) ((p + 1) * (n / 2 ^ q) - (if p = 0 then o else p * (n / 2 ^ q))) a) fun a' => rbind (rloop (fun part => sPart T (8 * sz) d o pr (4 + me) (if part = 0 then o else part * (n / 2 ^ q)) ((part + 1) * (n / 2 ^ q))) (p + 1) m a') K)) sp True := .inl ⟨p1, hR1, by rw [hwide]; exact hK2, trivial⟩
        refine z_iload dX9_readLeft_96 (by exact rfl) ?_
        refine z_iconst dX9_readLeft_98 ?_
        refine z_iload dX9_readLeft_99 (by exact rfl) ?_
        refine z_ishl dX9_readLeft_101 ?_
        refine z_eI (nI (2 ^ q)) (q_p2 q hq16) ?_
        refine z_icmp_ge (tgt := 293) dX9_readLeft_102 (by decide) (fun q9 => absurd q9 ((nI_ge (a := p) (b := 2 ^ q) (by omega) (by omega)))) (fun _ => ?_)
        refine z_aload_n dX9_readLeft_105 (by exact rfl) ?_
        refine z_gfI zfx_X9_264 (by exact rfl) dX9_readLeft_106 ?_
        refine z_if_ne (tgt := 293) dX9_readLeft_109 (by decide) (fun q9 => absurd (hR1.2.2.2.2.1) q9) (fun _ => ?_)
        refine z_aload_n dX9_readLeft_112 (by exact rfl) ?_
        refine z_iload dX9_readLeft_113 (by exact rfl) ?_
        refine z_cV dX9_readLeft_115 zk_X9_277 (by exact rfl) (by exact rfl) (by exact rfl) (Nat.le_of_ble_eq_true rfl) (Nat.le_of_ble_eq_true rfl) (Nat.le_refl _) ?_
        refine c_takeU (w := wide) (by omega) hK2' (fun D2 key hkey h2 hf2 => ?_)
        have hk32 : key < 32 := by omega
        refine z_l2i dX9_readLeft_118 ?_
        refine z_eI (nI key) (lN_i key) ?_
        refine z_istore dX9_readLeft_119 (Nat.le_of_ble_eq_true rfl) ?_
        refine z_iload dX9_readLeft_121 (by exact rfl) ?_
        refine z_iconst dX9_readLeft_123 ?_
        refine z_iload dX9_readLeft_124 (by exact rfl) ?_
        refine z_ishl dX9_readLeft_126 ?_
        refine z_iconst dX9_readLeft_127 ?_
        refine z_isub dX9_readLeft_128 ?_
        refine z_eI (nI (2 ^ wide - 1)) (q_pm wide (by omega)) ?_
        refine z_icmp_ne (tgt := 136) dX9_readLeft_129 (by decide) (fun c129 => ?_) (fun c129 => ?_)
        · refine z_iconst dX9_readLeft_136 ?_
          refine z_istore dX9_readLeft_137 (Nat.le_of_ble_eq_true rfl) ?_
          refine z_iload dX9_readLeft_139 (by exact rfl) ?_
          refine z_if_eq (tgt := 153) dX9_readLeft_141 (by decide) (fun _ => ?_) (fun q9 => absurd ((by decide)) q9)
          have hne : ¬ key = 2 ^ wide - 1 := fun q => c129 ((nI_eq (a := key) (b := 2 ^ wide - 1) (by omega) (by omega)).mpr q)
          rw [if_neg hne] at h2
          refine z_iconst dX9_readLeft_153 ?_
          refine z_istore dX9_readLeft_154 (Nat.le_of_ble_eq_true rfl) ?_
          exact z_at [(0, .ref 19), (1, .int (nI c)), (2, .int (nI n)), (3, .int (nI d)), (4, .int (nI t)), (5, .int (nI o)), (6, .int (nI wide)), (9, .int (nI q)), (10, .int (nI (n / 2 ^ q))), (11, .int (nI p)), (12, .int (nI (if false = true then 2 ^ wide - 1 else key))), (13, .int (nI false.toNat)), (14, .int (nI (if false = true then key else 0)))] ⟨rfl, rfl, rfl, rfl, rfl, rfl, rfl, rfl, rfl, rfl, rfl, rfl, rfl, trivial⟩ (go false key D2 (by omega) h2 hf2)
        · refine z_iconst dX9_readLeft_132 ?_
          refine z_goto (tgt := 137) dX9_readLeft_133 (by decide) ?_
          refine z_istore dX9_readLeft_137 (Nat.le_of_ble_eq_true rfl) ?_
          refine z_iload dX9_readLeft_139 (by exact rfl) ?_
          refine z_if_eq (tgt := 153) dX9_readLeft_141 (by decide) (fun q9 => absurd q9 ((by decide))) (fun _ => ?_)
          have heq : key = 2 ^ wide - 1 := (nI_eq (a := key) (b := 2 ^ wide - 1) (by omega) (by omega)).mp c129
          rw [if_pos heq, rassoc] at h2
          refine z_aload_n dX9_readLeft_144 (by exact rfl) ?_
          refine z_iconst dX9_readLeft_145 ?_
          refine z_cV dX9_readLeft_146 zk_X9_277 (by exact rfl) (by exact rfl) (by exact rfl) (Nat.le_of_ble_eq_true rfl) (Nat.le_of_ble_eq_true rfl) (Nat.le_refl _) ?_
          refine c_takeU (w := 5) (by omega) h2 (fun D3 w hw h3 hf3 => ?_)
          refine z_l2i dX9_readLeft_149 ?_
          refine z_eI (nI w) (lN_i w) ?_
          refine z_goto (tgt := 154) dX9_readLeft_150 (by decide) ?_
          refine z_istore dX9_readLeft_154 (Nat.le_of_ble_eq_true rfl) ?_
          exact z_at [(0, .ref 19), (1, .int (nI c)), (2, .int (nI n)), (3, .int (nI d)), (4, .int (nI t)), (5, .int (nI o)), (6, .int (nI wide)), (9, .int (nI q)), (10, .int (nI (n / 2 ^ q))), (11, .int (nI p)), (12, .int (nI (if true = true then 2 ^ wide - 1 else w))), (13, .int (nI true.toNat)), (14, .int (nI (if true = true then w else 0)))] ⟨rfl, rfl, rfl, rfl, rfl, rfl, rfl, rfl, rfl, rfl, congrArg (fun x => some (Value.int (nI x))) heq, rfl, rfl, trivial⟩ (go true w D3 (by omega) h3 (hf2.tr hf3))
      · refine z_iload dX9_readLeft_96 (by exact rfl) ?_
        refine z_iconst dX9_readLeft_98 ?_
        refine z_iload dX9_readLeft_99 (by exact rfl) ?_
        refine z_ishl dX9_readLeft_101 ?_
        refine z_eI (nI (2 ^ q)) (q_p2 q hq16) ?_
        refine z_icmp_ge (tgt := 293) dX9_readLeft_102 (by decide) (fun q9 => absurd q9 ((nI_ge (a := p) (b := 2 ^ q) (by omega) (by omega)))) (fun _ => ?_)
        refine z_aload_n dX9_readLeft_105 (by exact rfl) ?_
        refine z_gfI zfx_X9_264 (by exact rfl) dX9_readLeft_106 ?_
        refine z_if_ne (tgt := 293) dX9_readLeft_109 (by decide) (fun _ => ?_) (fun q9 => absurd q9 (hb.z))
        exact z_vret (st := []) rfl dX9_readLeft_293 (hq D1 a (.inr ⟨k, pp, hb, esp⟩) hF)
  have loop0 : ∀ (pr : zPr) (me q : Nat), q < 16 → ∀ (wide : Nat), (wide = 4 ∨ wide = 5) → (me ≤ 1 → wide = 4 + me) → ∀ (D1 : zD), rs9 D1 T sz (rbind (rloop (fun part => sPart T (8 * sz) d o pr (4 + me) (if part = 0 then o else part * (n / 2 ^ q)) ((part + 1) * (n / 2 ^ q))) 0 (2 ^ q) a0) K) sp (P ∧ pred9 D1 t pr ∧ rowB D1 d c a0 o ∧ me ≤ 1 ∧ n % 2 ^ q = 0 ∧ o ≤ n / 2 ^ q) → zfr (fL9 c) D D1 → Z (zmk iX9_readLeft (d0 + 4)) 0 87 (zl [(0, .ref 19), (1, .int (nI c)), (2, .int (nI n)), (3, .int (nI d)), (4, .int (nI t)), (5, .int (nI o)), (6, .int (nI wide)), (9, .int (nI q))]) [] D1 Q := by
    intro pr me q hq16 wide hwd hwm D1 h1 hF
    refine z_iload_n dX9_readLeft_87 (by exact rfl) ?_
    refine z_iload dX9_readLeft_88 (by exact rfl) ?_
    refine z_ishr dX9_readLeft_90 ?_
    refine z_eI (nI (n / 2 ^ q)) (pk_shrN (by omega) _ q (q_i16 q hq16)) ?_
    refine z_istore dX9_readLeft_91 (Nat.le_of_ble_eq_true rfl) ?_
    refine z_iconst dX9_readLeft_93 ?_
    refine z_istore dX9_readLeft_94 (Nat.le_of_ble_eq_true rfl) ?_
    exact z_at [(0, .ref 19), (1, .int (nI c)), (2, .int (nI n)), (3, .int (nI d)), (4, .int (nI t)), (5, .int (nI o)), (6, .int (nI wide)), (9, .int (nI q)), (10, .int (nI (n / 2 ^ q))), (11, .int (nI 0))] ⟨rfl, rfl, rfl, rfl, rfl, rfl, rfl, rfl, rfl, rfl, trivial⟩ (outer pr me q hq16 wide hwd hwm (2 ^ q) 0 D1 a0 (by omega) h1 hF)
  have mid : ∀ (pr : zPr) (D1 : zD), rs9 D1 T sz (rbind (sRes T (8 * sz) n d o pr a0) K) sp (P ∧ pred9 D1 t pr ∧ rowB D1 d c a0 o) → zfr (fL9 c) D D1 → Z (zmk iX9_readLeft (d0 + 4)) 0 20 (zl [(0, .ref 19), (1, .int (nI c)), (2, .int (nI n)), (3, .int (nI d)), (4, .int (nI t)), (5, .int (nI o))]) [] D1 Q := by
    intro pr D1 h1 hF
    have cut : ∀ (me wide : Nat) (P2 : Prop), (wide = 4 ∨ wide = 5) → (me ≤ 1 → wide = 4 + me) → (P2 → P ∧ pred9 D1 t pr ∧ rowB D1 d c a0 o ∧ me ≤ 1) → ∀ (D2 : zD), rs9 D2 T sz (rbind (rit T (8 * sz) 4 (kCut n o)) fun q => rbind (rloop (fun part => sPart T (8 * sz) d o pr (4 + me) (if part = 0 then o else part * (n / 2 ^ q)) ((part + 1) * (n / 2 ^ q))) 0 (2 ^ q) a0) K) sp P2 → zfr f9 D1 D2 → Z (zmk iX9_readLeft (d0 + 4)) 0 39 (zl [(0, .ref 19), (1, .int (nI c)), (2, .int (nI n)), (3, .int (nI d)), (4, .int (nI t)), (5, .int (nI o)), (6, .int (nI wide))]) [] D2 Q := by
      intro me wide P2 hwd hwm hP2 D2 h2 hf2
      have wrong : ∀ (q p1 : Nat) (D3 : zD), q < 16 → rd9 D3 T sz (p1 + 4) → sp = .inl (2, p1) → zfr f9 D1 D3 → Z (zmk iX9_readLeft (d0 + 4)) 0 78 (zl [(0, .ref 19), (1, .int (nI c)), (2, .int (nI n)), (3, .int (nI d)), (4, .int (nI t)), (5, .int (nI o)), (6, .int (nI wide)), (7, .long (lN p1)), (9, .int (nI q))]) [] D3 Q := by
        intro q p1 D3 hq16 hR3 esp hf3
        refine z_aload_n dX9_readLeft_78 (by exact rfl) ?_
        refine z_iconst dX9_readLeft_79 ?_
        refine z_lload dX9_readLeft_80 (by exact rfl) ?_
        refine z_cV dX9_readLeft_82 zk_X9_273 (by exact rfl) (by exact rfl) (by exact rfl) (Nat.le_of_ble_eq_true rfl) (Nat.le_of_ble_eq_true rfl) (Nat.le_refl _) ?_
        refine c_wrong (fun _ => ?_) (fun q => absurd hR3.2.2.2.2.1 q)
        refine z_istore dX9_readLeft_85 (Nat.le_of_ble_eq_true rfl) ?_
        exact z_at [(0, .ref 19), (1, .int (nI c)), (2, .int (nI n)), (3, .int (nI d)), (4, .int (nI t)), (5, .int (nI o)), (6, .int (nI wide)), (9, .int (nI q))] ⟨rfl, rfl, rfl, rfl, rfl, rfl, rfl, rfl, trivial⟩ (loop0 pr me q hq16 wide hwd hwm _ (.inr ⟨2, p1, ⟨rfl, lN_i p1, by omega, by omega⟩, esp⟩) (hF.tr (wk (zfr_fail9 hf3))))
      refine z_aload_n dX9_readLeft_39 (by exact rfl) ?_
      refine z_gfL zfx_X9_267 (by exact rfl) dX9_readLeft_40 ?_
      refine z_lstore dX9_readLeft_43 (Nat.le_of_ble_eq_true rfl) ?_
      refine z_aload_n dX9_readLeft_45 (by exact rfl) ?_
      refine z_iconst dX9_readLeft_46 ?_
      refine z_cV dX9_readLeft_47 zk_X9_277 (by exact rfl) (by exact rfl) (by exact rfl) (Nat.le_of_ble_eq_true rfl) (Nat.le_of_ble_eq_true rfl) (Nat.le_refl _) ?_
      refine c_takeG (w := 4) (by omega) h2 (fun D3 q hq h3 hf3 => ?_)
      have hq16 : q < 16 := hq
      have hq0 := Nat.two_pow_pos q
      have hq2 : 2 ^ q ≤ 65536 := Nat.pow_le_pow_right (n := 2) (j := 16) (by omega) (by omega)
      refine z_l2i dX9_readLeft_50 ?_
      refine z_eI (nI q) (lN_i q) ?_
      refine z_istore dX9_readLeft_51 (Nat.le_of_ble_eq_true rfl) ?_
      refine z_aload_n dX9_readLeft_53 (by exact rfl) ?_
      refine z_gfI zfx_X9_264 (by exact rfl) dX9_readLeft_54 ?_
      refine z_if_ne (tgt := 87) dX9_readLeft_57 (by decide) (fun c57 => ?_) (fun c57 => ?_)
      · exact z_at [(0, .ref 19), (1, .int (nI c)), (2, .int (nI n)), (3, .int (nI d)), (4, .int (nI t)), (5, .int (nI o)), (6, .int (nI wide)), (9, .int (nI q))] ⟨rfl, rfl, rfl, rfl, rfl, rfl, rfl, rfl, trivial⟩ (loop0 pr me q hq16 wide hwd hwm D3 (by
          rcases h3 with ⟨p1, _, _, hR3, _⟩ | hb
          · exact absurd hR3.2.2.2.2.1 c57
          · exact .inr hb) (hF.tr (wk (hf2.tr hf3))))
      · have hg : ∃ p1, D2.2 19 32 = lN p1 ∧ rd9 D3 T sz (p1 + 4) ∧ (kCut n o q = 0 → rbind (rloop (fun part => sPart T (8 * sz) d o pr (4 + me) (if part = 0 then o else part * (n / 2 ^ q)) ((part + 1) * (n / 2 ^ q))) 0 (2 ^ q) a0) K (p1 + 4) = sp) ∧ (¬ kCut n o q = 0 → sp = .inl (kCut n o q, p1)) ∧ P2 := by
          rcases h3 with ⟨p1, e1, _, hR3, hk, hkn, hP⟩ | ⟨k, pl, hb, _⟩
          · exact ⟨p1, e1, hR3, hk, hkn, hP⟩
          · exact absurd c57 hb.z
        obtain ⟨p1, e1, hR3, hk, hkn, hP⟩ := hg
        have hk2 : ¬ (n % 2 ^ q = 0 ∧ o ≤ n / 2 ^ q) → sp = .inl (2, p1) := fun h9 => by
          have e9 : kCut n o q = 2 := if_neg h9
          rw [hkn (by rw [e9]; decide), e9]
        refine z_iload_n dX9_readLeft_60 (by exact rfl) ?_
        refine z_iconst dX9_readLeft_61 ?_
        refine z_iload dX9_readLeft_62 (by exact rfl) ?_
        refine z_ishl dX9_readLeft_64 ?_
        refine z_eI (nI (2 ^ q)) (q_p2 q hq16) ?_
        refine z_irem dX9_readLeft_65 (nI_ne0 hq0 (by omega)) ?_
        refine z_eI (nI (n % 2 ^ q)) (pk_rem (by omega) hq0 (by omega)) ?_
        refine z_if_ne (tgt := 78) dX9_readLeft_66 (by decide) (fun c66 => ?_) (fun c66 => ?_)
        · exact z_at [(0, .ref 19), (1, .int (nI c)), (2, .int (nI n)), (3, .int (nI d)), (4, .int (nI t)), (5, .int (nI o)), (6, .int (nI wide)), (7, .long (lN p1)), (9, .int (nI q))] ⟨rfl, rfl, rfl, rfl, rfl, rfl, rfl, congrArg (fun x => some (Value.long x)) e1, rfl, trivial⟩ (wrong q p1 D3 hq16 hR3 (hk2 (fun h9 => c66 (by rw [h9.1]; rfl))) (hf2.tr hf3))
        · refine z_iload_n dX9_readLeft_69 (by exact rfl) ?_
          refine z_iload dX9_readLeft_70 (by exact rfl) ?_
          refine z_ishr dX9_readLeft_72 ?_
          refine z_eI (nI (n / 2 ^ q)) (pk_shrN (by omega) _ q (q_i16 q hq16)) ?_
          refine z_iload dX9_readLeft_73 (by exact rfl) ?_
          refine z_icmp_ge (tgt := 87) dX9_readLeft_75 (by decide) (fun c75 => ?_) (fun c75 => ?_)
          · exact z_at [(0, .ref 19), (1, .int (nI c)), (2, .int (nI n)), (3, .int (nI d)), (4, .int (nI t)), (5, .int (nI o)), (6, .int (nI wide)), (9, .int (nI q))] ⟨rfl, rfl, rfl, rfl, rfl, rfl, rfl, rfl, trivial⟩ (loop0 pr me q hq16 wide hwd hwm D3 (by
              have hdl : n / 2 ^ q ≤ 256 := Nat.le_trans (Nat.div_le_self _ _) hn.2
              have hml : n % 2 ^ q ≤ 256 := Nat.le_trans (Nat.mod_le _ _) hn.2
              have g1 : n % 2 ^ q = 0 := (nI_eq (a := n % 2 ^ q) (b := 0) (by omega) (by omega)).mp c66
              have g2 : o ≤ n / 2 ^ q := (nI_leI (a := o) (b := n / 2 ^ q) (by omega) (by omega)).mp c75
              have hh := hP2 hP
              exact .inl ⟨p1 + 4, hR3, hk (if_pos ⟨g1, g2⟩), hh.1, hh.2.1.fr (hf2.tr hf3) rfl (fun _ => rfl), hh.2.2.1.fr (hf2.tr hf3) (fun _ _ => rfl), hh.2.2.2, g1, g2⟩) (hF.tr (wk (hf2.tr hf3))))
          · exact z_at [(0, .ref 19), (1, .int (nI c)), (2, .int (nI n)), (3, .int (nI d)), (4, .int (nI t)), (5, .int (nI o)), (6, .int (nI wide)), (7, .long (lN p1)), (9, .int (nI q))] ⟨rfl, rfl, rfl, rfl, rfl, rfl, rfl, congrArg (fun x => some (Value.long x)) e1, rfl, trivial⟩ (wrong q p1 D3 hq16 hR3 (hk2 (fun h9 => c75 (nI_le h9.2 (by
              have hdl : n / 2 ^ q ≤ 256 := Nat.le_trans (Nat.div_le_self _ _) hn.2
              omega)))) (hf2.tr hf3))
    unfold sRes at h1
    rw [rassoc] at h1
    refine z_aload_n dX9_readLeft_20 (by exact rfl) ?_
    refine z_iconst dX9_readLeft_21 ?_
    refine z_lconst dX9_readLeft_22 ?_
    refine z_lconst dX9_readLeft_23 ?_
    refine z_cV dX9_readLeft_24 zk_X9_280 (by exact rfl) (by exact rfl) (by exact rfl) (Nat.le_of_ble_eq_true rfl) (Nat.le_of_ble_eq_true rfl) (Nat.le_refl _) ?_
    refine c_takeInU (w := 2) (by omega) (fun _ => kIn_c (lo := 0) (hi := 1) (by omega) (by omega) (by omega)) h1 (fun D2 me hme h2 hf2 => ?_)
    rw [rassoc] at h2
    refine z_lconst dX9_readLeft_27 ?_
    refine z_ne (tgt := 36) dX9_readLeft_28 dX9_readLeft_29 (by decide) (fun c28 => ?_) (fun c28 => ?_)
    · refine z_iconst dX9_readLeft_36 ?_
      refine z_istore dX9_readLeft_37 (Nat.le_of_ble_eq_true rfl) ?_
      exact z_at [(0, .ref 19), (1, .int (nI c)), (2, .int (nI n)), (3, .int (nI d)), (4, .int (nI t)), (5, .int (nI o)), (6, .int (nI 4))] ⟨rfl, rfl, rfl, rfl, rfl, rfl, rfl, trivial⟩ (cut me 4 _ (by omega) (fun h9 => by
        have : ¬ me = 1 := fun q => c28 ((pk_lEQ (a := me) (b := 1) (by omega) (by omega)).mpr q)
        omega) (fun hp => ⟨hp.1.1, hp.1.2.1, hp.1.2.2, (kIn_0 hp.2).2⟩) D2 h2 hf2)
    · refine z_iconst dX9_readLeft_32 ?_
      refine z_goto (tgt := 37) dX9_readLeft_33 (by decide) ?_
      refine z_istore dX9_readLeft_37 (Nat.le_of_ble_eq_true rfl) ?_
      exact z_at [(0, .ref 19), (1, .int (nI c)), (2, .int (nI n)), (3, .int (nI d)), (4, .int (nI t)), (5, .int (nI o)), (6, .int (nI 5))] ⟨rfl, rfl, rfl, rfl, rfl, rfl, rfl, trivial⟩ (cut me 5 _ (by omega) (fun h9 => by
        have : me = 1 := (pk_lEQ (a := me) (b := 1) (by omega) (by omega)).mp c28
        omega) (fun hp => ⟨hp.1.1, hp.1.2.1, hp.1.2.2, (kIn_0 hp.2).2⟩) D2 h2 hf2)
  refine z_iload dX9_readLeft_0 (by exact rfl) ?_
  refine z_cS dX9_readLeft_2 zk_X9_117 (by exact rfl) (Nat.le_of_ble_eq_true rfl) (Nat.le_of_ble_eq_true rfl) (Nat.le_refl _) ?_
  refine c_o (by omega) ?_
  rw [← eo]
  refine z_istore dX9_readLeft_5 (Nat.le_of_ble_eq_true rfl) ?_
  refine z_iload dX9_readLeft_7 (by exact rfl) ?_
  refine z_bipush dX9_readLeft_9 ?_
  refine z_icmp_le (tgt := 20) dX9_readLeft_11 (by decide) (fun c11 => ?_) (fun c11 => ?_)
  · exact z_at [(0, .ref 19), (1, .int (nI c)), (2, .int (nI n)), (3, .int (nI d)), (4, .int (nI t)), (5, .int (nI o))] ⟨rfl, rfl, rfl, rfl, rfl, rfl, trivial⟩ (by
      have h31 : t ≤ 31 := (nI_leI (a := t) (b := 31) (by omega) (by omega)).mp c11
      unfold sPred at h
      rw [if_pos h31] at h
      exact mid (0, fxC (t - 8)) D (h.mp (fun _ hp => ⟨hp.1, ⟨fun _ => rfl, fun q => by omega⟩, hp.2⟩)) zfr.rf)
  · have h32 : 32 ≤ t := by
      rcases Nat.lt_or_ge 31 t with q | q
      · exact q
      · exact absurd (nI_le q (by omega)) c11
    have eo2 : o = t - 31 := by
      rw [eo]
      unfold ordN
      rw [if_neg (by omega), if_neg (by omega)]
    unfold sPred at h
    rw [if_neg (by omega), rassoc] at h
    simp only [rassoc] at h
    refine z_aload_n dX9_readLeft_14 (by exact rfl) ?_
    refine z_iload dX9_readLeft_15 (by exact rfl) ?_
    refine z_cV dX9_readLeft_17 zk_X9_361 (by exact rfl) (by exact rfl) (by exact rfl) (Nat.le_of_ble_eq_true rfl) (Nat.le_of_ble_eq_true rfl) (Nat.le_refl _) ?_
    refine c_readWeights (K := fun pr => rbind (sRes T (8 * sz) n d o pr a0) K) (by omega) (by rw [eo2] at h ⊢; exact h) (fun D1 pr h1 hf1 => ?_)
    exact z_at [(0, .ref 19), (1, .int (nI c)), (2, .int (nI n)), (3, .int (nI d)), (4, .int (nI t)), (5, .int (nI o))] ⟨rfl, rfl, rfl, rfl, rfl, rfl, trivial⟩ (mid pr D1 (h1.mp (fun _ hp => ⟨hp.1.1, ⟨fun q => by omega, fun _ => by rw [← eo2]; exact hp.2⟩, by rw [eo2]; exact hp.1.2.fr hf1 (fun _ _ => rfl)⟩)) (wkw hf1))
