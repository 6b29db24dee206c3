/-! ===== Reader.readFrame ===== -/
def radv {α : Type} (m : RS α) (d : Nat) : Prop := ∀ p a q, m p = .inr (a, q) → q % 8 = (p + d) % 8
theorem ra_pure {α : Type} (a : α) : radv (rpure a) 0 := fun p b q h => by
  cases h
  rfl
theorem ra_bind {α β : Type} {m : RS α} {f : α → RS β} {d1 d2 : Nat} (h : radv m d1) (hf : ∀ a, radv (f a) d2) : radv (rbind m f) (d1 + d2) := fun p b q e => by
  obtain ⟨a, r, h1, h2⟩ | ⟨k, pl, h1, h2⟩ := rbind_i e
  · have e1 := h p a r h1
    have e2 := hf a r b q h2
    omega
  · cases h2
theorem ra_it (T : Nat → Bool) (e w : Nat) (f : Nat → Nat) : radv (rit T e w f) w := fun p b q h => by
  unfold rit at h
  split at h
  · split at h
    · cases h
      rfl
    · cases h
  · cases h
theorem ra_ps (e w : Nat) : radv (rpass e w) w := fun p b q h => by
  unfold rpass at h
  split at h
  · cases h
    rfl
  · cases h
theorem ra_eq {α : Type} {m : RS α} {d d' : Nat} (h : radv m d) (e : d % 8 = d' % 8) : radv m d' := fun p a q h1 => by
  have := h p a q h1
  omega
theorem ra_number (T : Nat → Bool) (e fr : Nat) : radv (sNumber T e fr) 0 := by
  unfold sNumber
  refine ra_eq (ra_bind (d2 := 0) (ra_it _ _ _ _) fun _ => ?_) (by decide)
  split
  · exact ra_pure _
  · exact ra_eq (ra_bind (ra_it _ _ _ _) fun _ => ra_pure _) (by decide)
theorem ra_header (T : Nat → Bool) (e ch fr n : Nat) : radv (sHeader T e ch fr n) 0 := by
  unfold sHeader
  exact ra_eq (ra_bind (ra_it _ _ _ _) fun _ => ra_bind (ra_it _ _ _ _) fun _ => ra_bind (ra_it _ _ _ _) fun _ => ra_bind (ra_it _ _ _ _) fun _ => ra_bind (ra_it _ _ _ _) fun _ => ra_bind (ra_it _ _ _ _) fun _ => ra_bind (ra_number _ _ _) fun _ => ra_bind (ra_it _ _ _ _) fun _ => ra_pure _) (by decide)
theorem rm_number (T : Nat → Bool) (e fr : Nat) : rmon (sNumber T e fr) := by
  unfold sNumber
  refine rm_bind (rm_it _ _ _ _) fun _ => ?_
  split
  · exact rm_pure _
  · exact rm_bind (rm_it _ _ _ _) fun _ => rm_pure _
theorem rm_header (T : Nat → Bool) (e ch fr n : Nat) : rmon (sHeader T e ch fr n) := by
  unfold sHeader
  exact (rm_bind (rm_it _ _ _ _) fun _ => rm_bind (rm_it _ _ _ _) fun _ => rm_bind (rm_it _ _ _ _) fun _ => rm_bind (rm_it _ _ _ _) fun _ => rm_bind (rm_it _ _ _ _) fun _ => rm_bind (rm_it _ _ _ _) fun _ => rm_bind (rm_number _ _ _) fun _ => rm_bind (rm_it _ _ _ _) fun _ => rm_pure _)
theorem hd_asg {T : Nat → Bool} {e ch fr n p a q : Nat} (h : sHeader T e ch fr n p = .inr (a, q)) (hc : 1 ≤ ch ∧ ch ≤ 8) : (a < 8 ∧ a + 1 = ch) ∨ (8 ≤ a ∧ a ≤ 10 ∧ ch = 2) := by
  unfold sHeader at h
  obtain ⟨_, _, _, h⟩ | ⟨_, _, _, h⟩ := rbind_i h
  · obtain ⟨_, _, _, h⟩ | ⟨_, _, _, h⟩ := rbind_i h
    · obtain ⟨_, _, _, h⟩ | ⟨_, _, _, h⟩ := rbind_i h
      · obtain ⟨_, _, _, h⟩ | ⟨_, _, _, h⟩ := rbind_i h
        · obtain ⟨a', _, h5, h⟩ | ⟨_, _, _, h⟩ := rbind_i h
          · obtain ⟨_, _, _, h⟩ | ⟨_, _, _, h⟩ := rbind_i h
            · obtain ⟨_, _, _, h⟩ | ⟨_, _, _, h⟩ := rbind_i h
              · obtain ⟨_, _, _, h⟩ | ⟨_, _, _, h⟩ := rbind_i h
                · cases h
                  have := (rit_lt h5).2
                  unfold kAsg at this
                  split at this
                  · omega
                  · cases this
                · cases h
              · cases h
            · cases h
          · cases h
        · cases h
      · cases h
    · cases h
  · cases h
theorem q_pad {p : Nat} (hp : p < 2 ^ 30) : -nI p &&& (Int8.ofInt 7).toInt32 = nI ((8 - p % 8) % 8) := by
  have h := pk_and (-nI p) (m := (Int8.ofInt 7).toInt32) 3 (by decide)
  rw [h]
  congr 1
  have e : -nI p = iI (-(p : Int)) := by
    rw [iI_N]
    exact (Int32.ofInt_neg _).symm
  have e2 : (iI (-(p : Int))).toBitVec.toNat = (-(p : Int) % 4294967296).toNat := by
    show (BitVec.ofInt 32 _).toNat = _
    rw [BitVec.toNat_ofInt]
    rfl
  rw [e, e2]
  omega
theorem rm_zif {α : Type} {P : Prop} (a : α) (x : Nat × Nat) : rmon (fun q => zif P (.inr (a, q)) (.inl x)) := fun p b q h => by
  rcases zif_i (P := P) (a := (.inr (a, p) : RT α)) (b := .inl x) with ⟨_, g⟩ | ⟨_, g⟩
  · have h : zif P (.inr (a, p) : RT α) (.inl x) = .inr (b, q) := h
    rw [g] at h
    cases h
    exact Nat.le_refl _
  · have h : zif P (.inr (a, p) : RT α) (.inl x) = .inr (b, q) := h
    rw [g] at h
    cases h
theorem rm_at {α : Type} {m : Nat → RS α} (h : ∀ p, rmon (m p)) : rmon (fun p => m p p) := fun p a q e => h p p a q e
theorem rm_nums (T : Nat → Bool) (e d m i : Nat) (a : zRow) : rmon (sNums T e d i m a) := rm_loop (fun _ _ => rm_bind (rm_it _ _ _ _) fun _ => rm_pure _) m i a
theorem rm_one (T : Nat → Bool) (e b o : Nat) (pr : zPr) (pl : Bool) (w i : Nat) (a : zRow) : rmon (sOne T e b o pr pl w i a) :=
  rm_at (m := fun p0 => rbind (if pl = true then rpure 0 else sRun T e) (fun z => rbind (rit T e w kAny) fun r q =>
  zif (inB b (fore pr.2 pr.1 o a i + (if pl = true then sgI w r else unfI (z * 2 ^ w + r)))) (.inr (uN a i (fore pr.2 pr.1 o a i + (if pl = true then sgI w r else unfI (z * 2 ^ w + r))), q)) (.inl (2, p0)))) (fun p0 => rm_bind (rm_if (rm_pure _) (rm_run _ _)) fun z => rm_bind (rm_it _ _ _ _) fun v => rm_zif _ _)
theorem rm_key (T : Nat → Bool) (e kb : Nat) : rmon (sKey T e kb) := rm_bind (rm_it _ _ _ _) fun _ => rm_if (rm_bind (rm_it _ _ _ _) fun _ => rm_pure _) (rm_pure _)
theorem rm_res (T : Nat → Bool) (e n b o : Nat) (pr : zPr) (a : zRow) : rmon (sRes T e n b o pr a) := rm_bind (rm_it _ _ _ _) fun _ => rm_bind (rm_it _ _ _ _) fun _ => rm_loop (fun _ _ => rm_bind (rm_key _ _ _) fun _ => rm_loop (fun _ _ => rm_one _ _ _ _ _ _ _ _ _) _ _ _) _ _ _
theorem rm_pred (T : Nat → Bool) (e t : Nat) : rmon (sPred T e t) := rm_if (rm_pure _) (rm_bind (rm_it _ _ _ _) fun _ => rm_bind (rm_it _ _ _ _) fun _ => rm_bind (rm_nums _ _ _ _ _ _) fun _ => rm_pure _)
theorem rm_body (T : Nat → Bool) (e n t d : Nat) : rmon (sBody T e n t d) := rm_if (rm_bind (rm_it _ _ _ _) fun _ => rm_pure _) (rm_if (rm_nums _ _ _ _ _ _) (rm_bind (rm_nums _ _ _ _ _ _) fun _ => rm_bind (rm_pred _ _ _) fun _ => rm_res _ _ _ _ _ _ _))
theorem rm_waste (T : Nat → Bool) (e b : Nat) : rmon (sWaste T e b) := rm_bind (rm_it _ _ _ _) fun _ => rm_if (rm_at (m := fun p => rbind (sRun T e) (fun z q => if z + 1 < b then .inr (z + 1, q) else .inl (2, p))) (fun p => rm_bind (rm_run _ _) fun z q a r h => by
  split at h
  · cases h
    exact Nat.le_refl _
  · cases h)) (rm_pure _)
theorem rm_sub (T : Nat → Bool) (e n b : Nat) : rmon (sSub T e n b) := rm_bind (rm_it _ _ _ _) fun _ => rm_bind (rm_it _ _ _ _) fun _ => rm_bind (rm_waste _ _ _) fun _ => rm_bind (rm_body _ _ _ _ _) fun _ => rm_pure _
def fF0 (a k : Nat) : Bool := fAt a k || (decide (42 ≤ a) && decide (a ≤ 51))
theorem fF0_at (a k : Nat) (h : fF0 a k = false) : fAt a k = false := or_l h
theorem fF0_uni (a k : Nat) (h : fF0 a k = false) : fUni a k = false := by
  have := or_r h
  unfold fUni
  simp at this ⊢
  omega
theorem fF0_sub {c : Nat} (hc : c < 8) (a k : Nat) (h : fF0 a k = false) : fSub (42 + c) a k = false := by
  have := or_r h
  unfold fSub
  rw [fF0_at a k h]
  simp at this ⊢
  omega
def fFr (a k : Nat) : Bool := fAt a k || (a == 40 || (decide (42 ≤ a) && decide (a ≤ 51)))
theorem fFr_at (a k : Nat) (h : fFr a k = false) : fAt a k = false := or_l h
theorem fFr_keep (a k : Nat) (h : fFr a k = false) : fKeep a k = false := by
  unfold fKeep
  rw [fFr_at a k h, or_l (or_r h)]
  rfl
theorem fFr_40 (a k : Nat) (h : fFr a k = false) : f40 a k = false := or_l (or_r h)
theorem fFr_0 (a k : Nat) (h : fFr a k = false) : fF0 a k = false := by
  unfold fF0
  rw [fFr_at a k h, or_r (or_r h)]
  rfl
theorem c_readFrame {d p sz ch bits block fr n : Nat} {D : zD} {T : Nat → Bool} {Q : zQ} {sp : RT zRows} {S : zRow} (hch : D.1 39 0 = nI ch) (hbi : D.1 39 1 = nI bits) (hbl : D.1 39 2 = nI block) (hc : 1 ≤ ch ∧ ch ≤ 8) (hb : 4 ≤ bits ∧ bits ≤ 24) (hfr : fr < 256) (hn : 1 ≤ n ∧ n ≤ 256) (hfn : (fr * block + n) * ch ≤ 4096) (hp8 : p % 8 = 0) (hR : rd8 D T sz p) (hS : smp8 D S (fr * block * ch)) (hK : sFrame T (8 * sz) ch bits fr n p = sp)
    (h0 : ∀ D' k pl, sp = .inl (k, pl) → bad8 D' k pl → zfr fFr D D' → Q (.inr zISE) 1 D') (h1 : ∀ D' U q, sp = .inr (U, q) → smp8 D' (lay ch (fr * block) n U S) ((fr * block + n) * ch) → rd8 D' T sz q → q % 8 = 0 → zfr fFr D D' → Q (.inl none) 0 D') :
    ZM yX4_readFrame iX4_readFrame (d + 5) [.ref 37, .int (nI fr), .int (nI n)] D Q := by
  refine z_method (by decide) rfl (Nat.le_of_ble_eq_true rfl) ?_
  refine z_at [(0, .ref 37), (1, .int (nI fr)), (2, .int (nI n))] ⟨rfl, rfl, rfl, trivial⟩ ?_
  have wk : ∀ {X Y : zD}, zfr fAt X Y → zfr fF0 X Y := fun h => h.wk fF0_at
  have wf : ∀ {X Y : zD}, zfr fF0 X Y → zfr fFr X Y := fun h => h.wk fFr_0
  have h0' : ∀ D' k pl, sp = .inl (k, pl) → bad8 D' k pl → zfr fF0 D D' → Q (.inr zISE) 1 D' := fun D' k pl e b f => h0 D' k pl e b (wf f)
  have hp30 : p < 2 ^ 30 := by
    have := hR.2.2.2.1
    have := hR.2.1
    omega
  have hsett : ∀ {D1 : zD}, zfr fF0 D D1 → D1.1 39 0 = nI ch ∧ D1.1 39 1 = nI bits ∧ D1.1 39 2 = nI block := fun hF => ⟨(hF.1 39 0 rfl).trans hch, (hF.1 39 1 rfl).trans hbi, (hF.1 39 2 rfl).trans hbl⟩
  have lp : ∀ (asg : Nat), asg < 16 → ((asg < 8 ∧ asg + 1 = ch) ∨ (8 ≤ asg ∧ asg ≤ 10 ∧ ch = 2)) → ∀ (m c : Nat) (D1 : zD) (p1 : Nat) (R : zRows), c + m = ch → p ≤ p1 → (∀ c', c' < c → row8 D1 (42 + c') (R c') n) → rd8 D1 T sz p1 → zfr fF0 D D1 → (rbind (sRows T (8 * sz) n bits asg c m R) fun R => rbind (fun p => rit T (8 * sz) ((8 - p % 8) % 8) (kEq 0) p) fun _ => fun p' => rbind (sSum T (8 * sz) 16 (p / 8)) (fun _ q => zif (fitAll ch n bits (unite asg R)) (.inr (unite asg R, q)) (.inl (4, p'))) p') p1 = sp → Z (zmk iX4_readFrame (d + 5)) 0 27 (zl [(0, .ref 37), (1, .int (nI fr)), (2, .int (nI n)), (3, .int (nI (p / 8))), (4, .int (nI asg)), (5, .int (nI c))]) [] D1 Q := by
    intro asg ha16 hasg m
    induction m with
    | zero =>
      intro c D1 p1 R hm hpp hRw hR1 hF hK1
      have hm : c = ch := by omega
      subst hm
      have hK2 : (rbind (rit T (8 * sz) ((8 - p1 % 8) % 8) (kEq 0)) fun _ => fun p' => rbind (sSum T (8 * sz) 16 (p / 8)) (fun _ q => zif (fitAll c n bits (unite asg R)) (.inr (unite asg R, q)) (.inl (4, p'))) p') p1 = sp := hK1
      have hp1 : p1 < 2 ^ 30 := by
        have := hR1.2.2.2.1
        have := hR1.2.1
        omega
      refine z_iload dX4_readFrame_27 (by exact rfl) ?_
      refine z_aload_n dX4_readFrame_29 (by exact rfl) ?_
      refine z_gfA zfx_X4_28 (by exact rfl) dX4_readFrame_30 ?_
      refine z_gfI zfx_X4_135 (by exact rfl) dX4_readFrame_33 ?_
      refine z_eI (nI c) (hsett hF).1 ?_
      refine z_icmp_ge (tgt := 80) dX4_readFrame_36 (by decide) (fun _ => ?_) (fun q9 => absurd ((nI_le (Nat.le_refl _) (by omega))) q9)
      refine z_aload_n dX4_readFrame_80 (by exact rfl) ?_
      refine z_aload_n dX4_readFrame_81 (by exact rfl) ?_
      refine z_gfI zfx_X4_64 (by exact rfl) dX4_readFrame_82 ?_
      refine z_eI (nI p1) hR1.2.2.1 ?_
      refine z_ineg dX4_readFrame_85 ?_
      refine z_bipush dX4_readFrame_86 ?_
      refine z_iand dX4_readFrame_88 ?_
      refine z_eI (nI ((8 - p1 % 8) % 8)) (q_pad hp1) ?_
      refine z_lconst dX4_readFrame_89 ?_
      refine z_cV dX4_readFrame_90 zk_X4_104 (by exact rfl) (by exact rfl) (by exact rfl) (Nat.le_of_ble_eq_true rfl) (Nat.le_of_ble_eq_true rfl) (Nat.le_refl _) ?_
      refine c_expK (w := (8 - p1 % 8) % 8) (due := 0) (by omega) rfl (by omega) hR1 hK2 (fun D2 k e hb hf => zx_out rfl (h0' D2 _ _ e hb (hF.tr (wk hf)))) (fun D2 v hK3 hR2 hit2 hf2 => ?_)
      refine z_aload_n dX4_readFrame_93 (by exact rfl) ?_
      refine z_iload_n dX4_readFrame_94 (by exact rfl) ?_
      refine z_bipush dX4_readFrame_95 ?_
      refine z_ldcI dX4_readFrame_97 zcix_X4_162 ?_
      refine z_cV dX4_readFrame_99 zk_X4_150 (by exact rfl) (by exact rfl) (by exact rfl) (Nat.le_of_ble_eq_true rfl) (Nat.le_of_ble_eq_true rfl) (Nat.le_refl _) ?_
      refine c_expectSum (w := 16) (from0 := p / 8) (Or.inr rfl) rfl (by omega) (by omega) hR2 (fun D3 e3 hR3 hit3 hf3 => ?_) (fun D3 k pl e hb hf => zx_out rfl (h0' D3 _ _ (hK3.symm.trans (rbind_l e)) hb ((hF.tr (wk hf2)).tr (wk hf))))
      have hF3 := (hF.tr (wk hf2)).tr (wk hf3)
      have hK4 := (rbind_r e3).symm.trans hK3
      refine z_aload_n dX4_readFrame_102 (by exact rfl) ?_
      refine z_iload dX4_readFrame_103 (by exact rfl) ?_
      refine z_iload_n dX4_readFrame_105 (by exact rfl) ?_
      refine z_cV dX4_readFrame_106 zk_X4_163 (by exact rfl) (by exact rfl) (by exact rfl) (Nat.le_of_ble_eq_true rfl) (Nat.le_of_ble_eq_true rfl) (Nat.le_refl _) ?_
      refine c_uniteRows (ch := c) (R := R) hasg hn.2 (fun c' hc' => (hRw c' hc').fr (hf2.tr hf3) (fAt_row (by omega))) (fun D4 hU4 hf4 => ?_)
      have hF4 := hF3.tr (hf4.wk fF0_uni)
      refine z_aload_n dX4_readFrame_109 (by exact rfl) ?_
      refine z_iload_n dX4_readFrame_110 (by exact rfl) ?_
      refine z_aload_n dX4_readFrame_111 (by exact rfl) ?_
      refine z_gfA zfx_X4_28 (by exact rfl) dX4_readFrame_112 ?_
      refine z_gfI zfx_X4_70 (by exact rfl) dX4_readFrame_115 ?_
      refine z_eI (nI block) (hsett hF4).2.2 ?_
      refine z_imul dX4_readFrame_118 ?_
      refine z_eI (nI (fr * block)) (pk_mul _ _) ?_
      refine z_iload_n dX4_readFrame_119 (by exact rfl) ?_
      refine z_cV dX4_readFrame_120 zk_X4_166 (by exact rfl) (by exact rfl) (by exact rfl) (Nat.le_of_ble_eq_true rfl) (Nat.le_of_ble_eq_true rfl) (Nat.le_refl _) ?_
      refine c_keepSamples (S := S) (hsett hF4).1 (hsett hF4).2.1 hc hb hn.2 hfn ((hf4.1 37 8 rfl).trans hit3) hU4 (fun j hj => (hF4.1 40 j rfl).trans (hS j hj)) (fun D5 hfit hS5 hf5 => ?_) (fun D5 hnf hb hf => zx_out rfl (h0 D5 _ _ (hK4.symm.trans (zif_n hnf)) hb ((wf hF4).tr (hf.wk fFr_keep))))
      exact z_vret (st := []) rfl dX4_readFrame_123 (h1 D5 _ _ (hK4.symm.trans (zif_p hfit)) hS5 ((hR3.wr (hf4.1 37 1 rfl) (hf4.1 37 7 rfl) (by funext k; exact hf4.1 38 k rfl) (hf4.1 37 2 rfl) (hf4.1 37 3 rfl)).wr (hf5.1 37 1 rfl) (hf5.1 37 7 rfl) (by funext k; exact hf5.1 38 k rfl) (hf5.1 37 2 rfl) (hf5.1 37 3 rfl)) (by omega) ((wf hF4).tr (hf5.wk fFr_40)))
    | succ m ih =>
      intro c D1 p1 R hm hpp hRw hR1 hF hK1
      have hK2 : (rbind (sSub T (8 * sz) n (bits + if side asg c = true then 1 else 0)) fun a => rbind (sRows T (8 * sz) n bits asg (c + 1) m (fun j => if j = c then a else R j)) fun R => rbind (fun p => rit T (8 * sz) ((8 - p % 8) % 8) (kEq 0) p) fun _ => fun p' => rbind (sSum T (8 * sz) 16 (p / 8)) (fun _ q => zif (fitAll ch n bits (unite asg R)) (.inr (unite asg R, q)) (.inl (4, p'))) p') p1 = sp := by
        rw [← hK1]
        show _ = rbind (rbind (rbind _ _) _) _ p1
        rw [rassoc, rassoc]
        rfl
      have tl : Z (zmk iX4_readFrame (d + 5)) 0 71 (zl [(0, .ref 37), (1, .int (nI fr)), (2, .int (nI n)), (3, .int (nI (p / 8))), (4, .int (nI asg)), (5, .int (nI c))]) [.int (nI (bits + if side asg c = true then 1 else 0)), .int (nI n), .ref (42 + c), .ref 37] D1 Q := by
        have hbs : 4 ≤ (bits + if side asg c = true then 1 else 0) ∧ (bits + if side asg c = true then 1 else 0) ≤ 25 := by split <;> omega
        refine z_cV dX4_readFrame_71 zk_X4_158 (by exact rfl) (by exact rfl) (by exact rfl) (Nat.le_of_ble_eq_true rfl) (Nat.le_of_ble_eq_true rfl) (Nat.le_refl _) ?_
        refine c_readSubframe (sp := sSub T (8 * sz) n (bits + if side asg c = true then 1 else 0) p1) (zac_row c (by omega)) (by omega) (by omega) (by omega) (by omega) hn hbs hR1 rfl (fun D2 k pl e hb hf => zx_out rfl (h0' D2 _ _ (hK2.symm.trans (rbind_l e)) hb (hF.tr (hf.wk (fF0_sub (by omega)))))) (fun D2 a q e ha hR2 hf2 => ?_)
        refine z_iinc dX4_readFrame_74 (by exact rfl) ?_
        refine z_at [(0, .ref 37), (1, .int (nI fr)), (2, .int (nI n)), (3, .int (nI (p / 8))), (4, .int (nI asg)), (5, .int (nI (c + 1)))] ⟨rfl, rfl, rfl, rfl, rfl, congrArg (fun x => some (Value.int x)) (nI_1 c), trivial⟩ ?_
        refine z_goto (tgt := 27) dX4_readFrame_77 (by decide) ?_
        exact ih (c + 1) D2 q _ (by omega) (Nat.le_trans hpp (rm_sub _ _ _ _ _ _ _ e)) (fun c' hc' => by
          obtain e9 | e9 : c' = c ∨ c' < c := by omega
          · subst e9
            rw [if_pos rfl]
            exact ha
          · rw [if_neg (by omega)]
            exact (hRw c' e9).fr hf2 (fun k => by
              unfold fSub
              rw [fAt_row (by omega)]
              simp
              omega)) hR2 (hF.tr (hf2.wk (fF0_sub (by omega)))) ((rbind_r e).symm.trans hK2)
      refine z_iload dX4_readFrame_27 (by exact rfl) ?_
      refine z_aload_n dX4_readFrame_29 (by exact rfl) ?_
      refine z_gfA zfx_X4_28 (by exact rfl) dX4_readFrame_30 ?_
      refine z_gfI zfx_X4_135 (by exact rfl) dX4_readFrame_33 ?_
      refine z_eI (nI ch) (hsett hF).1 ?_
      refine z_icmp_ge (tgt := 80) dX4_readFrame_36 (by decide) (fun q9 => absurd q9 ((nI_ge (a := c) (b := ch) (by omega) (by omega)))) (fun _ => ?_)
      refine z_aload_n dX4_readFrame_39 (by exact rfl) ?_
      refine z_aload_n dX4_readFrame_40 (by exact rfl) ?_
      refine z_gfA zfx_X4_38 (by exact rfl) dX4_readFrame_41 ?_
      refine z_iload dX4_readFrame_44 (by exact rfl) ?_
      refine z_rowsld (by omega) dX4_readFrame_46 ?_
      refine z_iload_n dX4_readFrame_47 (by exact rfl) ?_
      refine z_aload_n dX4_readFrame_48 (by exact rfl) ?_
      refine z_gfA zfx_X4_28 (by exact rfl) dX4_readFrame_49 ?_
      refine z_gfI zfx_X4_138 (by exact rfl) dX4_readFrame_52 ?_
      refine z_eI (nI bits) (hsett hF).2.1 ?_
      refine z_iload dX4_readFrame_55 (by exact rfl) ?_
      refine z_iload dX4_readFrame_57 (by exact rfl) ?_
      refine z_cN dX4_readFrame_59 zk_X4_154 rfl (by exact rfl) (Nat.le_of_ble_eq_true rfl) (Nat.le_of_ble_eq_true rfl) (Nat.le_refl _) ?_
      refine c_isSide ha16 (by omega) ?_
      refine z_if_eq (tgt := 69) dX4_readFrame_62 (by decide) (fun c62 => ?_) (fun c62 => ?_)
      · refine z_iconst dX4_readFrame_69 ?_
        refine z_eI (nI 0) rfl ?_
        refine z_iadd dX4_readFrame_70 ?_
        refine z_eI (nI (bits + if side asg c = true then 1 else 0)) (by
          have : ¬ side asg c = true := fun q => by rw [q] at c62; exact absurd c62 (by decide)
          rw [if_neg this]
          exact nI_add _ 0) ?_
        exact z_at [(0, .ref 37), (1, .int (nI fr)), (2, .int (nI n)), (3, .int (nI (p / 8))), (4, .int (nI asg)), (5, .int (nI c))] ⟨rfl, rfl, rfl, rfl, rfl, rfl, trivial⟩ tl
      · refine z_iconst dX4_readFrame_65 ?_
        refine z_goto (tgt := 70) dX4_readFrame_66 (by decide) ?_
        refine z_eI (nI 1) rfl ?_
        refine z_iadd dX4_readFrame_70 ?_
        refine z_eI (nI (bits + if side asg c = true then 1 else 0)) (by
          have : side asg c = true := by
            cases e : side asg c with
            | true => rfl
            | false =>
              rw [e] at c62
              exact absurd rfl c62
          rw [if_pos this]
          exact nI_add _ 1) ?_
        exact z_at [(0, .ref 37), (1, .int (nI fr)), (2, .int (nI n)), (3, .int (nI (p / 8))), (4, .int (nI asg)), (5, .int (nI c))] ⟨rfl, rfl, rfl, rfl, rfl, rfl, trivial⟩ tl
  unfold sFrame at hK
  refine z_aload_n dX4_readFrame_0 (by exact rfl) ?_
  refine z_gfI zfx_X4_64 (by exact rfl) dX4_readFrame_1 ?_
  refine z_eI (nI p) hR.2.2.1 ?_
  refine z_iconst dX4_readFrame_4 ?_
  refine z_ishr dX4_readFrame_5 ?_
  refine z_eI (nI (p / 8)) (pk_shrN (by omega) _ 3 (by decide)) ?_
  refine z_istore_n dX4_readFrame_6 (Nat.le_of_ble_eq_true rfl) ?_
  refine z_aload_n dX4_readFrame_7 (by exact rfl) ?_
  refine z_iload_n dX4_readFrame_8 (by exact rfl) ?_
  refine z_iload_n dX4_readFrame_9 (by exact rfl) ?_
  refine z_cV dX4_readFrame_10 zk_X4_147 (by exact rfl) (by exact rfl) (by exact rfl) (Nat.le_of_ble_eq_true rfl) (Nat.le_of_ble_eq_true rfl) (Nat.le_refl _) ?_
  refine c_readHeader hfr hn hch hc hR (fun D1 asg q e hasg hR1 hf1 => ?_) (fun D1 k pl e hb hf => zx_out rfl (h0' D1 _ _ (hK.symm.trans (rbind_l e)) hb (wk hf)))
  have hK1 := (rbind_r e).symm.trans hK
  have hq8 := ra_header _ _ _ _ _ _ _ _ e
  have hqp := rm_header _ _ _ _ _ _ _ _ e
  refine z_istore dX4_readFrame_13 (Nat.le_of_ble_eq_true rfl) ?_
  refine z_aload_n dX4_readFrame_15 (by exact rfl) ?_
  refine z_iload_n dX4_readFrame_16 (by exact rfl) ?_
  refine z_bipush dX4_readFrame_17 ?_
  refine z_bipush dX4_readFrame_19 ?_
  refine z_cV dX4_readFrame_21 zk_X4_150 (by exact rfl) (by exact rfl) (by exact rfl) (Nat.le_of_ble_eq_true rfl) (Nat.le_of_ble_eq_true rfl) (Nat.le_refl _) ?_
  refine c_expectSum (w := 8) (from0 := p / 8) (Or.inl rfl) rfl (by omega) (by omega) hR1 (fun D2 e2 hR2 hit2 hf2 => ?_) (fun D2 k pl e hb hf => zx_out rfl (h0' D2 _ _ (hK1.symm.trans (rbind_l e)) hb (wk (hf1.tr hf))))
  refine z_iconst dX4_readFrame_24 ?_
  refine z_istore dX4_readFrame_25 (Nat.le_of_ble_eq_true rfl) ?_
  exact z_at [(0, .ref 37), (1, .int (nI fr)), (2, .int (nI n)), (3, .int (nI (p / 8))), (4, .int (nI asg)), (5, .int (nI 0))] ⟨rfl, rfl, rfl, rfl, rfl, rfl, trivial⟩ (lp asg hasg (hd_asg e hc) ch 0 D2 _ _ (by omega) (by omega) (fun c' hc' => by omega) hR2 (wk (hf1.tr hf2)) ((rbind_r e2).symm.trans hK1))
