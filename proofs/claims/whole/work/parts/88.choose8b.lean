/-! ===== Chooser.choose ===== -/
theorem off_some (t : Nat) (q : Int) (z : Nat) (s : Option zWay) : ∃ w, off t q z s = some w := by
  unfold off
  split
  · exact ⟨_, rfl⟩
  · split <;> exact ⟨_, rfl⟩
theorem offA_some {n c : Nat} {a : zRow} {pr : zPr} {o : Nat} : offA n c a pr o = some ((offA n c a pr o).getD (0, 0, 0)) := by
  obtain ⟨w, h⟩ := off_some 1 (-1) (n * c) (offO n c a pr o (offFs n c a 5 (off0 n c a)))
  unfold offA
  rw [h]
  rfl
theorem offFs_stop {n c : Nat} {a : zRow} {s : Option zWay} {o : Nat} (h : n < o) : ∀ m, offFs n c a (o + m) s = offFs n c a o s
  | 0 => rfl
  | m + 1 => by
    show offF n c a (o + m) (offFs n c a (o + m) s) = _
    rw [offFs_stop h m]
    unfold offF
    rw [if_neg (by omega)]
theorem fx_ok {o n : Nat} {a : zRow} (ho : o ≤ 4) (ha : ∀ i, i < n → smI (a i)) : rsOk (0, fxC o) o n a := fun i h1 h2 => by
  have g : ∀ j, j < n → -16777216 ≤ a j ∧ a j ≤ 16777216 := ha
  have gi := g i h2
  obtain e | e | e | e | e : o = 0 ∨ o = 1 ∨ o = 2 ∨ o = 3 ∨ o = 4 := by omega
  · subst e
    unfold bd rsd fore
    show _ ≤ a i - sm _ 0 >>> 0 ∧ a i - sm _ 0 >>> 0 ≤ _
    rw [shr0]
    show _ ≤ a i - 0 ∧ a i - 0 ≤ _
    omega
  · subst e
    have g1 := g (i - 1) (by omega)
    unfold bd rsd fore
    show _ ≤ a i - sm _ 1 >>> 0 ∧ a i - sm _ 1 >>> 0 ≤ _
    rw [shr0]
    show _ ≤ a i - (0 + 1 * a (i - 1)) ∧ a i - (0 + 1 * a (i - 1)) ≤ _
    omega
  · subst e
    have g1 := g (i - 1) (by omega)
    have g2 := g (i - 1 - 1) (by omega)
    unfold bd rsd fore
    show _ ≤ a i - sm _ 2 >>> 0 ∧ a i - sm _ 2 >>> 0 ≤ _
    rw [shr0]
    show _ ≤ a i - (0 + 2 * a (i - 1) + -1 * a (i - 1 - 1)) ∧ a i - (0 + 2 * a (i - 1) + -1 * a (i - 1 - 1)) ≤ _
    omega
  · subst e
    have g1 := g (i - 1) (by omega)
    have g2 := g (i - 1 - 1) (by omega)
    have g3 := g (i - 1 - 2) (by omega)
    unfold bd rsd fore
    show _ ≤ a i - sm _ 3 >>> 0 ∧ a i - sm _ 3 >>> 0 ≤ _
    rw [shr0]
    show _ ≤ a i - (0 + 3 * a (i - 1) + -3 * a (i - 1 - 1) + 1 * a (i - 1 - 2)) ∧ a i - (0 + 3 * a (i - 1) + -3 * a (i - 1 - 1) + 1 * a (i - 1 - 2)) ≤ _
    omega
  · subst e
    have g1 := g (i - 1) (by omega)
    have g2 := g (i - 1 - 1) (by omega)
    have g3 := g (i - 1 - 2) (by omega)
    have g4 := g (i - 1 - 3) (by omega)
    unfold bd rsd fore
    show _ ≤ a i - sm _ 4 >>> 0 ∧ a i - sm _ 4 >>> 0 ≤ _
    rw [shr0]
    show _ ≤ a i - (0 + 4 * a (i - 1) + -6 * a (i - 1 - 1) + 4 * a (i - 1 - 2) + -1 * a (i - 1 - 3)) ∧ a i - (0 + 4 * a (i - 1) + -6 * a (i - 1 - 1) + 4 * a (i - 1 - 2) + -1 * a (i - 1 - 3)) ≤ _
    omega
def fCh (X a k : Nat) : Bool := (decide (11 ≤ a) && decide (a ≤ 17)) || (a == X + 1 || (a == X && decide (2 ≤ k)))
theorem fCh_op (X a k : Nat) (h : fCh X a k = false) : fOp X a k = false := by
  unfold fCh at h
  unfold fOp fRs
  simp at h ⊢
  omega
theorem fCh_dr (X a k : Nat) (h : fCh X a k = false) : fDr X a k = false := by
  unfold fCh at h
  unfold fDr
  simp at h ⊢
  omega
theorem fCh_fx (X a k : Nat) (h : fCh X a k = false) : fOf 11 12 a k = false := by
  unfold fCh at h
  unfold fOf
  simp at h ⊢
  omega
theorem fCh_x4 (X a k : Nat) (h : fCh X a k = false) : (a == X && decide (4 ≤ k)) = false := by
  unfold fCh at h
  simp at h ⊢
  omega
theorem c_choose {d X n b o s : Nat} {cs : Nat → Int} {D : zD} {Q : zQ} {a : zRow} (hX : isSf X) (hn : 1 ≤ n ∧ n ≤ 256) (hb : 1 ≤ b ∧ b ≤ 25) (hs : sf7 D X n b 0) (hnone : sfW D X 0 none) (ha : row8 D (X + 1) a n) (hab : allB b n a) (hp : pred8 D 2 3 o s cs) (hsh : s ≤ 14) (ho : o ≤ 8)
    (hq : ∀ D', wst n a < b → sf7 D' X n (b - wst n a) (wst n a) → row8 D' (X + 1) (shR (wst n a) a) n → sfW D' X (8 + wst n a) (some (wayA n b a (s, cs) o)) → zfr (fCh X) D D' → Q (.inl none) 0 D') :
    ZM yX0_choose iX0_choose (d + 4) [.ref 10, .ref X, .ref 2] D Q := by
  obtain ⟨⟨x0, x1, x2, x3, x4, x5, x6⟩, hr, ⟨fl, hfl⟩, hl⟩ := id hX
  refine z_method (by decide) rfl (Nat.le_of_ble_eq_true rfl) ?_
  refine z_at [(0, .ref 10), (1, .ref X), (2, .ref 2)] ⟨rfl, rfl, rfl, trivial⟩ ?_
  refine z_aload_n dX0_choose_0 (by exact rfl) ?_
  refine z_cV dX0_choose_1 zk_X0_27 (by exact rfl) hfl (by exact rfl) (Nat.le_of_ble_eq_true rfl) (Nat.le_of_ble_eq_true rfl) (Nat.le_refl _) ?_
  refine c_dropWasted hX hn.2 hb hs ha hab (fun D1 w hw hwb hs1 hr1 hf1 => ?_)
  rw [← hw] at hq
  have hF1 := hf1.wk (fCh_dr X)
  obtain ⟨c, hc⟩ : ∃ c, c = b - w := ⟨_, rfl⟩
  obtain ⟨a', ha'⟩ : ∃ a', a' = shR w a := ⟨_, rfl⟩
  have hW : offA n c a' (s, cs) o = some (wayA n b a (s, cs) o) := by
    rw [offA_some, hc, ha', hw]
    rfl
  rw [← hc, ← ha', ← hW] at hq
  rw [← hc] at hs1
  rw [← ha'] at hr1
  have nc : n * c ≤ 256 * 25 := Nat.mul_le_mul hn.2 (by omega)
  have keep : ∀ {D2 : zD}, zfr (fun x k => fOp X x k || (x == 11 || x == 12)) D1 D2 → sf7 D2 X n c w ∧ row8 D2 (X + 1) a' n ∧ pred8 D2 2 3 o s cs ∧ zfr (fCh X) D D2 := fun hF => by
    have g : ∀ x k, fCh X x k = false → (fOp X x k || (x == 11 || x == 12)) = false := fun x k h => by
      rw [fCh_op X x k h]
      unfold fCh at h
      simp at h ⊢
      omega
    have g0 : ∀ x k, ¬ (13 ≤ x ∧ x ≤ 17) → (¬ x = X ∨ k < 4) → ¬ x = 11 → ¬ x = 12 → (fOp X x k || (x == 11 || x == 12)) = false := fun x k h1 h2 h3 h4 => by
      rw [fOp_n h1 h2]
      simp
      omega
    have hdp : ∀ x k, x < 10 → fDr X x k = false := fun x k h => by
      unfold fDr
      simp
      omega
    exact ⟨hs1.fr hF (fun k hk => g0 X k (by omega) (.inr hk) (by omega) (by omega)), hr1.fr hF (fun k => g0 _ k (by omega) (.inl (by omega)) (by omega) (by omega)), (hp.fr hf1 (fun k => hdp 2 k (by omega)) (fun k => hdp 3 k (by omega))).fr hF (fun k => g0 2 k (by omega) (.inl (by omega)) (by omega) (by omega)) (fun k => g0 3 k (by omega) (.inl (by omega)) (by omega) (by omega)), hF1.tr (hF.wk g)⟩
  have wo : ∀ {Y Z : zD}, zfr (fOp X) Y Z → zfr (fun x k => fOp X x k || (x == 11 || x == 12)) Y Z := fun h => h.wk (fun x k q => or_l q)
  have wf : ∀ {Y Z : zD}, zfr (fOf 11 12) Y Z → zfr (fun x k => fOp X x k || (x == 11 || x == 12)) Y Z := fun h => h.wk (fun x k q => or_r q)
  have w4 : ∀ {Y Z : zD}, zfr (fun a k => a == X && decide (4 ≤ k)) Y Z → zfr (fun x k => fOp X x k || (x == 11 || x == 12)) Y Z := fun h => h.wk (fun x k q => fOp_X X x k (or_l q))
  -- the last offer
  have last : ∀ (D2 : zD) (s2 : Option zWay), s2 = offO n c a' (s, cs) o (offFs n c a' 5 (off0 n c a')) → sfW D2 X (8 + w) s2 → zfr (fun x k => fOp X x k || (x == 11 || x == 12)) D1 D2 → Z (zmk iX0_choose (d + 4)) 0 123 (zl [(0, .ref 10), (1, .ref X), (2, .ref 2), (3, .int (nI (8 + w)))]) [] D2 Q := by
    intro D2 s2 es hw2 hF2
    obtain ⟨k1, k2, k3, k4⟩ := keep hF2
    refine z_aload_n dX0_choose_123 (by exact rfl) ?_
    refine z_iconst dX0_choose_124 ?_
    refine z_iload_n dX0_choose_125 (by exact rfl) ?_
    refine z_aload_n dX0_choose_126 (by exact rfl) ?_
    refine z_gfI zfx_X0_47 x1 dX0_choose_127 ?_
    refine z_eI (nI n) k1.1 ?_
    refine z_aload_n dX0_choose_130 (by exact rfl) ?_
    refine z_gfI zfx_X0_40 x2 dX0_choose_131 ?_
    refine z_eI (nI c) k1.2.1 ?_
    refine z_imul dX0_choose_134 ?_
    refine z_eI (nI (n * c)) (pk_mul _ _) ?_
    refine z_iadd dX0_choose_135 ?_
    refine z_eI (nI (8 + w + n * c)) (nI_add _ _) ?_
    refine z_i2l dX0_choose_136 ?_
    refine z_eJ (lN (8 + w + n * c)) (nI_l (by omega)) ?_
    refine z_iconst dX0_choose_137 ?_
    refine z_cV dX0_choose_138 zk_X0_43 (by exact rfl) hfl (by exact rfl) (Nat.le_of_ble_eq_true rfl) (Nat.le_of_ble_eq_true rfl) (Nat.le_refl _) ?_
    refine c_offer7 (t := 1) (q := -1) hX (by omega) hw2 (fun D3 hw3 hf3 => ?_)
    exact z_vret (st := []) rfl dX0_choose_141 (by
      obtain ⟨j1, j2, j3, j4⟩ := keep (hF2.tr (w4 hf3))
      refine hq D3 hwb j1 j2 ?_ j4
      rw [es] at hw3
      exact hw3)
  have own : ∀ (D2 : zD) (s2 : Option zWay), s2 = offFs n c a' 5 (off0 n c a') → sfW D2 X (8 + w) s2 → zfr (fun x k => fOp X x k || (x == 11 || x == 12)) D1 D2 → Z (zmk iX0_choose (d + 4)) 0 80 (zl [(0, .ref 10), (1, .ref X), (2, .ref 2), (3, .int (nI (8 + w)))]) [] D2 Q := by
    intro D2 s2 es hw2 hF2
    obtain ⟨k1, k2, k3, k4⟩ := keep hF2
    refine z_aload_n dX0_choose_80 (by exact rfl) ?_
    refine z_gfI zfx_X0_57 (by exact rfl) dX0_choose_81 ?_
    refine z_eI (nI o) k3.1 ?_
    refine z_if_le (tgt := 123) dX0_choose_84 (by decide) (fun c84 => ?_) (fun c84 => ?_)
    · exact last D2 s2 (by
        have h0 : o = 0 := by
          have := (nI_leI (a := o) (b := 0) (by omega) (by omega)).mp c84
          omega
        rw [es]
        unfold offO
        rw [zif_n (fun q => by omega)]) hw2 hF2
    · refine z_aload_n dX0_choose_87 (by exact rfl) ?_
      refine z_gfI zfx_X0_57 (by exact rfl) dX0_choose_88 ?_
      refine z_eI (nI o) k3.1 ?_
      refine z_aload_n dX0_choose_91 (by exact rfl) ?_
      refine z_gfI zfx_X0_47 x1 dX0_choose_92 ?_
      refine z_eI (nI n) k1.1 ?_
      refine z_icmp_gt (tgt := 123) dX0_choose_95 (by decide) (fun c95 => ?_) (fun c95 => ?_)
      · exact last D2 s2 (by
          have h0 : n < o := (nI_ltI (a := n) (b := o) (by omega) (by omega)).mp c95
          rw [es]
          unfold offO
          rw [zif_n (fun q => by omega)]) hw2 hF2
      · refine z_aload_n dX0_choose_98 (by exact rfl) ?_
        refine z_aload_n dX0_choose_99 (by exact rfl) ?_
        refine z_bipush dX0_choose_100 ?_
        refine z_aload_n dX0_choose_102 (by exact rfl) ?_
        refine z_gfI zfx_X0_57 (by exact rfl) dX0_choose_103 ?_
        refine z_eI (nI o) k3.1 ?_
        refine z_iadd dX0_choose_106 ?_
        refine z_eI (nI (31 + o)) (nI_add 31 o) ?_
        refine z_iload_n dX0_choose_107 (by exact rfl) ?_
        refine z_bipush dX0_choose_108 ?_
        refine z_iadd dX0_choose_110 ?_
        refine z_eI (nI (8 + w + 9)) (nI_add _ 9) ?_
        refine z_bipush dX0_choose_111 ?_
        refine z_aload_n dX0_choose_113 (by exact rfl) ?_
        refine z_gfI zfx_X0_57 (by exact rfl) dX0_choose_114 ?_
        refine z_eI (nI o) k3.1 ?_
        refine z_imul dX0_choose_117 ?_
        refine z_eI (nI (15 * o)) (pk_mul 15 o) ?_
        refine z_iadd dX0_choose_118 ?_
        refine z_eI (nI (8 + w + (9 + 15 * o))) (by rw [nI_add]; congr 1; omega) ?_
        refine z_aload_n dX0_choose_119 (by exact rfl) ?_
        refine z_cV dX0_choose_120 zk_X0_53 (by exact rfl) (by exact rfl) (by exact rfl) (Nat.le_of_ble_eq_true rfl) (Nat.le_of_ble_eq_true rfl) (Nat.le_refl _) ?_
        refine c_offerPredicted (t := 31 + o) hX isPr_own (by omega) hn.2 (by omega) k1 k2 k3 (by omega) ho (by
          rcases Nat.lt_or_ge n o with h | h
          · exact absurd (nI_lt h (by omega)) c95
          · exact h) (by omega) hw2 (fun D3 hw3 hf3 => ?_)
        exact last D3 _ rfl (by
          have h1 : 1 ≤ o := by
            rcases Nat.eq_zero_or_pos o with h | h
            · subst h
              exact absurd (by decide) c84
            · exact h
          have h2 : o ≤ n := by
            rcases Nat.lt_or_ge n o with h | h
            · exact absurd (nI_lt h (by omega)) c95
            · exact h
          rw [← es]
          unfold offO
          rcases zif_i (P := rsOk (s, cs) o n a') (a := off (31 + o) (bq (rsU (s, cs) o a') n o) (9 + 15 * o + o * c + lc (rsU (s, cs) o a') n o) s2) (b := s2) with ⟨hy, e9⟩ | ⟨hy, e9⟩
          · rw [e9] at hw3
            rw [zif_p ⟨h1, h2, hy⟩, show o * c + 9 + 15 * o = 9 + 15 * o + o * c by omega]
            exact hw3
          · rw [e9] at hw3
            rw [zif_n (fun q => hy q.2.2)]
            exact hw3) (hF2.tr (wo hf3))
  have fx : ∀ (m i : Nat) (D2 : zD), i + m = 5 → sfW D2 X (8 + w) (offFs n c a' i (off0 n c a')) → zfr (fun x k => fOp X x k || (x == 11 || x == 12)) D1 D2 → Z (zmk iX0_choose (d + 4)) 0 35 (zl [(0, .ref 10), (1, .ref X), (2, .ref 2), (3, .int (nI (8 + w))), (4, .int (nI i))]) [] D2 Q := by
    intro m
    induction m with
    | zero =>
      intro i D2 hi hw2 hF2
      have hi : i = 5 := by omega
      subst hi
      refine z_iload dX0_choose_35 (by exact rfl) ?_
      refine z_iconst dX0_choose_37 ?_
      refine z_icmp_gt (tgt := 80) dX0_choose_38 (by decide) (fun _ => ?_) (fun q9 => absurd ((by decide)) q9)
      exact z_at [(0, .ref 10), (1, .ref X), (2, .ref 2), (3, .int (nI (8 + w)))] ⟨rfl, rfl, rfl, rfl, trivial⟩ (own D2 _ rfl hw2 hF2)
    | succ m ih =>
      intro i D2 hi hw2 hF2
      obtain ⟨k1, k2, k3, k4⟩ := keep hF2
      refine z_iload dX0_choose_35 (by exact rfl) ?_
      refine z_iconst dX0_choose_37 ?_
      refine z_icmp_gt (tgt := 80) dX0_choose_38 (by decide) (fun q9 => absurd q9 ((nI_nlt (a := 4) (b := i) (by omega) (by omega)))) (fun _ => ?_)
      refine z_iload dX0_choose_41 (by exact rfl) ?_
      refine z_aload_n dX0_choose_43 (by exact rfl) ?_
      refine z_gfI zfx_X0_47 x1 dX0_choose_44 ?_
      refine z_eI (nI n) k1.1 ?_
      refine z_icmp_gt (tgt := 80) dX0_choose_47 (by decide) (fun c47 => ?_) (fun c47 => ?_)
      · exact z_at [(0, .ref 10), (1, .ref X), (2, .ref 2), (3, .int (nI (8 + w)))] ⟨rfl, rfl, rfl, rfl, trivial⟩ (own D2 _ (by
          have h0 : n < i := (nI_ltI (a := n) (b := i) (by omega) (by omega)).mp c47
          rw [← offFs_stop h0 (m + 1), show i + (m + 1) = 5 by omega]) hw2 hF2)
      · have hin : i ≤ n := by
          rcases Nat.lt_or_ge n i with h | h
          · exact absurd (nI_lt h (by omega)) c47
          · exact h
        refine z_aload_n dX0_choose_50 (by exact rfl) ?_
        refine z_gfA zfx_X0_14 (by exact rfl) dX0_choose_51 ?_
        refine z_iload dX0_choose_54 (by exact rfl) ?_
        refine z_cV dX0_choose_56 zk_X0_50 (by exact rfl) (by exact rfl) (by exact rfl) (Nat.le_of_ble_eq_true rfl) (Nat.le_of_ble_eq_true rfl) (Nat.le_refl _) ?_
        refine c_becomeFixed (P := 11) (B := 12) (nb := 4) rfl rfl rfl rfl rfl (by omega) (by omega) (by omega) (by omega) (fun D3 hp3 hf3 => ?_)
        obtain ⟨j1, j2, j3, j4⟩ := keep (hF2.tr (wf hf3))
        refine z_aload_n dX0_choose_59 (by exact rfl) ?_
        refine z_aload_n dX0_choose_60 (by exact rfl) ?_
        refine z_bipush dX0_choose_61 ?_
        refine z_iload dX0_choose_63 (by exact rfl) ?_
        refine z_iadd dX0_choose_65 ?_
        refine z_eI (nI (8 + i)) (nI_add 8 i) ?_
        refine z_iload_n dX0_choose_66 (by exact rfl) ?_
        refine z_eI (nI (8 + w + 0)) rfl ?_
        refine z_aload_n dX0_choose_67 (by exact rfl) ?_
        refine z_gfA zfx_X0_14 (by exact rfl) dX0_choose_68 ?_
        refine z_cV dX0_choose_71 zk_X0_53 (by exact rfl) (by exact rfl) (by exact rfl) (Nat.le_of_ble_eq_true rfl) (Nat.le_of_ble_eq_true rfl) (Nat.le_refl _) ?_
        refine c_offerPredicted (t := 8 + i) (hd := 8 + w) (ex := 0) hX isPr_fix (by omega) hn.2 (by omega) j1 j2 hp3 (by omega) (by omega) hin (by omega) (hw2.fr hf3 (fun k => by unfold fOf; simp; omega)) (fun D4 hw4 hf4 => ?_)
        rw [zif_p (fx_ok (by omega) (fun i hi => (hr1 i hi).2)), Nat.zero_add] at hw4
        refine z_iinc dX0_choose_74 (by exact rfl) ?_
        refine z_at [(0, .ref 10), (1, .ref X), (2, .ref 2), (3, .int (nI (8 + w))), (4, .int (nI (i + 1)))] ⟨rfl, rfl, rfl, rfl, congrArg (fun x => some (Value.int x)) (nI_1 i), trivial⟩ ?_
        refine z_goto (tgt := 35) dX0_choose_77 (by decide) ?_
        exact ih (i + 1) D4 (by omega) (by
          show sfW D4 X (8 + w) (offF n c a' i _)
          unfold offF
          rw [if_pos hin]
          exact hw4) ((hF2.tr (wf hf3)).tr (wo hf4))
  refine z_bipush dX0_choose_4 ?_
  refine z_aload_n dX0_choose_6 (by exact rfl) ?_
  refine z_gfI zfx_X0_32 x3 dX0_choose_7 ?_
  refine z_eI (nI w) hs1.2.2 ?_
  refine z_iadd dX0_choose_10 ?_
  refine z_eI (nI (8 + w)) (nI_add 8 w) ?_
  refine z_istore_n dX0_choose_11 (Nat.le_of_ble_eq_true rfl) ?_
  refine z_aload_n dX0_choose_12 (by exact rfl) ?_
  refine z_cV dX0_choose_13 zk_X0_36 (by exact rfl) hfl (by exact rfl) (Nat.le_of_ble_eq_true rfl) (Nat.le_of_ble_eq_true rfl) (Nat.le_refl _) ?_
  refine c_isOneNumber hX hn.2 hs1 hr1 (fun a13 => ?_) (fun n13 => ?_)
  · refine z_if_eq (tgt := 32) dX0_choose_16 (by decide) (fun q9 => absurd q9 ((by decide))) (fun _ => ?_)
    refine z_aload_n dX0_choose_19 (by exact rfl) ?_
    refine z_iconst dX0_choose_20 ?_
    refine z_iload_n dX0_choose_21 (by exact rfl) ?_
    refine z_aload_n dX0_choose_22 (by exact rfl) ?_
    refine z_gfI zfx_X0_40 x2 dX0_choose_23 ?_
    refine z_eI (nI c) hs1.2.1 ?_
    refine z_iadd dX0_choose_26 ?_
    refine z_eI (nI (8 + w + c)) (nI_add _ _) ?_
    refine z_i2l dX0_choose_27 ?_
    refine z_eJ (lN (8 + w + c)) (nI_l (by omega)) ?_
    refine z_iconst dX0_choose_28 ?_
    refine z_cV dX0_choose_29 zk_X0_43 (by exact rfl) hfl (by exact rfl) (Nat.le_of_ble_eq_true rfl) (Nat.le_of_ble_eq_true rfl) (Nat.le_refl _) ?_
    refine c_offer7 (t := 0) (q := -1) (s := none) (hd := 8 + w) (z := c) hX (by omega) (by
      refine (hf1.2 X 6 ?_).trans hnone
      unfold fDr
      simp) (fun D2 hw2 hf2 => ?_)
    refine z_iconst dX0_choose_32 ?_
    refine z_istore dX0_choose_33 (Nat.le_of_ble_eq_true rfl) ?_
    exact z_at [(0, .ref 10), (1, .ref X), (2, .ref 2), (3, .int (nI (8 + w))), (4, .int (nI 0))] ⟨rfl, rfl, rfl, rfl, rfl, trivial⟩ (fx 5 0 D2 (by omega) (by
      show sfW D2 X (8 + w) (off0 n c a')
      unfold off0
      rw [zif_p a13]
      exact hw2) (w4 hf2))
  · refine z_if_eq (tgt := 32) dX0_choose_16 (by decide) (fun _ => ?_) (fun q9 => absurd (rfl) q9)
    refine z_iconst dX0_choose_32 ?_
    refine z_istore dX0_choose_33 (Nat.le_of_ble_eq_true rfl) ?_
    exact z_at [(0, .ref 10), (1, .ref X), (2, .ref 2), (3, .int (nI (8 + w))), (4, .int (nI 0))] ⟨rfl, rfl, rfl, rfl, rfl, trivial⟩ (fx 5 0 D1 (by omega) (by
      show sfW D1 X (8 + w) (off0 n c a')
      unfold off0
      rw [zif_n n13]
      refine (hf1.2 X 6 ?_).trans hnone
      unfold fDr
      simp) zfr.rf)
