/-! ===== the reference's writing: writeRow ===== -/
def fWR (a k : Nat) : Bool := fMad a k || a == 62
theorem fWR_m (a k : Nat) (h : fWR a k = false) : fMad a k = false := or_l h
theorem fWR_l (a k : Nat) (h : fWR a k = false) : f62 a k = false := or_r h
theorem c_writeRow {d n b o s0 : Nat} {cs : Nat → Int} {D : zD} {Q : zQ} {a : zRow} {s : WS} (hn : 1 ≤ n ∧ n ≤ 256) (hb : 1 ≤ b ∧ b ≤ 25) (hwb : wst n a < b) (h24 : D.1 19 24 = nI n) (h27 : D.1 19 27 = nI (wst n a)) (h28 : D.1 19 28 = nI (wayA n b a (s0, cs) o).1) (h29 : D.1 19 29 = iI (wayA n b a (s0, cs) o).2.1) (ha : rowL D (shR (wst n a) a) n) (hw : own9 D o s0 cs) (hsh : s0 ≤ 14) (ho : o ≤ 8) (hR : madW D s) (hbd : (wsub n b a (s0, cs) o s).1 ≤ 160000)
    (hq : ∀ D', madW D' (wsub n b a (s0, cs) o s) → zfr fWR D D' → Q (.inl none) 0 D') :
    ZM yX9_writeRow iX9_writeRow (d + 4) [.ref 19, .int (nI (b - wst n a))] D Q := by
  refine z_method (by decide) rfl (Nat.le_of_ble_eq_true rfl) ?_
  have hP := wayA_P (n := n) (b := b) (a := a) (pr := (s0, cs)) (o := o)
  unfold wsub at hq hbd
  obtain ⟨w, ew⟩ : ∃ w, w = wst n a := ⟨_, rfl⟩
  obtain ⟨wy, ewy⟩ : ∃ wy, wy = wayA n b a (s0, cs) o := ⟨_, rfl⟩
  rw [← ew, ← ewy] at hq hbd hP
  rw [← ew] at hwb h27 ha
  rw [← ewy] at h28 h29
  rw [← ew]
  obtain ⟨c, ec⟩ : ∃ c, c = b - w := ⟨_, rfl⟩
  obtain ⟨a', ea⟩ : ∃ a', a' = shR w a := ⟨_, rfl⟩
  rw [← ec, ← ea] at hP hq hbd
  rw [← ec]
  rw [← ea] at ha
  refine z_at [(0, .ref 19), (1, .int (nI c))] ⟨rfl, rfl, trivial⟩ ?_
  have ht : wy.1 < 64 := by
    rcases hP with ⟨h, _⟩ | ⟨h, _⟩ | ⟨o', h1, _, h, _⟩ | ⟨_, _, _, h, _⟩ <;> omega
  have bl := wbody_len hP
  have hb4 : (wp w 1 (wp 1 (if 0 < w then 1 else 0) (wp 6 (wy.1 : Nat) (wp 1 0 s)))).1 ≤ 160000 := Nat.le_trans (bl.ge _) hbd
  have hb3 : (wp 1 (if 0 < w then 1 else 0) (wp 6 (wy.1 : Nat) (wp 1 0 s))).1 ≤ 160000 := Nat.le_trans ((wp_len _ _).ge _) hb4
  have hb2 : (wp 6 (wy.1 : Nat) (wp 1 0 s)).1 ≤ 160000 := Nat.le_trans ((wp_len _ _).ge _) hb3
  have hb1 : (wp 1 0 s).1 ≤ 160000 := Nat.le_trans ((wp_len _ _).ge _) hb2
  have keep : ∀ {D2 : zD}, zfr fWR D D2 → (D2.1 19 24 = nI n ∧ D2.1 19 27 = nI w ∧ D2.1 19 28 = nI wy.1 ∧ D2.1 19 29 = iI wy.2.1) ∧ rowL D2 a' n ∧ own9 D2 o s0 cs := fun hF => ⟨⟨(hF.1 19 24 rfl).trans h24, (hF.1 19 27 rfl).trans h27, (hF.1 19 28 rfl).trans h28, (hF.1 19 29 rfl).trans h29⟩, ha.fr hF (fun _ => rfl), hw.fr hF rfl rfl (fun _ => rfl)⟩
  have wm : ∀ {X Y : zD}, zfr fMad X Y → zfr fWR X Y := fun h => h.wk fWR_m
  -- numbers
  have nums : ∀ (m : Nat), m ≤ n → ∀ (sb : WS), (wnum c a' m sb).1 ≤ 160000 → (∀ (D1 : zD), madW D1 (wnum c a' m sb) → zfr fWR D D1 → Z (zmk iX9_writeRow (d + 4)) 0 127 (zl [(0, .ref 19), (1, .int (nI c))]) [] D1 Q) →
      ∀ (j i : Nat) (D1 : zD) (s1 : WS), i + j = m → madW D1 s1 → wl (fun i => wp c (a' i)) i j s1 = wnum c a' m sb → zfr fWR D D1 → Z (zmk iX9_writeRow (d + 4)) 0 105 (zl [(0, .ref 19), (1, .int (nI c)), (2, .int (nI m)), (3, .int (nI i))]) [] D1 Q := by
    intro m hm sb hbm next j
    induction j with
    | zero =>
      intro i D1 s1 hi hR1 he hF
      have hi : i = m := by omega
      subst hi
      refine z_iload_n dX9_writeRow_105 (by exact rfl) ?_
      refine z_iload_n dX9_writeRow_106 (by exact rfl) ?_
      refine z_icmp_ge (tgt := 127) dX9_writeRow_107 (by decide) (fun _ => ?_) (fun q9 => absurd ((nI_le (Nat.le_refl _) (by omega))) q9)
      exact z_at [(0, .ref 19), (1, .int (nI c))] ⟨rfl, rfl, trivial⟩ (next D1 (by rw [← he]; exact hR1) hF)
    | succ j ih =>
      intro i D1 s1 hi hR1 he hF
      refine z_iload_n dX9_writeRow_105 (by exact rfl) ?_
      refine z_iload_n dX9_writeRow_106 (by exact rfl) ?_
      refine z_icmp_ge (tgt := 127) dX9_writeRow_107 (by decide) (fun q9 => absurd q9 ((nI_ge (a := i) (b := m) (by omega) (by omega)))) (fun _ => ?_)
      refine z_aload_n dX9_writeRow_110 (by exact rfl) ?_
      refine z_iload_n dX9_writeRow_111 (by exact rfl) ?_
      refine z_aload_n dX9_writeRow_112 (by exact rfl) ?_
      refine z_gfA zfx_X9_55 (by exact rfl) dX9_writeRow_113 ?_
      refine z_iload_n dX9_writeRow_116 (by exact rfl) ?_
      refine z_aJ (by exact rfl) dX9_writeRow_117 (vp_in_nI (by omega) (by omega)) ?_
      refine z_eJ (lI (a' i)) (by
        rw [nI_clamp (n := i) (by omega)]
        exact ((keep hF).2.1 i (by omega)).1) ?_
      refine z_cV dX9_writeRow_118 zk_X9_217 (by exact rfl) (by exact rfl) (by exact rfl) (Nat.le_of_ble_eq_true rfl) (Nat.le_of_ble_eq_true rfl) (Nat.le_refl _) ?_
      refine c_writeW (w := c) (by omega) (Nat.le_trans (Nat.le_trans (wl_ge (fun j s => (wp_len c _).ge s) j (i + 1) _) (by
        rw [wl_s] at he
        rw [he]
        exact Nat.le_refl _)) hbm) hR1 (fun D2 hR2 hf2 => ?_)
      refine z_iinc dX9_writeRow_121 (by exact rfl) ?_
      refine z_at [(0, .ref 19), (1, .int (nI c)), (2, .int (nI m)), (3, .int (nI (i + 1)))] ⟨rfl, rfl, rfl, congrArg (fun x => some (Value.int x)) (nI_1 i), trivial⟩ ?_
      refine z_goto (tgt := 105) dX9_writeRow_124 (by decide) ?_
      exact ih (i + 1) D2 _ (by omega) hR2 he (hF.tr (wm hf2))
  have body : ∀ (D1 : zD) (s1 : WS), madW D1 s1 → (wbody wy.1 n c a' (s0, cs) o s1).1 ≤ 160000 → (∀ D', madW D' (wbody wy.1 n c a' (s0, cs) o s1) → zfr fWR D D' → Q (.inl none) 0 D') → zfr fWR D D1 → Z (zmk iX9_writeRow (d + 4)) 0 69 (zl [(0, .ref 19), (1, .int (nI c))]) [] D1 Q := by
    intro D1 s1 hR1 hbd hq hF
    obtain ⟨⟨k1, k2, k3, k4⟩, k5, k6⟩ := keep hF
    rcases id hP with ⟨h1, h2, h3⟩ | ⟨h1, h2, h3⟩ | ⟨o', g1, g2, h1, h2, h3⟩ | ⟨g1, g2, g3, h1, h2, h3⟩
    · rw [h1] at hq hbd
      have hbd : (wnum c a' 1 s1).1 ≤ 160000 := hbd
      refine z_aload_n dX9_writeRow_69 (by exact rfl) ?_
      refine z_gfI zfx_X9_158 (by exact rfl) dX9_writeRow_70 ?_
      refine z_eI (nI 0) (by rw [k3, h1]) ?_
      refine z_if_ne (tgt := 80) dX9_writeRow_73 (by decide) (fun q9 => absurd (rfl) q9) (fun _ => ?_)
      refine z_iconst dX9_writeRow_76 ?_
      refine z_goto (tgt := 102) dX9_writeRow_77 (by decide) ?_
      refine z_istore_n dX9_writeRow_102 (Nat.le_of_ble_eq_true rfl) ?_
      refine z_iconst dX9_writeRow_103 ?_
      refine z_istore_n dX9_writeRow_104 (Nat.le_of_ble_eq_true rfl) ?_
      exact z_at [(0, .ref 19), (1, .int (nI c)), (2, .int (nI 1)), (3, .int (nI 0))] ⟨rfl, rfl, rfl, rfl, trivial⟩ (nums 1 hn.1 s1 hbd (fun D2 hR2 hF2 => by
        refine z_aload_n dX9_writeRow_127 (by exact rfl) ?_
        refine z_gfI zfx_X9_158 (by exact rfl) dX9_writeRow_128 ?_
        refine z_eI (nI 0) (by rw [(keep hF2).1.2.2.1, h1]) ?_
        refine z_bipush dX9_writeRow_131 ?_
        refine z_icmp_ge (tgt := 137) dX9_writeRow_133 (by decide) (fun q9 => absurd q9 ((by decide))) (fun _ => ?_)
        exact z_vret (st := []) rfl dX9_writeRow_136 (hq D2 hR2 hF2)
        ) 1 0 D1 s1 (by omega) hR1 rfl hF)
    · rw [h1] at hq hbd
      have hbd : (wnum c a' n s1).1 ≤ 160000 := hbd
      refine z_aload_n dX9_writeRow_69 (by exact rfl) ?_
      refine z_gfI zfx_X9_158 (by exact rfl) dX9_writeRow_70 ?_
      refine z_eI (nI 1) (by rw [k3, h1]) ?_
      refine z_if_ne (tgt := 80) dX9_writeRow_73 (by decide) (fun _ => ?_) (fun q9 => absurd q9 ((by decide)))
      refine z_aload_n dX9_writeRow_80 (by exact rfl) ?_
      refine z_gfI zfx_X9_158 (by exact rfl) dX9_writeRow_81 ?_
      refine z_eI (nI 1) (by rw [k3, h1]) ?_
      refine z_iconst dX9_writeRow_84 ?_
      refine z_icmp_ne (tgt := 95) dX9_writeRow_85 (by decide) (fun q9 => absurd (rfl) q9) (fun _ => ?_)
      refine z_aload_n dX9_writeRow_88 (by exact rfl) ?_
      refine z_gfI zfx_X9_108 (by exact rfl) dX9_writeRow_89 ?_
      refine z_eI (nI n) k1 ?_
      refine z_goto (tgt := 102) dX9_writeRow_92 (by decide) ?_
      refine z_istore_n dX9_writeRow_102 (Nat.le_of_ble_eq_true rfl) ?_
      refine z_iconst dX9_writeRow_103 ?_
      refine z_istore_n dX9_writeRow_104 (Nat.le_of_ble_eq_true rfl) ?_
      exact z_at [(0, .ref 19), (1, .int (nI c)), (2, .int (nI n)), (3, .int (nI 0))] ⟨rfl, rfl, rfl, rfl, trivial⟩ (nums n (Nat.le_refl _) s1 hbd (fun D2 hR2 hF2 => by
        refine z_aload_n dX9_writeRow_127 (by exact rfl) ?_
        refine z_gfI zfx_X9_158 (by exact rfl) dX9_writeRow_128 ?_
        refine z_eI (nI 1) (by rw [(keep hF2).1.2.2.1, h1]) ?_
        refine z_bipush dX9_writeRow_131 ?_
        refine z_icmp_ge (tgt := 137) dX9_writeRow_133 (by decide) (fun q9 => absurd q9 ((by decide))) (fun _ => ?_)
        exact z_vret (st := []) rfl dX9_writeRow_136 (hq D2 hR2 hF2)
        ) n 0 D1 s1 (by omega) hR1 rfl hF)
    · rw [h1] at hq hbd k3
      have e : ∀ s, wbody (8 + o') n c a' (s0, cs) o s = wres (rsU (0, fxC o') o' a') n o' (wnum c a' o' s) := by
        intro s
        unfold wbody
        rw [if_neg (by omega), if_neg (by omega), if_pos (by omega), Nat.add_sub_cancel_left]
        rfl
      rw [e] at hq hbd
      have eo : ordN (8 + o') = o' := by
        unfold ordN
        rw [if_neg (by omega), if_pos (by omega), Nat.add_sub_cancel_left]
      have hok : rsOk (0, fxC o') o' n a' := fx_ok g1 (fun i hi => (ha i hi).2)
      refine z_aload_n dX9_writeRow_69 (by exact rfl) ?_
      refine z_gfI zfx_X9_158 (by exact rfl) dX9_writeRow_70 ?_
      refine z_eI (nI (8 + o')) k3 ?_
      refine z_if_ne (tgt := 80) dX9_writeRow_73 (by decide) (fun _ => ?_) (fun q9 => absurd q9 ((nI_ne0 (by omega) (by omega))))
      refine z_aload_n dX9_writeRow_80 (by exact rfl) ?_
      refine z_gfI zfx_X9_158 (by exact rfl) dX9_writeRow_81 ?_
      refine z_eI (nI (8 + o')) k3 ?_
      refine z_iconst dX9_writeRow_84 ?_
      refine z_icmp_ne (tgt := 95) dX9_writeRow_85 (by decide) (fun _ => ?_) (fun q9 => absurd q9 ((fun q => absurd ((nI_eq (a := 8 + o') (b := 1) (by omega) (by omega)).mp q) (by omega))))
      refine z_aload_n dX9_writeRow_95 (by exact rfl) ?_
      refine z_gfI zfx_X9_158 (by exact rfl) dX9_writeRow_96 ?_
      refine z_eI (nI (8 + o')) k3 ?_
      refine z_cS dX9_writeRow_99 zk_X9_117 (by exact rfl) (Nat.le_of_ble_eq_true rfl) (Nat.le_of_ble_eq_true rfl) (Nat.le_refl _) ?_
      refine c_o (t := 8 + o') (by omega) ?_
      rw [eo]
      refine z_istore_n dX9_writeRow_102 (Nat.le_of_ble_eq_true rfl) ?_
      refine z_iconst dX9_writeRow_103 ?_
      refine z_istore_n dX9_writeRow_104 (Nat.le_of_ble_eq_true rfl) ?_
      exact z_at [(0, .ref 19), (1, .int (nI c)), (2, .int (nI o')), (3, .int (nI 0))] ⟨rfl, rfl, rfl, rfl, trivial⟩ (nums o' g2 s1 (Nat.le_trans ((wres_len _ n o').ge _) hbd) (fun D2 hR2 hF2 => by
        obtain ⟨⟨j1, j2, j3, j4⟩, j5, j6⟩ := keep hF2
        rw [h1] at j3
        refine z_aload_n dX9_writeRow_127 (by exact rfl) ?_
        refine z_gfI zfx_X9_158 (by exact rfl) dX9_writeRow_128 ?_
        refine z_eI (nI (8 + o')) j3 ?_
        refine z_bipush dX9_writeRow_131 ?_
        refine z_icmp_ge (tgt := 137) dX9_writeRow_133 (by decide) (fun _ => ?_) (fun q9 => absurd ((nI_le (a := 8) (b := 8 + o') (by omega) (by omega))) q9)
        refine z_aload_n dX9_writeRow_137 (by exact rfl) ?_
        refine z_aload_n dX9_writeRow_138 (by exact rfl) ?_
        refine z_gfI zfx_X9_158 (by exact rfl) dX9_writeRow_139 ?_
        refine z_eI (nI (8 + o')) j3 ?_
        refine z_cV dX9_writeRow_142 zk_X9_181 (by exact rfl) (by exact rfl) (by exact rfl) (Nat.le_of_ble_eq_true rfl) (Nat.le_of_ble_eq_true rfl) (Nat.le_refl _) ?_
        refine c_leave (o := o') (pr := (0, fxC o')) (.inl ⟨rfl, g1, rfl⟩) j1 g2 hn.2 j5 (fun D3 bb hbb hl hf3 => ?_)
        have hF3 := hF2.tr (hf3.wk fWR_l)
        obtain ⟨⟨l1, l2, l3, l4⟩, l5, l6⟩ := keep hF3
        rw [h1] at l3
        refine z_istore_n dX9_writeRow_145 (Nat.le_of_ble_eq_true rfl) ?_
        refine z_aload_n dX9_writeRow_146 (by exact rfl) ?_
        refine z_gfI zfx_X9_158 (by exact rfl) dX9_writeRow_147 ?_
        refine z_eI (nI (8 + o')) l3 ?_
        refine z_bipush dX9_writeRow_150 ?_
        refine z_icmp_le (tgt := 205) dX9_writeRow_152 (by decide) (fun _ => ?_) (fun q9 => absurd ((nI_le (a := 8 + o') (b := 31) (by omega) (by omega))) q9)
        refine z_aload_n dX9_writeRow_205 (by exact rfl) ?_
        refine z_aload_n dX9_writeRow_206 (by exact rfl) ?_
        refine z_gfI zfx_X9_158 (by exact rfl) dX9_writeRow_207 ?_
        refine z_eI (nI (8 + o')) l3 ?_
        refine z_cS dX9_writeRow_210 zk_X9_117 (by exact rfl) (Nat.le_of_ble_eq_true rfl) (Nat.le_of_ble_eq_true rfl) (Nat.le_refl _) ?_
        refine c_o (t := 8 + o') (by omega) ?_
        rw [eo]
        refine z_cV dX9_writeRow_213 zk_X9_221 (by exact rfl) (by exact rfl) (by exact rfl) (Nat.le_of_ble_eq_true rfl) (Nat.le_of_ble_eq_true rfl) (Nat.le_refl _) ?_
        refine c_writeLeft l1 hn.2 g2 (leftU.of hl hok) (by rw [l4, h2, iI_N]; rfl) (hR2.fr hf3 rfl (fun _ => rfl)) hbd (fun D4 hR4 hf4 => ?_)
        exact z_vret (st := []) rfl dX9_writeRow_216 (hq D4 hR4 (hF3.tr (wm hf4)))
        ) o' 0 D1 s1 (by omega) hR1 rfl hF)
    · rw [h1] at hq hbd k3
      have e : ∀ s, wbody (31 + o) n c a' (s0, cs) o s = wres (rsU (s0, cs) o a') n o (wcoef (s0, cs) o (wnum c a' o s)) := by
        intro s
        unfold wbody
        rw [if_neg (by omega), if_neg (by omega), if_neg (by omega)]
      rw [e] at hq hbd
      have eo : ordN (31 + o) = o := by
        unfold ordN
        rw [if_neg (by omega), if_neg (by omega), Nat.add_sub_cancel_left]
      have hbc : (wcoef (s0, cs) o (wnum c a' o s1)).1 ≤ 160000 := Nat.le_trans ((wres_len _ n o).ge _) hbd
      obtain ⟨s2, es2⟩ : ∃ s2, s2 = wnum c a' o s1 := ⟨_, rfl⟩
      have hbn : (wnum c a' o s1).1 ≤ 160000 := Nat.le_trans ((wcoef_len _ o).ge _) hbc
      rw [← es2] at hq hbd hbc
      have hbf : (wp 5 (s0 : Nat) (wp 4 14 s2)).1 ≤ 160000 := Nat.le_trans (wl_ge (f := fun j => wp 15 (cs j)) (fun j s => (wp_len 15 _).ge s) o 0 _) hbc
      have hbe : (wp 4 14 s2).1 ≤ 160000 := Nat.le_trans ((wp_len _ _).ge _) hbf
      have cfs : ∀ (j i : Nat) (D3 : zD) (s3 : WS), i + j = o → leftE D3 (s0, cs) o n a' → madW D3 s3 → wl (fun i => wp 15 (cs i)) i j s3 = wcoef (s0, cs) o s2 → zfr fWR D D3 → Z (zmk iX9_writeRow (d + 4)) 0 176 (zl [(0, .ref 19), (1, .int (nI c)), (4, .int (nI i))]) [] D3 Q := by
        intro j
        induction j with
        | zero =>
          intro i D3 s3 hi hl hR3 he hF3
          have hi : i = o := by omega
          subst hi
          obtain ⟨⟨l1, l2, l3, l4⟩, l5, l6⟩ := keep hF3
          rw [h1] at l3
          have he : s3 = _ := he
          rw [he] at hR3
          refine z_iload dX9_writeRow_176 (by exact rfl) ?_
          refine z_aload_n dX9_writeRow_178 (by exact rfl) ?_
          refine z_gfI zfx_X9_97 (by exact rfl) dX9_writeRow_179 ?_
          refine z_eI (nI i) l6.1 ?_
          refine z_icmp_ge (tgt := 205) dX9_writeRow_182 (by decide) (fun _ => ?_) (fun q9 => absurd ((nI_le (Nat.le_refl _) (by omega))) q9)
          refine z_aload_n dX9_writeRow_205 (by exact rfl) ?_
          refine z_aload_n dX9_writeRow_206 (by exact rfl) ?_
          refine z_gfI zfx_X9_158 (by exact rfl) dX9_writeRow_207 ?_
          refine z_eI (nI (31 + i)) l3 ?_
          refine z_cS dX9_writeRow_210 zk_X9_117 (by exact rfl) (Nat.le_of_ble_eq_true rfl) (Nat.le_of_ble_eq_true rfl) (Nat.le_refl _) ?_
          refine c_o (t := 31 + i) (by omega) ?_
          rw [eo]
          refine z_cV dX9_writeRow_213 zk_X9_221 (by exact rfl) (by exact rfl) (by exact rfl) (Nat.le_of_ble_eq_true rfl) (Nat.le_of_ble_eq_true rfl) (Nat.le_refl _) ?_
          refine c_writeLeft l1 hn.2 g2 (leftU.of hl g3) (by rw [l4, h2, iI_N]) hR3 hbd (fun D4 hR4 hf4 => ?_)
          exact z_vret (st := []) rfl dX9_writeRow_216 (hq D4 hR4 (hF3.tr (wm hf4)))
        | succ j ih =>
          intro i D3 s3 hi hl hR3 he hF3
          obtain ⟨⟨l1, l2, l3, l4⟩, l5, l6⟩ := keep hF3
          obtain ⟨e1, b1⟩ := l6.2.2 i (by omega)
          unfold wtI bd at b1
          refine z_iload dX9_writeRow_176 (by exact rfl) ?_
          refine z_aload_n dX9_writeRow_178 (by exact rfl) ?_
          refine z_gfI zfx_X9_97 (by exact rfl) dX9_writeRow_179 ?_
          refine z_eI (nI o) l6.1 ?_
          refine z_icmp_ge (tgt := 205) dX9_writeRow_182 (by decide) (fun q9 => absurd q9 ((nI_ge (a := i) (b := o) (by omega) (by omega)))) (fun _ => ?_)
          refine z_aload_n dX9_writeRow_185 (by exact rfl) ?_
          refine z_bipush dX9_writeRow_186 ?_
          refine z_aload_n dX9_writeRow_188 (by exact rfl) ?_
          refine z_gfA zfx_X9_23 (by exact rfl) dX9_writeRow_189 ?_
          refine z_iload dX9_writeRow_192 (by exact rfl) ?_
          refine z_aI (by exact rfl) dX9_writeRow_194 (vp_in_nI (by omega) (by omega)) ?_
          refine z_eI (iI (cs i)) (by
            rw [nI_clamp (n := i) (by omega)]
            exact e1) ?_
          refine z_i2l dX9_writeRow_195 ?_
          refine z_eJ (lI (cs i)) (iI_l (by omega) (by omega)) ?_
          refine z_cV dX9_writeRow_196 zk_X9_217 (by exact rfl) (by exact rfl) (by exact rfl) (Nat.le_of_ble_eq_true rfl) (Nat.le_of_ble_eq_true rfl) (Nat.le_refl _) ?_
          refine c_writeW (w := 15) (by omega) (Nat.le_trans (Nat.le_trans (wl_ge (fun j s => (wp_len 15 _).ge s) j (i + 1) _) (by
            rw [wl_s] at he
            rw [he]
            exact Nat.le_refl _)) hbc) hR3 (fun D4 hR4 hf4 => ?_)
          refine z_iinc dX9_writeRow_199 (by exact rfl) ?_
          refine z_at [(0, .ref 19), (1, .int (nI c)), (4, .int (nI (i + 1)))] ⟨rfl, rfl, congrArg (fun x => some (Value.int x)) (nI_1 i), trivial⟩ ?_
          refine z_goto (tgt := 176) dX9_writeRow_202 (by decide) ?_
          exact ih (i + 1) D4 _ (by omega) (fun x p1 p2 => (hf4.2 62 x rfl).trans (hl x p1 p2)) hR4 he (hF3.tr (wm hf4))
      refine z_aload_n dX9_writeRow_69 (by exact rfl) ?_
      refine z_gfI zfx_X9_158 (by exact rfl) dX9_writeRow_70 ?_
      refine z_eI (nI (31 + o)) k3 ?_
      refine z_if_ne (tgt := 80) dX9_writeRow_73 (by decide) (fun _ => ?_) (fun q9 => absurd q9 ((nI_ne0 (by omega) (by omega))))
      refine z_aload_n dX9_writeRow_80 (by exact rfl) ?_
      refine z_gfI zfx_X9_158 (by exact rfl) dX9_writeRow_81 ?_
      refine z_eI (nI (31 + o)) k3 ?_
      refine z_iconst dX9_writeRow_84 ?_
      refine z_icmp_ne (tgt := 95) dX9_writeRow_85 (by decide) (fun _ => ?_) (fun q9 => absurd q9 ((fun q => absurd ((nI_eq (a := 31 + o) (b := 1) (by omega) (by omega)).mp q) (by omega))))
      refine z_aload_n dX9_writeRow_95 (by exact rfl) ?_
      refine z_gfI zfx_X9_158 (by exact rfl) dX9_writeRow_96 ?_
      refine z_eI (nI (31 + o)) k3 ?_
      refine z_cS dX9_writeRow_99 zk_X9_117 (by exact rfl) (Nat.le_of_ble_eq_true rfl) (Nat.le_of_ble_eq_true rfl) (Nat.le_refl _) ?_
      refine c_o (t := 31 + o) (by omega) ?_
      rw [eo]
      refine z_istore_n dX9_writeRow_102 (Nat.le_of_ble_eq_true rfl) ?_
      refine z_iconst dX9_writeRow_103 ?_
      refine z_istore_n dX9_writeRow_104 (Nat.le_of_ble_eq_true rfl) ?_
      exact z_at [(0, .ref 19), (1, .int (nI c)), (2, .int (nI o)), (3, .int (nI 0))] ⟨rfl, rfl, rfl, rfl, trivial⟩ (nums o g2 s1 hbn (fun D2 hR2 hF2 => by
        obtain ⟨⟨j1, j2, j3, j4⟩, j5, j6⟩ := keep hF2
        rw [h1] at j3
        rw [← es2] at hR2
        refine z_aload_n dX9_writeRow_127 (by exact rfl) ?_
        refine z_gfI zfx_X9_158 (by exact rfl) dX9_writeRow_128 ?_
        refine z_eI (nI (31 + o)) j3 ?_
        refine z_bipush dX9_writeRow_131 ?_
        refine z_icmp_ge (tgt := 137) dX9_writeRow_133 (by decide) (fun _ => ?_) (fun q9 => absurd ((nI_le (a := 8) (b := 31 + o) (by omega) (by omega))) q9)
        refine z_aload_n dX9_writeRow_137 (by exact rfl) ?_
        refine z_aload_n dX9_writeRow_138 (by exact rfl) ?_
        refine z_gfI zfx_X9_158 (by exact rfl) dX9_writeRow_139 ?_
        refine z_eI (nI (31 + o)) j3 ?_
        refine z_cV dX9_writeRow_142 zk_X9_181 (by exact rfl) (by exact rfl) (by exact rfl) (Nat.le_of_ble_eq_true rfl) (Nat.le_of_ble_eq_true rfl) (Nat.le_refl _) ?_
        refine c_leave (o := o) (pr := (s0, cs)) (.inr ⟨rfl, g1, ho, hsh, j6⟩) j1 g2 hn.2 j5 (fun D3 bb hbb hl hf3 => ?_)
        have hF3 := hF2.tr (hf3.wk fWR_l)
        obtain ⟨⟨l1, l2, l3, l4⟩, l5, l6⟩ := keep hF3
        rw [h1] at l3
        refine z_istore_n dX9_writeRow_145 (Nat.le_of_ble_eq_true rfl) ?_
        refine z_aload_n dX9_writeRow_146 (by exact rfl) ?_
        refine z_gfI zfx_X9_158 (by exact rfl) dX9_writeRow_147 ?_
        refine z_eI (nI (31 + o)) l3 ?_
        refine z_bipush dX9_writeRow_150 ?_
        refine z_icmp_le (tgt := 205) dX9_writeRow_152 (by decide) (fun q9 => absurd q9 ((fun q => absurd ((nI_leI (a := 31 + o) (b := 31) (by omega) (by omega)).mp q) (by omega)))) (fun _ => ?_)
        refine z_aload_n dX9_writeRow_155 (by exact rfl) ?_
        refine z_iconst dX9_writeRow_156 ?_
        refine z_ldcL dX9_writeRow_157 zclx_X9_92 ?_
        refine z_cV dX9_writeRow_160 zk_X9_217 (by exact rfl) (by exact rfl) (by exact rfl) (Nat.le_of_ble_eq_true rfl) (Nat.le_of_ble_eq_true rfl) (Nat.le_refl _) ?_
        refine c_writeW (w := 4) (x := 14) (by omega) hbe (hR2.fr hf3 rfl (fun _ => rfl)) (fun D4 hR4 hf4 => ?_)
        have hF4 := hF3.tr (wm hf4)
        refine z_aload_n dX9_writeRow_163 (by exact rfl) ?_
        refine z_iconst dX9_writeRow_164 ?_
        refine z_aload_n dX9_writeRow_165 (by exact rfl) ?_
        refine z_gfI zfx_X9_94 (by exact rfl) dX9_writeRow_166 ?_
        refine z_eI (nI s0) (keep hF4).2.2.2.1 ?_
        refine z_i2l dX9_writeRow_169 ?_
        refine z_eJ (lI ((s0 : Nat) : Int)) (nI_lI (by omega)) ?_
        refine z_cV dX9_writeRow_170 zk_X9_217 (by exact rfl) (by exact rfl) (by exact rfl) (Nat.le_of_ble_eq_true rfl) (Nat.le_of_ble_eq_true rfl) (Nat.le_refl _) ?_
        refine c_writeW (w := 5) (by omega) hbf hR4 (fun D5 hR5 hf5 => ?_)
        refine z_iconst dX9_writeRow_173 ?_
        refine z_istore dX9_writeRow_174 (Nat.le_of_ble_eq_true rfl) ?_
        exact z_at [(0, .ref 19), (1, .int (nI c)), (4, .int (nI 0))] ⟨rfl, rfl, rfl, trivial⟩ (cfs o 0 D5 _ (by omega) (fun x p1 p2 => ((hf4.tr hf5).2 62 x rfl).trans (hl x p1 p2)) hR5 rfl (hF4.tr (wm hf5)))
        ) o 0 D1 s1 (by omega) hR1 rfl hF)
  -- bits 0 ahead of the one
  have zs : ∀ (sb : WS), okW sb → (wp w 1 sb).1 ≤ 160000 → (∀ (D1 : zD), madW D1 (wp w 1 sb) → zfr fWR D D1 → Z (zmk iX9_writeRow (d + 4)) 0 69 (zl [(0, .ref 19), (1, .int (nI c))]) [] D1 Q) →
      ∀ (j i : Nat) (D1 : zD), i + j = max w 1 → 1 ≤ i → madW D1 (wz (i - 1) sb) → zfr fWR D D1 → Z (zmk iX9_writeRow (d + 4)) 0 36 (zl [(0, .ref 19), (1, .int (nI c)), (2, .int (nI i))]) [] D1 Q := by
    intro sb hsb hbb next j
    have hbb2 : sb.1 + w ≤ 160000 := hbb
    induction j with
    | zero =>
      intro i D1 hi hi1 hR1 hF
      rcases Nat.eq_zero_or_pos w with hw0 | hw0
      · have hi0 : i = 1 := by omega
        subst hi0
        refine z_iload_n dX9_writeRow_36 (by exact rfl) ?_
        refine z_aload_n dX9_writeRow_37 (by exact rfl) ?_
        refine z_gfI zfx_X9_168 (by exact rfl) dX9_writeRow_38 ?_
        refine z_eI (nI w) (keep hF).1.2.1 ?_
        refine z_icmp_ge (tgt := 56) dX9_writeRow_41 (by decide) (fun _ => ?_) (fun q9 => absurd ((nI_le (by omega) (by omega))) q9)
        refine z_aload_n dX9_writeRow_56 (by exact rfl) ?_
        refine z_gfI zfx_X9_168 (by exact rfl) dX9_writeRow_57 ?_
        refine z_eI (nI w) (keep hF).1.2.1 ?_
        refine z_if_le (tgt := 69) dX9_writeRow_60 (by decide) (fun _ => ?_) (fun q9 => absurd ((by rw [hw0]; decide)) q9)
        exact z_at [(0, .ref 19), (1, .int (nI c))] ⟨rfl, rfl, trivial⟩ (next D1 (by
          rw [hw0, wp_0 1 hsb]
          exact hR1) hF)
      · have hi0 : i = w := by omega
        subst hi0
        refine z_iload_n dX9_writeRow_36 (by exact rfl) ?_
        refine z_aload_n dX9_writeRow_37 (by exact rfl) ?_
        refine z_gfI zfx_X9_168 (by exact rfl) dX9_writeRow_38 ?_
        refine z_eI (nI i) (keep hF).1.2.1 ?_
        refine z_icmp_ge (tgt := 56) dX9_writeRow_41 (by decide) (fun _ => ?_) (fun q9 => absurd ((nI_le (by omega) (by omega))) q9)
        refine z_aload_n dX9_writeRow_56 (by exact rfl) ?_
        refine z_gfI zfx_X9_168 (by exact rfl) dX9_writeRow_57 ?_
        refine z_eI (nI i) (keep hF).1.2.1 ?_
        refine z_if_le (tgt := 69) dX9_writeRow_60 (by decide) (fun q9 => absurd q9 ((fun q => absurd ((nI_leI (a := i) (b := 0) (by omega) (by omega)).mp q) (by omega)))) (fun _ => ?_)
        refine z_aload_n dX9_writeRow_63 (by exact rfl) ?_
        refine z_iconst dX9_writeRow_64 ?_
        refine z_lconst dX9_writeRow_65 ?_
        refine z_cV dX9_writeRow_66 zk_X9_217 (by exact rfl) (by exact rfl) (by exact rfl) (Nat.le_of_ble_eq_true rfl) (Nat.le_of_ble_eq_true rfl) (Nat.le_refl _) ?_
        refine c_writeW (w := 1) (x := 1) (by omega) (by show sb.1 + (i - 1) + 1 ≤ 160000; omega) hR1 (fun D2 hR2 hf2 => ?_)
        exact z_at [(0, .ref 19), (1, .int (nI c))] ⟨rfl, rfl, trivial⟩ (next D2 (by
          rw [← wp_run hw0 hsb]
          exact hR2) (hF.tr (wm hf2)))
    | succ j ih =>
      intro i D1 hi hi1 hR1 hF
      refine z_iload_n dX9_writeRow_36 (by exact rfl) ?_
      refine z_aload_n dX9_writeRow_37 (by exact rfl) ?_
      refine z_gfI zfx_X9_168 (by exact rfl) dX9_writeRow_38 ?_
      refine z_eI (nI w) (keep hF).1.2.1 ?_
      refine z_icmp_ge (tgt := 56) dX9_writeRow_41 (by decide) (fun q9 => absurd q9 ((nI_ge (a := i) (b := w) (by omega) (by omega)))) (fun _ => ?_)
      refine z_aload_n dX9_writeRow_44 (by exact rfl) ?_
      refine z_iconst dX9_writeRow_45 ?_
      refine z_lconst dX9_writeRow_46 ?_
      refine z_cV dX9_writeRow_47 zk_X9_217 (by exact rfl) (by exact rfl) (by exact rfl) (Nat.le_of_ble_eq_true rfl) (Nat.le_of_ble_eq_true rfl) (Nat.le_refl _) ?_
      refine c_writeW (w := 1) (x := 0) (by omega) (by show sb.1 + (i - 1) + 1 ≤ 160000; omega) hR1 (fun D2 hR2 hf2 => ?_)
      rw [wp_z 1 hR1.2, wz_wz, show i - 1 + 1 = i + 1 - 1 by omega] at hR2
      refine z_iinc dX9_writeRow_50 (by exact rfl) ?_
      refine z_at [(0, .ref 19), (1, .int (nI c)), (2, .int (nI (i + 1)))] ⟨rfl, rfl, congrArg (fun x => some (Value.int x)) (nI_1 i), trivial⟩ ?_
      refine z_goto (tgt := 36) dX9_writeRow_53 (by decide) ?_
      exact ih (i + 1) D2 (by omega) (by omega) hR2 (hF.tr (wm hf2))
  have t31 : ∀ (D2 : zD) (x : Int64), x = lI (if 0 < w then 1 else 0) → madW D2 (wp 6 (wy.1 : Nat) (wp 1 0 s)) → zfr fMad D D2 → Z (zmk iX9_writeRow (d + 4)) 0 31 (zl [(0, .ref 19), (1, .int (nI c))]) [.long x, .int 1, .ref 19] D2 Q := by
    intro D2 x hx hR2 hF2
    subst hx
    refine z_cV dX9_writeRow_31 zk_X9_217 (by exact rfl) (by exact rfl) (by exact rfl) (Nat.le_of_ble_eq_true rfl) (Nat.le_of_ble_eq_true rfl) (Nat.le_refl _) ?_
    refine c_writeW (w := 1) (by omega) hb3 hR2 (fun D3 hR3 hf3 => ?_)
    refine z_iconst dX9_writeRow_34 ?_
    refine z_istore_n dX9_writeRow_35 (Nat.le_of_ble_eq_true rfl) ?_
    exact z_at [(0, .ref 19), (1, .int (nI c)), (2, .int (nI 1))] ⟨rfl, rfl, rfl, trivial⟩ (zs _ hR3.2 hb4 (fun D4 hR4 hF4 => body D4 _ hR4 hbd hq hF4) (max w 1 - 1) 1 D3 (by omega) (by omega) hR3 (wm (hF2.tr hf3)))
  refine z_aload_n dX9_writeRow_0 (by exact rfl) ?_
  refine z_iconst dX9_writeRow_1 ?_
  refine z_lconst dX9_writeRow_2 ?_
  refine z_cV dX9_writeRow_3 zk_X9_217 (by exact rfl) (by exact rfl) (by exact rfl) (Nat.le_of_ble_eq_true rfl) (Nat.le_of_ble_eq_true rfl) (Nat.le_refl _) ?_
  refine c_writeW (w := 1) (x := 0) (by omega) hb1 hR (fun D1 hR1 hf1 => ?_)
  refine z_aload_n dX9_writeRow_6 (by exact rfl) ?_
  refine z_bipush dX9_writeRow_7 ?_
  refine z_aload_n dX9_writeRow_9 (by exact rfl) ?_
  refine z_gfI zfx_X9_158 (by exact rfl) dX9_writeRow_10 ?_
  refine z_eI (nI wy.1) (keep (wm hf1)).1.2.2.1 ?_
  refine z_i2l dX9_writeRow_13 ?_
  refine z_eJ (lI ((wy.1 : Nat) : Int)) (nI_lI (by omega)) ?_
  refine z_cV dX9_writeRow_14 zk_X9_217 (by exact rfl) (by exact rfl) (by exact rfl) (Nat.le_of_ble_eq_true rfl) (Nat.le_of_ble_eq_true rfl) (Nat.le_refl _) ?_
  refine c_writeW (w := 6) (by omega) hb2 hR1 (fun D2 hR2 hf2 => ?_)
  refine z_aload_n dX9_writeRow_17 (by exact rfl) ?_
  refine z_iconst dX9_writeRow_18 ?_
  refine z_aload_n dX9_writeRow_19 (by exact rfl) ?_
  refine z_gfI zfx_X9_168 (by exact rfl) dX9_writeRow_20 ?_
  refine z_eI (nI w) (keep (wm (hf1.tr hf2))).1.2.1 ?_
  refine z_if_le (tgt := 30) dX9_writeRow_23 (by decide) (fun c23 => ?_) (fun c23 => ?_)
  · refine z_lconst dX9_writeRow_30 ?_
    exact t31 D2 _ (by
      have h0 : w ≤ 0 := (nI_leI (a := w) (b := 0) (by omega) (by omega)).mp c23
      rw [if_neg (by omega)]
      rfl) hR2 (hf1.tr hf2)
  · refine z_lconst dX9_writeRow_26 ?_
    refine z_goto (tgt := 31) dX9_writeRow_27 (by decide) ?_
    exact t31 D2 _ (by
      have h0 : ¬ w ≤ 0 := fun q => c23 ((nI_leI (a := w) (b := 0) (by omega) (by omega)).mpr q)
      rw [if_pos (by omega)]
      rfl) hR2 (hf1.tr hf2)
