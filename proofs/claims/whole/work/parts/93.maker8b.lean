/-! ===== Maker.writeHeader, keepWay, begin, fillSideAndMiddle ===== -/
theorem wnumb_ge (f : Nat) (s : WS) : s.1 ≤ (wnumb f s).1 := by
  unfold wnumb
  split
  · exact (wp_len _ _).ge _
  · exact Nat.le_trans ((wp_len _ _).ge _) ((wp_len _ _).ge _)
theorem c_writeHeader {d asg f n : Nat} {D : zD} {Q : zQ} {s : WS} (hf : D.1 5 1 = nI f) (hf2 : f < 256) (ha : asg < 16) (hn : 1 ≤ n ∧ n ≤ 256) (hR : penW D s) (hb : (whead asg f n s).1 ≤ 160000) (hq : ∀ D', penW D' (whead asg f n s) → zfr fPen D D' → Q (.inl none) 0 D') : ZM yX1_writeHeader iX1_writeHeader (d + 1) [.ref 5, .int (nI asg), .int (nI n)] D Q := by
  refine z_method (by decide) rfl (Nat.le_of_ble_eq_true rfl) ?_
  refine z_at [(0, .ref 5), (1, .int (nI asg)), (2, .int (nI n))] ⟨rfl, rfl, rfl, trivial⟩ ?_
  have hset : ∀ {D1 : zD}, zfr fPen D D1 → D1.1 5 1 = nI f := fun hF => (hF.1 5 1 rfl).trans hf
  unfold whead at hb hq
  have b7 : (wnumb f (wp 4 0 (wp 4 (asg : Nat) (wp 4 0 (wp 4 6 (wp 2 0 (wp 14 16382 s))))))).1 ≤ 160000 := Nat.le_trans ((wp_len _ _).ge _) hb
  have b6 : (wp 4 0 (wp 4 (asg : Nat) (wp 4 0 (wp 4 6 (wp 2 0 (wp 14 16382 s)))))).1 ≤ 160000 := Nat.le_trans (wnumb_ge f _) b7
  have b5 : (wp 4 (asg : Nat) (wp 4 0 (wp 4 6 (wp 2 0 (wp 14 16382 s))))).1 ≤ 160000 := Nat.le_trans ((wp_len _ _).ge _) b6
  have b4 : (wp 4 0 (wp 4 6 (wp 2 0 (wp 14 16382 s)))).1 ≤ 160000 := Nat.le_trans ((wp_len _ _).ge _) b5
  have b3 : (wp 4 6 (wp 2 0 (wp 14 16382 s))).1 ≤ 160000 := Nat.le_trans ((wp_len _ _).ge _) b4
  have b2 : (wp 2 0 (wp 14 16382 s)).1 ≤ 160000 := Nat.le_trans ((wp_len _ _).ge _) b3
  have b1 : (wp 14 16382 s).1 ≤ 160000 := Nat.le_trans ((wp_len _ _).ge _) b2
  have tl : ∀ (D1 : zD), penW D1 (wnumb f (wp 4 0 (wp 4 (asg : Nat) (wp 4 0 (wp 4 6 (wp 2 0 (wp 14 16382 s))))))) → zfr fPen D D1 → Z (zmk iX1_writeHeader (d + 1)) 0 129 (zl [(0, .ref 5), (1, .int (nI asg)), (2, .int (nI n))]) [] D1 Q := by
    intro D1 hR1 hF1
    refine z_aload_n dX1_writeHeader_129 (by exact rfl) ?_
    refine z_gfA zfx_X1_12 (by exact rfl) dX1_writeHeader_130 ?_
    refine z_bipush dX1_writeHeader_133 ?_
    refine z_iload_n dX1_writeHeader_135 (by exact rfl) ?_
    refine z_iconst dX1_writeHeader_136 ?_
    refine z_isub dX1_writeHeader_137 ?_
    refine z_eI (nI (n - 1)) (pk_sub (a := n) (b := 1) hn.1) ?_
    refine z_i2l dX1_writeHeader_138 ?_
    refine z_eJ (lI ((n - 1 : Nat) : Int)) (nI_lI (by omega)) ?_
    refine z_cV dX1_writeHeader_139 zk_X1_54 (by exact rfl) (by exact rfl) (by exact rfl) (Nat.le_of_ble_eq_true rfl) (Nat.le_of_ble_eq_true rfl) (Nat.le_refl _) ?_
    refine c_putW (w := 8) (by omega) hb hR1 (fun D2 hR2 hf2 => ?_)
    exact z_vret (st := []) rfl dX1_writeHeader_142 (hq D2 hR2 (hF1.tr hf2))
  refine z_aload_n dX1_writeHeader_0 (by exact rfl) ?_
  refine z_gfA zfx_X1_12 (by exact rfl) dX1_writeHeader_1 ?_
  refine z_bipush dX1_writeHeader_4 ?_
  refine z_ldcL dX1_writeHeader_6 zclx_X1_132 ?_
  refine z_cV dX1_writeHeader_9 zk_X1_54 (by exact rfl) (by exact rfl) (by exact rfl) (Nat.le_of_ble_eq_true rfl) (Nat.le_of_ble_eq_true rfl) (Nat.le_refl _) ?_
  refine c_putW (w := 14) (x := 16382) (by omega) b1 hR (fun D1 hR1 hf1 => ?_)
  refine z_aload_n dX1_writeHeader_12 (by exact rfl) ?_
  refine z_gfA zfx_X1_12 (by exact rfl) dX1_writeHeader_13 ?_
  refine z_iconst dX1_writeHeader_16 ?_
  refine z_lconst dX1_writeHeader_17 ?_
  refine z_cV dX1_writeHeader_18 zk_X1_54 (by exact rfl) (by exact rfl) (by exact rfl) (Nat.le_of_ble_eq_true rfl) (Nat.le_of_ble_eq_true rfl) (Nat.le_refl _) ?_
  refine c_putW (w := 2) (x := 0) (by omega) b2 hR1 (fun D2 hR2 hf2 => ?_)
  refine z_aload_n dX1_writeHeader_21 (by exact rfl) ?_
  refine z_gfA zfx_X1_12 (by exact rfl) dX1_writeHeader_22 ?_
  refine z_iconst dX1_writeHeader_25 ?_
  refine z_ldcL dX1_writeHeader_26 zclx_X1_134 ?_
  refine z_cV dX1_writeHeader_29 zk_X1_54 (by exact rfl) (by exact rfl) (by exact rfl) (Nat.le_of_ble_eq_true rfl) (Nat.le_of_ble_eq_true rfl) (Nat.le_refl _) ?_
  refine c_putW (w := 4) (x := 6) (by omega) b3 hR2 (fun D3 hR3 hf3 => ?_)
  refine z_aload_n dX1_writeHeader_32 (by exact rfl) ?_
  refine z_gfA zfx_X1_12 (by exact rfl) dX1_writeHeader_33 ?_
  refine z_iconst dX1_writeHeader_36 ?_
  refine z_lconst dX1_writeHeader_37 ?_
  refine z_cV dX1_writeHeader_38 zk_X1_54 (by exact rfl) (by exact rfl) (by exact rfl) (Nat.le_of_ble_eq_true rfl) (Nat.le_of_ble_eq_true rfl) (Nat.le_refl _) ?_
  refine c_putW (w := 4) (x := 0) (by omega) b4 hR3 (fun D4 hR4 hf4 => ?_)
  refine z_aload_n dX1_writeHeader_41 (by exact rfl) ?_
  refine z_gfA zfx_X1_12 (by exact rfl) dX1_writeHeader_42 ?_
  refine z_iconst dX1_writeHeader_45 ?_
  refine z_iload_n dX1_writeHeader_46 (by exact rfl) ?_
  refine z_i2l dX1_writeHeader_47 ?_
  refine z_eJ (lI ((asg : Nat) : Int)) (nI_lI (by omega)) ?_
  refine z_cV dX1_writeHeader_48 zk_X1_54 (by exact rfl) (by exact rfl) (by exact rfl) (Nat.le_of_ble_eq_true rfl) (Nat.le_of_ble_eq_true rfl) (Nat.le_refl _) ?_
  refine c_putW (w := 4) (by omega) b5 hR4 (fun D5 hR5 hf5 => ?_)
  refine z_aload_n dX1_writeHeader_51 (by exact rfl) ?_
  refine z_gfA zfx_X1_12 (by exact rfl) dX1_writeHeader_52 ?_
  refine z_iconst dX1_writeHeader_55 ?_
  refine z_lconst dX1_writeHeader_56 ?_
  refine z_cV dX1_writeHeader_57 zk_X1_54 (by exact rfl) (by exact rfl) (by exact rfl) (Nat.le_of_ble_eq_true rfl) (Nat.le_of_ble_eq_true rfl) (Nat.le_refl _) ?_
  refine c_putW (w := 4) (x := 0) (by omega) b6 hR5 (fun D6 hR6 hf6 => ?_)
  have hF6 := ((((hf1.tr hf2).tr hf3).tr hf4).tr hf5).tr hf6
  refine z_aload_n dX1_writeHeader_60 (by exact rfl) ?_
  refine z_gfI zfx_X1_18 (by exact rfl) dX1_writeHeader_61 ?_
  refine z_eI (nI f) (hset hF6) ?_
  refine z_sipush dX1_writeHeader_64 ?_
  refine z_icmp_ge (tgt := 87) dX1_writeHeader_67 (by decide) (fun c67 => ?_) (fun c67 => ?_)
  · have hge : ¬ f < 128 := fun q => nI_ge (a := f) (b := 128) q (by omega) c67
    have en : wnumb f (wp 4 0 (wp 4 (asg : Nat) (wp 4 0 (wp 4 6 (wp 2 0 (wp 14 16382 s)))))) = wp 8 ((128 + f % 64 : Nat) : Int) (wp 8 ((192 + f / 64 : Nat) : Int) (wp 4 0 (wp 4 (asg : Nat) (wp 4 0 (wp 4 6 (wp 2 0 (wp 14 16382 s))))))) := if_neg hge
    rw [en] at b7 tl
    have b8 : (wp 8 ((192 + f / 64 : Nat) : Int) (wp 4 0 (wp 4 (asg : Nat) (wp 4 0 (wp 4 6 (wp 2 0 (wp 14 16382 s))))))).1 ≤ 160000 := Nat.le_trans ((wp_len _ _).ge _) b7
    refine z_aload_n dX1_writeHeader_87 (by exact rfl) ?_
    refine z_gfA zfx_X1_12 (by exact rfl) dX1_writeHeader_88 ?_
    refine z_bipush dX1_writeHeader_91 ?_
    refine z_sipush dX1_writeHeader_93 ?_
    refine z_aload_n dX1_writeHeader_96 (by exact rfl) ?_
    refine z_gfI zfx_X1_18 (by exact rfl) dX1_writeHeader_97 ?_
    refine z_eI (nI f) (hset hF6) ?_
    refine z_bipush dX1_writeHeader_100 ?_
    refine z_ishr dX1_writeHeader_102 ?_
    refine z_eI (nI (f / 64)) (pk_shrN (by omega) _ 6 (by decide)) ?_
    refine z_iadd dX1_writeHeader_103 ?_
    refine z_eI (nI (192 + f / 64)) (nI_add 192 _) ?_
    refine z_i2l dX1_writeHeader_104 ?_
    refine z_eJ (lI ((192 + f / 64 : Nat) : Int)) (nI_lI (by omega)) ?_
    refine z_cV dX1_writeHeader_105 zk_X1_54 (by exact rfl) (by exact rfl) (by exact rfl) (Nat.le_of_ble_eq_true rfl) (Nat.le_of_ble_eq_true rfl) (Nat.le_refl _) ?_
    refine c_putW (w := 8) (by omega) b8 hR6 (fun D7 hR7 hf7 => ?_)
    refine z_aload_n dX1_writeHeader_108 (by exact rfl) ?_
    refine z_gfA zfx_X1_12 (by exact rfl) dX1_writeHeader_109 ?_
    refine z_bipush dX1_writeHeader_112 ?_
    refine z_sipush dX1_writeHeader_114 ?_
    refine z_aload_n dX1_writeHeader_117 (by exact rfl) ?_
    refine z_gfI zfx_X1_18 (by exact rfl) dX1_writeHeader_118 ?_
    refine z_eI (nI f) (hset (hF6.tr hf7)) ?_
    refine z_bipush dX1_writeHeader_121 ?_
    refine z_iand dX1_writeHeader_123 ?_
    refine z_eI (nI (f % 64)) (pk_andN (by omega) 6 (by decide)) ?_
    refine z_iadd dX1_writeHeader_124 ?_
    refine z_eI (nI (128 + f % 64)) (nI_add 128 _) ?_
    refine z_i2l dX1_writeHeader_125 ?_
    refine z_eJ (lI ((128 + f % 64 : Nat) : Int)) (nI_lI (by omega)) ?_
    refine z_cV dX1_writeHeader_126 zk_X1_54 (by exact rfl) (by exact rfl) (by exact rfl) (Nat.le_of_ble_eq_true rfl) (Nat.le_of_ble_eq_true rfl) (Nat.le_refl _) ?_
    refine c_putW (w := 8) (by omega) b7 hR7 (fun D8 hR8 hf8 => ?_)
    exact tl D8 hR8 ((hF6.tr hf7).tr hf8)
  · have hlt : f < 128 := by
      rcases Nat.lt_or_ge f 128 with h | h
      · exact h
      · exact absurd (nI_le (a := 128) (b := f) h (by omega)) c67
    have en : wnumb f (wp 4 0 (wp 4 (asg : Nat) (wp 4 0 (wp 4 6 (wp 2 0 (wp 14 16382 s)))))) = wp 8 ((f : Nat) : Int) (wp 4 0 (wp 4 (asg : Nat) (wp 4 0 (wp 4 6 (wp 2 0 (wp 14 16382 s)))))) := if_pos hlt
    rw [en] at b7 tl
    refine z_aload_n dX1_writeHeader_70 (by exact rfl) ?_
    refine z_gfA zfx_X1_12 (by exact rfl) dX1_writeHeader_71 ?_
    refine z_bipush dX1_writeHeader_74 ?_
    refine z_aload_n dX1_writeHeader_76 (by exact rfl) ?_
    refine z_gfI zfx_X1_18 (by exact rfl) dX1_writeHeader_77 ?_
    refine z_eI (nI f) (hset hF6) ?_
    refine z_i2l dX1_writeHeader_80 ?_
    refine z_eJ (lI ((f : Nat) : Int)) (nI_lI (by omega)) ?_
    refine z_cV dX1_writeHeader_81 zk_X1_54 (by exact rfl) (by exact rfl) (by exact rfl) (Nat.le_of_ble_eq_true rfl) (Nat.le_of_ble_eq_true rfl) (Nat.le_refl _) ?_
    refine c_putW (w := 8) (by omega) b7 hR6 (fun D8 hR8 hf8 => ?_)
    refine z_goto (tgt := 129) dX1_writeHeader_84 (by decide) ?_
    exact tl D8 hR8 (hF6.tr hf8)
/-- a way stands told at k -/
def wyAt (D : zD) (k t w : Nat) (q : Int) (z : Nat) : Prop := D.1 9 (4 * k) = nI t ∧ D.1 9 (4 * k + 1) = nI w ∧ D.1 9 (4 * k + 2) = iI q ∧ D.1 9 (4 * k + 3) = nI z
theorem c_keepWay {d X f ch c n b w hd : Nat} {wy : zWay} {D : zD} {Q : zQ} (hX : isSf X) (hf : D.1 5 1 = nI f) (hch : D.1 5 2 = nI ch) (hk : f * ch + c < 264) (hs : sf7 D X n b w) (hw : sfW D X hd (some wy)) (hq : ∀ D', wyAt D' (f * ch + c) wy.1 w wy.2.1 (hd + wy.2.2) → (∀ i, i < 4 * (f * ch + c) → D'.1 9 i = D.1 9 i) → zfr (fun a _ => a == 9) D D' → Q (.inl none) 0 D') : ZM yX1_keepWay iX1_keepWay d [.ref 5, .ref X, .int (nI c)] D Q := by
  obtain ⟨⟨x0, x1, x2, x3, x4, x5, x6⟩, hr, ⟨fl, hfl⟩, hl⟩ := id hX
  refine z_method (by decide) rfl (Nat.le_of_ble_eq_true rfl) ?_
  refine z_at [(0, .ref 5), (1, .ref X), (2, .int (nI c))] ⟨rfl, rfl, rfl, trivial⟩ ?_
  obtain ⟨k, ek⟩ : ∃ k, k = f * ch + c := ⟨_, rfl⟩
  rw [← ek] at hk hq
  obtain ⟨w1, w2, w3, w4⟩ := hw
  have e1 : nI (4 * k) + Int32.ofInt 1 = nI (4 * k + 1) := nI_add _ 1
  have e2 : nI (4 * k) + Int32.ofInt 2 = nI (4 * k + 2) := nI_add _ 2
  have e3 : nI (4 * k) + Int32.ofInt 3 = nI (4 * k + 3) := nI_add _ 3
  refine z_aload_n dX1_keepWay_0 (by exact rfl) ?_
  refine z_gfI zfx_X1_18 (by exact rfl) dX1_keepWay_1 ?_
  refine z_eI (nI f) hf ?_
  refine z_aload_n dX1_keepWay_4 (by exact rfl) ?_
  refine z_gfI zfx_X1_22 (by exact rfl) dX1_keepWay_5 ?_
  refine z_eI (nI ch) hch ?_
  refine z_imul dX1_keepWay_8 ?_
  refine z_iload_n dX1_keepWay_9 (by exact rfl) ?_
  refine z_iadd dX1_keepWay_10 ?_
  refine z_eI (nI k) (by rw [pk_mul, nI_add, ek]) ?_
  refine z_iconst dX1_keepWay_11 ?_
  refine z_imul dX1_keepWay_12 ?_
  refine z_eI (nI (4 * k)) (by rw [show Int32.ofInt 4 = nI 4 from rfl, pk_mul, Nat.mul_comm]) ?_
  refine z_istore_n dX1_keepWay_13 (Nat.le_of_ble_eq_true rfl) ?_
  refine z_aload_n dX1_keepWay_14 (by exact rfl) ?_
  refine z_gfA zfx_X1_29 (by exact rfl) dX1_keepWay_15 ?_
  refine z_iload_n dX1_keepWay_18 (by exact rfl) ?_
  refine z_aload_n dX1_keepWay_19 (by exact rfl) ?_
  refine z_gfI zfx_X1_136 x4 dX1_keepWay_20 ?_
  refine z_eI (nI wy.1) w1 ?_
  refine z_sI (by exact rfl) dX1_keepWay_23 (vp_in_nI (by omega) (by omega)) ?_
  rw [nI_clamp (n := 4 * k) (by omega)]
  refine z_aload_n dX1_keepWay_24 (by exact rfl) ?_
  refine z_gfA zfx_X1_29 (by exact rfl) dX1_keepWay_25 ?_
  refine z_iload_n dX1_keepWay_28 (by exact rfl) ?_
  refine z_iconst dX1_keepWay_29 ?_
  refine z_iadd dX1_keepWay_30 ?_
  refine z_eI (nI (4 * k + 1)) e1 ?_
  refine z_aload_n dX1_keepWay_31 (by exact rfl) ?_
  refine z_gfI zfx_X1_139 x3 dX1_keepWay_32 ?_
  refine z_eI (nI w) (by rw [zuI_ne (by omega)]; exact hs.2.2) ?_
  refine z_sI (by exact rfl) dX1_keepWay_35 (vp_in_nI (by omega) (by omega)) ?_
  rw [nI_clamp (n := 4 * k + 1) (by omega)]
  refine z_aload_n dX1_keepWay_36 (by exact rfl) ?_
  refine z_gfA zfx_X1_29 (by exact rfl) dX1_keepWay_37 ?_
  refine z_iload_n dX1_keepWay_40 (by exact rfl) ?_
  refine z_iconst dX1_keepWay_41 ?_
  refine z_iadd dX1_keepWay_42 ?_
  refine z_eI (nI (4 * k + 2)) e2 ?_
  refine z_aload_n dX1_keepWay_43 (by exact rfl) ?_
  refine z_gfI zfx_X1_142 x5 dX1_keepWay_44 ?_
  refine z_eI (iI wy.2.1) (by rw [zuI_ne (by omega), zuI_ne (by omega)]; exact w2) ?_
  refine z_sI (by exact rfl) dX1_keepWay_47 (vp_in_nI (by omega) (by omega)) ?_
  rw [nI_clamp (n := 4 * k + 2) (by omega)]
  refine z_aload_n dX1_keepWay_48 (by exact rfl) ?_
  refine z_gfA zfx_X1_29 (by exact rfl) dX1_keepWay_49 ?_
  refine z_iload_n dX1_keepWay_52 (by exact rfl) ?_
  refine z_iconst dX1_keepWay_53 ?_
  refine z_iadd dX1_keepWay_54 ?_
  refine z_eI (nI (4 * k + 3)) e3 ?_
  refine z_aload_n dX1_keepWay_55 (by exact rfl) ?_
  refine z_gfL zfx_X1_125 x6 dX1_keepWay_56 ?_
  refine z_eJ (lN (hd + wy.2.2)) w3 ?_
  refine z_l2i dX1_keepWay_59 ?_
  refine z_eI (nI (hd + wy.2.2)) (lN_i _) ?_
  refine z_sI (by exact rfl) dX1_keepWay_60 (vp_in_nI (by omega) (by omega)) ?_
  rw [nI_clamp (n := 4 * k + 3) (by omega)]
  exact z_vret (st := []) rfl dX1_keepWay_61 (hq _ ⟨by
    rw [zuI_ne (by omega), zuI_ne (by omega), zuI_ne (by omega), zuI_at], by
    rw [zuI_ne (by omega), zuI_ne (by omega), zuI_at], by
    rw [zuI_ne (by omega), zuI_at], by
    rw [zuI_at]⟩ (fun i hi => by
    rw [zuI_ne (by omega), zuI_ne (by omega), zuI_ne (by omega), zuI_ne (by omega)]) ((((zfr.rf.uI _ rfl).uI _ rfl).uI _ rfl).uI _ rfl))
def fBg (a k : Nat) : Bool := fPen a k || (a == 5 && (k == 1 || k == 2))
theorem c_begin1 {d ch bits block rate mo : Nat} {D : zD} {Q : zQ} {s : WS} (h0 : D.1 1 0 = nI ch) (h1 : D.1 1 1 = nI bits) (h2 : D.1 1 2 = nI block) (h3 : D.1 1 3 = nI rate) (hc : 1 ≤ ch ∧ ch ≤ 8) (hb : 4 ≤ bits ∧ bits ≤ 24) (hbl : block ≤ 256) (hrt : rate ≤ 655350) (hmo : mo ≤ 4096) (hR : penW D s) (hq : ∀ D', penW D' (wbegin ch bits block rate mo (0, fun _ => false)) → D'.1 5 1 = nI 0 → D'.1 5 2 = nI ch → zfr fBg D D' → Q (.inl none) 0 D') : ZM yX1_begin iX1_begin (d + 3) [.ref 5, .ref 1, .int (nI mo)] D Q := by
  refine z_method (by decide) rfl (Nat.le_of_ble_eq_true rfl) ?_
  refine z_at [(0, .ref 5), (1, .ref 1), (2, .int (nI mo))] ⟨rfl, rfl, rfl, trivial⟩ ?_
  have hR0 : ∀ D1 : zD, zfr (fun a k => a == 5) D D1 → penW D1 s := fun D1 hF => hR.fr hF (fun _ => rfl) (fun _ => rfl)
  have wk : ∀ {X Y : zD}, zfr fPen X Y → zfr fBg X Y := fun h => h.wk (fun a k h => or_l h)
  refine z_aload_n dX1_begin_0 (by exact rfl) ?_
  refine z_iconst dX1_begin_1 ?_
  refine z_pfI zfx_X1_18 (by exact rfl) dX1_begin_2 ?_
  refine z_aload_n dX1_begin_5 (by exact rfl) ?_
  refine z_aload_n dX1_begin_6 (by exact rfl) ?_
  refine z_gfI zfx_X1_46 (by exact rfl) dX1_begin_7 ?_
  refine z_eI (nI ch) h0 ?_
  refine z_pfI zfx_X1_22 (by exact rfl) dX1_begin_10 ?_
  refine z_aload_n dX1_begin_13 (by exact rfl) ?_
  refine z_gfA zfx_X1_12 (by exact rfl) dX1_begin_14 ?_
  refine z_cV dX1_begin_17 zk_X1_49 (by exact rfl) (by exact rfl) (by exact rfl) (Nat.le_of_ble_eq_true rfl) (Nat.le_of_ble_eq_true rfl) (Nat.le_refl _) ?_
  refine c_clear (hR0 _ ((zfr.rf.uI _ rfl).uI _ rfl)) (fun D1 hf1 hR1 => ?_)
  have hR1 : penW D1 (0, fun _ => false) := hR1
  have g1 : D1.1 5 1 = nI 0 := hf1.1 5 1 rfl
  have g2 : D1.1 5 2 = nI ch := hf1.1 5 2 rfl
  have g3 : D1.1 1 0 = nI ch ∧ D1.1 1 1 = nI bits ∧ D1.1 1 2 = nI block ∧ D1.1 1 3 = nI rate := ⟨(hf1.1 1 0 rfl).trans h0, (hf1.1 1 1 rfl).trans h1, (hf1.1 1 2 rfl).trans h2, (hf1.1 1 3 rfl).trans h3⟩
  have hFb : zfr fBg D D1 := ((zfr.rf.uI _ rfl).uI _ rfl).tr (wk hf1)
  refine z_aload_n dX1_begin_20 (by exact rfl) ?_
  refine z_gfA zfx_X1_12 (by exact rfl) dX1_begin_21 ?_
  refine z_bipush dX1_begin_24 ?_
  refine z_ldcL dX1_begin_26 zclx_X1_52 ?_
  refine z_cV dX1_begin_29 zk_X1_54 (by exact rfl) (by exact rfl) (by exact rfl) (Nat.le_of_ble_eq_true rfl) (Nat.le_of_ble_eq_true rfl) (Nat.le_refl _) ?_
  refine c_putW (w := 32) (x := 1716281667) (by omega) (by show 0 + 32 ≤ 160000; omega) hR1 (fun D2 hR2 hf2 => ?_)
  refine z_aload_n dX1_begin_32 (by exact rfl) ?_
  refine z_gfA zfx_X1_12 (by exact rfl) dX1_begin_33 ?_
  refine z_iconst dX1_begin_36 ?_
  refine z_lconst dX1_begin_37 ?_
  refine z_cV dX1_begin_38 zk_X1_54 (by exact rfl) (by exact rfl) (by exact rfl) (Nat.le_of_ble_eq_true rfl) (Nat.le_of_ble_eq_true rfl) (Nat.le_refl _) ?_
  refine c_putW (w := 1) (x := 1) (by omega) (by show 0 + 32 + 1 ≤ 160000; omega) hR2 (fun D3 hR3 hf3 => ?_)
  refine z_aload_n dX1_begin_41 (by exact rfl) ?_
  refine z_gfA zfx_X1_12 (by exact rfl) dX1_begin_42 ?_
  refine z_bipush dX1_begin_45 ?_
  refine z_lconst dX1_begin_47 ?_
  refine z_cV dX1_begin_48 zk_X1_54 (by exact rfl) (by exact rfl) (by exact rfl) (Nat.le_of_ble_eq_true rfl) (Nat.le_of_ble_eq_true rfl) (Nat.le_refl _) ?_
  refine c_putW (w := 7) (x := 0) (by omega) (by show 0 + 32 + 1 + 7 ≤ 160000; omega) hR3 (fun D4 hR4 hf4 => ?_)
  refine z_aload_n dX1_begin_51 (by exact rfl) ?_
  refine z_gfA zfx_X1_12 (by exact rfl) dX1_begin_52 ?_
  refine z_bipush dX1_begin_55 ?_
  refine z_ldcL dX1_begin_57 zclx_X1_58 ?_
  refine z_cV dX1_begin_60 zk_X1_54 (by exact rfl) (by exact rfl) (by exact rfl) (Nat.le_of_ble_eq_true rfl) (Nat.le_of_ble_eq_true rfl) (Nat.le_refl _) ?_
  refine c_putW (w := 24) (x := 34) (by omega) (by show 0 + 32 + 1 + 7 + 24 ≤ 160000; omega) hR4 (fun D5 hR5 hf5 => ?_)
  have hF5 := ((hf2.tr hf3).tr hf4).tr hf5
  refine z_aload_n dX1_begin_63 (by exact rfl) ?_
  refine z_gfA zfx_X1_12 (by exact rfl) dX1_begin_64 ?_
  refine z_bipush dX1_begin_67 ?_
  refine z_aload_n dX1_begin_69 (by exact rfl) ?_
  refine z_gfI zfx_X1_60 (by exact rfl) dX1_begin_70 ?_
  refine z_eI (nI block) ((hF5.1 1 2 rfl).trans g3.2.2.1) ?_
  refine z_i2l dX1_begin_73 ?_
  refine z_eJ (lI ((block : Nat) : Int)) (nI_lI (by omega)) ?_
  refine z_cV dX1_begin_74 zk_X1_54 (by exact rfl) (by exact rfl) (by exact rfl) (Nat.le_of_ble_eq_true rfl) (Nat.le_of_ble_eq_true rfl) (Nat.le_refl _) ?_
  refine c_putW (w := 16) (by omega) (by show 0 + 32 + 1 + 7 + 24 + 16 ≤ 160000; omega) hR5 (fun D6 hR6 hf6 => ?_)
  have hF6 := hF5.tr hf6
  refine z_aload_n dX1_begin_77 (by exact rfl) ?_
  refine z_gfA zfx_X1_12 (by exact rfl) dX1_begin_78 ?_
  refine z_bipush dX1_begin_81 ?_
  refine z_aload_n dX1_begin_83 (by exact rfl) ?_
  refine z_gfI zfx_X1_60 (by exact rfl) dX1_begin_84 ?_
  refine z_eI (nI block) ((hF6.1 1 2 rfl).trans g3.2.2.1) ?_
  refine z_i2l dX1_begin_87 ?_
  refine z_eJ (lI ((block : Nat) : Int)) (nI_lI (by omega)) ?_
  refine z_cV dX1_begin_88 zk_X1_54 (by exact rfl) (by exact rfl) (by exact rfl) (Nat.le_of_ble_eq_true rfl) (Nat.le_of_ble_eq_true rfl) (Nat.le_refl _) ?_
  refine c_putW (w := 16) (by omega) (by show 0 + 32 + 1 + 7 + 24 + 16 + 16 ≤ 160000; omega) hR6 (fun D7 hR7 hf7 => ?_)
  refine z_aload_n dX1_begin_91 (by exact rfl) ?_
  refine z_gfA zfx_X1_12 (by exact rfl) dX1_begin_92 ?_
  refine z_bipush dX1_begin_95 ?_
  refine z_cV dX1_begin_97 zk_X1_63 (by exact rfl) (by exact rfl) (by exact rfl) (Nat.le_of_ble_eq_true rfl) (Nat.le_of_ble_eq_true rfl) (Nat.le_refl _) ?_
  refine c_putZerosW (m := 48) (by show 0 + 32 + 1 + 7 + 24 + 16 + 16 + 48 ≤ 160000; omega) hR7 (fun D8 hR8 hf8 => ?_)
  have hF8 := (hF6.tr hf7).tr hf8
  refine z_aload_n dX1_begin_100 (by exact rfl) ?_
  refine z_gfA zfx_X1_12 (by exact rfl) dX1_begin_101 ?_
  refine z_bipush dX1_begin_104 ?_
  refine z_aload_n dX1_begin_106 (by exact rfl) ?_
  refine z_gfI zfx_X1_67 (by exact rfl) dX1_begin_107 ?_
  refine z_eI (nI rate) ((hF8.1 1 3 rfl).trans g3.2.2.2) ?_
  refine z_i2l dX1_begin_110 ?_
  refine z_eJ (lI ((rate : Nat) : Int)) (nI_lI (by omega)) ?_
  refine z_cV dX1_begin_111 zk_X1_54 (by exact rfl) (by exact rfl) (by exact rfl) (Nat.le_of_ble_eq_true rfl) (Nat.le_of_ble_eq_true rfl) (Nat.le_refl _) ?_
  refine c_putW (w := 20) (by omega) (by show 0 + 32 + 1 + 7 + 24 + 16 + 16 + 48 + 20 ≤ 160000; omega) hR8 (fun D9 hR9 hf9 => ?_)
  have hF9 := hF8.tr hf9
  refine z_aload_n dX1_begin_114 (by exact rfl) ?_
  refine z_gfA zfx_X1_12 (by exact rfl) dX1_begin_115 ?_
  refine z_iconst dX1_begin_118 ?_
  refine z_aload_n dX1_begin_119 (by exact rfl) ?_
  refine z_gfI zfx_X1_22 (by exact rfl) dX1_begin_120 ?_
  refine z_eI (nI ch) ((hF9.1 5 2 rfl).trans g2) ?_
  refine z_iconst dX1_begin_123 ?_
  refine z_isub dX1_begin_124 ?_
  refine z_eI (nI (ch - 1)) (pk_sub (a := ch) (b := 1) hc.1) ?_
  refine z_i2l dX1_begin_125 ?_
  refine z_eJ (lI ((ch - 1 : Nat) : Int)) (nI_lI (by omega)) ?_
  refine z_cV dX1_begin_126 zk_X1_54 (by exact rfl) (by exact rfl) (by exact rfl) (Nat.le_of_ble_eq_true rfl) (Nat.le_of_ble_eq_true rfl) (Nat.le_refl _) ?_
  refine c_putW (w := 3) (by omega) (by show 0 + 32 + 1 + 7 + 24 + 16 + 16 + 48 + 20 + 3 ≤ 160000; omega) hR9 (fun D10 hR10 hf10 => ?_)
  have hF10 := hF9.tr hf10
  refine z_aload_n dX1_begin_129 (by exact rfl) ?_
  refine z_gfA zfx_X1_12 (by exact rfl) dX1_begin_130 ?_
  refine z_iconst dX1_begin_133 ?_
  refine z_aload_n dX1_begin_134 (by exact rfl) ?_
  refine z_gfI zfx_X1_70 (by exact rfl) dX1_begin_135 ?_
  refine z_eI (nI bits) ((hF10.1 1 1 rfl).trans g3.2.1) ?_
  refine z_iconst dX1_begin_138 ?_
  refine z_isub dX1_begin_139 ?_
  refine z_eI (nI (bits - 1)) (pk_sub (a := bits) (b := 1) (by omega)) ?_
  refine z_i2l dX1_begin_140 ?_
  refine z_eJ (lI ((bits - 1 : Nat) : Int)) (nI_lI (by omega)) ?_
  refine z_cV dX1_begin_141 zk_X1_54 (by exact rfl) (by exact rfl) (by exact rfl) (Nat.le_of_ble_eq_true rfl) (Nat.le_of_ble_eq_true rfl) (Nat.le_refl _) ?_
  refine c_putW (w := 5) (by omega) (by show 0 + 32 + 1 + 7 + 24 + 16 + 16 + 48 + 20 + 3 + 5 ≤ 160000; omega) hR10 (fun D11 hR11 hf11 => ?_)
  refine z_aload_n dX1_begin_144 (by exact rfl) ?_
  refine z_gfA zfx_X1_12 (by exact rfl) dX1_begin_145 ?_
  refine z_bipush dX1_begin_148 ?_
  refine z_iload_n dX1_begin_150 (by exact rfl) ?_
  refine z_i2l dX1_begin_151 ?_
  refine z_eJ (lI ((mo : Nat) : Int)) (nI_lI (by omega)) ?_
  refine z_cV dX1_begin_152 zk_X1_54 (by exact rfl) (by exact rfl) (by exact rfl) (Nat.le_of_ble_eq_true rfl) (Nat.le_of_ble_eq_true rfl) (Nat.le_refl _) ?_
  refine c_putW (w := 36) (by omega) (by show 0 + 32 + 1 + 7 + 24 + 16 + 16 + 48 + 20 + 3 + 5 + 36 ≤ 160000; omega) hR11 (fun D12 hR12 hf12 => ?_)
  refine z_aload_n dX1_begin_155 (by exact rfl) ?_
  refine z_gfA zfx_X1_12 (by exact rfl) dX1_begin_156 ?_
  refine z_sipush dX1_begin_159 ?_
  refine z_cV dX1_begin_162 zk_X1_63 (by exact rfl) (by exact rfl) (by exact rfl) (Nat.le_of_ble_eq_true rfl) (Nat.le_of_ble_eq_true rfl) (Nat.le_refl _) ?_
  refine c_putZerosW (m := 128) (by show 0 + 32 + 1 + 7 + 24 + 16 + 16 + 48 + 20 + 3 + 5 + 36 + 128 ≤ 160000; omega) hR12 (fun D13 hR13 hf13 => ?_)
  have hF13 := ((hF10.tr hf11).tr hf12).tr hf13
  exact z_vret (st := []) rfl dX1_begin_165 (hq D13 hR13 ((hF13.1 5 1 rfl).trans g1) ((hF13.1 5 2 rfl).trans g2) (hFb.tr (wk hF13)))
theorem inB_side {b : Nat} {l r : Int} (hb : 1 ≤ b) (h1 : inB b l) (h2 : inB b r) : inB (b + 1) (l - r) := by
  unfold inB at *
  obtain ⟨c, rfl⟩ : ∃ c, b = c + 1 := ⟨b - 1, by omega⟩
  rw [Nat.add_sub_cancel] at *
  rw [Int.pow_succ]
  generalize (2 : Int) ^ c = M at *
  omega
theorem inB_mid {b : Nat} {l r : Int} (h1 : inB b l) (h2 : inB b r) : inB b ((l + r) >>> 1) := by
  unfold inB at *
  rw [Int.shiftRight_eq_div_pow]
  show _ ≤ (l + r) / 2 ∧ (l + r) / 2 < _
  generalize (2 : Int) ^ (b - 1) = M at *
  omega
def fSm (a k : Nat) : Bool := (decide (25 ≤ a) && decide (a ≤ 28))
theorem c_fillSideAndMiddle {d n bits : Nat} {D : zD} {Q : zQ} {a b : zRow} (hn : n ≤ 256) (ha : row8 D 22 a n) (hb : row8 D 24 b n) (hq : ∀ D', sf7 D' 25 n (bits + 1) 0 → sfW D' 25 0 none → sf7 D' 27 n bits 0 → sfW D' 27 0 none → (∀ i, i < n → D'.1 26 i = iI (a i - b i)) → (∀ i, i < n → D'.1 28 i = iI ((a i + b i) >>> 1)) → zfr fSm D D' → Q (.inl none) 0 D') : ZM yX1_fillSideAndMiddle iX1_fillSideAndMiddle (d + 1) [.ref 5, .int (nI n), .int (nI bits)] D Q := by
  refine z_method (by decide) rfl (Nat.le_of_ble_eq_true rfl) ?_
  refine z_at [(0, .ref 5), (1, .int (nI n)), (2, .int (nI bits))] ⟨rfl, rfl, rfl, trivial⟩ ?_
  have lp : ∀ (m i : Nat) (D1 : zD), i + m = n → sf7 D1 25 n (bits + 1) 0 → sfW D1 25 0 none → sf7 D1 27 n bits 0 → sfW D1 27 0 none → (∀ j, j < i → D1.1 26 j = iI (a j - b j)) → (∀ j, j < i → D1.1 28 j = iI ((a j + b j) >>> 1)) → zfr fSm D D1 → Z (zmk iX1_fillSideAndMiddle (d + 1)) 0 26 (zl [(0, .ref 5), (1, .int (nI n)), (2, .int (nI bits)), (3, .int (nI i))]) [] D1 Q := by
    intro m
    induction m with
    | zero =>
      intro i D1 hi g1 g2 g3 g4 g5 g6 hF
      have hi : i = n := by omega
      subst hi
      refine z_iload_n dX1_fillSideAndMiddle_26 (by exact rfl) ?_
      refine z_iload_n dX1_fillSideAndMiddle_27 (by exact rfl) ?_
      refine z_icmp_ge (tgt := 97) dX1_fillSideAndMiddle_28 (by decide) (fun _ => ?_) (fun q9 => absurd ((nI_le (Nat.le_refl _) (by omega))) q9)
      exact z_vret (st := []) rfl dX1_fillSideAndMiddle_97 (hq D1 g1 g2 g3 g4 g5 g6 hF)
    | succ m ih =>
      intro i D1 hi g1 g2 g3 g4 g5 g6 hF
      have cl : (nI i).toNatClampNeg = i := nI_clamp (by omega)
      obtain ⟨e1, b1⟩ := ha i (by omega)
      obtain ⟨e2, b2⟩ := hb i (by omega)
      unfold smI bd at b1 b2
      refine z_iload_n dX1_fillSideAndMiddle_26 (by exact rfl) ?_
      refine z_iload_n dX1_fillSideAndMiddle_27 (by exact rfl) ?_
      refine z_icmp_ge (tgt := 97) dX1_fillSideAndMiddle_28 (by decide) (fun q9 => absurd q9 ((nI_ge (a := i) (b := n) (by omega) (by omega)))) (fun _ => ?_)
      refine z_aload_n dX1_fillSideAndMiddle_31 (by exact rfl) ?_
      refine z_gfA zfx_X1_41 (by exact rfl) dX1_fillSideAndMiddle_32 ?_
      refine z_iconst dX1_fillSideAndMiddle_35 ?_
      refine z_sfld (c := 0) (by omega) dX1_fillSideAndMiddle_36 ?_
      refine z_gfA zfx_X1_77 (by exact rfl) dX1_fillSideAndMiddle_37 ?_
      refine z_iload_n dX1_fillSideAndMiddle_40 (by exact rfl) ?_
      refine z_aI (by exact rfl) dX1_fillSideAndMiddle_41 (vp_in_nI (by omega) (by omega)) ?_
      refine z_eI (iI (a i)) (by rw [cl]; exact (hF.1 22 i rfl).trans e1) ?_
      refine z_istore dX1_fillSideAndMiddle_42 (Nat.le_of_ble_eq_true rfl) ?_
      refine z_aload_n dX1_fillSideAndMiddle_44 (by exact rfl) ?_
      refine z_gfA zfx_X1_41 (by exact rfl) dX1_fillSideAndMiddle_45 ?_
      refine z_iconst dX1_fillSideAndMiddle_48 ?_
      refine z_sfld (c := 1) (by omega) dX1_fillSideAndMiddle_49 ?_
      refine z_gfA zfx_X1_77 (by exact rfl) dX1_fillSideAndMiddle_50 ?_
      refine z_iload_n dX1_fillSideAndMiddle_53 (by exact rfl) ?_
      refine z_aI (by exact rfl) dX1_fillSideAndMiddle_54 (vp_in_nI (by omega) (by omega)) ?_
      refine z_eI (iI (b i)) (by rw [cl]; exact (hF.1 24 i rfl).trans e2) ?_
      refine z_istore dX1_fillSideAndMiddle_55 (Nat.le_of_ble_eq_true rfl) ?_
      refine z_aload_n dX1_fillSideAndMiddle_57 (by exact rfl) ?_
      refine z_gfA zfx_X1_41 (by exact rfl) dX1_fillSideAndMiddle_58 ?_
      refine z_iconst dX1_fillSideAndMiddle_61 ?_
      refine z_sfld (c := 2) (by omega) dX1_fillSideAndMiddle_62 ?_
      refine z_gfA zfx_X1_77 (by exact rfl) dX1_fillSideAndMiddle_63 ?_
      refine z_iload_n dX1_fillSideAndMiddle_66 (by exact rfl) ?_
      refine z_iload dX1_fillSideAndMiddle_67 (by exact rfl) ?_
      refine z_iload dX1_fillSideAndMiddle_69 (by exact rfl) ?_
      refine z_isub dX1_fillSideAndMiddle_71 ?_
      refine z_eI (iI (a i - b i)) (iI_sub _ _) ?_
      refine z_sI (by exact rfl) dX1_fillSideAndMiddle_72 (vp_in_nI (by omega) (by omega)) ?_
      rw [cl]
      refine z_aload_n dX1_fillSideAndMiddle_73 (by exact rfl) ?_
      refine z_gfA zfx_X1_41 (by exact rfl) dX1_fillSideAndMiddle_74 ?_
      refine z_iconst dX1_fillSideAndMiddle_77 ?_
      refine z_sfld (c := 3) (by omega) dX1_fillSideAndMiddle_78 ?_
      refine z_gfA zfx_X1_77 (by exact rfl) dX1_fillSideAndMiddle_79 ?_
      refine z_iload_n dX1_fillSideAndMiddle_82 (by exact rfl) ?_
      refine z_iload dX1_fillSideAndMiddle_83 (by exact rfl) ?_
      refine z_iload dX1_fillSideAndMiddle_85 (by exact rfl) ?_
      refine z_iadd dX1_fillSideAndMiddle_87 ?_
      refine z_eI (iI (a i + b i)) (iI_add _ _) ?_
      refine z_iconst dX1_fillSideAndMiddle_88 ?_
      refine z_ishr dX1_fillSideAndMiddle_89 ?_
      refine z_eI (iI ((a i + b i) >>> 1)) (iI_shr (s := 1) (by omega) (by omega) (by omega)) ?_
      refine z_sI (by exact rfl) dX1_fillSideAndMiddle_90 (vp_in_nI (by omega) (by omega)) ?_
      rw [cl]
      refine z_iinc dX1_fillSideAndMiddle_91 (by exact rfl) ?_
      refine z_at [(0, .ref 5), (1, .int (nI n)), (2, .int (nI bits)), (3, .int (nI (i + 1)))] ⟨rfl, rfl, rfl, congrArg (fun x => some (Value.int x)) (nI_1 i), trivial⟩ ?_
      refine z_goto (tgt := 26) dX1_fillSideAndMiddle_94 (by decide) ?_
      exact ih (i + 1) _ (by omega) g1 g2 g3 g4 (fun j hj => by
        rw [zuI_ne (by omega)]
        obtain q | q : j = i ∨ j < i := by omega
        · subst q
          exact zuI_at _ _ _ _
        · rw [zuI_ne (by omega)]
          exact g5 j q) (fun j hj => by
        obtain q | q : j = i ∨ j < i := by omega
        · subst q
          exact zuI_at _ _ _ _
        · rw [zuI_ne (by omega), zuI_ne (by omega)]
          exact g6 j q) ((hF.uI _ rfl).uI _ rfl)
  have wk : ∀ {X : Nat}, (X = 25 ∨ X = 27) → ∀ a k, fSm a k = false → fSf X a k = false := fun hX a k h => by
    unfold fSm at h
    unfold fSf
    simp at h ⊢
    omega
  refine z_aload_n dX1_fillSideAndMiddle_0 (by exact rfl) ?_
  refine z_gfA zfx_X1_41 (by exact rfl) dX1_fillSideAndMiddle_1 ?_
  refine z_iconst dX1_fillSideAndMiddle_4 ?_
  refine z_sfld (c := 2) (by omega) dX1_fillSideAndMiddle_5 ?_
  refine z_iload_n dX1_fillSideAndMiddle_6 (by exact rfl) ?_
  refine z_iload_n dX1_fillSideAndMiddle_7 (by exact rfl) ?_
  refine z_iconst dX1_fillSideAndMiddle_8 ?_
  refine z_iadd dX1_fillSideAndMiddle_9 ?_
  refine z_eI (nI (bits + 1)) (nI_1 _) ?_
  refine z_cV dX1_fillSideAndMiddle_10 zk_X1_73 (by exact rfl) (by exact rfl) (by exact rfl) (Nat.le_of_ble_eq_true rfl) (Nat.le_of_ble_eq_true rfl) (Nat.le_refl _) ?_
  refine c_begin7 (X := 25) (isSf_at 2 (by omega)) (fun D1 g1 g2 hf1 => ?_)
  refine z_aload_n dX1_fillSideAndMiddle_13 (by exact rfl) ?_
  refine z_gfA zfx_X1_41 (by exact rfl) dX1_fillSideAndMiddle_14 ?_
  refine z_iconst dX1_fillSideAndMiddle_17 ?_
  refine z_sfld (c := 3) (by omega) dX1_fillSideAndMiddle_18 ?_
  refine z_iload_n dX1_fillSideAndMiddle_19 (by exact rfl) ?_
  refine z_iload_n dX1_fillSideAndMiddle_20 (by exact rfl) ?_
  refine z_cV dX1_fillSideAndMiddle_21 zk_X1_73 (by exact rfl) (by exact rfl) (by exact rfl) (Nat.le_of_ble_eq_true rfl) (Nat.le_of_ble_eq_true rfl) (Nat.le_refl _) ?_
  refine c_begin7 (X := 27) (isSf_at 3 (by omega)) (fun D2 g3 g4 hf2 => ?_)
  refine z_iconst dX1_fillSideAndMiddle_24 ?_
  refine z_istore_n dX1_fillSideAndMiddle_25 (Nat.le_of_ble_eq_true rfl) ?_
  exact z_at [(0, .ref 5), (1, .int (nI n)), (2, .int (nI bits)), (3, .int (nI 0))] ⟨rfl, rfl, rfl, rfl, trivial⟩ (lp n 0 D2 (by omega) (g1.fr hf2 (fun _ _ => rfl)) ((hf2.2 25 6 rfl).trans g2) g3 g4 (fun j hj => by omega) (fun j hj => by omega) ((hf1.wk (wk (.inl rfl))).tr (hf2.wk (wk (.inr rfl)))))
