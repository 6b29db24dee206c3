/-! ===== the Reader's small methods ===== -/
set_option maxRecDepth 100000 in
theorem zt_X4_89 : zthr RX4 89 91 zISE = true := by decide +kernel
set_option maxRecDepth 100000 in
theorem zm_X4_76 : zminw RX4 76 = true := by decide +kernel
/-- the reader stands at bit p of the tape T of sz bytes -/
def rd8 (D : zD) (T : Nat → Bool) (sz p : Nat) : Prop := D.1 37 1 = nI sz ∧ sz ≤ 20000 ∧ D.1 37 7 = nI p ∧ p ≤ 8 * sz ∧ (∀ i, i < 8 * sz → bt8 (D.1 38) i = T i) ∧ D.1 37 2 = 0 ∧ D.1 37 3 = Int32.ofInt (-1)
/-- a fault is told -/
def zfail (D : zD) (kind : Int32) (at0 : Int32) : zD := zuI (zuI D 37 2 kind) 37 3 at0
theorem c_fail {d : Nat} {D : zD} {Q : zQ} {kind at0 : Int32} (hq : Q (.inr zISE) 1 (zfail D kind at0)) : ZM yX4_fail iX4_fail d [.ref 37, .int kind, .int at0] D Q := by
  refine z_method (by decide) rfl (Nat.le_of_ble_eq_true rfl) ?_
  refine z_at [(0, .ref 37), (1, .int kind), (2, .int at0)] ⟨rfl, rfl, rfl, trivial⟩ ?_
  refine z_aload_n dX4_fail_0 (by exact rfl) ?_
  refine z_iload_n dX4_fail_1 (by exact rfl) ?_
  refine z_pfI zfx_X4_19 (by exact rfl) dX4_fail_2 ?_
  refine z_aload_n dX4_fail_5 (by exact rfl) ?_
  refine z_iload_n dX4_fail_6 (by exact rfl) ?_
  refine z_pfI zfx_X4_22 (by exact rfl) dX4_fail_7 ?_
  exact z_throw (Or.inr rfl) zt_X4_89 dX4_fail_10 dX4_fail_13 dX4_fail_14 dX4_fail_17 rfl (Nat.le_of_ble_eq_true rfl) (Nat.le_of_ble_eq_true rfl) hq
theorem c_failUnless {d : Nat} {D : zD} {Q : zQ} {b kind : Int32} (h1 : ¬ b = 0 → Q (.inl none) 0 D) (h0 : b = 0 → Q (.inr zISE) 1 (zfail D kind (D.1 37 8))) : ZM yX4_failUnless iX4_failUnless (d + 1) [.ref 37, .int b, .int kind] D Q := by
  refine z_method (by decide) rfl (Nat.le_of_ble_eq_true rfl) ?_
  refine z_at [(0, .ref 37), (1, .int b), (2, .int kind)] ⟨rfl, rfl, rfl, trivial⟩ ?_
  refine z_iload_n dX4_failUnless_0 (by exact rfl) ?_
  refine z_if_ne (tgt := 13) dX4_failUnless_1 (by decide) (fun c1 => ?_) (fun c1 => ?_)
  · exact z_vret (st := []) rfl dX4_failUnless_13 (h1 c1)
  · refine z_aload_n dX4_failUnless_4 (by exact rfl) ?_
    refine z_iload_n dX4_failUnless_5 (by exact rfl) ?_
    refine z_aload_n dX4_failUnless_6 (by exact rfl) ?_
    refine z_gfI zfx_X4_92 (by exact rfl) dX4_failUnless_7 ?_
    refine z_cV dX4_failUnless_10 zk_X4_95 (by exact rfl) (by exact rfl) (by exact rfl) (Nat.le_of_ble_eq_true rfl) (Nat.le_of_ble_eq_true rfl) (Nat.le_refl _) ?_
    exact c_fail (zx_out rfl (h0 c1))
theorem c_number {d w p sz : Nat} {D : zD} {T : Nat → Bool} {Q : zQ} (hw : w ≤ 62) (hR : rd8 D T sz p) (h1 : p + w ≤ 8 * sz → Q (.inl (some (.long (lN (bv T p w))))) 0 (zuI (zuI D 37 8 (nI p)) 37 7 (nI (p + w)))) (h0 : ¬ p + w ≤ 8 * sz → Q (.inr zISE) 1 (zfail (zuI D 37 8 (nI p)) 1 (nI p))) :
    ZM yX4_number iX4_number (d + 1) [.ref 37, .int (nI w)] D Q := by
  refine z_method (by decide) rfl (Nat.le_of_ble_eq_true rfl) ?_
  refine z_at [(0, .ref 37), (1, .int (nI w))] ⟨rfl, rfl, trivial⟩ ?_
  obtain ⟨r1, r2, r3, r4, r5, r6⟩ := hR
  have e8 : (Int8.ofInt 8).toInt32 * nI sz = nI (8 * sz) := pk_mul 8 sz
  have lp : p + w ≤ 8 * sz → ∀ (m left g : Nat), left ≤ m → g + left = w → Z (zmk iX4_number (d + 1)) 0 38 (zl [(0, .ref 37), (2, .long (lN (bv T p g))), (4, .int (nI left))]) [] (zuI (zuI D 37 8 (nI p)) 37 7 (nI (p + g))) Q := by
    intro hle m
    induction m with
    | zero =>
      intro left g hm hg
      have e1 : left = 0 := by omega
      have e2 : g = w := by omega
      subst e1; subst e2
      refine z_iload dX4_number_38 (by exact rfl) ?_
      refine z_if_le (tgt := 124) dX4_number_40 (by decide) (fun _ => ?_) (fun q9 => absurd ((by decide)) q9)
      refine z_lload_n dX4_number_124 (by exact rfl) ?_
      exact z_lret (st := []) rfl dX4_number_125 (h1 hle)
    | succ m ih =>
      intro left g hm hg
      by_cases hl0 : left = 0
      · exact ih left g (by omega) hg
      obtain ⟨tk, htk⟩ : ∃ tk, tk = min (8 - (p + g) % 8) left := ⟨_, rfl⟩
      refine z_iload dX4_number_38 (by exact rfl) ?_
      refine z_if_le (tgt := 124) dX4_number_40 (by decide) (fun q9 => absurd q9 ((nI_nle (by omega) (by omega)))) (fun _ => ?_)
      refine z_bipush dX4_number_43 ?_
      refine z_aload_n dX4_number_45 (by exact rfl) ?_
      refine z_gfI zfx_X4_64 (by exact rfl) dX4_number_46 ?_
      refine z_bipush dX4_number_49 ?_
      refine z_iand dX4_number_51 ?_
      refine z_eI (nI ((p + g) % 8)) (pk_andN (n := p + g) (by omega) 3 (by decide)) ?_
      refine z_isub dX4_number_52 ?_
      refine z_eI (nI (8 - (p + g) % 8)) (pk_sub (a := 8) (by omega)) ?_
      refine z_istore dX4_number_53 (Nat.le_of_ble_eq_true rfl) ?_
      refine z_iload dX4_number_55 (by exact rfl) ?_
      refine z_iload dX4_number_57 (by exact rfl) ?_
      refine z_min dX4_number_59 zm_X4_76 (Nat.le_of_ble_eq_true rfl) (Nat.le_of_ble_eq_true rfl) ?_
      refine z_eI (nI tk) (by rw [htk]; exact q_min _ _ (by omega) (by omega)) ?_
      refine z_istore dX4_number_62 (Nat.le_of_ble_eq_true rfl) ?_
      refine z_aload_n dX4_number_64 (by exact rfl) ?_
      refine z_gfA zfx_X4_9 (by exact rfl) dX4_number_65 ?_
      refine z_aload_n dX4_number_68 (by exact rfl) ?_
      refine z_gfI zfx_X4_64 (by exact rfl) dX4_number_69 ?_
      refine z_iconst dX4_number_72 ?_
      refine z_ishr dX4_number_73 ?_
      refine z_eI (nI ((p + g) / 8)) (pk_shrN (n := p + g) (by omega) _ 3 (by decide)) ?_
      refine z_aB (by exact rfl) dX4_number_74 (vp_in_nI (by omega) (by omega)) ?_
      rw [nI_clamp (show (p + g) / 8 < 2 ^ 31 by omega)]
      refine z_sipush dX4_number_75 ?_
      refine z_iand dX4_number_78 ?_
      refine z_iload dX4_number_79 (by exact rfl) ?_
      refine z_iload dX4_number_81 (by exact rfl) ?_
      refine z_isub dX4_number_83 ?_
      refine z_eI (nI (8 - (p + g) % 8 - tk)) (pk_sub (by omega)) ?_
      refine z_ishr dX4_number_84 ?_
      refine z_istore dX4_number_85 (Nat.le_of_ble_eq_true rfl) ?_
      refine z_lload_n dX4_number_87 (by exact rfl) ?_
      refine z_iload dX4_number_88 (by exact rfl) ?_
      refine z_lshl dX4_number_90 ?_
      refine z_iload dX4_number_91 (by exact rfl) ?_
      refine z_iconst dX4_number_93 ?_
      refine z_iload dX4_number_94 (by exact rfl) ?_
      refine z_ishl dX4_number_96 ?_
      refine z_iconst dX4_number_97 ?_
      refine z_isub dX4_number_98 ?_
      refine z_iand dX4_number_99 ?_
      refine z_eI (nI (bv T (p + g) tk)) (q_piece (f := D.1 38) (by omega) (by omega) (fun i a b => r5 i (by omega))) ?_
      refine z_i2l dX4_number_100 ?_
      refine z_lor dX4_number_101 ?_
      refine z_eJ (lN (bv T p (g + tk))) (q_joinbits (by omega) (by omega)) ?_
      refine z_lstore_n dX4_number_102 (Nat.le_of_ble_eq_true rfl) ?_
      refine z_iload dX4_number_103 (by exact rfl) ?_
      refine z_iload dX4_number_105 (by exact rfl) ?_
      refine z_isub dX4_number_107 ?_
      refine z_eI (nI (left - tk)) (pk_sub (by omega)) ?_
      refine z_istore dX4_number_108 (Nat.le_of_ble_eq_true rfl) ?_
      refine z_aload_n dX4_number_110 (by exact rfl) ?_
      refine z_dup dX4_number_111 (by exact rfl) ?_
      refine z_gfI zfx_X4_64 (by exact rfl) dX4_number_112 ?_
      refine z_iload dX4_number_115 (by exact rfl) ?_
      refine z_iadd dX4_number_117 ?_
      refine z_eI (nI (p + (g + tk))) ((nI_add (p + g) tk).trans (by rw [Nat.add_assoc])) ?_
      refine z_pfI zfx_X4_64 (by exact rfl) dX4_number_118 ?_
      refine z_goto (tgt := 38) dX4_number_121 (by decide) ?_
      refine z_at [(0, .ref 37), (2, .long (lN (bv T p (g + tk)))), (4, .int (nI (left - tk)))] ⟨rfl, rfl, rfl, trivial⟩ ?_
      refine z_eD ?_ (ih (left - tk) (g + tk) (by omega) (by omega))
      exact zuI_I _ 37 7 _ _
  refine z_aload_n dX4_number_0 (by exact rfl) ?_
  refine z_aload_n dX4_number_1 (by exact rfl) ?_
  refine z_gfI zfx_X4_64 (by exact rfl) dX4_number_2 ?_
  refine z_eI (nI p) r3 ?_
  refine z_pfI zfx_X4_92 (by exact rfl) dX4_number_5 ?_
  refine z_iload_n dX4_number_8 (by exact rfl) ?_
  refine z_bipush dX4_number_9 ?_
  refine z_aload_n dX4_number_11 (by exact rfl) ?_
  refine z_gfI zfx_X4_15 (by exact rfl) dX4_number_12 ?_
  refine z_eI (nI sz) r1 ?_
  refine z_imul dX4_number_15 ?_
  refine z_eI (nI (8 * sz)) e8 ?_
  refine z_aload_n dX4_number_16 (by exact rfl) ?_
  refine z_gfI zfx_X4_64 (by exact rfl) dX4_number_17 ?_
  refine z_eI (nI p) r3 ?_
  refine z_isub dX4_number_20 ?_
  refine z_eI (nI (8 * sz - p)) (pk_sub r4) ?_
  refine z_icmp_le (tgt := 33) dX4_number_21 (by decide) (fun c21 => ?_) (fun c21 => ?_)
  · refine z_lconst dX4_number_33 ?_
    refine z_lstore_n dX4_number_34 (Nat.le_of_ble_eq_true rfl) ?_
    refine z_iload_n dX4_number_35 (by exact rfl) ?_
    refine z_istore dX4_number_36 (Nat.le_of_ble_eq_true rfl) ?_
    have hle : p + w ≤ 8 * sz := by
      have := (nI_leI (a := w) (b := 8 * sz - p) (by omega) (by omega)).mp c21
      omega
    refine z_at [(0, .ref 37), (2, .long (lN (bv T p 0))), (4, .int (nI w))] ⟨rfl, rfl, rfl, trivial⟩ ?_
    refine z_eD ?_ (lp hle w w 0 (by omega) (by omega))
    exact (zuI_id (zuI D 37 8 (nI p)) 37 7 (nI (p + 0)) r3).symm
  · refine z_aload_n dX4_number_24 (by exact rfl) ?_
    refine z_iconst dX4_number_25 ?_
    refine z_aload_n dX4_number_26 (by exact rfl) ?_
    refine z_gfI zfx_X4_64 (by exact rfl) dX4_number_27 ?_
    refine z_eI (nI p) r3 ?_
    refine z_cV dX4_number_30 zk_X4_95 (by exact rfl) (by exact rfl) (by exact rfl) (Nat.le_of_ble_eq_true rfl) (Nat.le_of_ble_eq_true rfl) (Nat.le_refl _) ?_
    exact c_fail (zx_out rfl (h0 (fun q => c21 ((nI_leI (a := w) (b := 8 * sz - p) (by omega) (by omega)).mpr (by omega)))))
theorem c_pass {d w p sz : Nat} {D : zD} {T : Nat → Bool} {Q : zQ} (hw : w < 2 ^ 30) (hR : rd8 D T sz p) (h1 : p + w ≤ 8 * sz → Q (.inl none) 0 (zuI D 37 7 (nI (p + w)))) (h0 : ¬ p + w ≤ 8 * sz → Q (.inr zISE) 1 (zfail D 1 (nI p))) :
    ZM yX4_pass iX4_pass (d + 1) [.ref 37, .int (nI w)] D Q := by
  refine z_method (by decide) rfl (Nat.le_of_ble_eq_true rfl) ?_
  refine z_at [(0, .ref 37), (1, .int (nI w))] ⟨rfl, rfl, trivial⟩ ?_
  obtain ⟨r1, r2, r3, r4, r5, r6⟩ := hR
  have e8 : (Int8.ofInt 8).toInt32 * nI sz = nI (8 * sz) := pk_mul 8 sz
  refine z_iload_n dX4_pass_0 (by exact rfl) ?_
  refine z_bipush dX4_pass_1 ?_
  refine z_aload_n dX4_pass_3 (by exact rfl) ?_
  refine z_gfI zfx_X4_15 (by exact rfl) dX4_pass_4 ?_
  refine z_eI (nI sz) r1 ?_
  refine z_imul dX4_pass_7 ?_
  refine z_eI (nI (8 * sz)) e8 ?_
  refine z_aload_n dX4_pass_8 (by exact rfl) ?_
  refine z_gfI zfx_X4_64 (by exact rfl) dX4_pass_9 ?_
  refine z_eI (nI p) r3 ?_
  refine z_isub dX4_pass_12 ?_
  refine z_eI (nI (8 * sz - p)) (pk_sub r4) ?_
  refine z_icmp_le (tgt := 25) dX4_pass_13 (by decide) (fun c13 => ?_) (fun c13 => ?_)
  · refine z_aload_n dX4_pass_25 (by exact rfl) ?_
    refine z_dup dX4_pass_26 (by exact rfl) ?_
    refine z_gfI zfx_X4_64 (by exact rfl) dX4_pass_27 ?_
    refine z_eI (nI p) r3 ?_
    refine z_iload_n dX4_pass_30 (by exact rfl) ?_
    refine z_iadd dX4_pass_31 ?_
    refine z_eI (nI (p + w)) (nI_add p w) ?_
    refine z_pfI zfx_X4_64 (by exact rfl) dX4_pass_32 ?_
    exact z_vret (st := []) rfl dX4_pass_35 (h1 (by
      have := (nI_leI (a := w) (b := 8 * sz - p) (by omega) (by omega)).mp c13
      omega))
  · refine z_aload_n dX4_pass_16 (by exact rfl) ?_
    refine z_iconst dX4_pass_17 ?_
    refine z_aload_n dX4_pass_18 (by exact rfl) ?_
    refine z_gfI zfx_X4_64 (by exact rfl) dX4_pass_19 ?_
    refine z_eI (nI p) r3 ?_
    refine z_cV dX4_pass_22 zk_X4_95 (by exact rfl) (by exact rfl) (by exact rfl) (Nat.le_of_ble_eq_true rfl) (Nat.le_of_ble_eq_true rfl) (Nat.le_refl _) ?_
    exact c_fail (zx_out rfl (h0 (fun q => c13 ((nI_leI (a := w) (b := 8 * sz - p) (by omega) (by omega)).mpr (by omega)))))
theorem c_expect {d w p sz : Nat} {D : zD} {T : Nat → Bool} {Q : zQ} {due : Int64} (hw : w ≤ 62) (hR : rd8 D T sz p) (h1 : p + w ≤ 8 * sz → lN (bv T p w) = due → Q (.inl none) 0 (zuI (zuI D 37 8 (nI p)) 37 7 (nI (p + w)))) (h2 : p + w ≤ 8 * sz → ¬ lN (bv T p w) = due → Q (.inr zISE) 1 (zfail (zuI (zuI D 37 8 (nI p)) 37 7 (nI (p + w))) 2 (nI p))) (h0 : ¬ p + w ≤ 8 * sz → Q (.inr zISE) 1 (zfail (zuI D 37 8 (nI p)) 1 (nI p))) :
    ZM yX4_expect iX4_expect (d + 2) [.ref 37, .int (nI w), .long due] D Q := by
  refine z_method (by decide) rfl (Nat.le_of_ble_eq_true rfl) ?_
  refine z_at [(0, .ref 37), (1, .int (nI w)), (2, .long due)] ⟨rfl, rfl, rfl, trivial⟩ ?_
  refine z_aload_n dX4_expect_0 (by exact rfl) ?_
  refine z_iload_n dX4_expect_1 (by exact rfl) ?_
  refine z_cV dX4_expect_2 zk_X4_98 (by exact rfl) (by exact rfl) (by exact rfl) (Nat.le_of_ble_eq_true rfl) (Nat.le_of_ble_eq_true rfl) (Nat.le_refl _) ?_
  refine c_number hw hR (fun hle => ?_) (fun hn => zx_out rfl (h0 hn))
  refine z_lload_n dX4_expect_5 (by exact rfl) ?_
  refine z_eq (tgt := 19) dX4_expect_6 dX4_expect_7 (by decide) (fun c6 => ?_) (fun c6 => ?_)
  · exact z_vret (st := []) rfl dX4_expect_19 (h1 hle c6)
  · refine z_aload_n dX4_expect_10 (by exact rfl) ?_
    refine z_iconst dX4_expect_11 ?_
    refine z_aload_n dX4_expect_12 (by exact rfl) ?_
    refine z_gfI zfx_X4_92 (by exact rfl) dX4_expect_13 ?_
    refine z_cV dX4_expect_16 zk_X4_95 (by exact rfl) (by exact rfl) (by exact rfl) (Nat.le_of_ble_eq_true rfl) (Nat.le_of_ble_eq_true rfl) (Nat.le_refl _) ?_
    exact c_fail (zx_out rfl (h2 hle c6))
