/-! ===== the law's loop ===== -/
abbrev yl (i : Nat) : List (Nat × Value) := [(0, .ref 67), (1, .ref 0), (2, .ref 19), (3, .ref 18), (4, .int (nI i))]
theorem law_loop {sn : Nat} {sx : Nat → Int32} (hL : sn ≤ 2560) : ∀ (m i k : Nat) (D : zD), sn < i + 5 * m → i ≤ sn + 4 → 5 * k ≤ 2 * i → Inv D → Y sn sx k 23 (zl (yl i)) [] D := by
  intro m
  induction m with
  | zero =>
    intro i k D hm hi hk hI
    have e5 : nI sn - Int32.ofInt 5 = iI ((sn : Int) - 5) := by
      rw [iI_N]
      exact iI_sub _ _
    refine y_iload dL_law_23 (by exact rfl) ?_
    refine y_aload_n dL_law_25 (by exact rfl) ?_
    refine y_slen dL_law_26 ?_
    refine y_iconst dL_law_27 ?_
    refine y_isub dL_law_28 ?_
    refine y_eI (iI ((sn : Int) - 5)) e5 ?_
    refine y_icmp_gt (tgt := 676) dL_law_29 (by decide) (fun _ => ?_) (fun q9 => absurd ((by
      rw [Int32.lt_iff_toInt_lt, iI_toInt (by omega) (by omega), nI_toInt (by omega)]
      omega)) q9)
    refine y_iconst dL_law_676 ?_
    exact y_end (by omega) dL_law_677
  | succ m ih =>
    intro i k D hm hi hk hI
    have e5 : nI sn - Int32.ofInt 5 = iI ((sn : Int) - 5) := by
      rw [iI_N]
      exact iI_sub _ _
    by_cases hend : sn < i + 5
    · refine y_iload dL_law_23 (by exact rfl) ?_
      refine y_aload_n dL_law_25 (by exact rfl) ?_
      refine y_slen dL_law_26 ?_
      refine y_iconst dL_law_27 ?_
      refine y_isub dL_law_28 ?_
      refine y_eI (iI ((sn : Int) - 5)) e5 ?_
      refine y_icmp_gt (tgt := 676) dL_law_29 (by decide) (fun _ => ?_) (fun q9 => absurd ((by
        rw [Int32.lt_iff_toInt_lt, iI_toInt (by omega) (by omega), nI_toInt (by omega)]
        omega)) q9)
      refine y_iconst dL_law_676 ?_
      exact y_end (by omega) dL_law_677
    have b0 : vp_in (nI i) sn := vp_in_nI (by omega) (by omega)
    have b1 : vp_in (nI (i + 1)) sn := vp_in_nI (by omega) (by omega)
    have b2 : vp_in (nI (i + 2)) sn := vp_in_nI (by omega) (by omega)
    have b3 : vp_in (nI (i + 3)) sn := vp_in_nI (by omega) (by omega)
    have b4 : vp_in (nI (i + 4)) sn := vp_in_nI (by omega) (by omega)
    have e1 : nI i + Int32.ofInt 1 = nI (i + 1) := nI_add _ 1
    have e2 : nI i + Int32.ofInt 2 = nI (i + 2) := nI_add _ 2
    have e3 : nI i + Int32.ofInt 3 = nI (i + 3) := nI_add _ 3
    have e4 : nI i + Int32.ofInt 4 = nI (i + 4) := nI_add _ 4
    have s0 : sx (nI i).toNatClampNeg = sx i := by rw [nI_clamp (by omega)]
    have s1 : sx (nI (i + 1)).toNatClampNeg = sx (i + 1) := by rw [nI_clamp (by omega)]
    have s2 : sx (nI (i + 2)).toNatClampNeg = sx (i + 2) := by rw [nI_clamp (by omega)]
    have s3 : sx (nI (i + 3)).toNatClampNeg = sx (i + 3) := by rw [nI_clamp (by omega)]
    have s4 : sx (nI (i + 4)).toNatClampNeg = sx (i + 4) := by rw [nI_clamp (by omega)]
    have nx : ∀ (k' : Nat) (D' : zD), k' ≤ k + 2 → Inv D' → Y sn sx k' 670 (zl (yl i)) [] D' := by
      intro k' D' hk' hI'
      refine y_iinc dL_law_670 (by exact rfl) ?_
      refine y_at (yl (i + 5)) ⟨rfl, rfl, rfl, rfl, congrArg (fun x => some (Value.int x)) (nI_add i 5), trivial⟩ ?_
      refine y_goto (tgt := 23) dL_law_673 (by decide) ?_
      exact ih (i + 5) k' D' (by omega) (by omega) (by omega) hI'
    obtain ⟨⟨ch, bits, block, rate, ms, S, hset⟩, ⟨o, sh, cs, hpr⟩, ⟨mb, F, mch, B, hmd⟩, ⟨sz, T, htp⟩, hfl⟩ := id hI
    have hmb : mb ≤ 20000 := by
      have : 8 * mb ≤ 160000 := hmd.1.le
      omega
    have kp : ∀ (x : Int32), Inv (zuI D 19 0 x) := fun x => hI.k0 (zfr.rf.uI _ rfl)
    obtain ⟨j, hj, ej⟩ := pk_andE (sx i) (m := (Int8.ofInt 15).toInt32) 4 (by decide)
    have hcase : Y sn sx k 39 (zl (yl i)) [.int (nI j)] D := by
      match j, hj with
      | 0, _ =>
        refine y_tableIn (tgt := 108) dL_law_39 (by decide) (by decide) (by exact rfl) (by decide) ?_
        refine y_aload_n dL_law_108 (by exact rfl) ?_
        refine y_aload_n dL_law_109 (by exact rfl) ?_
        refine y_iload dL_law_110 (by exact rfl) ?_
        refine y_iconst dL_law_112 ?_
        refine y_iadd dL_law_113 ?_
        refine y_eI (nI (i + 1)) e1 ?_
        refine y_aI dL_law_114 b1 ?_
        refine y_eI (sx (i + 1)) s1 ?_
        refine y_aload_n dL_law_115 (by exact rfl) ?_
        refine y_iload dL_law_116 (by exact rfl) ?_
        refine y_iconst dL_law_118 ?_
        refine y_iadd dL_law_119 ?_
        refine y_eI (nI (i + 2)) e2 ?_
        refine y_aI dL_law_120 b2 ?_
        refine y_eI (sx (i + 2)) s2 ?_
        refine y_aload_n dL_law_121 (by exact rfl) ?_
        refine y_iload dL_law_122 (by exact rfl) ?_
        refine y_iconst dL_law_124 ?_
        refine y_iadd dL_law_125 ?_
        refine y_eI (nI (i + 3)) e3 ?_
        refine y_aI dL_law_126 b3 ?_
        refine y_eI (sx (i + 3)) s3 ?_
        refine y_aload_n dL_law_127 (by exact rfl) ?_
        refine y_iload dL_law_128 (by exact rfl) ?_
        refine y_iconst dL_law_130 ?_
        refine y_iadd dL_law_131 ?_
        refine y_eI (nI (i + 4)) e4 ?_
        refine y_aI dL_law_132 b4 ?_
        refine y_eI (sx (i + 4)) s4 ?_
        refine y_cS dL_law_133 zk_L_46 (by exact rfl) (Nat.le_of_ble_eq_true rfl) (by omega) (Nat.le_refl _) ?_
        refine c_Lshape (fun h => ?_) (fun h => ?_)
        · refine y_istore dL_law_136 (by decide) ?_
          refine y_aload_n dL_law_138 (by exact rfl) ?_
          refine y_aload_n dL_law_139 (by exact rfl) ?_
          refine y_iload dL_law_140 (by exact rfl) ?_
          refine y_iconst dL_law_142 ?_
          refine y_iadd dL_law_143 ?_
          refine y_eI (nI (i + 1)) e1 ?_
          refine y_aI dL_law_144 b1 ?_
          refine y_eI (sx (i + 1)) s1 ?_
          refine y_aload_n dL_law_145 (by exact rfl) ?_
          refine y_iload dL_law_146 (by exact rfl) ?_
          refine y_iconst dL_law_148 ?_
          refine y_iadd dL_law_149 ?_
          refine y_eI (nI (i + 2)) e2 ?_
          refine y_aI dL_law_150 b2 ?_
          refine y_eI (sx (i + 2)) s2 ?_
          refine y_aload_n dL_law_151 (by exact rfl) ?_
          refine y_iload dL_law_152 (by exact rfl) ?_
          refine y_iconst dL_law_154 ?_
          refine y_iadd dL_law_155 ?_
          refine y_eI (nI (i + 3)) e3 ?_
          refine y_aI dL_law_156 b3 ?_
          refine y_eI (sx (i + 3)) s3 ?_
          refine y_aload_n dL_law_157 (by exact rfl) ?_
          refine y_iload dL_law_158 (by exact rfl) ?_
          refine y_iconst dL_law_160 ?_
          refine y_iadd dL_law_161 ?_
          refine y_eI (nI (i + 4)) e4 ?_
          refine y_aI dL_law_162 b4 ?_
          refine y_eI (sx (i + 4)) s4 ?_
          refine y_cV dL_law_163 zk_L_51 (by exact rfl) (by exact rfl) (by exact rfl) (Nat.le_of_ble_eq_true rfl) (by omega) (Nat.le_refl _) ?_
          refine c_shape9 (fun _ => ?_) (fun q => absurd h q)
          refine y_aload_n dL_law_166 (by exact rfl) ?_
          refine y_cV dL_law_167 zk_L_52 (by exact rfl) (by exact rfl) (by exact rfl) (Nat.le_of_ble_eq_true rfl) (by omega) (Nat.le_refl _) ?_
          refine c_thrown ?_
          refine y_iload dL_law_170 (by exact rfl) ?_
          skip
          refine y_icmp_eq (tgt := 177) dL_law_172 (by decide) (fun _ => ?_) (fun q9 => absurd (rfl) q9)
          refine y_goto (tgt := 670) dL_law_177 (by decide) ?_
          exact y_at (yl i) ⟨rfl, rfl, rfl, rfl, rfl, trivial⟩ (nx _ _ (by omega) (inv_shape hI h))
        · refine y_istore dL_law_136 (by decide) ?_
          refine y_aload_n dL_law_138 (by exact rfl) ?_
          refine y_aload_n dL_law_139 (by exact rfl) ?_
          refine y_iload dL_law_140 (by exact rfl) ?_
          refine y_iconst dL_law_142 ?_
          refine y_iadd dL_law_143 ?_
          refine y_eI (nI (i + 1)) e1 ?_
          refine y_aI dL_law_144 b1 ?_
          refine y_eI (sx (i + 1)) s1 ?_
          refine y_aload_n dL_law_145 (by exact rfl) ?_
          refine y_iload dL_law_146 (by exact rfl) ?_
          refine y_iconst dL_law_148 ?_
          refine y_iadd dL_law_149 ?_
          refine y_eI (nI (i + 2)) e2 ?_
          refine y_aI dL_law_150 b2 ?_
          refine y_eI (sx (i + 2)) s2 ?_
          refine y_aload_n dL_law_151 (by exact rfl) ?_
          refine y_iload dL_law_152 (by exact rfl) ?_
          refine y_iconst dL_law_154 ?_
          refine y_iadd dL_law_155 ?_
          refine y_eI (nI (i + 3)) e3 ?_
          refine y_aI dL_law_156 b3 ?_
          refine y_eI (sx (i + 3)) s3 ?_
          refine y_aload_n dL_law_157 (by exact rfl) ?_
          refine y_iload dL_law_158 (by exact rfl) ?_
          refine y_iconst dL_law_160 ?_
          refine y_iadd dL_law_161 ?_
          refine y_eI (nI (i + 4)) e4 ?_
          refine y_aI dL_law_162 b4 ?_
          refine y_eI (sx (i + 4)) s4 ?_
          refine y_cV dL_law_163 zk_L_51 (by exact rfl) (by exact rfl) (by exact rfl) (Nat.le_of_ble_eq_true rfl) (by omega) (Nat.le_refl _) ?_
          refine c_shape9 (fun q => absurd q h) (fun _ => ?_)
          refine y_aload_n dL_law_166 (by exact rfl) ?_
          refine y_cV dL_law_167 zk_L_52 (by exact rfl) (by exact rfl) (by exact rfl) (Nat.le_of_ble_eq_true rfl) (by omega) (Nat.le_refl _) ?_
          refine c_thrown ?_
          refine y_iload dL_law_170 (by exact rfl) ?_
          refine y_icmp_eq (tgt := 177) dL_law_172 (by decide) (fun _ => ?_) (fun q9 => absurd (rfl) q9)
          refine y_goto (tgt := 670) dL_law_177 (by decide) ?_
          exact y_at (yl i) ⟨rfl, rfl, rfl, rfl, rfl, trivial⟩ (nx _ _ (by omega) (kp _))
      | 1, _ =>
        refine y_tableIn (tgt := 180) dL_law_39 (by decide) (by decide) (by exact rfl) (by decide) ?_
        refine y_aload_n dL_law_180 (by exact rfl) ?_
        refine y_aload_n dL_law_181 (by exact rfl) ?_
        refine y_iload dL_law_182 (by exact rfl) ?_
        refine y_iconst dL_law_184 ?_
        refine y_iadd dL_law_185 ?_
        refine y_eI (nI (i + 1)) e1 ?_
        refine y_aI dL_law_186 b1 ?_
        refine y_eI (sx (i + 1)) s1 ?_
        refine y_cS dL_law_187 zk_L_55 (by exact rfl) (Nat.le_of_ble_eq_true rfl) (by omega) (Nat.le_refl _) ?_
        refine c_Lpredict (fun h => ?_) (fun h => ?_)
        · refine y_istore dL_law_190 (by decide) ?_
          refine y_aload_n dL_law_192 (by exact rfl) ?_
          refine y_aload_n dL_law_193 (by exact rfl) ?_
          refine y_iload dL_law_194 (by exact rfl) ?_
          refine y_iconst dL_law_196 ?_
          refine y_iadd dL_law_197 ?_
          refine y_eI (nI (i + 1)) e1 ?_
          refine y_aI dL_law_198 b1 ?_
          refine y_eI (sx (i + 1)) s1 ?_
          refine y_cV dL_law_199 zk_L_58 (by exact rfl) (by exact rfl) (by exact rfl) (Nat.le_of_ble_eq_true rfl) (by omega) (Nat.le_refl _) ?_
          refine c_predict9 (fun _ => ?_) (fun q => absurd h q)
          refine y_aload_n dL_law_202 (by exact rfl) ?_
          refine y_cV dL_law_203 zk_L_52 (by exact rfl) (by exact rfl) (by exact rfl) (Nat.le_of_ble_eq_true rfl) (by omega) (Nat.le_refl _) ?_
          refine c_thrown ?_
          refine y_iload dL_law_206 (by exact rfl) ?_
          refine y_icmp_eq (tgt := 213) dL_law_208 (by decide) (fun _ => ?_) (fun q9 => absurd (rfl) q9)
          refine y_goto (tgt := 670) dL_law_213 (by decide) ?_
          exact y_at (yl i) ⟨rfl, rfl, rfl, rfl, rfl, trivial⟩ (nx _ _ (by omega) (inv_predict hI h))
        · refine y_istore dL_law_190 (by decide) ?_
          refine y_aload_n dL_law_192 (by exact rfl) ?_
          refine y_aload_n dL_law_193 (by exact rfl) ?_
          refine y_iload dL_law_194 (by exact rfl) ?_
          refine y_iconst dL_law_196 ?_
          refine y_iadd dL_law_197 ?_
          refine y_eI (nI (i + 1)) e1 ?_
          refine y_aI dL_law_198 b1 ?_
          refine y_eI (sx (i + 1)) s1 ?_
          refine y_cV dL_law_199 zk_L_58 (by exact rfl) (by exact rfl) (by exact rfl) (Nat.le_of_ble_eq_true rfl) (by omega) (Nat.le_refl _) ?_
          refine c_predict9 (fun q => absurd q h) (fun _ => ?_)
          refine y_aload_n dL_law_202 (by exact rfl) ?_
          refine y_cV dL_law_203 zk_L_52 (by exact rfl) (by exact rfl) (by exact rfl) (Nat.le_of_ble_eq_true rfl) (by omega) (Nat.le_refl _) ?_
          refine c_thrown ?_
          refine y_iload dL_law_206 (by exact rfl) ?_
          refine y_icmp_eq (tgt := 213) dL_law_208 (by decide) (fun _ => ?_) (fun q9 => absurd (rfl) q9)
          refine y_goto (tgt := 670) dL_law_213 (by decide) ?_
          exact y_at (yl i) ⟨rfl, rfl, rfl, rfl, rfl, trivial⟩ (nx _ _ (by omega) (kp _))
      | 2, _ =>
        refine y_tableIn (tgt := 216) dL_law_39 (by decide) (by decide) (by exact rfl) (by decide) ?_
        refine y_aload_n dL_law_216 (by exact rfl) ?_
        refine y_aload_n dL_law_217 (by exact rfl) ?_
        refine y_iload dL_law_218 (by exact rfl) ?_
        refine y_iconst dL_law_220 ?_
        refine y_iadd dL_law_221 ?_
        refine y_eI (nI (i + 1)) e1 ?_
        refine y_aI dL_law_222 b1 ?_
        refine y_eI (sx (i + 1)) s1 ?_
        refine y_cS dL_law_223 zk_L_59 (by exact rfl) (Nat.le_of_ble_eq_true rfl) (by omega) (Nat.le_refl _) ?_
        refine c_Lcoefficient hpr.1.1 hpr.2.2.1 (fun p q r => ?_) (fun p q r => ?_) (fun p => ?_)
        · refine y_istore dL_law_226 (by decide) ?_
          refine y_aload_n dL_law_228 (by exact rfl) ?_
          refine y_aload_n dL_law_229 (by exact rfl) ?_
          refine y_iload dL_law_230 (by exact rfl) ?_
          refine y_iconst dL_law_232 ?_
          refine y_iadd dL_law_233 ?_
          refine y_eI (nI (i + 1)) e1 ?_
          refine y_aI dL_law_234 b1 ?_
          refine y_eI (sx (i + 1)) s1 ?_
          refine y_cV dL_law_235 zk_L_61 (by exact rfl) (by exact rfl) (by exact rfl) (Nat.le_of_ble_eq_true rfl) (by omega) (Nat.le_refl _) ?_
          refine c_coefficient9 (o := o) ((zuI_ne (by omega)).trans ((zuI_ne (by omega)).trans hpr.2.1.1)) hpr.2.2.1 (fun _ _ _ => ?_) (fun _ _ q9 => absurd q9 (by omega)) (fun q9 => absurd ⟨p, q⟩ q9)
          refine y_aload_n dL_law_238 (by exact rfl) ?_
          refine y_cV dL_law_239 zk_L_52 (by exact rfl) (by exact rfl) (by exact rfl) (Nat.le_of_ble_eq_true rfl) (by omega) (Nat.le_refl _) ?_
          refine c_thrown ?_
          refine y_iload dL_law_242 (by exact rfl) ?_
          refine y_icmp_eq (tgt := 249) dL_law_244 (by decide) (fun _ => ?_) (fun q9 => absurd (rfl) q9)
          refine y_goto (tgt := 670) dL_law_249 (by decide) ?_
          exact y_at (yl i) ⟨rfl, rfl, rfl, rfl, rfl, trivial⟩ (nx _ _ (by omega) (inv_coefficient hI hpr p q r))
        · refine y_istore dL_law_226 (by decide) ?_
          refine y_aload_n dL_law_228 (by exact rfl) ?_
          refine y_aload_n dL_law_229 (by exact rfl) ?_
          refine y_iload dL_law_230 (by exact rfl) ?_
          refine y_iconst dL_law_232 ?_
          refine y_iadd dL_law_233 ?_
          refine y_eI (nI (i + 1)) e1 ?_
          refine y_aI dL_law_234 b1 ?_
          refine y_eI (sx (i + 1)) s1 ?_
          refine y_cV dL_law_235 zk_L_61 (by exact rfl) (by exact rfl) (by exact rfl) (Nat.le_of_ble_eq_true rfl) (by omega) (Nat.le_refl _) ?_
          refine c_coefficient9 (o := o) hpr.2.1.1 hpr.2.2.1 (fun _ _ q9 => absurd q9 (by omega)) (fun _ _ _ => ?_) (fun q9 => absurd ⟨p, q⟩ q9)
          refine y_aload_n dL_law_238 (by exact rfl) ?_
          refine y_cV dL_law_239 zk_L_52 (by exact rfl) (by exact rfl) (by exact rfl) (Nat.le_of_ble_eq_true rfl) (by omega) (Nat.le_refl _) ?_
          refine c_thrown ?_
          refine y_iload dL_law_242 (by exact rfl) ?_
          refine y_icmp_eq (tgt := 249) dL_law_244 (by decide) (fun _ => ?_) (fun q9 => absurd (rfl) q9)
          refine y_goto (tgt := 670) dL_law_249 (by decide) ?_
          exact y_at (yl i) ⟨rfl, rfl, rfl, rfl, rfl, trivial⟩ (nx _ _ (by omega) (kp _))
        · refine y_istore dL_law_226 (by decide) ?_
          refine y_aload_n dL_law_228 (by exact rfl) ?_
          refine y_aload_n dL_law_229 (by exact rfl) ?_
          refine y_iload dL_law_230 (by exact rfl) ?_
          refine y_iconst dL_law_232 ?_
          refine y_iadd dL_law_233 ?_
          refine y_eI (nI (i + 1)) e1 ?_
          refine y_aI dL_law_234 b1 ?_
          refine y_eI (sx (i + 1)) s1 ?_
          refine y_cV dL_law_235 zk_L_61 (by exact rfl) (by exact rfl) (by exact rfl) (Nat.le_of_ble_eq_true rfl) (by omega) (Nat.le_refl _) ?_
          refine c_coefficient9 (o := o) hpr.2.1.1 hpr.2.2.1 (fun a9 b9 _ => absurd ⟨a9, b9⟩ p) (fun a9 b9 _ => absurd ⟨a9, b9⟩ p) (fun _ => ?_)
          refine y_aload_n dL_law_238 (by exact rfl) ?_
          refine y_cV dL_law_239 zk_L_52 (by exact rfl) (by exact rfl) (by exact rfl) (Nat.le_of_ble_eq_true rfl) (by omega) (Nat.le_refl _) ?_
          refine c_thrown ?_
          refine y_iload dL_law_242 (by exact rfl) ?_
          refine y_icmp_eq (tgt := 249) dL_law_244 (by decide) (fun _ => ?_) (fun q9 => absurd (rfl) q9)
          refine y_goto (tgt := 670) dL_law_249 (by decide) ?_
          exact y_at (yl i) ⟨rfl, rfl, rfl, rfl, rfl, trivial⟩ (nx _ _ (by omega) (kp _))
      | 3, _ =>
        refine y_tableIn (tgt := 252) dL_law_39 (by decide) (by decide) (by exact rfl) (by decide) ?_
        have hb8 := hset.1.2.1
        have hb9 := hset.2.1.2.1
        refine y_aload_n dL_law_252 (by exact rfl) ?_
        refine y_aload_n dL_law_253 (by exact rfl) ?_
        refine y_iload dL_law_254 (by exact rfl) ?_
        refine y_iconst dL_law_256 ?_
        refine y_iadd dL_law_257 ?_
        refine y_eI (nI (i + 1)) e1 ?_
        refine y_aI dL_law_258 b1 ?_
        refine y_eI (sx (i + 1)) s1 ?_
        refine y_cS dL_law_259 zk_L_62 (by exact rfl) (Nat.le_of_ble_eq_true rfl) (by omega) (Nat.le_refl _) ?_
        refine c_Lpush hset.1.2.2.2.2.1 hset.2.2.2.2.2.2 (fun p q r => ?_) (fun p q r => ?_) (fun p => ?_)
        · rw [hb8] at p q
          refine y_istore dL_law_262 (by decide) ?_
          refine y_aload_n dL_law_264 (by exact rfl) ?_
          refine y_aload_n dL_law_265 (by exact rfl) ?_
          refine y_iload dL_law_266 (by exact rfl) ?_
          refine y_iconst dL_law_268 ?_
          refine y_iadd dL_law_269 ?_
          refine y_eI (nI (i + 1)) e1 ?_
          refine y_aI dL_law_270 b1 ?_
          refine y_eI (sx (i + 1)) s1 ?_
          refine y_cV dL_law_271 zk_L_64 (by exact rfl) (by exact rfl) (by exact rfl) (Nat.le_of_ble_eq_true rfl) (by omega) (Nat.le_refl _) ?_
          refine c_push9 (n := ms) ((zuI_ne (by omega)).trans ((zuI_ne (by omega)).trans hset.2.1.2.2.2.2.1)) hset.2.2.2.2.2.2 (fun _ _ _ => ?_) (fun _ _ q9 => absurd q9 (by omega)) (fun q9 => absurd (by
            rw [show (zuI (zuI D 4 ms (sx (i + 1))) 0 3 (nI (ms + 1))).1 19 2 = nI bits from (zuI_ne (by omega)).trans ((zuI_ne (by omega)).trans hb9)]
            exact ⟨p, q⟩) q9)
          refine y_aload_n dL_law_274 (by exact rfl) ?_
          refine y_cV dL_law_275 zk_L_52 (by exact rfl) (by exact rfl) (by exact rfl) (Nat.le_of_ble_eq_true rfl) (by omega) (Nat.le_refl _) ?_
          refine c_thrown ?_
          refine y_iload dL_law_278 (by exact rfl) ?_
          refine y_icmp_eq (tgt := 285) dL_law_280 (by decide) (fun _ => ?_) (fun q9 => absurd (rfl) q9)
          refine y_goto (tgt := 670) dL_law_285 (by decide) ?_
          exact y_at (yl i) ⟨rfl, rfl, rfl, rfl, rfl, trivial⟩ (nx _ _ (by omega) (inv_push hI hset p q r))
        · rw [hb8] at p q
          refine y_istore dL_law_262 (by decide) ?_
          refine y_aload_n dL_law_264 (by exact rfl) ?_
          refine y_aload_n dL_law_265 (by exact rfl) ?_
          refine y_iload dL_law_266 (by exact rfl) ?_
          refine y_iconst dL_law_268 ?_
          refine y_iadd dL_law_269 ?_
          refine y_eI (nI (i + 1)) e1 ?_
          refine y_aI dL_law_270 b1 ?_
          refine y_eI (sx (i + 1)) s1 ?_
          refine y_cV dL_law_271 zk_L_64 (by exact rfl) (by exact rfl) (by exact rfl) (Nat.le_of_ble_eq_true rfl) (by omega) (Nat.le_refl _) ?_
          refine c_push9 (n := ms) hset.2.1.2.2.2.2.1 hset.2.2.2.2.2.2 (fun _ _ q9 => absurd q9 (by omega)) (fun _ _ _ => ?_) (fun q9 => absurd (by
            rw [hb9]
            exact ⟨p, q⟩) q9)
          refine y_aload_n dL_law_274 (by exact rfl) ?_
          refine y_cV dL_law_275 zk_L_52 (by exact rfl) (by exact rfl) (by exact rfl) (Nat.le_of_ble_eq_true rfl) (by omega) (Nat.le_refl _) ?_
          refine c_thrown ?_
          refine y_iload dL_law_278 (by exact rfl) ?_
          refine y_icmp_eq (tgt := 285) dL_law_280 (by decide) (fun _ => ?_) (fun q9 => absurd (rfl) q9)
          refine y_goto (tgt := 670) dL_law_285 (by decide) ?_
          exact y_at (yl i) ⟨rfl, rfl, rfl, rfl, rfl, trivial⟩ (nx _ _ (by omega) (kp _))
        · rw [hb8] at p
          refine y_istore dL_law_262 (by decide) ?_
          refine y_aload_n dL_law_264 (by exact rfl) ?_
          refine y_aload_n dL_law_265 (by exact rfl) ?_
          refine y_iload dL_law_266 (by exact rfl) ?_
          refine y_iconst dL_law_268 ?_
          refine y_iadd dL_law_269 ?_
          refine y_eI (nI (i + 1)) e1 ?_
          refine y_aI dL_law_270 b1 ?_
          refine y_eI (sx (i + 1)) s1 ?_
          refine y_cV dL_law_271 zk_L_64 (by exact rfl) (by exact rfl) (by exact rfl) (Nat.le_of_ble_eq_true rfl) (by omega) (Nat.le_refl _) ?_
          refine c_push9 (n := ms) hset.2.1.2.2.2.2.1 hset.2.2.2.2.2.2 (fun a9 b9 _ => absurd (by rw [hb9] at a9 b9; exact ⟨a9, b9⟩) p) (fun a9 b9 _ => absurd (by rw [hb9] at a9 b9; exact ⟨a9, b9⟩) p) (fun _ => ?_)
          refine y_aload_n dL_law_274 (by exact rfl) ?_
          refine y_cV dL_law_275 zk_L_52 (by exact rfl) (by exact rfl) (by exact rfl) (Nat.le_of_ble_eq_true rfl) (by omega) (Nat.le_refl _) ?_
          refine c_thrown ?_
          refine y_iload dL_law_278 (by exact rfl) ?_
          refine y_icmp_eq (tgt := 285) dL_law_280 (by decide) (fun _ => ?_) (fun q9 => absurd (rfl) q9)
          refine y_goto (tgt := 670) dL_law_285 (by decide) ?_
          exact y_at (yl i) ⟨rfl, rfl, rfl, rfl, rfl, trivial⟩ (nx _ _ (by omega) (kp _))
      | 4, _ =>
        refine y_tableIn (tgt := 288) dL_law_39 (by decide) (by decide) (by exact rfl) (by decide) ?_
        obtain ⟨⟨t1, t2, t3, t4, t5, t6⟩, ⟨u1, u2, u3, u4, u5, u6⟩, r1, r2, r3, r4, r5⟩ := id hset
        have hs9 : set9m D S ch bits block o sh cs ms := ⟨u1, u2, u3, hpr.2.1, fun j hj => ⟨u6 j hj, (t6 j hj).2⟩⟩
        refine y_aload_n dL_law_288 (by exact rfl) ?_
        refine y_aload_n dL_law_289 (by exact rfl) ?_
        refine y_cS dL_law_290 zk_L_65 (by exact rfl) (Nat.le_of_ble_eq_true rfl) (by omega) (Nat.le_refl _) ?_
        refine c_Lmake t5 t1 t2 t3 t4 r1 r2 r3 r4 r5 t6 hpr.1 hpr.2.2.2 hpr.2.2.1 hmd.1 (fun D1 mo F1 f1 f2 f3 f4 f5 f6 f7 f8 f9 => ?_) (fun hno => ?_)
        · have hsz : (wmade S ch bits block rate mo (sh, cs) o).1 ≤ 160000 := f3.le
          have hF9 : zfr (fun a k => fMk a k || a == 18) D (zuL D1 18 0 (lN ((wmade S ch bits block rate mo (sh, cs) o).1 / 8))) := (f9.wk (fun a k q => or_l q)).uL _ rfl
          refine y_istore dL_law_293 (by decide) ?_
          refine y_aload_n dL_law_295 (by exact rfl) ?_
          refine y_cV dL_law_296 zk_L_68 (by exact rfl) (by exact rfl) (by exact rfl) (Nat.le_of_ble_eq_true rfl) (by omega) (Nat.le_refl _) ?_
          refine c_make9 (rate := rate) (S := S) (hs9.fr hF9 (fun k _ _ => rfl) (fun _ => rfl) (fun _ => rfl)) ((hF9.1 19 8 rfl).trans u5) ((hF9.1 19 4 rfl).trans u4) r1 r2 r3 r4 r5 hpr.2.2.2 hpr.2.2.1 (fun D2 mo2 F2 g1 g2 g3 g4 g5 g6 g7 g8 g9 => ?_) (fun hno => absurd (by rw [f1]; exact Nat.mul_mod_left _ _) hno)
          have emo : mo2 = mo := Nat.eq_of_mul_eq_mul_right r1.1 (g1.symm.trans f1)
          subst emo
          have eF : F2 = F1 := g2.trans f2.symm
          subst eF
          refine y_istore dL_law_299 (by decide) ?_
          refine y_aload_n dL_law_301 (by exact rfl) ?_
          refine y_cV dL_law_302 zk_L_52 (by exact rfl) (by exact rfl) (by exact rfl) (Nat.le_of_ble_eq_true rfl) (by omega) (Nat.le_refl _) ?_
          refine c_thrown ?_
          refine y_eI 0 g4 ?_
          refine y_iload dL_law_305 (by exact rfl) ?_
          refine y_icmp_eq (tgt := 312) dL_law_307 (by decide) (fun _ => ?_) (fun q9 => absurd (rfl) q9)
          refine y_iload dL_law_312 (by exact rfl) ?_
          refine y_if_ne (tgt := 329) dL_law_314 (by decide) (fun q9 => absurd (rfl) q9) (fun _ => ?_)
          refine y_aload_n dL_law_317 (by exact rfl) ?_
          refine y_iconst dL_law_318 ?_
          refine y_aJ (by exact rfl) dL_law_319 (vp_in_nI (n := 0) (N := 1) (by omega) (by omega)) ?_
          refine y_eJ (lN ((wmade S ch bits block rate mo2 (sh, cs) o).1 / 8)) (g9.2 18 0 rfl) ?_
          refine y_iload dL_law_320 (by exact rfl) ?_
          refine y_i2l dL_law_322 ?_
          refine y_eJ (lN ((wmade S ch bits block rate mo2 (sh, cs) o).1 / 8)) (nI_l (by omega)) ?_
          refine y_eq (tgt := 329) dL_law_323 dL_law_324 (by decide) (fun _ => ?_) (fun q9 => absurd (rfl) q9)
          refine y_goto (tgt := 670) dL_law_329 (by decide) ?_
          exact y_at (yl i) ⟨rfl, rfl, rfl, rfl, rfl, trivial⟩ (nx _ _ (by omega) (inv_make hI r1 r3.1 r5 f1 f2 f3 f4 f5 f6 f7 f8 f9 g3 g5 g6 g7 g8 g9))
        · refine y_istore dL_law_293 (by decide) ?_
          refine y_aload_n dL_law_295 (by exact rfl) ?_
          refine y_cV dL_law_296 zk_L_68 (by exact rfl) (by exact rfl) (by exact rfl) (Nat.le_of_ble_eq_true rfl) (by omega) (Nat.le_refl _) ?_
          refine c_make9 (rate := rate) (S := S) hs9 u5 u4 r1 r2 r3 r4 r5 hpr.2.2.2 hpr.2.2.1 (fun D2 mo2 F2 g1 g2 g3 g4 g5 g6 g7 g8 g9 => absurd (by rw [g1]; exact Nat.mul_mod_left _ _) hno) (fun _ => ?_)
          refine y_istore dL_law_299 (by decide) ?_
          refine y_aload_n dL_law_301 (by exact rfl) ?_
          refine y_cV dL_law_302 zk_L_52 (by exact rfl) (by exact rfl) (by exact rfl) (Nat.le_of_ble_eq_true rfl) (by omega) (Nat.le_refl _) ?_
          refine c_thrown ?_
          refine y_iload dL_law_305 (by exact rfl) ?_
          refine y_icmp_eq (tgt := 312) dL_law_307 (by decide) (fun _ => ?_) (fun q9 => absurd (rfl) q9)
          refine y_iload dL_law_312 (by exact rfl) ?_
          refine y_if_ne (tgt := 329) dL_law_314 (by decide) (fun _ => ?_) (fun q9 => absurd q9 ((by decide)))
          refine y_goto (tgt := 670) dL_law_329 (by decide) ?_
          exact y_at (yl i) ⟨rfl, rfl, rfl, rfl, rfl, trivial⟩ (nx _ _ (by omega) (kp _))
      | 5, _ =>
        refine y_tableIn (tgt := 332) dL_law_39 (by decide) (by decide) (by exact rfl) (by decide) ?_
        refine y_aload_n dL_law_332 (by exact rfl) ?_
        refine y_aload_n dL_law_333 (by exact rfl) ?_
        refine y_iload dL_law_334 (by exact rfl) ?_
        refine y_iconst dL_law_336 ?_
        refine y_iadd dL_law_337 ?_
        refine y_eI (nI (i + 1)) e1 ?_
        refine y_aI dL_law_338 b1 ?_
        refine y_eI (sx (i + 1)) s1 ?_
        refine y_cV dL_law_339 zk_L_69 (by exact rfl) (by exact rfl) (by exact rfl) (Nat.le_of_ble_eq_true rfl) (by omega) (Nat.le_refl _) ?_
        refine c_octet8 hmd.1.hat hmb (fun a ha ea => ?_) (fun hno => ?_)
        · refine y_aload_n dL_law_342 (by exact rfl) ?_
          refine y_aload_n dL_law_343 (by exact rfl) ?_
          refine y_iload dL_law_344 (by exact rfl) ?_
          refine y_iconst dL_law_346 ?_
          refine y_iadd dL_law_347 ?_
          refine y_eI (nI (i + 1)) e1 ?_
          refine y_aI dL_law_348 b1 ?_
          refine y_eI (sx (i + 1)) s1 ?_
          refine y_cV dL_law_349 zk_L_72 (by exact rfl) (by exact rfl) (by exact rfl) (Nat.le_of_ble_eq_true rfl) (by omega) (Nat.le_refl _) ?_
          refine c_octet9 hmd.2.1.1 hmb (fun a' ha' ea' => ?_) (fun hno => absurd ⟨a, ha, ea⟩ hno)
          refine y_icmp_eq (tgt := 670) dL_law_352 (by decide) (fun _ => ?_) (fun q9 => absurd ((by
            have : a' = a := (nI_eq (by omega) (by omega)).mp (ea'.symm.trans ea)
            subst this
            exact oct_eq hmd ha)) q9)
          exact y_at (yl i) ⟨rfl, rfl, rfl, rfl, rfl, trivial⟩ (nx _ _ (by omega) (kp _))
        · refine y_aload_n dL_law_342 (by exact rfl) ?_
          refine y_aload_n dL_law_343 (by exact rfl) ?_
          refine y_iload dL_law_344 (by exact rfl) ?_
          refine y_iconst dL_law_346 ?_
          refine y_iadd dL_law_347 ?_
          refine y_eI (nI (i + 1)) e1 ?_
          refine y_aI dL_law_348 b1 ?_
          refine y_eI (sx (i + 1)) s1 ?_
          refine y_cV dL_law_349 zk_L_72 (by exact rfl) (by exact rfl) (by exact rfl) (Nat.le_of_ble_eq_true rfl) (by omega) (Nat.le_refl _) ?_
          refine c_octet9 hmd.2.1.1 hmb (fun a' ha' ea' => absurd ⟨a', ha', ea'⟩ hno) (fun _ => ?_)
          refine y_icmp_eq (tgt := 670) dL_law_352 (by decide) (fun _ => ?_) (fun q9 => absurd (rfl) q9)
          exact y_at (yl i) ⟨rfl, rfl, rfl, rfl, rfl, trivial⟩ (nx _ _ (by omega) (kp _))
      | 6, _ =>
        refine y_tableIn (tgt := 357) dL_law_39 (by decide) (by decide) (by exact rfl) (by decide) ?_
        obtain ⟨_, _, ⟨w1, w2, w3, w4⟩, ⟨v1, v2, v3⟩, hway⟩ := id hmd
        refine y_aload_n dL_law_357 (by exact rfl) ?_
        refine y_aload_n dL_law_358 (by exact rfl) ?_
        refine y_iload dL_law_359 (by exact rfl) ?_
        refine y_iconst dL_law_361 ?_
        refine y_iadd dL_law_362 ?_
        refine y_eI (nI (i + 1)) e1 ?_
        refine y_aI dL_law_363 b1 ?_
        refine y_eI (sx (i + 1)) s1 ?_
        refine y_aload_n dL_law_364 (by exact rfl) ?_
        refine y_iload dL_law_365 (by exact rfl) ?_
        refine y_iconst dL_law_367 ?_
        refine y_iadd dL_law_368 ?_
        refine y_eI (nI (i + 2)) e2 ?_
        refine y_aI dL_law_369 b2 ?_
        refine y_eI (sx (i + 2)) s2 ?_
        refine y_aload_n dL_law_370 (by exact rfl) ?_
        refine y_iload dL_law_371 (by exact rfl) ?_
        refine y_iconst dL_law_373 ?_
        refine y_iadd dL_law_374 ?_
        refine y_eI (nI (i + 3)) e3 ?_
        refine y_aI dL_law_375 b3 ?_
        refine y_eI (sx (i + 3)) s3 ?_
        refine y_aload_n dL_law_376 (by exact rfl) ?_
        refine y_cS dL_law_377 zk_L_73 (by exact rfl) (Nat.le_of_ble_eq_true rfl) (by omega) (Nat.le_refl _) ?_
        refine c_Lway w1 w2 v1 v2 v3 (fun fj cj wj x1 x2 x3 x4 x5 x6 => ?_) (fun hno => ?_)
        · refine y_istore dL_law_380 (by decide) ?_
          refine y_aload_n dL_law_382 (by exact rfl) ?_
          refine y_aload_n dL_law_383 (by exact rfl) ?_
          refine y_iload dL_law_384 (by exact rfl) ?_
          refine y_iconst dL_law_386 ?_
          refine y_iadd dL_law_387 ?_
          refine y_eI (nI (i + 1)) e1 ?_
          refine y_aI dL_law_388 b1 ?_
          refine y_eI (sx (i + 1)) s1 ?_
          refine y_aload_n dL_law_389 (by exact rfl) ?_
          refine y_iload dL_law_390 (by exact rfl) ?_
          refine y_iconst dL_law_392 ?_
          refine y_iadd dL_law_393 ?_
          refine y_eI (nI (i + 2)) e2 ?_
          refine y_aI dL_law_394 b2 ?_
          refine y_eI (sx (i + 2)) s2 ?_
          refine y_aload_n dL_law_395 (by exact rfl) ?_
          refine y_iload dL_law_396 (by exact rfl) ?_
          refine y_iconst dL_law_398 ?_
          refine y_iadd dL_law_399 ?_
          refine y_eI (nI (i + 3)) e3 ?_
          refine y_aI dL_law_400 b3 ?_
          refine y_eI (sx (i + 3)) s3 ?_
          refine y_cV dL_law_401 zk_L_76 (by exact rfl) (by exact rfl) (by exact rfl) (Nat.le_of_ble_eq_true rfl) (by omega) (Nat.le_refl _) ?_
          refine c_way9 (fr := F) (mch := mch) w3 w4 v1 v2 v3 (fun fj' cj' wj' y1 y2 y3 y4 y5 y6 => ?_) (fun hno => absurd ⟨⟨fj, x4, x1⟩, ⟨cj, x5, x2⟩, ⟨wj, x6, x3⟩⟩ hno)
          refine y_istore dL_law_404 (by decide) ?_
          refine y_aload_n dL_law_406 (by exact rfl) ?_
          refine y_cV dL_law_407 zk_L_52 (by exact rfl) (by exact rfl) (by exact rfl) (Nat.le_of_ble_eq_true rfl) (by omega) (Nat.le_refl _) ?_
          refine c_thrown ?_
          refine y_iload dL_law_410 (by exact rfl) ?_
          refine y_icmp_eq (tgt := 417) dL_law_412 (by decide) (fun _ => ?_) (fun q9 => absurd (rfl) q9)
          refine y_iload dL_law_417 (by exact rfl) ?_
          refine y_if_ne (tgt := 434) dL_law_419 (by decide) (fun q9 => absurd (rfl) q9) (fun _ => ?_)
          refine y_aload_n dL_law_422 (by exact rfl) ?_
          refine y_iconst dL_law_423 ?_
          refine y_aJ (by exact rfl) dL_law_424 (vp_in_nI (n := 0) (N := 1) (by omega) (by omega)) ?_
          refine y_eJ (way8 D mch fj cj wj).toInt64 rfl ?_
          refine y_iload dL_law_425 (by exact rfl) ?_
          refine y_i2l dL_law_427 ?_
          refine y_eq (tgt := 434) dL_law_428 dL_law_429 (by decide) (fun _ => ?_) (fun q9 => absurd ((by
            have z1 : fj' = fj := (nI_eq (by omega) (by omega)).mp (y1.symm.trans x1)
            have z2 : cj' = cj := (nI_eq (by omega) (by omega)).mp (y2.symm.trans x2)
            have z3 : wj' = wj := (nI_eq (by omega) (by omega)).mp (y3.symm.trans x3)
            subst z1 z2 z3
            rw [hway _ x4 _ x5 _ x6]
            rfl)) q9)
          refine y_goto (tgt := 670) dL_law_434 (by decide) ?_
          exact y_at (yl i) ⟨rfl, rfl, rfl, rfl, rfl, trivial⟩ (nx _ _ (by omega) (hI.k0 ((zfr.rf.uL _ rfl).uI _ rfl)))
        · refine y_istore dL_law_380 (by decide) ?_
          refine y_aload_n dL_law_382 (by exact rfl) ?_
          refine y_aload_n dL_law_383 (by exact rfl) ?_
          refine y_iload dL_law_384 (by exact rfl) ?_
          refine y_iconst dL_law_386 ?_
          refine y_iadd dL_law_387 ?_
          refine y_eI (nI (i + 1)) e1 ?_
          refine y_aI dL_law_388 b1 ?_
          refine y_eI (sx (i + 1)) s1 ?_
          refine y_aload_n dL_law_389 (by exact rfl) ?_
          refine y_iload dL_law_390 (by exact rfl) ?_
          refine y_iconst dL_law_392 ?_
          refine y_iadd dL_law_393 ?_
          refine y_eI (nI (i + 2)) e2 ?_
          refine y_aI dL_law_394 b2 ?_
          refine y_eI (sx (i + 2)) s2 ?_
          refine y_aload_n dL_law_395 (by exact rfl) ?_
          refine y_iload dL_law_396 (by exact rfl) ?_
          refine y_iconst dL_law_398 ?_
          refine y_iadd dL_law_399 ?_
          refine y_eI (nI (i + 3)) e3 ?_
          refine y_aI dL_law_400 b3 ?_
          refine y_eI (sx (i + 3)) s3 ?_
          refine y_cV dL_law_401 zk_L_76 (by exact rfl) (by exact rfl) (by exact rfl) (Nat.le_of_ble_eq_true rfl) (by omega) (Nat.le_refl _) ?_
          refine c_way9 (fr := F) (mch := mch) w3 w4 v1 v2 v3 (fun fj' cj' wj' y1 y2 y3 y4 y5 y6 => absurd ⟨⟨fj', y4, y1⟩, ⟨cj', y5, y2⟩, ⟨wj', y6, y3⟩⟩ hno) (fun _ => ?_)
          refine y_istore dL_law_404 (by decide) ?_
          refine y_aload_n dL_law_406 (by exact rfl) ?_
          refine y_cV dL_law_407 zk_L_52 (by exact rfl) (by exact rfl) (by exact rfl) (Nat.le_of_ble_eq_true rfl) (by omega) (Nat.le_refl _) ?_
          refine c_thrown ?_
          refine y_iload dL_law_410 (by exact rfl) ?_
          refine y_icmp_eq (tgt := 417) dL_law_412 (by decide) (fun _ => ?_) (fun q9 => absurd (rfl) q9)
          refine y_iload dL_law_417 (by exact rfl) ?_
          refine y_if_ne (tgt := 434) dL_law_419 (by decide) (fun _ => ?_) (fun q9 => absurd q9 ((by decide)))
          refine y_goto (tgt := 670) dL_law_434 (by decide) ?_
          exact y_at (yl i) ⟨rfl, rfl, rfl, rfl, rfl, trivial⟩ (nx _ _ (by omega) (kp _))
      | 7, _ =>
        refine y_tableIn (tgt := 437) dL_law_39 (by decide) (by decide) (by exact rfl) (by decide) ?_
        obtain ⟨⟨w1, w2, w3⟩, w4, w5⟩ := id htp
        obtain ⟨wd, ewd⟩ : ∃ wd : Int64, wd = (sx (i + 1)).toInt64 <<< ((Int8.ofInt 32).toInt32.toInt64 &&& 63) ||| ((sx (i + 2)).toInt64 &&& 4294967295) := ⟨_, rfl⟩
        refine y_aload_n dL_law_437 (by exact rfl) ?_
        refine y_aload_n dL_law_438 (by exact rfl) ?_
        refine y_iload dL_law_439 (by exact rfl) ?_
        refine y_iconst dL_law_441 ?_
        refine y_iadd dL_law_442 ?_
        refine y_eI (nI (i + 1)) e1 ?_
        refine y_aI dL_law_443 b1 ?_
        refine y_eI (sx (i + 1)) s1 ?_
        refine y_i2l dL_law_444 ?_
        refine y_bipush dL_law_445 ?_
        refine y_lshl dL_law_447 ?_
        refine y_aload_n dL_law_448 (by exact rfl) ?_
        refine y_iload dL_law_449 (by exact rfl) ?_
        refine y_iconst dL_law_451 ?_
        refine y_iadd dL_law_452 ?_
        refine y_eI (nI (i + 2)) e2 ?_
        refine y_aI dL_law_453 b2 ?_
        refine y_eI (sx (i + 2)) s2 ?_
        refine y_i2l dL_law_454 ?_
        refine y_ldcL dL_law_455 zclx_L_77 ?_
        refine y_land dL_law_458 ?_
        refine y_lor dL_law_459 ?_
        refine y_eJ wd ewd.symm ?_
        refine y_aload_n dL_law_460 (by exact rfl) ?_
        refine y_iload dL_law_461 (by exact rfl) ?_
        refine y_iconst dL_law_463 ?_
        refine y_iadd dL_law_464 ?_
        refine y_eI (nI (i + 3)) e3 ?_
        refine y_aI dL_law_465 b3 ?_
        refine y_eI (sx (i + 3)) s3 ?_
        refine y_cV dL_law_466 zk_L_79 (by exact rfl) (by exact rfl) (by exact rfl) (Nat.le_of_ble_eq_true rfl) (by omega) (Nat.le_refl _) ?_
        refine c_feed8 w1 w3 (fun a a1 a2 a3 a4 => ?_) (fun hno => ?_)
        · refine y_aload_n dL_law_469 (by exact rfl) ?_
          refine y_aload_n dL_law_470 (by exact rfl) ?_
          refine y_iload dL_law_471 (by exact rfl) ?_
          refine y_iconst dL_law_473 ?_
          refine y_iadd dL_law_474 ?_
          refine y_eI (nI (i + 1)) e1 ?_
          refine y_aI dL_law_475 b1 ?_
          refine y_eI (sx (i + 1)) s1 ?_
          refine y_i2l dL_law_476 ?_
          refine y_bipush dL_law_477 ?_
          refine y_lshl dL_law_479 ?_
          refine y_aload_n dL_law_480 (by exact rfl) ?_
          refine y_iload dL_law_481 (by exact rfl) ?_
          refine y_iconst dL_law_483 ?_
          refine y_iadd dL_law_484 ?_
          refine y_eI (nI (i + 2)) e2 ?_
          refine y_aI dL_law_485 b2 ?_
          refine y_eI (sx (i + 2)) s2 ?_
          refine y_i2l dL_law_486 ?_
          refine y_ldcL dL_law_487 zclx_L_77 ?_
          refine y_land dL_law_490 ?_
          refine y_lor dL_law_491 ?_
          refine y_eJ wd ewd.symm ?_
          refine y_aload_n dL_law_492 (by exact rfl) ?_
          refine y_iload dL_law_493 (by exact rfl) ?_
          refine y_iconst dL_law_495 ?_
          refine y_iadd dL_law_496 ?_
          refine y_eI (nI (i + 3)) e3 ?_
          refine y_aI dL_law_497 b3 ?_
          refine y_eI (sx (i + 3)) s3 ?_
          refine y_cV dL_law_498 zk_L_83 (by exact rfl) (by exact rfl) (by exact rfl) (Nat.le_of_ble_eq_true rfl) (by omega) (Nat.le_refl _) ?_
          refine c_feed9 (tp := sz) ((zuI_ne (by omega)).trans w2) w3 (fun a' c1 c2 c3 c4 => ?_) (fun hno => absurd ⟨a, a1, a2, a3, a4⟩ hno)
          have ea : a' = a := (nI_eq (by omega) (by omega)).mp (c3.symm.trans a3)
          subst ea
          refine y_icmp_eq (tgt := 670) dL_law_501 (by decide) (fun _ => ?_) (fun q9 => absurd (rfl) q9)
          exact y_at (yl i) ⟨rfl, rfl, rfl, rfl, rfl, trivial⟩ (nx _ _ (by omega) (inv_feed hI htp a2 a4))
        · refine y_aload_n dL_law_469 (by exact rfl) ?_
          refine y_aload_n dL_law_470 (by exact rfl) ?_
          refine y_iload dL_law_471 (by exact rfl) ?_
          refine y_iconst dL_law_473 ?_
          refine y_iadd dL_law_474 ?_
          refine y_eI (nI (i + 1)) e1 ?_
          refine y_aI dL_law_475 b1 ?_
          refine y_eI (sx (i + 1)) s1 ?_
          refine y_i2l dL_law_476 ?_
          refine y_bipush dL_law_477 ?_
          refine y_lshl dL_law_479 ?_
          refine y_aload_n dL_law_480 (by exact rfl) ?_
          refine y_iload dL_law_481 (by exact rfl) ?_
          refine y_iconst dL_law_483 ?_
          refine y_iadd dL_law_484 ?_
          refine y_eI (nI (i + 2)) e2 ?_
          refine y_aI dL_law_485 b2 ?_
          refine y_eI (sx (i + 2)) s2 ?_
          refine y_i2l dL_law_486 ?_
          refine y_ldcL dL_law_487 zclx_L_77 ?_
          refine y_land dL_law_490 ?_
          refine y_lor dL_law_491 ?_
          refine y_eJ wd ewd.symm ?_
          refine y_aload_n dL_law_492 (by exact rfl) ?_
          refine y_iload dL_law_493 (by exact rfl) ?_
          refine y_iconst dL_law_495 ?_
          refine y_iadd dL_law_496 ?_
          refine y_eI (nI (i + 3)) e3 ?_
          refine y_aI dL_law_497 b3 ?_
          refine y_eI (sx (i + 3)) s3 ?_
          refine y_cV dL_law_498 zk_L_83 (by exact rfl) (by exact rfl) (by exact rfl) (Nat.le_of_ble_eq_true rfl) (by omega) (Nat.le_refl _) ?_
          refine c_feed9 (tp := sz) w2 w3 (fun a' c1 c2 c3 c4 => absurd ⟨a', c1, c2, c3, c4⟩ hno) (fun _ => ?_)
          refine y_icmp_eq (tgt := 670) dL_law_501 (by decide) (fun _ => ?_) (fun q9 => absurd (rfl) q9)
          exact y_at (yl i) ⟨rfl, rfl, rfl, rfl, rfl, trivial⟩ (nx _ _ (by omega) (kp _))
      | 8, _ =>
        refine y_tableIn (tgt := 506) dL_law_39 (by decide) (by decide) (by exact rfl) (by decide) ?_
        refine y_aload_n dL_law_506 (by exact rfl) ?_
        refine y_cV dL_law_507 zk_L_84 (by exact rfl) (by exact rfl) (by exact rfl) (Nat.le_of_ble_eq_true rfl) (by omega) (Nat.le_refl _) ?_
        refine c_again8 hmd.1.hat hmb (fun j hj => hmd.1.2.2.2.2 j (by omega)) ?_
        refine y_aload_n dL_law_510 (by exact rfl) ?_
        refine y_cV dL_law_511 zk_L_87 (by exact rfl) (by exact rfl) (by exact rfl) (Nat.le_of_ble_eq_true rfl) (by omega) (Nat.le_refl _) ?_
        refine c_again9 (mb := mb) hmd.2.1.1 ?_
        refine y_icmp_eq (tgt := 670) dL_law_514 (by decide) (fun _ => ?_) (fun q9 => absurd (rfl) q9)
        exact y_at (yl i) ⟨rfl, rfl, rfl, rfl, rfl, trivial⟩ (nx _ _ (by omega) (inv_again hI hmd))
      | 9, _ =>
        refine y_tableIn (tgt := 519) dL_law_39 (by decide) (by decide) (by exact rfl) (by decide) ?_
        obtain ⟨⟨w1, w2, w3⟩, w4, w5⟩ := id htp
        refine y_aload_n dL_law_519 (by exact rfl) ?_
        refine y_aload_n dL_law_520 (by exact rfl) ?_
        refine y_cS dL_law_521 zk_L_88 (by exact rfl) (Nat.le_of_ble_eq_true rfl) (by omega) (Nat.le_refl _) ?_
        refine c_Lread w1 w3 w4 (fun D1 st S1 q f1 f2 f3 f4 f5 f6 f7 f8 f9 => ?_) (fun D1 kd pl f1 f2 f3 f4 => ?_)
        · have o5 := f2.2.2.2.2
          have hF9 : zfr (fun a k => fRd8 a k || a == 18) D (zuL D1 18 0 (lN (st.2.2.2.2 * st.2.2.1))) := (f9.wk (fun a k q => or_l q)).uL _ rfl
          refine y_istore dL_law_524 (by decide) ?_
          refine y_aload_n dL_law_526 (by exact rfl) ?_
          refine y_cV dL_law_527 zk_L_90 (by exact rfl) (by exact rfl) (by exact rfl) (Nat.le_of_ble_eq_true rfl) (by omega) (Nat.le_refl _) ?_
          refine c_read9 (T := T) ((hF9.1 19 20 rfl).trans w2) w3 (fun i hi => by
            rw [show (zuL D1 18 0 (lN (st.2.2.2.2 * st.2.2.1))).2 60 = D.2 60 from funext fun k => hF9.2 60 k rfl]
            exact w5 i hi) (fun D2 st2 S2 q2 g1 g2 g3 g4 g5 g6 g7 g8 g9 g10 => ?_) (fun D2 kd pl g1 => absurd (g1.symm.trans f1) (by intro q9; cases q9))
          have e9 : ((st2, S2), q2) = ((st, S1), q) := Sum.inr.inj (g1.symm.trans f1)
          cases e9
          refine y_istore dL_law_530 (by decide) ?_
          refine y_aload_n dL_law_532 (by exact rfl) ?_
          refine y_cV dL_law_533 zk_L_52 (by exact rfl) (by exact rfl) (by exact rfl) (Nat.le_of_ble_eq_true rfl) (by omega) (Nat.le_refl _) ?_
          refine c_thrown ?_
          refine y_eI 0 g9 ?_
          refine y_iload dL_law_536 (by exact rfl) ?_
          refine y_icmp_eq (tgt := 543) dL_law_538 (by decide) (fun _ => ?_) (fun q9 => absurd (rfl) q9)
          refine y_iload dL_law_543 (by exact rfl) ?_
          refine y_if_ne (tgt := 560) dL_law_545 (by decide) (fun q9 => absurd (rfl) q9) (fun _ => ?_)
          refine y_aload_n dL_law_548 (by exact rfl) ?_
          refine y_iconst dL_law_549 ?_
          refine y_aJ (by exact rfl) dL_law_550 (vp_in_nI (n := 0) (N := 1) (by omega) (by omega)) ?_
          refine y_eJ (lN (st.2.2.2.2 * st.2.2.1)) (g10.2 18 0 rfl) ?_
          refine y_iload dL_law_551 (by exact rfl) ?_
          refine y_i2l dL_law_553 ?_
          refine y_eJ (lN (st.2.2.2.2 * st.2.2.1)) (nI_l (by omega)) ?_
          refine y_eq (tgt := 560) dL_law_554 dL_law_555 (by decide) (fun _ => ?_) (fun q9 => absurd (rfl) q9)
          refine y_goto (tgt := 670) dL_law_560 (by decide) ?_
          exact y_at (yl i) ⟨rfl, rfl, rfl, rfl, rfl, trivial⟩ (nx _ _ (by omega) (inv_read hI f1 f2 f3 f4 f5 f6 f7 f8 f9 g3 g4 g5 g6 g7 g8 g10))
        · refine y_istore dL_law_524 (by decide) ?_
          refine y_aload_n dL_law_526 (by exact rfl) ?_
          refine y_cV dL_law_527 zk_L_90 (by exact rfl) (by exact rfl) (by exact rfl) (Nat.le_of_ble_eq_true rfl) (by omega) (Nat.le_refl _) ?_
          refine c_read9 (T := T) ((f4.1 19 20 rfl).trans w2) w3 (fun i hi => by
            rw [show D1.2 60 = D.2 60 from funext fun k => f4.2 60 k rfl]
            exact w5 i hi) (fun D2 st2 S2 q2 g1 => absurd (g1.symm.trans f1) (by intro q9; cases q9)) (fun D2 kd2 pl2 g1 g2 g3 g4 g5 => ?_)
          have e9 : (kd2, pl2) = (kd, pl) := Sum.inl.inj (g1.symm.trans f1)
          cases e9
          refine y_istore dL_law_530 (by decide) ?_
          refine y_aload_n dL_law_532 (by exact rfl) ?_
          refine y_cV dL_law_533 zk_L_52 (by exact rfl) (by exact rfl) (by exact rfl) (Nat.le_of_ble_eq_true rfl) (by omega) (Nat.le_refl _) ?_
          refine c_thrown ?_
          refine y_eI 1 g4 ?_
          refine y_iload dL_law_536 (by exact rfl) ?_
          refine y_icmp_eq (tgt := 543) dL_law_538 (by decide) (fun _ => ?_) (fun q9 => absurd (rfl) q9)
          refine y_iload dL_law_543 (by exact rfl) ?_
          refine y_if_ne (tgt := 560) dL_law_545 (by decide) (fun _ => ?_) (fun q9 => absurd q9 ((by decide)))
          refine y_goto (tgt := 670) dL_law_560 (by decide) ?_
          exact y_at (yl i) ⟨rfl, rfl, rfl, rfl, rfl, trivial⟩ (nx _ _ (by omega) (inv_readX hI f2 f3 f4 g2 g3 g5))
      | 10, _ =>
        refine y_tableIn (tgt := 563) dL_law_39 (by decide) (by decide) (by exact rfl) (by decide) ?_
        refine y_aload_n dL_law_563 (by exact rfl) ?_
        refine y_cV dL_law_564 zk_L_91 (by exact rfl) (by exact rfl) (by exact rfl) (Nat.le_of_ble_eq_true rfl) (by omega) (Nat.le_refl _) ?_
        refine c_fault8 ?_
        refine y_aload_n dL_law_567 (by exact rfl) ?_
        refine y_cV dL_law_568 zk_L_94 (by exact rfl) (by exact rfl) (by exact rfl) (Nat.le_of_ble_eq_true rfl) (by omega) (Nat.le_refl _) ?_
        refine c_fault9 ?_
        refine y_icmp_eq (tgt := 670) dL_law_571 (by decide) (fun _ => ?_) (fun q9 => absurd (hfl.1) q9)
        exact y_at (yl i) ⟨rfl, rfl, rfl, rfl, rfl, trivial⟩ (nx _ _ (by omega) (kp _))
      | 11, _ =>
        refine y_tableIn (tgt := 576) dL_law_39 (by decide) (by decide) (by exact rfl) (by decide) ?_
        refine y_aload_n dL_law_576 (by exact rfl) ?_
        refine y_cV dL_law_577 zk_L_95 (by exact rfl) (by exact rfl) (by exact rfl) (Nat.le_of_ble_eq_true rfl) (by omega) (Nat.le_refl _) ?_
        refine c_place8 ?_
        refine y_aload_n dL_law_580 (by exact rfl) ?_
        refine y_cV dL_law_581 zk_L_98 (by exact rfl) (by exact rfl) (by exact rfl) (Nat.le_of_ble_eq_true rfl) (by omega) (Nat.le_refl _) ?_
        refine c_place9 ?_
        refine y_icmp_eq (tgt := 670) dL_law_584 (by decide) (fun _ => ?_) (fun q9 => absurd (hfl.2) q9)
        exact y_at (yl i) ⟨rfl, rfl, rfl, rfl, rfl, trivial⟩ (nx _ _ (by omega) (kp _))
      | 12, _ =>
        refine y_tableIn (tgt := 589) dL_law_39 (by decide) (by decide) (by exact rfl) (by decide) ?_
        obtain ⟨⟨t1, t2, t3, t4, t5, t6⟩, ⟨u1, u2, u3, u4, u5, u6⟩, r1, r2, r3, r4, r5⟩ := id hset
        refine y_aload_n dL_law_589 (by exact rfl) ?_
        refine y_aload_n dL_law_590 (by exact rfl) ?_
        refine y_iload dL_law_591 (by exact rfl) ?_
        refine y_iconst dL_law_593 ?_
        refine y_iadd dL_law_594 ?_
        refine y_eI (nI (i + 1)) e1 ?_
        refine y_aI dL_law_595 b1 ?_
        refine y_eI (sx (i + 1)) s1 ?_
        refine y_aload_n dL_law_596 (by exact rfl) ?_
        refine y_cS dL_law_597 zk_L_99 (by exact rfl) (Nat.le_of_ble_eq_true rfl) (by omega) (Nat.le_refl _) ?_
        refine c_Lsample t5 r5 (fun a ha ea => ?_) (fun hno => ?_)
        · refine y_istore dL_law_600 (by decide) ?_
          refine y_aload_n dL_law_602 (by exact rfl) ?_
          refine y_aload_n dL_law_603 (by exact rfl) ?_
          refine y_iload dL_law_604 (by exact rfl) ?_
          refine y_iconst dL_law_606 ?_
          refine y_iadd dL_law_607 ?_
          refine y_eI (nI (i + 1)) e1 ?_
          refine y_aI dL_law_608 b1 ?_
          refine y_eI (sx (i + 1)) s1 ?_
          refine y_cV dL_law_609 zk_L_102 (by exact rfl) (by exact rfl) (by exact rfl) (Nat.le_of_ble_eq_true rfl) (by omega) (Nat.le_refl _) ?_
          refine c_sample9 (n := ms) u5 r5 (fun a' ha' ea' => ?_) (fun hno => absurd ⟨a, ha, ea⟩ hno)
          refine y_istore dL_law_612 (by decide) ?_
          refine y_aload_n dL_law_614 (by exact rfl) ?_
          refine y_cV dL_law_615 zk_L_52 (by exact rfl) (by exact rfl) (by exact rfl) (Nat.le_of_ble_eq_true rfl) (by omega) (Nat.le_refl _) ?_
          refine c_thrown ?_
          refine y_iload dL_law_618 (by exact rfl) ?_
          refine y_icmp_eq (tgt := 625) dL_law_620 (by decide) (fun _ => ?_) (fun q9 => absurd (rfl) q9)
          refine y_iload dL_law_625 (by exact rfl) ?_
          refine y_if_ne (tgt := 642) dL_law_627 (by decide) (fun q9 => absurd (rfl) q9) (fun _ => ?_)
          refine y_aload_n dL_law_630 (by exact rfl) ?_
          refine y_iconst dL_law_631 ?_
          refine y_aJ (by exact rfl) dL_law_632 (vp_in_nI (n := 0) (N := 1) (by omega) (by omega)) ?_
          refine y_eJ (D.1 4 a).toInt64 rfl ?_
          refine y_iload dL_law_633 (by exact rfl) ?_
          refine y_i2l dL_law_635 ?_
          refine y_eq (tgt := 642) dL_law_636 dL_law_637 (by decide) (fun _ => ?_) (fun q9 => absurd ((by
            have : a' = a := (nI_eq (by omega) (by omega)).mp (ea'.symm.trans ea)
            subst this
            rw [(t6 a' ha).1]
            show _ = (D.1 53 a').toInt64
            rw [u6 a' ha])) q9)
          refine y_goto (tgt := 670) dL_law_642 (by decide) ?_
          exact y_at (yl i) ⟨rfl, rfl, rfl, rfl, rfl, trivial⟩ (nx _ _ (by omega) (hI.k0 ((zfr.rf.uL _ rfl).uI _ rfl)))
        · refine y_istore dL_law_600 (by decide) ?_
          refine y_aload_n dL_law_602 (by exact rfl) ?_
          refine y_aload_n dL_law_603 (by exact rfl) ?_
          refine y_iload dL_law_604 (by exact rfl) ?_
          refine y_iconst dL_law_606 ?_
          refine y_iadd dL_law_607 ?_
          refine y_eI (nI (i + 1)) e1 ?_
          refine y_aI dL_law_608 b1 ?_
          refine y_eI (sx (i + 1)) s1 ?_
          refine y_cV dL_law_609 zk_L_102 (by exact rfl) (by exact rfl) (by exact rfl) (Nat.le_of_ble_eq_true rfl) (by omega) (Nat.le_refl _) ?_
          refine c_sample9 (n := ms) u5 r5 (fun a' ha' ea' => absurd ⟨a', ha', ea'⟩ hno) (fun _ => ?_)
          refine y_istore dL_law_612 (by decide) ?_
          refine y_aload_n dL_law_614 (by exact rfl) ?_
          refine y_cV dL_law_615 zk_L_52 (by exact rfl) (by exact rfl) (by exact rfl) (Nat.le_of_ble_eq_true rfl) (by omega) (Nat.le_refl _) ?_
          refine c_thrown ?_
          refine y_iload dL_law_618 (by exact rfl) ?_
          refine y_icmp_eq (tgt := 625) dL_law_620 (by decide) (fun _ => ?_) (fun q9 => absurd (rfl) q9)
          refine y_iload dL_law_625 (by exact rfl) ?_
          refine y_if_ne (tgt := 642) dL_law_627 (by decide) (fun _ => ?_) (fun q9 => absurd q9 ((by decide)))
          refine y_goto (tgt := 670) dL_law_642 (by decide) ?_
          exact y_at (yl i) ⟨rfl, rfl, rfl, rfl, rfl, trivial⟩ (nx _ _ (by omega) (kp _))
      | 13, _ =>
        refine y_tableIn (tgt := 645) dL_law_39 (by decide) (by decide) (by exact rfl) (by decide) ?_
        obtain ⟨⟨t1, t2, t3, t4, t5, t6⟩, ⟨u1, u2, u3, u4, u5, u6⟩, r1, r2, r3, r4, r5⟩ := id hset
        have hcnt : ∀ a, a < 9 → cnt8 D mb a = cnt9 D a := fun a ha => by
          match a, ha with
          | 0, _ => exact t5.trans u5.symm
          | 1, _ => exact t1.trans u1.symm
          | 2, _ => exact t2.trans u2.symm
          | 3, _ => exact t3.trans u3.symm
          | 4, _ => exact t4.trans u4.symm
          | 5, _ => exact hmd.2.1.1.symm
          | 6, _ => exact hmd.2.2.1.1.trans hmd.2.2.1.2.2.1.symm
          | 7, _ => exact htp.1.1.trans htp.1.2.1.symm
          | 8, _ => exact hpr.1.1.trans hpr.2.1.1.symm
        refine y_aload_n dL_law_645 (by exact rfl) ?_
        refine y_aload_n dL_law_646 (by exact rfl) ?_
        refine y_iload dL_law_647 (by exact rfl) ?_
        refine y_iconst dL_law_649 ?_
        refine y_iadd dL_law_650 ?_
        refine y_eI (nI (i + 1)) e1 ?_
        refine y_aI dL_law_651 b1 ?_
        refine y_eI (sx (i + 1)) s1 ?_
        refine y_cV dL_law_652 zk_L_103 (by exact rfl) (by exact rfl) (by exact rfl) (Nat.le_of_ble_eq_true rfl) (by omega) (Nat.le_refl _) ?_
        refine c_count8 hmd.1.hat hmb (fun a ha ea => ?_) (fun hno => ?_)
        · refine y_aload_n dL_law_655 (by exact rfl) ?_
          refine y_aload_n dL_law_656 (by exact rfl) ?_
          refine y_iload dL_law_657 (by exact rfl) ?_
          refine y_iconst dL_law_659 ?_
          refine y_iadd dL_law_660 ?_
          refine y_eI (nI (i + 1)) e1 ?_
          refine y_aI dL_law_661 b1 ?_
          refine y_eI (sx (i + 1)) s1 ?_
          refine y_cV dL_law_662 zk_L_106 (by exact rfl) (by exact rfl) (by exact rfl) (Nat.le_of_ble_eq_true rfl) (by omega) (Nat.le_refl _) ?_
          refine c_count9 (fun a' ha' ea' => ?_) (fun hno => by
            rw [ea, nI_toInt (by omega)] at hno
            omega)
          refine y_icmp_eq (tgt := 670) dL_law_665 (by decide) (fun _ => ?_) (fun q9 => absurd ((by
            have : a' = a := (nI_eq (by omega) (by omega)).mp (ea'.symm.trans ea)
            subst this
            exact hcnt a' ha)) q9)
          exact y_at (yl i) ⟨rfl, rfl, rfl, rfl, rfl, trivial⟩ (nx _ _ (by omega) (kp _))
        · refine y_aload_n dL_law_655 (by exact rfl) ?_
          refine y_aload_n dL_law_656 (by exact rfl) ?_
          refine y_iload dL_law_657 (by exact rfl) ?_
          refine y_iconst dL_law_659 ?_
          refine y_iadd dL_law_660 ?_
          refine y_eI (nI (i + 1)) e1 ?_
          refine y_aI dL_law_661 b1 ?_
          refine y_eI (sx (i + 1)) s1 ?_
          refine y_cV dL_law_662 zk_L_106 (by exact rfl) (by exact rfl) (by exact rfl) (Nat.le_of_ble_eq_true rfl) (by omega) (Nat.le_refl _) ?_
          refine c_count9 (fun a' ha' ea' => by
            rw [ea', nI_toInt (by omega)] at hno
            omega) (fun _ => ?_)
          refine y_icmp_eq (tgt := 670) dL_law_665 (by decide) (fun _ => ?_) (fun q9 => absurd (rfl) q9)
          exact y_at (yl i) ⟨rfl, rfl, rfl, rfl, rfl, trivial⟩ (nx _ _ (by omega) (kp _))
      | j + 14, hj =>
        refine y_tableOut (tgt := 670) dL_law_39 (.inr (by
          rw [nI_toInt (by omega)]
          omega)) (by decide) ?_
        exact nx _ _ (by omega) hI
    refine y_iload dL_law_23 (by exact rfl) ?_
    refine y_aload_n dL_law_25 (by exact rfl) ?_
    refine y_slen dL_law_26 ?_
    refine y_iconst dL_law_27 ?_
    refine y_isub dL_law_28 ?_
    refine y_eI (iI ((sn : Int) - 5)) e5 ?_
    refine y_icmp_gt (tgt := 676) dL_law_29 (by decide) (fun q9 => absurd q9 ((by
      rw [Int32.lt_iff_toInt_lt, iI_toInt (by omega) (by omega), nI_toInt (by omega)]
      omega))) (fun _ => ?_)
    refine y_aload_n dL_law_32 (by exact rfl) ?_
    refine y_iload dL_law_33 (by exact rfl) ?_
    refine y_aI dL_law_35 b0 ?_
    refine y_eI (sx i) s0 ?_
    refine y_bipush dL_law_36 ?_
    refine y_iand dL_law_38 ?_
    refine y_eI (nI j) ej ?_
    exact y_at (yl i) ⟨rfl, rfl, rfl, rfl, rfl, trivial⟩ hcase
