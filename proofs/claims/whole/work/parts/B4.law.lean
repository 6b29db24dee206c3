/-! ===== the law's loop ===== -/
abbrev yl (i : Nat) : List (Nat × Value) := [(0, .ref 67), (1, .ref 0), (2, .ref 19), (3, .ref 18), (4, .int (nI i))]
theorem law_loop {sn : Nat} {sx : Nat → Int32} (hL : sn ≤ 2560) : ∀ (m i k : Nat) (D : zD), sn < i + 5 * m → i ≤ sn + 4 → 5 * k ≤ 2 * i → Inv D → Y sn sx k 23 (zl (yl i)) [] D := by
  intro m
  induction m with
  | zero =>
    intro i k D hm hi hk hI
    have e5 : nI sn - Int32.ofInt 5 = iI ((sn : Int) - 5) := by
      rw [iI_N]
      exact iI_sub _ _
    refine y_iload dL_law_23 (by exact rfl) ?_
    refine y_aload_n dL_law_25 (by exact rfl) ?_
    refine y_slen dL_law_26 ?_
    refine y_iconst dL_law_27 ?_
    refine y_isub dL_law_28 ?_
    refine y_eI (iI ((sn : Int) - 5)) e5 ?_
    refine y_icmp_gt (tgt := 676) dL_law_29 (by decide) (fun _ => ?_) (fun q9 => absurd ((by
      rw [Int32.lt_iff_toInt_lt, iI_toInt (by omega) (by omega), nI_toInt (by omega)]
      omega)) q9)
    refine y_iconst dL_law_676 ?_
    exact y_end (by omega) dL_law_677
  | succ m ih =>
    intro i k D hm hi hk hI
    have e5 : nI sn - Int32.ofInt 5 = iI ((sn : Int) - 5) := by
      rw [iI_N]
      exact iI_sub _ _
    by_cases hend : sn < i + 5
    · refine y_iload dL_law_23 (by exact rfl) ?_
      refine y_aload_n dL_law_25 (by exact rfl) ?_
      refine y_slen dL_law_26 ?_
      refine y_iconst dL_law_27 ?_
      refine y_isub dL_law_28 ?_
      refine y_eI (iI ((sn : Int) - 5)) e5 ?_
      refine y_icmp_gt (tgt := 676) dL_law_29 (by decide) (fun _ => ?_) (fun q9 => absurd ((by
        rw [Int32.lt_iff_toInt_lt, iI_toInt (by omega) (by omega), nI_toInt (by omega)]
        omega)) q9)
      refine y_iconst dL_law_676 ?_
      exact y_end (by omega) dL_law_677
    have b0 : vp_in (nI i) sn := vp_in_nI (by omega) (by omega)
    have b1 : vp_in (nI (i + 1)) sn := vp_in_nI (by omega) (by omega)
    have b2 : vp_in (nI (i + 2)) sn := vp_in_nI (by omega) (by omega)
    have b3 : vp_in (nI (i + 3)) sn := vp_in_nI (by omega) (by omega)
    have b4 : vp_in (nI (i + 4)) sn := vp_in_nI (by omega) (by omega)
    have e1 : nI i + Int32.ofInt 1 = nI (i + 1) := nI_add _ 1
    have e2 : nI i + Int32.ofInt 2 = nI (i + 2) := nI_add _ 2
    have e3 : nI i + Int32.ofInt 3 = nI (i + 3) := nI_add _ 3
    have e4 : nI i + Int32.ofInt 4 = nI (i + 4) := nI_add _ 4
    have s0 : sx (nI i).toNatClampNeg = sx i := by rw [nI_clamp (by omega)]
    have s1 : sx (nI (i + 1)).toNatClampNeg = sx (i + 1) := by rw [nI_clamp (by omega)]
    have s2 : sx (nI (i + 2)).toNatClampNeg = sx (i + 2) := by rw [nI_clamp (by omega)]
    have s3 : sx (nI (i + 3)).toNatClampNeg = sx (i + 3) := by rw [nI_clamp (by omega)]
    have s4 : sx (nI (i + 4)).toNatClampNeg = sx (i + 4) := by rw [nI_clamp (by omega)]
    have nx : ∀ (k' : Nat) (D' : zD), k' ≤ k + 2 → Inv D' → Y sn sx k' 670 (zl (yl i)) [] D' := by
      intro k' D' hk' hI'
      refine y_iinc dL_law_670 (by exact rfl) ?_
      refine y_at (yl (i + 5)) ⟨rfl, rfl, rfl, rfl, congrArg (fun x => some (Value.int x)) (nI_add i 5), trivial⟩ ?_
      refine y_goto (tgt := 23) dL_law_673 (by decide) ?_
      exact ih (i + 5) k' D' (by omega) (by omega) (by omega) hI'
    obtain ⟨⟨ch, bits, block, rate, ms, S, hset⟩, ⟨o, sh, cs, hpr⟩, ⟨mb, F, mch, B, hmd⟩, ⟨sz, T, htp⟩, hfl⟩ := id hI
    have hmb : mb ≤ 20000 := by
      have : 8 * mb ≤ 160000 := hmd.1.le
      omega
    have kp : ∀ (x : Int32), Inv (zuI D 19 0 x) := fun x => hI.k0 (zfr.rf.uI _ rfl)
    obtain ⟨j, hj, ej⟩ := pk_andE (sx i) (m := (Int8.ofInt 15).toInt32) 4 (by decide)
    have hcase : Y sn sx k 39 (zl (yl i)) [.int (nI j)] D := by
      match j, hj with
      | 0, _ =>
        refine y_tableIn (tgt := 108) dL_law_39 (by decide) (by decide) (by exact rfl) (by decide) ?_
        refine y_aload_n dL_law_108 (by exact rfl) ?_
        refine y_aload_n dL_law_109 (by exact rfl) ?_
        refine y_iload dL_law_110 (by exact rfl) ?_
        refine y_iconst dL_law_112 ?_
        refine y_iadd dL_law_113 ?_
        refine y_eI (nI (i + 1)) e1 ?_
        refine y_aI dL_law_114 b1 ?_
        refine y_eI (sx (i + 1)) s1 ?_
        refine y_aload_n dL_law_115 (by exact rfl) ?_
        refine y_iload dL_law_116 (by exact rfl) ?_
        refine y_iconst dL_law_118 ?_
        refine y_iadd dL_law_119 ?_
        refine y_eI (nI (i + 2)) e2 ?_
        refine y_aI dL_law_120 b2 ?_
        refine y_eI (sx (i + 2)) s2 ?_
        refine y_aload_n dL_law_121 (by exact rfl) ?_
        refine y_iload dL_law_122 (by exact rfl) ?_
        refine y_iconst dL_law_124 ?_
        refine y_iadd dL_law_125 ?_
        refine y_eI (nI (i + 3)) e3 ?_
        refine y_aI dL_law_126 b3 ?_
        refine y_eI (sx (i + 3)) s3 ?_
        refine y_aload_n dL_law_127 (by exact rfl) ?_
        refine y_iload dL_law_128 (by exact rfl) ?_
        refine y_iconst dL_law_130 ?_
        refine y_iadd dL_law_131 ?_
        refine y_eI (nI (i + 4)) e4 ?_
        refine y_aI dL_law_132 b4 ?_
        refine y_eI (sx (i + 4)) s4 ?_
        refine y_cS dL_law_133 zk_L_46 (by exact rfl) (Nat.le_of_ble_eq_true rfl) (by omega) (Nat.le_refl _) ?_
        refine c_Lshape (fun h => ?_) (fun h => ?_)
        · refine y_istore dL_law_136 (by decide) ?_
          refine y_aload_n dL_law_138 (by exact rfl) ?_
          refine y_aload_n dL_law_139 (by exact rfl) ?_
          refine y_iload dL_law_140 (by exact rfl) ?_
          refine y_iconst dL_law_142 ?_
          refine y_iadd dL_law_143 ?_
          refine y_eI (nI (i + 1)) e1 ?_
          refine y_aI dL_law_144 b1 ?_
          refine y_eI (sx (i + 1)) s1 ?_
          refine y_aload_n dL_law_145 (by exact rfl) ?_
          refine y_iload dL_law_146 (by exact rfl) ?_
          refine y_iconst dL_law_148 ?_
          refine y_iadd dL_law_149 ?_
          refine y_eI (nI (i + 2)) e2 ?_
          refine y_aI dL_law_150 b2 ?_
          refine y_eI (sx (i + 2)) s2 ?_
          refine y_aload_n dL_law_151 (by exact rfl) ?_
          refine y_iload dL_law_152 (by exact rfl) ?_
          refine y_iconst dL_law_154 ?_
          refine y_iadd dL_law_155 ?_
          refine y_eI (nI (i + 3)) e3 ?_
          refine y_aI dL_law_156 b3 ?_
          refine y_eI (sx (i + 3)) s3 ?_
          refine y_aload_n dL_law_157 (by exact rfl) ?_
          refine y_iload dL_law_158 (by exact rfl) ?_
          refine y_iconst dL_law_160 ?_
          refine y_iadd dL_law_161 ?_
          refine y_eI (nI (i + 4)) e4 ?_
          refine y_aI dL_law_162 b4 ?_
          refine y_eI (sx (i + 4)) s4 ?_
          refine y_cV dL_law_163 zk_L_51 (by exact rfl) (by exact rfl) (by exact rfl) (Nat.le_of_ble_eq_true rfl) (by omega) (Nat.le_refl _) ?_
          refine c_shape9 (fun _ => ?_) (fun q => absurd h q)
          refine y_aload_n dL_law_166 (by exact rfl) ?_
          refine y_cV dL_law_167 zk_L_52 (by exact rfl) (by exact rfl) (by exact rfl) (Nat.le_of_ble_eq_true rfl) (by omega) (Nat.le_refl _) ?_
          refine c_thrown ?_
          refine y_iload dL_law_170 (by exact rfl) ?_
          skip
          refine y_icmp_eq (tgt := 177) dL_law_172 (by decide) (fun _ => ?_) (fun q9 => absurd (rfl) q9)
          refine y_goto (tgt := 670) dL_law_177 (by decide) ?_
          exact y_at (yl i) ⟨rfl, rfl, rfl, rfl, rfl, trivial⟩ (nx _ _ (by omega) (inv_shape hI h))
        · refine y_istore dL_law_136 (by decide) ?_
          refine y_aload_n dL_law_138 (by exact rfl) ?_
          refine y_aload_n dL_law_139 (by exact rfl) ?_
          refine y_iload dL_law_140 (by exact rfl) ?_
          refine y_iconst dL_law_142 ?_
          refine y_iadd dL_law_143 ?_
          refine y_eI (nI (i + 1)) e1 ?_
          refine y_aI dL_law_144 b1 ?_
          refine y_eI (sx (i + 1)) s1 ?_
          refine y_aload_n dL_law_145 (by exact rfl) ?_
          refine y_iload dL_law_146 (by exact rfl) ?_
          refine y_iconst dL_law_148 ?_
          refine y_iadd dL_law_149 ?_
          refine y_eI (nI (i + 2)) e2 ?_
          refine y_aI dL_law_150 b2 ?_
          refine y_eI (sx (i + 2)) s2 ?_
          refine y_aload_n dL_law_151 (by exact rfl) ?_
          refine y_iload dL_law_152 (by exact rfl) ?_
          refine y_iconst dL_law_154 ?_
          refine y_iadd dL_law_155 ?_
          refine y_eI (nI (i + 3)) e3 ?_
          refine y_aI dL_law_156 b3 ?_
          refine y_eI (sx (i + 3)) s3 ?_
          refine y_aload_n dL_law_157 (by exact rfl) ?_
          refine y_iload dL_law_158 (by exact rfl) ?_
          refine y_iconst dL_law_160 ?_
          refine y_iadd dL_law_161 ?_
          refine y_eI (nI (i + 4)) e4 ?_
          refine y_aI dL_law_162 b4 ?_
          refine y_eI (sx (i + 4)) s4 ?_
          refine y_cV dL_law_163 zk_L_51 (by exact rfl) (by exact rfl) (by exact rfl) (Nat.le_of_ble_eq_true rfl) (by omega) (Nat.le_refl _) ?_
          refine c_shape9 (fun q => absurd q h) (fun _ => ?_)
          refine y_aload_n dL_law_166 (by exact rfl) ?_
          refine y_cV dL_law_167 zk_L_52 (by exact rfl) (by exact rfl) (by exact rfl) (Nat.le_of_ble_eq_true rfl) (by omega) (Nat.le_refl _) ?_
          refine c_thrown ?_
          refine y_iload dL_law_170 (by exact rfl) ?_
          refine y_icmp_eq (tgt := 177) dL_law_172 (by decide) (fun _ => ?_) (fun q9 => absurd (rfl) q9)
          refine y_goto (tgt := 670) dL_law_177 (by decide) ?_
          exact y_at (yl i) ⟨rfl, rfl, rfl, rfl, rfl, trivial⟩ (nx _ _ (by omega) (kp _))
      | 1, _ =>
        refine y_tableIn (tgt := 180) dL_law_39 (by decide) (by decide) (by exact rfl) (by decide) ?_
        refine y_aload_n dL_law_180 (by exact rfl) ?_
        refine y_aload_n dL_law_181 (by exact rfl) ?_
        refine y_iload dL_law_182 (by exact rfl) ?_
        refine y_iconst dL_law_184 ?_
        refine y_iadd dL_law_185 ?_
        refine y_eI (nI (i + 1)) e1 ?_
        refine y_aI dL_law_186 b1 ?_
        refine y_eI (sx (i + 1)) s1 ?_
        refine y_cS dL_law_187 zk_L_55 (by exact rfl) (Nat.le_of_ble_eq_true rfl) (by omega) (Nat.le_refl _) ?_
        refine c_Lpredict (fun h => ?_) (fun h => ?_)
        · refine y_istore dL_law_190 (by decide) ?_
          refine y_aload_n dL_law_192 (by exact rfl) ?_
          refine y_aload_n dL_law_193 (by exact rfl) ?_
          refine y_iload dL_law_194 (by exact rfl) ?_
          refine y_iconst dL_law_196 ?_
          refine y_iadd dL_law_197 ?_
          refine y_eI (nI (i + 1)) e1 ?_
          refine y_aI dL_law_198 b1 ?_
          refine y_eI (sx (i + 1)) s1 ?_
          refine y_cV dL_law_199 zk_L_58 (by exact rfl) (by exact rfl) (by exact rfl) (Nat.le_of_ble_eq_true rfl) (by omega) (Nat.le_refl _) ?_
          refine c_predict9 (fun _ => ?_) (fun q => absurd h q)
          refine y_aload_n dL_law_202 (by exact rfl) ?_
          refine y_cV dL_law_203 zk_L_52 (by exact rfl) (by exact rfl) (by exact rfl) (Nat.le_of_ble_eq_true rfl) (by omega) (Nat.le_refl _) ?_
          refine c_thrown ?_
          refine y_iload dL_law_206 (by exact rfl) ?_
          refine y_icmp_eq (tgt := 213) dL_law_208 (by decide) (fun _ => ?_) (fun q9 => absurd (rfl) q9)
          refine y_goto (tgt := 670) dL_law_213 (by decide) ?_
          exact y_at (yl i) ⟨rfl, rfl, rfl, rfl, rfl, trivial⟩ (nx _ _ (by omega) (inv_predict hI h))
        · refine y_istore dL_law_190 (by decide) ?_
          refine y_aload_n dL_law_192 (by exact rfl) ?_
          refine y_aload_n dL_law_193 (by exact rfl) ?_
          refine y_iload dL_law_194 (by exact rfl) ?_
          refine y_iconst dL_law_196 ?_
          refine y_iadd dL_law_197 ?_
          refine y_eI (nI (i + 1)) e1 ?_
          refine y_aI dL_law_198 b1 ?_
          refine y_eI (sx (i + 1)) s1 ?_
          refine y_cV dL_law_199 zk_L_58 (by exact rfl) (by exact rfl) (by exact rfl) (Nat.le_of_ble_eq_true rfl) (by omega) (Nat.le_refl _) ?_
          refine c_predict9 (fun q => absurd q h) (fun _ => ?_)
          refine y_aload_n dL_law_202 (by exact rfl) ?_
          refine y_cV dL_law_203 zk_L_52 (by exact rfl) (by exact rfl) (by exact rfl) (Nat.le_of_ble_eq_true rfl) (by omega) (Nat.le_refl _) ?_
          refine c_thrown ?_
          refine y_iload dL_law_206 (by exact rfl) ?_
          refine y_icmp_eq (tgt := 213) dL_law_208 (by decide) (fun _ => ?_) (fun q9 => absurd (rfl) q9)
          refine y_goto (tgt := 670) dL_law_213 (by decide) ?_
          exact y_at (yl i) ⟨rfl, rfl, rfl, rfl, rfl, trivial⟩ (nx _ _ (by omega) (kp _))
      | 2, _ =>
        refine y_tableIn (tgt := 216) dL_law_39 (by decide) (by decide) (by exact rfl) (by decide) ?_
        refine y_aload_n dL_law_216 (by exact rfl) ?_
        refine y_aload_n dL_law_217 (by exact rfl) ?_
        refine y_iload dL_law_218 (by exact rfl) ?_
        refine y_iconst dL_law_220 ?_
        refine y_iadd dL_law_221 ?_
        refine y_eI (nI (i + 1)) e1 ?_
        refine y_aI dL_law_222 b1 ?_
        refine y_eI (sx (i + 1)) s1 ?_
        refine y_cS dL_law_223 zk_L_59 (by exact rfl) (Nat.le_of_ble_eq_true rfl) (by omega) (Nat.le_refl _) ?_
        refine c_Lcoefficient hpr.1.1 hpr.2.2.1 (fun p q r => ?_) (fun p q r => ?_) (fun p => ?_)
        · refine y_istore dL_law_226 (by decide) ?_
          refine y_aload_n dL_law_228 (by exact rfl) ?_
          refine y_aload_n dL_law_229 (by exact rfl) ?_
          refine y_iload dL_law_230 (by exact rfl) ?_
          refine y_iconst dL_law_232 ?_
          refine y_iadd dL_law_233 ?_
          refine y_eI (nI (i + 1)) e1 ?_
          refine y_aI dL_law_234 b1 ?_
          refine y_eI (sx (i + 1)) s1 ?_
          refine y_cV dL_law_235 zk_L_61 (by exact rfl) (by exact rfl) (by exact rfl) (Nat.le_of_ble_eq_true rfl) (by omega) (Nat.le_refl _) ?_
          refine c_coefficient9 (o := o) ((zuI_ne (by omega)).trans ((zuI_ne (by omega)).trans hpr.2.1.1)) hpr.2.2.1 (fun _ _ _ => ?_) (fun _ _ q9 => absurd q9 (by omega)) (fun q9 => absurd ⟨p, q⟩ q9)
          refine y_aload_n dL_law_238 (by exact rfl) ?_
          refine y_cV dL_law_239 zk_L_52 (by exact rfl) (by exact rfl) (by exact rfl) (Nat.le_of_ble_eq_true rfl) (by omega) (Nat.le_refl _) ?_
          refine c_thrown ?_
          refine y_iload dL_law_242 (by exact rfl) ?_
          refine y_icmp_eq (tgt := 249) dL_law_244 (by decide) (fun _ => ?_) (fun q9 => absurd (rfl) q9)
          refine y_goto (tgt := 670) dL_law_249 (by decide) ?_
          exact y_at (yl i) ⟨rfl, rfl, rfl, rfl, rfl, trivial⟩ (nx _ _ (by omega) (inv_coefficient hI hpr p q r))
        · refine y_istore dL_law_226 (by decide) ?_
          refine y_aload_n dL_law_228 (by exact rfl) ?_
          refine y_aload_n dL_law_229 (by exact rfl) ?_
          refine y_iload dL_law_230 (by exact rfl) ?_
          refine y_iconst dL_law_232 ?_
          refine y_iadd dL_law_233 ?_
          refine y_eI (nI (i + 1)) e1 ?_
          refine y_aI dL_law_234 b1 ?_
          refine y_eI (sx (i + 1)) s1 ?_
          refine y_cV dL_law_235 zk_L_61 (by exact rfl) (by exact rfl) (by exact rfl) (Nat.le_of_ble_eq_true rfl) (by omega) (Nat.le_refl _) ?_
          refine c_coefficient9 (o := o) hpr.2.1.1 hpr.2.2.1 (fun _ _ q9 => absurd q9 (by omega)) (fun _ _ _ => ?_) (fun q9 => absurd ⟨p, q⟩ q9)
          refine y_aload_n dL_law_238 (by exact rfl) ?_
          refine y_cV dL_law_239 zk_L_52 (by exact rfl) (by exact rfl) (by exact rfl) (Nat.le_of_ble_eq_true rfl) (by omega) (Nat.le_refl _) ?_
          refine c_thrown ?_
          refine y_iload dL_law_242 (by exact rfl) ?_
          refine y_icmp_eq (tgt := 249) dL_law_244 (by decide) (fun _ => ?_) (fun q9 => absurd (rfl) q9)
          refine y_goto (tgt := 670) dL_law_249 (by decide) ?_
          exact y_at (yl i) ⟨rfl, rfl, rfl, rfl, rfl, trivial⟩ (nx _ _ (by omega) (kp _))
        · refine y_istore dL_law_226 (by decide) ?_
          refine y_aload_n dL_law_228 (by exact rfl) ?_
          refine y_aload_n dL_law_229 (by exact rfl) ?_
          refine y_iload dL_law_230 (by exact rfl) ?_
          refine y_iconst dL_law_232 ?_
          refine y_iadd dL_law_233 ?_
          refine y_eI (nI (i + 1)) e1 ?_
          refine y_aI dL_law_234 b1 ?_
          refine y_eI (sx (i + 1)) s1 ?_
          refine y_cV dL_law_235 zk_L_61 (by exact rfl) (by exact rfl) (by exact rfl) (Nat.le_of_ble_eq_true rfl) (by omega) (Nat.le_refl _) ?_
          refine c_coefficient9 (o := o) hpr.2.1.1 hpr.2.2.1 (fun a9 b9 _ => absurd ⟨a9, b9⟩ p) (fun a9 b9 _ => absurd ⟨a9, b9⟩ p) (fun _ => ?_)
          refine y_aload_n dL_law_238 (by exact rfl) ?_
          refine y_cV dL_law_239 zk_L_52 (by exact rfl) (by exact rfl) (by exact rfl) (Nat.le_of_ble_eq_true rfl) (by omega) (Nat.le_refl _) ?_
          refine c_thrown ?_
          refine y_iload dL_law_242 (by exact rfl) ?_
          refine y_icmp_eq (tgt := 249) dL_law_244 (by decide) (fun _ => ?_) (fun q9 => absurd (rfl) q9)
          refine y_goto (tgt := 670) dL_law_249 (by decide) ?_
          exact y_at (yl i) ⟨rfl, rfl, rfl, rfl, rfl, trivial⟩ (nx _ _ (by omega) (kp _))
      | 3, _ =>
        refine y_tableIn (tgt := 252) dL_law_39 (by decide) (by decide) (by exact rfl) (by decide) ?_
        have hb8 := hset.1.2.1
        have hb9 := hset.2.1.2.1
        refine y_aload_n dL_law_252 (by exact rfl) ?_
        refine y_aload_n dL_law_253 (by exact rfl) ?_
        refine y_iload dL_law_254 (by exact rfl) ?_
        refine y_iconst dL_law_256 ?_
        refine y_iadd dL_law_257 ?_
        refine y_eI (nI (i + 1)) e1 ?_
        refine y_aI dL_law_258 b1 ?_
        refine y_eI (sx (i + 1)) s1 ?_
        refine y_cS dL_law_259 zk_L_62 (by exact rfl) (Nat.le_of_ble_eq_true rfl) (by omega) (Nat.le_refl _) ?_
        refine c_Lpush hset.1.2.2.2.2.1 hset.2.2.2.2.2.2 (fun p q r => ?_) (fun p q r => ?_) (fun p => ?_)
        · rw [hb8] at p q
          refine y_istore dL_law_262 (by decide) ?_
          refine y_aload_n dL_law_264 (by exact rfl) ?_
          refine y_aload_n dL_law_265 (by exact rfl) ?_
          refine y_iload dL_law_266 (by exact rfl) ?_
          refine y_iconst dL_law_268 ?_
          refine y_iadd dL_law_269 ?_
          refine y_eI (nI (i + 1)) e1 ?_
          refine y_aI dL_law_270 b1 ?_
          refine y_eI (sx (i + 1)) s1 ?_
          refine y_cV dL_law_271 zk_L_64 (by exact rfl) (by exact rfl) (by exact rfl) (Nat.le_of_ble_eq_true rfl) (by omega) (Nat.le_refl _) ?_
          refine c_push9 (n := ms) ((zuI_ne (by omega)).trans ((zuI_ne (by omega)).trans hset.2.1.2.2.2.2.1)) hset.2.2.2.2.2.2 (fun _ _ _ => ?_) (fun _ _ q9 => absurd q9 (by omega)) (fun q9 => absurd (by
            rw [show (zuI (zuI D 4 ms (sx (i + 1))) 0 3 (nI (ms + 1))).1 19 2 = nI bits from (zuI_ne (by omega)).trans ((zuI_ne (by omega)).trans hb9)]
            exact ⟨p, q⟩) q9)
          refine y_aload_n dL_law_274 (by exact rfl) ?_
          refine y_cV dL_law_275 zk_L_52 (by exact rfl) (by exact rfl) (by exact rfl) (Nat.le_of_ble_eq_true rfl) (by omega) (Nat.le_refl _) ?_
          refine c_thrown ?_
          refine y_iload dL_law_278 (by exact rfl) ?_
          refine y_icmp_eq (tgt := 285) dL_law_280 (by decide) (fun _ => ?_) (fun q9 => absurd (rfl) q9)
          refine y_goto (tgt := 670) dL_law_285 (by decide) ?_
          exact y_at (yl i) ⟨rfl, rfl, rfl, rfl, rfl, trivial⟩ (nx _ _ (by omega) (inv_push hI hset p q r))
        · rw [hb8] at p q
          refine y_istore dL_law_262 (by decide) ?_
          refine y_aload_n dL_law_264 (by exact rfl) ?_
          refine y_aload_n dL_law_265 (by exact rfl) ?_
          refine y_iload dL_law_266 (by exact rfl) ?_
          refine y_iconst dL_law_268 ?_
          refine y_iadd dL_law_269 ?_
          refine y_eI (nI (i + 1)) e1 ?_
          refine y_aI dL_law_270 b1 ?_
          refine y_eI (sx (i + 1)) s1 ?_
          refine y_cV dL_law_271 zk_L_64 (by exact rfl) (by exact rfl) (by exact rfl) (Nat.le_of_ble_eq_true rfl) (by omega) (Nat.le_refl _) ?_
          refine c_push9 (n := ms) hset.2.1.2.2.2.2.1 hset.2.2.2.2.2.2 (fun _ _ q9 => absurd q9 (by omega)) (fun _ _ _ => ?_) (fun q9 => absurd (by
            rw [hb9]
            exact ⟨p, q⟩) q9)
          refine y_aload_n dL_law_274 (by exact rfl) ?_
          refine y_cV dL_law_275 zk_L_52 (by exact rfl) (by exact rfl) (by exact rfl) (Nat.le_of_ble_eq_true rfl) (by omega) (Nat.le_refl _) ?_
          refine c_thrown ?_
          refine y_iload dL_law_278 (by exact rfl) ?_
          refine y_icmp_eq (tgt := 285) dL_law_280 (by decide) (fun _ => ?_) (fun q9 => absurd (rfl) q9)
          refine y_goto (tgt := 670) dL_law_285 (by decide) ?_
          exact y_at (yl i) ⟨rfl, rfl, rfl, rfl, rfl, trivial⟩ (nx _ _ (by omega) (kp _))
        · rw [hb8] at p
          refine y_istore dL_law_262 (by decide) ?_
          refine y_aload_n dL_law_264 (by exact rfl) ?_
          refine y_aload_n dL_law_265 (by exact rfl) ?_
          refine y_iload dL_law_266 (by exact rfl) ?_
          refine y_iconst dL_law_268 ?_
          refine y_iadd dL_law_269 ?_
          refine y_eI (nI (i + 1)) e1 ?_
          refine y_aI dL_law_270 b1 ?_
          refine y_eI (sx (i + 1)) s1 ?_
          refine y_cV dL_law_271 zk_L_64 (by exact rfl) (by exact rfl) (by exact rfl) (Nat.le_of_ble_eq_true rfl) (by omega) (Nat.le_refl _) ?_
          refine c_push9 (n := ms) hset.2.1.2.2.2.2.1 hset.2.2.2.2.2.2 (fun a9 b9 _ => absurd (by rw [hb9] at a9 b9; exact ⟨a9, b9⟩) p) (fun a9 b9 _ => absurd (by rw [hb9] at a9 b9; exact ⟨a9, b9⟩) p) (fun _ => ?_)
          refine y_aload_n dL_law_274 (by exact rfl) ?_
          refine y_cV dL_law_275 zk_L_52 (by exact rfl) (by exact rfl) (by exact rfl) (Nat.le_of_ble_eq_true rfl) (by omega) (Nat.le_refl _) ?_
          refine c_thrown ?_
          refine y_iload dL_law_278 (by exact rfl) ?_
          refine y_icmp_eq (tgt := 285) dL_law_280 (by decide) (fun _ => ?_) (fun q9 => absurd (rfl) q9)
          refine y_goto (tgt := 670) dL_law_285 (by decide) ?_
          exact y_at (yl i) ⟨rfl, rfl, rfl, rfl, rfl, trivial⟩ (nx _ _ (by omega) (kp _))
      | j + 4, hj => sorry
    refine y_iload dL_law_23 (by exact rfl) ?_
    refine y_aload_n dL_law_25 (by exact rfl) ?_
    refine y_slen dL_law_26 ?_
    refine y_iconst dL_law_27 ?_
    refine y_isub dL_law_28 ?_
    refine y_eI (iI ((sn : Int) - 5)) e5 ?_
    refine y_icmp_gt (tgt := 676) dL_law_29 (by decide) (fun q9 => absurd q9 ((by
      rw [Int32.lt_iff_toInt_lt, iI_toInt (by omega) (by omega), nI_toInt (by omega)]
      omega))) (fun _ => ?_)
    refine y_aload_n dL_law_32 (by exact rfl) ?_
    refine y_iload dL_law_33 (by exact rfl) ?_
    refine y_aI dL_law_35 b0 ?_
    refine y_eI (sx i) s0 ?_
    refine y_bipush dL_law_36 ?_
    refine y_iand dL_law_38 ?_
    refine y_eI (nI j) ej ?_
    exact y_at (yl i) ⟨rfl, rfl, rfl, rfl, rfl, trivial⟩ hcase
