/-! ===== the reference's isKept ===== -/
theorem lI_and1 {x : Int} : lI x &&& Int64.ofNat ((1 : Fin 2) : Nat) = lI (x % 2) := by
  apply Int64.toBitVec_inj.mp
  apply BitVec.eq_of_toNat_eq
  have e : ∀ y : Int, (lI y).toBitVec.toNat = (y % 18446744073709551616).toNat := fun y => by
    show (BitVec.ofInt 64 y).toNat = _
    rw [BitVec.toNat_ofInt]
    rfl
  rw [Int64.toBitVec_and, BitVec.toNat_and, e, e]
  show (x % 18446744073709551616).toNat &&& 1 = _
  rw [Nat.and_one_is_mod]
  omega
theorem unite_bd {asg ch c i : Nat} {R : zRows} (hasg : (asg < 8 ∧ asg + 1 = ch) ∨ (8 ≤ asg ∧ asg ≤ 10 ∧ ch = 2)) (g : ∀ c, c < ch → smI (R c i)) (hc : c < ch) : bd 134217728 (unite asg R c i) := by
  unfold smI bd at g
  have gc := g c hc
  have sb : asg = 10 → bd 100000000 ((2 * R 0 i + R 1 i % 2 + R 1 i) >>> 1) := fun e => sh1_bd (by
    have g0 := g 0 (by omega)
    have g1 := g 1 (by omega)
    unfold bd
    omega)
  unfold unite bd
  split
  · split
    · have g0 := g 0 (by omega)
      have g1 := g 1 (by omega)
      omega
    · omega
  · split
    · split
      · have g0 := g 0 (by omega)
        have g1 := g 1 (by omega)
        omega
      · omega
    · split
      next e10 =>
        have sb := sb e10
        have g1 := g 1 (by omega)
        unfold bd at sb
        split
        · omega
        · split <;> omega
      · omega
theorem lay_at {ch first n k c : Nat} {U : zRows} {S : zRow} (hc : c < ch) (hk : k < n) : lay ch first n U S ((first + k) * ch + c) = U c k := by
  have h0 : 0 < ch := by omega
  have e1 : ((first + k) * ch + c) / ch = first + k := by
    rw [Nat.mul_comm, Nat.mul_add_div h0, Nat.div_eq_of_lt hc]
    rfl
  have e2 : ((first + k) * ch + c) % ch = c := by
    rw [Nat.mul_comm, Nat.mul_add_mod, Nat.mod_eq_of_lt hc]
  have l1 : first * ch ≤ (first + k) * ch := Nat.mul_le_mul_right _ (by omega)
  have l2 : (first + k + 1) * ch ≤ (first + n) * ch := Nat.mul_le_mul_right _ (by omega)
  rw [Nat.succ_mul] at l2
  unfold lay
  rw [if_pos ⟨by omega, by omega⟩, e1, e2, Nat.add_sub_cancel_left]
def smp9 (D : zD) (S : zRow) (m : Nat) : Prop := ∀ j, j < m → D.1 63 j = iI (S j)
def fK9 (a k : Nat) : Bool := a == 63 || (a == 64 || (a == 19 && k == 39))
theorem c_isKept {d asg n ch bits first : Nat} {D : zD} {Q : zQ} {R : zRows} {S : zRow} (hch : D.1 19 36 = nI ch) (hbi : D.1 19 37 = nI bits) (hc : 1 ≤ ch ∧ ch ≤ 8) (hb : 4 ≤ bits ∧ bits ≤ 24) (hasg : (asg < 8 ∧ asg + 1 = ch) ∨ (8 ≤ asg ∧ asg ≤ 10 ∧ ch = 2)) (hn : n ≤ 256) (hfn : (first + n) * ch ≤ 4096) (hgot : D.1 19 39 = nI (first * ch)) (hR : ∀ c, c < ch → row9 D c (R c) n) (hS : smp9 D S (first * ch))
    (h1 : ∀ D', fitAll ch n bits (unite asg R) → D'.1 19 39 = nI ((first + n) * ch) → smp9 D' (lay ch first n (unite asg R) S) ((first + n) * ch) → zfr fK9 D D' → Q (.inl (some (.int 1))) 0 D') (h0 : ∀ D', ¬ fitAll ch n bits (unite asg R) → zfr fK9 D D' → Q (.inl (some (.int 0))) 0 D') :
    ZM yX9_isKept iX9_isKept (d + 1) [.ref 19, .int (nI asg), .int (nI n)] D Q := by
  refine z_method (by decide) rfl (Nat.le_of_ble_eq_true rfl) ?_
  refine z_at [(0, .ref 19), (1, .int (nI asg)), (2, .int (nI n))] ⟨rfl, rfl, rfl, trivial⟩ ?_
  obtain ⟨U, eU⟩ : ∃ U, U = unite asg R := ⟨_, rfl⟩
  have ea : ∀ k, k < 16 → (nI asg = nI k ↔ asg = k) := fun k hk => nI_eq (by omega) (by omega)
  have hUb : ∀ c i, c < ch → i < n → bd 134217728 (U c i) := fun c i h h' => by
    rw [eU]
    exact unite_bd hasg (fun c hc => (hR c hc i h').2) h
  have hset : ∀ {D1 : zD}, zfr fK9 D D1 → D1.1 19 36 = nI ch ∧ D1.1 19 37 = nI bits := fun hF => ⟨(hF.1 19 36 rfl).trans hch, (hF.1 19 37 rfl).trans hbi⟩
  rw [← eU] at h1 h0
  have inner : ∀ (k : Nat), k < n → (∀ D1 : zD, D1.1 19 39 = nI ((first + (k + 1)) * ch) → smp9 D1 (lay ch first n U S) ((first + (k + 1)) * ch) → (∀ c, c < ch → ∀ i, k + 1 ≤ i → i < n → D1.2 64 (256 * c + i) = lI (R c i)) → (∀ c, c < ch → ∀ i, i < k + 1 → inB bits (U c i)) → zfr fK9 D D1 → Z (zmk iX9_isKept (d + 1)) 0 2 (zl [(0, .ref 19), (1, .int (nI asg)), (2, .int (nI n)), (3, .int (nI (k + 1)))]) [] D1 Q) → (∀ c, c < ch → ∀ i, i < k → inB bits (U c i)) → ∀ (m c : Nat) (D1 : zD), c + m = ch → D1.1 19 39 = nI ((first + k) * ch + c) → smp9 D1 (lay ch first n U S) ((first + k) * ch + c) → (∀ c, c < ch → ∀ i, k + 1 ≤ i → i < n → D1.2 64 (256 * c + i) = lI (R c i)) → (∀ c, c < ch → D1.2 64 (256 * c + k) = lI (U c k)) → (∀ c', c' < c → inB bits (U c' k)) → zfr fK9 D D1 → Z (zmk iX9_isKept (d + 1)) 0 129 (zl [(0, .ref 19), (1, .int (nI asg)), (2, .int (nI n)), (3, .int (nI k)), (8, .int (nI c))]) [] D1 Q := by
    intro k hk next hin0 m
    induction m with
    | zero =>
      intro c D1 hm e1 e2 e3 e4 e5 hF
      have hm : c = ch := by omega
      subst hm
      rw [← Nat.succ_mul] at e1 e2
      refine z_iload dX9_isKept_129 (by exact rfl) ?_
      refine z_aload_n dX9_isKept_131 (by exact rfl) ?_
      refine z_gfI zfx_X9_290 (by exact rfl) dX9_isKept_132 ?_
      refine z_eI (nI c) (hset hF).1 ?_
      refine z_icmp_ge (tgt := 202) dX9_isKept_135 (by decide) (fun _ => ?_) (fun q9 => absurd ((nI_le (Nat.le_refl _) (by omega))) q9)
      refine z_iinc dX9_isKept_202 (by exact rfl) ?_
      refine z_at [(0, .ref 19), (1, .int (nI asg)), (2, .int (nI n)), (3, .int (nI (k + 1)))] ⟨rfl, rfl, rfl, congrArg (fun x => some (Value.int x)) (nI_1 k), trivial⟩ ?_
      refine z_goto (tgt := 2) dX9_isKept_205 (by decide) ?_
      exact next D1 e1 e2 e3 (fun c' hc' i hi => by
        obtain q | q : i = k ∨ i < k := by omega
        · subst q
          exact e5 c' hc'
        · exact hin0 c' hc' i q) hF
    | succ m ih =>
      intro c D1 hm e1 e2 e3 e4 e5 hF
      have cl : (nI (256 * c + k)).toNatClampNeg = 256 * c + k := nI_clamp (by omega)
      have hb9 := hUb c k (by omega) hk
      unfold bd at hb9
      have hlt : (first + k) * ch + c < 4096 := by
        have l2 : (first + k + 1) * ch ≤ (first + n) * ch := Nat.mul_le_mul_right _ (by omega)
        rw [Nat.succ_mul] at l2
        omega
      refine z_iload dX9_isKept_129 (by exact rfl) ?_
      refine z_aload_n dX9_isKept_131 (by exact rfl) ?_
      refine z_gfI zfx_X9_290 (by exact rfl) dX9_isKept_132 ?_
      refine z_eI (nI ch) (hset hF).1 ?_
      refine z_icmp_ge (tgt := 202) dX9_isKept_135 (by decide) (fun q9 => absurd q9 ((nI_ge (a := c) (b := ch) (by omega) (by omega)))) (fun _ => ?_)
      refine z_aload_n dX9_isKept_138 (by exact rfl) ?_
      refine z_gfA zfx_X9_64 (by exact rfl) dX9_isKept_139 ?_
      refine z_sipush dX9_isKept_142 ?_
      refine z_iload dX9_isKept_145 (by exact rfl) ?_
      refine z_imul dX9_isKept_147 ?_
      refine z_iload_n dX9_isKept_148 (by exact rfl) ?_
      refine z_iadd dX9_isKept_149 ?_
      refine z_eI (nI (256 * c + k)) q_ix ?_
      refine z_aJ (by exact rfl) dX9_isKept_150 (vp_in_nI (by omega) (by omega)) ?_
      refine z_eJ (lI (U c k)) (by rw [cl]; exact e4 c (by omega)) ?_
      refine z_aload_n dX9_isKept_151 (by exact rfl) ?_
      refine z_gfI zfx_X9_295 (by exact rfl) dX9_isKept_152 ?_
      refine z_eI (nI bits) (hset hF).2 ?_
      refine z_cS dX9_isKept_155 zk_X9_104 (by exact rfl) (Nat.le_of_ble_eq_true rfl) (Nat.le_of_ble_eq_true rfl) (Nat.le_refl _) ?_
      refine c_fits9 (fun a155 b155 => ?_) (fun n155 => ?_)
      · refine z_if_ne (tgt := 163) dX9_isKept_158 (by decide) (fun _ => ?_) (fun q9 => absurd q9 (by decide))
        refine z_aload_n dX9_isKept_163 (by exact rfl) ?_
        refine z_gfA zfx_X9_61 (by exact rfl) dX9_isKept_164 ?_
        refine z_aload_n dX9_isKept_167 (by exact rfl) ?_
        refine z_gfI zfx_X9_342 (by exact rfl) dX9_isKept_168 ?_
        refine z_eI (nI ((first + k) * ch + c)) e1 ?_
        refine z_aload_n dX9_isKept_171 (by exact rfl) ?_
        refine z_gfA zfx_X9_64 (by exact rfl) dX9_isKept_172 ?_
        refine z_sipush dX9_isKept_175 ?_
        refine z_iload dX9_isKept_178 (by exact rfl) ?_
        refine z_imul dX9_isKept_180 ?_
        refine z_iload_n dX9_isKept_181 (by exact rfl) ?_
        refine z_iadd dX9_isKept_182 ?_
        refine z_eI (nI (256 * c + k)) q_ix ?_
        refine z_aJ (by exact rfl) dX9_isKept_183 (vp_in_nI (by omega) (by omega)) ?_
        refine z_eJ (lI (U c k)) (by rw [cl]; exact e4 c (by omega)) ?_
        refine z_l2i dX9_isKept_184 ?_
        refine z_eI (iI (U c k)) (lI_i (by omega) (by omega)) ?_
        refine z_sI (by exact rfl) dX9_isKept_185 (vp_in_nI hlt (by omega)) ?_
        rw [nI_clamp (n := (first + k) * ch + c) (by omega)]
        refine z_aload_n dX9_isKept_186 (by exact rfl) ?_
        refine z_dup dX9_isKept_187 (by exact rfl) ?_
        refine z_gfI zfx_X9_342 (by exact rfl) dX9_isKept_188 ?_
        refine z_eI (nI ((first + k) * ch + c)) e1 ?_
        refine z_iconst dX9_isKept_191 ?_
        refine z_iadd dX9_isKept_192 ?_
        refine z_eI (nI ((first + k) * ch + (c + 1))) (nI_1 _) ?_
        refine z_pfI zfx_X9_342 (by exact rfl) dX9_isKept_193 ?_
        refine z_iinc dX9_isKept_196 (by exact rfl) ?_
        refine z_at [(0, .ref 19), (1, .int (nI asg)), (2, .int (nI n)), (3, .int (nI k)), (8, .int (nI (c + 1)))] ⟨rfl, rfl, rfl, rfl, congrArg (fun x => some (Value.int x)) (nI_1 c), trivial⟩ ?_
        refine z_goto (tgt := 129) dX9_isKept_199 (by decide) ?_
        exact ih (c + 1) _ (by omega) rfl (fun j hj => by
          obtain q | q : j = (first + k) * ch + c ∨ j < (first + k) * ch + c := by omega
          · subst q
            rw [zuI_ne (by omega), zuI_at, lay_at (by omega) hk]
          · rw [zuI_ne (by omega), zuI_ne (by omega)]
            exact e2 j q) e3 e4 (fun c' hc' => by
          obtain q | q : c' = c ∨ c' < c := by omega
          · subst q
            exact (zlim_in (b := bits) (x := U c' k) (by omega) (by omega) (by omega) (by omega)).mp ⟨a155, b155⟩
          · exact e5 c' q) ((hF.uI _ rfl).uI _ rfl)
      · refine z_if_ne (tgt := 163) dX9_isKept_158 (by decide) (fun q9 => absurd rfl q9) (fun _ => ?_)
        refine z_iconst dX9_isKept_161 ?_
        exact z_zret (st := []) (by decide) rfl dX9_isKept_162 (h0 D1 (fun q => n155 ((zlim_in (b := bits) (x := U c k) (by omega) (by omega) (by omega) (by omega)).mpr (q c (by omega) k hk))) hF)
  have outer : ∀ (m k : Nat) (D1 : zD), k + m = n → D1.1 19 39 = nI ((first + k) * ch) → smp9 D1 (lay ch first n U S) ((first + k) * ch) → (∀ c, c < ch → ∀ i, k ≤ i → i < n → D1.2 64 (256 * c + i) = lI (R c i)) → (∀ c, c < ch → ∀ i, i < k → inB bits (U c i)) → zfr fK9 D D1 → Z (zmk iX9_isKept (d + 1)) 0 2 (zl [(0, .ref 19), (1, .int (nI asg)), (2, .int (nI n)), (3, .int (nI k))]) [] D1 Q := by
    intro m
    induction m with
    | zero =>
      intro k D1 hm e1 e2 e3 e4 hF
      have hm : k = n := by omega
      subst hm
      refine z_iload_n dX9_isKept_2 (by exact rfl) ?_
      refine z_iload_n dX9_isKept_3 (by exact rfl) ?_
      refine z_icmp_ge (tgt := 208) dX9_isKept_4 (by decide) (fun _ => ?_) (fun q9 => absurd ((nI_le (Nat.le_refl _) (by omega))) q9)
      refine z_iconst dX9_isKept_208 ?_
      exact z_zret (st := []) (by decide) rfl dX9_isKept_209 (h1 D1 e4 e1 e2 hF)
    | succ m ih =>
      intro k D1 hm e1 e2 e3 e4 hF
      have hk : k < n := by omega
      have g0 : D1.2 64 k = lI (R 0 k) := by
        have := e3 0 (by omega) k (Nat.le_refl _) hk
        rw [Nat.mul_zero, Nat.zero_add] at this
        exact this
      have clk : (nI k).toNatClampNeg = k := nI_clamp (by omega)
      have cl2 : (nI (256 + k)).toNatClampNeg = 256 + k := nI_clamp (by omega)
      have eix : (Int16.ofInt 256).toInt32 + nI k = nI (256 + k) := nI_add 256 k
      have vk : vp_in (nI k) 2048 := vp_in_nI (by omega) (by omega)
      have vk2 : vp_in (nI (256 + k)) 2048 := vp_in_nI (by omega) (by omega)
      have tl : ∀ (D2 : zD), D2.1 19 39 = nI ((first + k) * ch) → smp9 D2 (lay ch first n U S) ((first + k) * ch) → (∀ c, c < ch → ∀ i, k + 1 ≤ i → i < n → D2.2 64 (256 * c + i) = lI (R c i)) → (∀ c, c < ch → D2.2 64 (256 * c + k) = lI (U c k)) → zfr fK9 D D2 → Z (zmk iX9_isKept (d + 1)) 0 126 (zl [(0, .ref 19), (1, .int (nI asg)), (2, .int (nI n)), (3, .int (nI k))]) [] D2 Q := by
        intro D2 f1 f2 f3 f4 hF2
        refine z_iconst dX9_isKept_126 ?_
        refine z_istore dX9_isKept_127 (Nat.le_of_ble_eq_true rfl) ?_
        exact z_at [(0, .ref 19), (1, .int (nI asg)), (2, .int (nI n)), (3, .int (nI k)), (8, .int (nI 0))] ⟨rfl, rfl, rfl, rfl, rfl, trivial⟩ (inner k hk (fun D3 q1 q2 q3 q4 hF3 => ih (k + 1) D3 (by omega) q1 q2 q3 q4 hF3) e4 ch 0 D2 (by omega) f1 f2 f3 f4 (fun c' hc' => by omega) hF2)
      rcases hasg with ⟨hl, hl2⟩ | ⟨hl1, hl2, hch2⟩
      · have hU : ∀ c i, U c i = R c i := fun c i => by
          rw [eU]
          unfold unite
          rw [if_neg (by omega), if_neg (by omega), if_neg (by omega)]
        have fin : Z (zmk iX9_isKept (d + 1)) 0 39 (zl [(0, .ref 19), (1, .int (nI asg)), (2, .int (nI n)), (3, .int (nI k))]) [] D1 Q := by
          refine z_iload_n dX9_isKept_39 (by exact rfl) ?_
          refine z_bipush dX9_isKept_40 ?_
          refine z_icmp_ne (tgt := 60) dX9_isKept_42 (by decide) (fun _ => ?_) (fun q9 => absurd q9 ((fun q => absurd ((ea 8 (by omega)).mp q) (by omega))))
          refine z_iload_n dX9_isKept_60 (by exact rfl) ?_
          refine z_bipush dX9_isKept_61 ?_
          refine z_icmp_ne (tgt := 77) dX9_isKept_63 (by decide) (fun _ => ?_) (fun q9 => absurd q9 ((fun q => absurd ((ea 9 (by omega)).mp q) (by omega))))
          refine z_iload_n dX9_isKept_77 (by exact rfl) ?_
          refine z_bipush dX9_isKept_78 ?_
          refine z_icmp_ne (tgt := 126) dX9_isKept_80 (by decide) (fun _ => ?_) (fun q9 => absurd q9 ((fun q => absurd ((ea 10 (by omega)).mp q) (by omega))))
          exact tl D1 e1 e2 (fun c hc i hi hi2 => e3 c hc i (by omega) hi2) (fun c hc => by rw [hU]; exact e3 c hc k (Nat.le_refl _) hk) hF
        refine z_iload_n dX9_isKept_2 (by exact rfl) ?_
        refine z_iload_n dX9_isKept_3 (by exact rfl) ?_
        refine z_icmp_ge (tgt := 208) dX9_isKept_4 (by decide) (fun q9 => absurd q9 ((nI_ge (a := k) (b := n) (by omega) (by omega)))) (fun _ => ?_)
        refine z_aload_n dX9_isKept_7 (by exact rfl) ?_
        refine z_gfA zfx_X9_64 (by exact rfl) dX9_isKept_8 ?_
        refine z_iload_n dX9_isKept_11 (by exact rfl) ?_
        refine z_aJ (by exact rfl) dX9_isKept_12 vk ?_
        refine z_lstore dX9_isKept_13 (Nat.le_of_ble_eq_true rfl) ?_
        refine z_aload_n dX9_isKept_15 (by exact rfl) ?_
        refine z_gfI zfx_X9_290 (by exact rfl) dX9_isKept_16 ?_
        refine z_iconst dX9_isKept_19 ?_
        refine z_icmp_le (tgt := 36) dX9_isKept_20 (by decide) (fun c20 => ?_) (fun c20 => ?_)
        · refine z_lconst dX9_isKept_36 ?_
          refine z_lstore dX9_isKept_37 (Nat.le_of_ble_eq_true rfl) ?_
          exact z_at [(0, .ref 19), (1, .int (nI asg)), (2, .int (nI n)), (3, .int (nI k))] ⟨rfl, rfl, rfl, rfl, trivial⟩ fin
        · refine z_aload_n dX9_isKept_23 (by exact rfl) ?_
          refine z_gfA zfx_X9_64 (by exact rfl) dX9_isKept_24 ?_
          refine z_sipush dX9_isKept_27 ?_
          refine z_iload_n dX9_isKept_30 (by exact rfl) ?_
          refine z_iadd dX9_isKept_31 ?_
          refine z_eI (nI (256 + k)) eix ?_
          refine z_aJ (by exact rfl) dX9_isKept_32 vk2 ?_
          refine z_goto (tgt := 37) dX9_isKept_33 (by decide) ?_
          refine z_lstore dX9_isKept_37 (Nat.le_of_ble_eq_true rfl) ?_
          exact z_at [(0, .ref 19), (1, .int (nI asg)), (2, .int (nI n)), (3, .int (nI k))] ⟨rfl, rfl, rfl, rfl, trivial⟩ fin
      · subst hch2
        have g1 : D1.2 64 (256 + k) = lI (R 1 k) := by
          have := e3 1 (by omega) k (Nat.le_refl _) hk
          rw [Nat.mul_one] at this
          exact this
        have b0 := (hR 0 (by omega) k hk).2
        have b1 := (hR 1 (by omega) k hk).2
        unfold smI bd at b0 b1
        have fin : Z (zmk iX9_isKept (d + 1)) 0 39 (zl [(0, .ref 19), (1, .int (nI asg)), (2, .int (nI n)), (3, .int (nI k)), (4, .long (lI (R 0 k))), (6, .long (lI (R 1 k)))]) [] D1 Q := by
          obtain e | e | e : asg = 8 ∨ asg = 9 ∨ asg = 10 := by omega
          · subst e
            refine z_iload_n dX9_isKept_39 (by exact rfl) ?_
            refine z_bipush dX9_isKept_40 ?_
            refine z_icmp_ne (tgt := 60) dX9_isKept_42 (by decide) (fun q9 => absurd (rfl) q9) (fun _ => ?_)
            refine z_aload_n dX9_isKept_45 (by exact rfl) ?_
            refine z_gfA zfx_X9_64 (by exact rfl) dX9_isKept_46 ?_
            refine z_sipush dX9_isKept_49 ?_
            refine z_iload_n dX9_isKept_52 (by exact rfl) ?_
            refine z_iadd dX9_isKept_53 ?_
            refine z_eI (nI (256 + k)) eix ?_
            refine z_lload dX9_isKept_54 (by exact rfl) ?_
            refine z_lload dX9_isKept_56 (by exact rfl) ?_
            refine z_lsub dX9_isKept_58 ?_
            refine z_sJ (by exact rfl) dX9_isKept_59 vk2 ?_
            rw [cl2, lI_sub]
            refine z_iload_n dX9_isKept_60 (by exact rfl) ?_
            refine z_bipush dX9_isKept_61 ?_
            refine z_icmp_ne (tgt := 77) dX9_isKept_63 (by decide) (fun _ => ?_) (fun q9 => absurd q9 ((by decide)))
            refine z_iload_n dX9_isKept_77 (by exact rfl) ?_
            refine z_bipush dX9_isKept_78 ?_
            refine z_icmp_ne (tgt := 126) dX9_isKept_80 (by decide) (fun _ => ?_) (fun q9 => absurd q9 ((by decide)))
            exact z_at [(0, .ref 19), (1, .int (nI 8)), (2, .int (nI n)), (3, .int (nI k))] ⟨rfl, rfl, rfl, rfl, trivial⟩ (tl _ e1 e2 (fun c hc i hi hi2 => (zuL_ne (by omega)).trans (e3 c hc i (by omega) hi2)) (fun c hc => by
              obtain c0 | c0 : c = 0 ∨ c = 1 := by omega
              · subst c0
                rw [zuL_ne (by omega), eU, Nat.mul_zero, Nat.zero_add]
                exact g0
              · subst c0
                rw [eU]
                exact zuL_at _ _ _ _) (hF.uL _ rfl))
          · subst e
            refine z_iload_n dX9_isKept_39 (by exact rfl) ?_
            refine z_bipush dX9_isKept_40 ?_
            refine z_icmp_ne (tgt := 60) dX9_isKept_42 (by decide) (fun _ => ?_) (fun q9 => absurd q9 ((by decide)))
            refine z_iload_n dX9_isKept_60 (by exact rfl) ?_
            refine z_bipush dX9_isKept_61 ?_
            refine z_icmp_ne (tgt := 77) dX9_isKept_63 (by decide) (fun q9 => absurd (rfl) q9) (fun _ => ?_)
            refine z_aload_n dX9_isKept_66 (by exact rfl) ?_
            refine z_gfA zfx_X9_64 (by exact rfl) dX9_isKept_67 ?_
            refine z_iload_n dX9_isKept_70 (by exact rfl) ?_
            refine z_lload dX9_isKept_71 (by exact rfl) ?_
            refine z_lload dX9_isKept_73 (by exact rfl) ?_
            refine z_ladd dX9_isKept_75 ?_
            refine z_sJ (by exact rfl) dX9_isKept_76 vk ?_
            rw [clk, lI_add]
            refine z_iload_n dX9_isKept_77 (by exact rfl) ?_
            refine z_bipush dX9_isKept_78 ?_
            refine z_icmp_ne (tgt := 126) dX9_isKept_80 (by decide) (fun _ => ?_) (fun q9 => absurd q9 ((by decide)))
            exact z_at [(0, .ref 19), (1, .int (nI 9)), (2, .int (nI n)), (3, .int (nI k))] ⟨rfl, rfl, rfl, rfl, trivial⟩ (tl _ e1 e2 (fun c hc i hi hi2 => (zuL_ne (by omega)).trans (e3 c hc i (by omega) hi2)) (fun c hc => by
              obtain c0 | c0 : c = 0 ∨ c = 1 := by omega
              · subst c0
                rw [eU, Nat.mul_zero, Nat.zero_add]
                exact zuL_at _ _ _ _
              · subst c0
                rw [zuL_ne (by omega), eU]
                exact g1) (hF.uL _ rfl))
          · subst e
            refine z_iload_n dX9_isKept_39 (by exact rfl) ?_
            refine z_bipush dX9_isKept_40 ?_
            refine z_icmp_ne (tgt := 60) dX9_isKept_42 (by decide) (fun _ => ?_) (fun q9 => absurd q9 ((by decide)))
            refine z_iload_n dX9_isKept_60 (by exact rfl) ?_
            refine z_bipush dX9_isKept_61 ?_
            refine z_icmp_ne (tgt := 77) dX9_isKept_63 (by decide) (fun _ => ?_) (fun q9 => absurd q9 ((by decide)))
            refine z_iload_n dX9_isKept_77 (by exact rfl) ?_
            refine z_bipush dX9_isKept_78 ?_
            refine z_icmp_ne (tgt := 126) dX9_isKept_80 (by decide) (fun q9 => absurd (rfl) q9) (fun _ => ?_)
            refine z_ldcL dX9_isKept_83 zclx_X9_111 ?_
            refine z_lload dX9_isKept_86 (by exact rfl) ?_
            refine z_lmul dX9_isKept_88 ?_
            refine z_lload dX9_isKept_89 (by exact rfl) ?_
            refine z_lconst dX9_isKept_91 ?_
            refine z_land dX9_isKept_92 ?_
            refine z_ladd dX9_isKept_93 ?_
            refine z_eJ (lI (2 * R 0 k + R 1 k % 2)) (by rw [lI_and1, show (2 : Int64) = lI 2 from rfl, lI_mul, lI_add]) ?_
            refine z_lstore dX9_isKept_94 (Nat.le_of_ble_eq_true rfl) ?_
            refine z_aload_n dX9_isKept_96 (by exact rfl) ?_
            refine z_gfA zfx_X9_64 (by exact rfl) dX9_isKept_97 ?_
            refine z_iload_n dX9_isKept_100 (by exact rfl) ?_
            refine z_lload dX9_isKept_101 (by exact rfl) ?_
            refine z_lload dX9_isKept_103 (by exact rfl) ?_
            refine z_ladd dX9_isKept_105 ?_
            refine z_eJ (lI (2 * R 0 k + R 1 k % 2 + R 1 k)) (lI_add _ _) ?_
            refine z_iconst dX9_isKept_106 ?_
            refine z_lshr dX9_isKept_107 ?_
            refine z_eJ (lI ((2 * R 0 k + R 1 k % 2 + R 1 k) >>> 1)) (lI_shr (s := 1) (by omega) (by omega) (by omega)) ?_
            refine z_sJ (by exact rfl) dX9_isKept_108 vk ?_
            rw [clk]
            refine z_aload_n dX9_isKept_109 (by exact rfl) ?_
            refine z_gfA zfx_X9_64 (by exact rfl) dX9_isKept_110 ?_
            refine z_sipush dX9_isKept_113 ?_
            refine z_iload_n dX9_isKept_116 (by exact rfl) ?_
            refine z_iadd dX9_isKept_117 ?_
            refine z_eI (nI (256 + k)) eix ?_
            refine z_lload dX9_isKept_118 (by exact rfl) ?_
            refine z_lload dX9_isKept_120 (by exact rfl) ?_
            refine z_lsub dX9_isKept_122 ?_
            refine z_eJ (lI (2 * R 0 k + R 1 k % 2 - R 1 k)) (lI_sub _ _) ?_
            refine z_iconst dX9_isKept_123 ?_
            refine z_lshr dX9_isKept_124 ?_
            refine z_eJ (lI ((2 * R 0 k + R 1 k % 2 - R 1 k) >>> 1)) (lI_shr (s := 1) (by omega) (by omega) (by omega)) ?_
            refine z_sJ (by exact rfl) dX9_isKept_125 vk2 ?_
            rw [cl2]
            exact z_at [(0, .ref 19), (1, .int (nI 10)), (2, .int (nI n)), (3, .int (nI k))] ⟨rfl, rfl, rfl, rfl, trivial⟩ (tl _ e1 e2 (fun c hc i hi hi2 => (zuL_ne (by omega)).trans ((zuL_ne (by omega)).trans (e3 c hc i (by omega) hi2))) (fun c hc => by
              obtain c0 | c0 : c = 0 ∨ c = 1 := by omega
              · subst c0
                rw [eU, Nat.mul_zero, Nat.zero_add, zuL_ne (by omega)]
                exact zuL_at _ _ _ _
              · subst c0
                rw [eU]
                refine (zuL_at _ _ _ _).trans ?_
                show _ = lI ((2 * R 0 k + R 1 k % 2 + R 1 k) >>> 1 - R 1 k)
                congr 1
                rw [Int.shiftRight_eq_div_pow, Int.shiftRight_eq_div_pow]
                show (2 * R 0 k + R 1 k % 2 - R 1 k) / 2 = (2 * R 0 k + R 1 k % 2 + R 1 k) / 2 - R 1 k
                omega) ((hF.uL _ rfl).uL _ rfl))
        refine z_iload_n dX9_isKept_2 (by exact rfl) ?_
        refine z_iload_n dX9_isKept_3 (by exact rfl) ?_
        refine z_icmp_ge (tgt := 208) dX9_isKept_4 (by decide) (fun q9 => absurd q9 ((nI_ge (a := k) (b := n) (by omega) (by omega)))) (fun _ => ?_)
        refine z_aload_n dX9_isKept_7 (by exact rfl) ?_
        refine z_gfA zfx_X9_64 (by exact rfl) dX9_isKept_8 ?_
        refine z_iload_n dX9_isKept_11 (by exact rfl) ?_
        refine z_aJ (by exact rfl) dX9_isKept_12 vk ?_
        refine z_eJ (lI (R 0 k)) (by rw [clk]; exact g0) ?_
        refine z_lstore dX9_isKept_13 (Nat.le_of_ble_eq_true rfl) ?_
        refine z_aload_n dX9_isKept_15 (by exact rfl) ?_
        refine z_gfI zfx_X9_290 (by exact rfl) dX9_isKept_16 ?_
        refine z_eI (nI 2) (hset hF).1 ?_
        refine z_iconst dX9_isKept_19 ?_
        refine z_icmp_le (tgt := 36) dX9_isKept_20 (by decide) (fun q9 => absurd q9 ((by decide))) (fun _ => ?_)
        refine z_aload_n dX9_isKept_23 (by exact rfl) ?_
        refine z_gfA zfx_X9_64 (by exact rfl) dX9_isKept_24 ?_
        refine z_sipush dX9_isKept_27 ?_
        refine z_iload_n dX9_isKept_30 (by exact rfl) ?_
        refine z_iadd dX9_isKept_31 ?_
        refine z_eI (nI (256 + k)) eix ?_
        refine z_aJ (by exact rfl) dX9_isKept_32 vk2 ?_
        refine z_eJ (lI (R 1 k)) (by rw [cl2]; exact g1) ?_
        refine z_goto (tgt := 37) dX9_isKept_33 (by decide) ?_
        refine z_lstore dX9_isKept_37 (Nat.le_of_ble_eq_true rfl) ?_
        exact z_at [(0, .ref 19), (1, .int (nI asg)), (2, .int (nI n)), (3, .int (nI k)), (4, .long (lI (R 0 k))), (6, .long (lI (R 1 k)))] ⟨rfl, rfl, rfl, rfl, rfl, rfl, trivial⟩ fin
  refine z_iconst dX9_isKept_0 ?_
  refine z_istore_n dX9_isKept_1 (Nat.le_of_ble_eq_true rfl) ?_
  exact z_at [(0, .ref 19), (1, .int (nI asg)), (2, .int (nI n)), (3, .int (nI 0))] ⟨rfl, rfl, rfl, rfl, trivial⟩ (outer n 0 D (by omega) hgot (fun j hj => by
    unfold lay
    rw [if_neg (fun q => by
      have : j < first * ch := hj
      omega)]
    exact hS j hj) (fun c hc i _ hi => (hR c hc i hi).1) (fun c hc i hi => by omega) zfr.rf)
