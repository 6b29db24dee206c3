/-! ===== the reference's readFrame ===== -/
theorem sHeader_b {β : Type} (T : Nat → Bool) (e ch fr n : Nat) (K : Nat → RS β) : rbind (sHeader T e ch fr n) K = (rbind (rit T e 14 (kEq 16382)) fun _ => rbind (rit T e 2 (kEq 0)) fun _ => rbind (rit T e 4 (kEq 6)) fun _ => rbind (rit T e 4 (kEq 0)) fun _ => rbind (rit T e 4 (kAsg ch)) fun asg => rbind (rit T e 4 (kEq 0)) fun _ => rbind (sNumber T e fr) fun _ => rbind (rit T e 8 (fun v => if v + 1 = n then 0 else 4)) fun _ => K asg) := by
  unfold sHeader
  refine (rassoc _ _ _).trans (congrArg (rbind (rit T e 14 (kEq 16382))) (funext fun _ => ?_))
  refine (rassoc _ _ _).trans (congrArg (rbind (rit T e 2 (kEq 0))) (funext fun _ => ?_))
  refine (rassoc _ _ _).trans (congrArg (rbind (rit T e 4 (kEq 6))) (funext fun _ => ?_))
  refine (rassoc _ _ _).trans (congrArg (rbind (rit T e 4 (kEq 0))) (funext fun _ => ?_))
  refine (rassoc _ _ _).trans (congrArg (rbind (rit T e 4 (kAsg ch))) (funext fun asg => ?_))
  refine (rassoc _ _ _).trans (congrArg (rbind (rit T e 4 (kEq 0))) (funext fun _ => ?_))
  refine (rassoc _ _ _).trans (congrArg (rbind (sNumber T e fr)) (funext fun _ => ?_))
  refine (rassoc _ _ _).trans (congrArg (rbind (rit T e 8 (fun v => if v + 1 = n then 0 else 4))) (funext fun _ => ?_))
  exact rpure_b asg K
noncomputable def gF9 (T : Nat → Bool) (e ch bits n p0 asg : Nat) (R : zRows) : RS zRows := rbind (fun p => rit T e ((8 - p % 8) % 8) (kEq 0) p) fun _ => fun p =>
  rbind (sSum T e 16 (p0 / 8)) (fun _ q => zif (fitAll ch n bits (unite asg R)) (.inr (unite asg R, q)) (.inl (4, p))) p
noncomputable def gS9 (T : Nat → Bool) (e ch bits n p0 asg : Nat) : RS zRows := rbind (sSum T e 8 (p0 / 8)) fun _ => rbind (sRows T e n bits asg 0 ch (fun _ _ => 0)) (gF9 T e ch bits n p0 asg)
theorem sFrame_b (T : Nat → Bool) (e ch bits fr n p0 : Nat) : sFrame T e ch bits fr n p0 = rbind (sHeader T e ch fr n) (gS9 T e ch bits n p0) p0 := by
  unfold sFrame gS9 gF9
  rfl
theorem gF9_p {T : Nat → Bool} {e ch bits n p0 asg p : Nat} {R : zRows} {sp : RT zRows} (h : gF9 T e ch bits n p0 asg R p = sp) : rbind (rit T e ((8 - p % 8) % 8) (kEq 0)) (fun _ => fun p => rbind (sSum T e 16 (p0 / 8)) (fun _ q => zif (fitAll ch n bits (unite asg R)) (.inr (unite asg R, q)) (.inl (4, p))) p) p = sp := by
  rw [← h]
  unfold gF9
  exact rbind_c rfl
theorem sRows_s {β : Type} (T : Nat → Bool) (e n bits asg c m : Nat) (R : zRows) (G : zRows → RS β) : rbind (sRows T e n bits asg c (m + 1) R) G = rbind (sSub T e n (bits + if side asg c = true then 1 else 0)) (fun a => rbind (sRows T e n bits asg (c + 1) m (fun j => if j = c then a else R j)) G) := by
  unfold sRows
  rw [rloop, rassoc, rassoc]
  rfl
theorem int_nI (x : Int32) : ∃ w, x = nI w := ⟨x.toBitVec.toNat, by
  apply Int32.toBitVec_inj.mp
  show _ = BitVec.ofNat 32 _
  rw [BitVec.ofNat_toNat]
  simp⟩
theorem kAsg_0 {ch a : Nat} (hc : 1 ≤ ch ∧ ch ≤ 8) (h : kAsg ch a = 0) : (a < 8 ∧ a + 1 = ch) ∨ (8 ≤ a ∧ a ≤ 10 ∧ ch = 2) := by
  unfold kAsg at h
  split at h
  · omega
  · cases h
theorem q_pad9 {p : Nat} (hp : p < 2 ^ 30) : (8 : Int64) - lN (p % 8) - ((8 : Int64) - lN (p % 8)) / 8 * 8 = lN ((8 - p % 8) % 8) := by
  rw [show (8 : Int64) - lN (p % 8) = lN (8 - p % 8) from lN_sub (a := 8) (b := p % 8) (by omega)]
  exact q_lrem8 (p := 8 - p % 8) (by omega)
theorem row9.fr {D D' : zD} {F : Nat → Nat → Bool} {c n : Nat} {a : zRow} (h : row9 D c a n) (hF : zfr F D D') (hn : ∀ i, i < n → F 64 (256 * c + i) = false) : row9 D' c a n := fun i hi => by
  rw [hF.2 64 _ (hn i hi)]
  exact h i hi
def fG9 (a k : Nat) : Bool := fW9 a k || (a == 61 || a == 64)
def fF9 (a k : Nat) : Bool := fG9 a k || fK9 a k
theorem fG9_9 (a k : Nat) (h : fG9 a k = false) : f9 a k = false := or_l (or_l h)
theorem fG9_L (c a k : Nat) (h : fG9 a k = false) : fL9 c a k = false := by
  have h1 := or_l h
  have h2 := or_r h
  unfold fL9
  rw [h1]
  simp at h2 ⊢
  omega
theorem fF9_G (a k : Nat) (h : fF9 a k = false) : fG9 a k = false := or_l h
theorem fF9_K (a k : Nat) (h : fF9 a k = false) : fK9 a k = false := or_r h
theorem fF9_9 (a k : Nat) (h : fF9 a k = false) : f9 a k = false := fG9_9 a k (or_l h)
theorem c_isKeptB {d asg n ch bits first : Nat} {D : zD} {Q : zQ} {R : zRows} {S : zRow} (hch : D.1 19 36 = nI ch) (hbi : D.1 19 37 = nI bits) (hc : 1 ≤ ch ∧ ch ≤ 8) (hb : 4 ≤ bits ∧ bits ≤ 24) (hasg : (asg < 8 ∧ asg + 1 = ch) ∨ (8 ≤ asg ∧ asg ≤ 10 ∧ ch = 2)) (hn : n ≤ 256) (hfn : (first + n) * ch ≤ 4096) (hgot : D.1 19 39 = nI (first * ch)) (hR : ∀ c, c < ch → row9 D c (R c) n) (hS : smp9 D S (first * ch))
    (hq : ∀ D' (b : Bool), (b = true → fitAll ch n bits (unite asg R) ∧ D'.1 19 39 = nI ((first + n) * ch) ∧ smp9 D' (lay ch first n (unite asg R) S) ((first + n) * ch)) → (b = false → ¬ fitAll ch n bits (unite asg R)) → zfr fK9 D D' → Q (.inl (some (.int (nI b.toNat)))) 0 D') :
    ZM yX9_isKept iX9_isKept (d + 1) [.ref 19, .int (nI asg), .int (nI n)] D Q :=
  c_isKept hch hbi hc hb hasg hn hfn hgot hR hS (fun D' h1 h2 h3 h4 => hq D' true (fun _ => ⟨h1, h2, h3⟩) (fun q => by cases q) h4) (fun D' h1 h2 => hq D' false (fun q => by cases q) (fun _ => h1) h2)
theorem c_readFrame9 {d p0 sz ch bits block fr n : Nat} {D : zD} {T : Nat → Bool} {Q : zQ} {sp : RT zRows} {S : zRow} (hch : D.1 19 36 = nI ch) (hbi : D.1 19 37 = nI bits) (hc : 1 ≤ ch ∧ ch ≤ 8) (hb : 4 ≤ bits ∧ bits ≤ 24) (hfr : fr < 256) (hn : 1 ≤ n ∧ n ≤ 256) (hfn : (fr * block + n) * ch ≤ 4096) (hp8 : p0 % 8 = 0) (hR : rd9 D T sz p0) (hgot : D.1 19 39 = nI (fr * block * ch)) (hS : smp9 D S (fr * block * ch)) (hK : sFrame T (8 * sz) ch bits fr n p0 = sp)
    (hq : ∀ D', ((∃ U q, sp = .inr (U, q) ∧ rd9 D' T sz q ∧ q % 8 = 0 ∧ D'.1 19 39 = nI ((fr * block + n) * ch) ∧ smp9 D' (lay ch (fr * block) n U S) ((fr * block + n) * ch)) ∨ (∃ k pl, bad9 D' k pl ∧ sp = .inl (k, pl))) → zfr fF9 D D' → Q (.inl none) 0 D') :
    ZM yX9_readFrame iX9_readFrame (d + 6) [.ref 19, .int (nI fr), .int (nI n)] D Q := by
  refine z_method (by decide) rfl (Nat.le_of_ble_eq_true rfl) ?_
  refine z_at [(0, .ref 19), (1, .int (nI fr)), (2, .int (nI n))] ⟨rfl, rfl, rfl, trivial⟩ ?_
  have hsz : sz ≤ 20000 := hR.2.1
  have hpb : p0 < 2 ^ 40 ∧ p0 / 8 < 2 ^ 31 := by
    have := hR.2.2.2.1
    omega
  have wk : ∀ {X Y : zD}, zfr f9 X Y → zfr fG9 X Y := fun h => h.wk fG9_9
  have wf : ∀ {X Y : zD}, zfr fG9 X Y → zfr fF9 X Y := fun h => h.wk fF9_G
  have hset : ∀ {D1 : zD}, zfr fG9 D D1 → D1.1 19 36 = nI ch ∧ D1.1 19 37 = nI bits ∧ D1.1 19 39 = nI (fr * block * ch) := fun hF => ⟨(hF.1 19 36 rfl).trans hch, (hF.1 19 37 rfl).trans hbi, (hF.1 19 39 rfl).trans hgot⟩
  have bad2 : ∀ (D1 : zD) (asg k pl : Nat) (x : Int64), bad9 D1 k pl → sp = .inl (k, pl) → zfr fG9 D D1 → Z (zmk iX9_readFrame (d + 6)) 0 218 (zl [(0, .ref 19), (2, .int (nI n)), (3, .long (lN p0)), (7, .int (nI asg))]) [.long x] D1 Q := by
    intro D1 asg k pl x hb1 e hF
    refine z_lstore dX9_readFrame_218 (Nat.le_of_ble_eq_true rfl) ?_
    refine z_aload_n dX9_readFrame_220 (by exact rfl) ?_
    refine z_gfL zfx_X9_267 (by exact rfl) dX9_readFrame_221 ?_
    refine z_lstore dX9_readFrame_224 (Nat.le_of_ble_eq_true rfl) ?_
    refine z_aload_n dX9_readFrame_226 (by exact rfl) ?_
    refine z_lload_n dX9_readFrame_227 (by exact rfl) ?_
    refine z_bipush dX9_readFrame_228 ?_
    refine z_cV dX9_readFrame_230 zk_X9_331 (by exact rfl) (by exact rfl) (by exact rfl) (Nat.le_of_ble_eq_true rfl) (Nat.le_of_ble_eq_true rfl) (Nat.le_refl _) ?_
    refine c_readSum (w := 16) (p0 := p0) (T := T) (sz := sz) (K := fun _ _ => .inr (fun _ _ => 0, 0)) (P := True) (Or.inr rfl) hpb (.inr ⟨k, pl, hb1, e⟩) (fun D2 v h2 hf2 => ?_)
    obtain ⟨k2, pl2, hb2, e2⟩ : ∃ k pl, bad9 D2 k pl ∧ sp = .inl (k, pl) := by
      rcases h2 with ⟨p, _, h9, _⟩ | h9
      · rw [e] at h9
        cases h9
      · exact h9
    refine z_aload_n dX9_readFrame_233 (by exact rfl) ?_
    refine z_gfI zfx_X9_264 (by exact rfl) dX9_readFrame_234 ?_
    refine z_if_ne (tgt := 259) dX9_readFrame_237 (by decide) (fun _ => ?_) (fun q9 => absurd q9 (hb2.z))
    exact z_vret (st := []) rfl dX9_readFrame_259 (hq D2 (.inr ⟨k2, pl2, hb2, e2⟩) (wf (hF.tr (wk hf2))))
  have bad1 : ∀ (D1 : zD) (asg k pl : Nat), bad9 D1 k pl → sp = .inl (k, pl) → zfr fG9 D D1 → Z (zmk iX9_readFrame (d + 6)) 0 191 (zl [(0, .ref 19), (2, .int (nI n)), (3, .long (lN p0)), (7, .int (nI asg))]) [] D1 Q := by
    intro D1 asg k pl hb1 e hF
    refine z_ldcL dX9_readFrame_191 zclx_X9_73 ?_
    refine z_aload_n dX9_readFrame_194 (by exact rfl) ?_
    refine z_gfL zfx_X9_267 (by exact rfl) dX9_readFrame_195 ?_
    refine z_ldcL dX9_readFrame_198 zclx_X9_73 ?_
    refine z_lrem dX9_readFrame_201 q_8 ?_
    refine z_lsub dX9_readFrame_202 ?_
    refine z_ldcL dX9_readFrame_203 zclx_X9_73 ?_
    refine z_lrem dX9_readFrame_206 q_8 ?_
    refine z_l2i dX9_readFrame_207 ?_
    obtain ⟨x, hx⟩ := int_nI (((8 : Int64) - (D1.2 19 32 - D1.2 19 32 / 8 * 8) - ((8 : Int64) - (D1.2 19 32 - D1.2 19 32 / 8 * 8)) / 8 * 8).toInt32)
    refine z_eI (nI x) hx ?_
    refine z_istore dX9_readFrame_208 (Nat.le_of_ble_eq_true rfl) ?_
    refine z_aload_n dX9_readFrame_210 (by exact rfl) ?_
    refine z_iload dX9_readFrame_211 (by exact rfl) ?_
    refine z_lconst dX9_readFrame_213 ?_
    refine z_lconst dX9_readFrame_214 ?_
    refine z_cV dX9_readFrame_215 zk_X9_280 (by exact rfl) (by exact rfl) (by exact rfl) (Nat.le_of_ble_eq_true rfl) (Nat.le_of_ble_eq_true rfl) (Nat.le_refl _) ?_
    refine c_takeInF hb1.f ?_
    exact z_at [(0, .ref 19), (2, .int (nI n)), (3, .long (lN p0)), (7, .int (nI asg))] ⟨rfl, rfl, rfl, rfl, trivial⟩ (bad2 D1 asg k pl _ hb1 e hF)
  have good : ∀ (asg : Nat), ((asg < 8 ∧ asg + 1 = ch) ∨ (8 ≤ asg ∧ asg ≤ 10 ∧ ch = 2)) → ∀ (D1 : zD) (p1 : Nat) (R : zRows), rd9 D1 T sz p1 → (∀ c', c' < ch → row9 D1 c' (R c') n) → gF9 T (8 * sz) ch bits n p0 asg R p1 = sp → zfr fG9 D D1 → Z (zmk iX9_readFrame (d + 6)) 0 191 (zl [(0, .ref 19), (2, .int (nI n)), (3, .long (lN p0)), (7, .int (nI asg))]) [] D1 Q := by
    intro asg hasg D1 p1 R hR1 hRw hK1 hF
    have hp1 : p1 < 2 ^ 30 := by
      have := hR1.2.2.2.1
      omega
    refine z_ldcL dX9_readFrame_191 zclx_X9_73 ?_
    refine z_aload_n dX9_readFrame_194 (by exact rfl) ?_
    refine z_gfL zfx_X9_267 (by exact rfl) dX9_readFrame_195 ?_
    refine z_eJ (lN p1) hR1.2.2.1 ?_
    refine z_ldcL dX9_readFrame_198 zclx_X9_73 ?_
    refine z_lrem dX9_readFrame_201 q_8 ?_
    refine z_eJ (lN (p1 % 8)) (q_lrem8 (by omega)) ?_
    refine z_lsub dX9_readFrame_202 ?_
    refine z_ldcL dX9_readFrame_203 zclx_X9_73 ?_
    refine z_lrem dX9_readFrame_206 q_8 ?_
    refine z_eJ (lN ((8 - p1 % 8) % 8)) (q_pad9 hp1) ?_
    refine z_l2i dX9_readFrame_207 ?_
    refine z_eI (nI ((8 - p1 % 8) % 8)) (lN_i _) ?_
    refine z_istore dX9_readFrame_208 (Nat.le_of_ble_eq_true rfl) ?_
    refine z_aload_n dX9_readFrame_210 (by exact rfl) ?_
    refine z_iload dX9_readFrame_211 (by exact rfl) ?_
    refine z_lconst dX9_readFrame_213 ?_
    refine z_lconst dX9_readFrame_214 ?_
    refine z_cV dX9_readFrame_215 zk_X9_280 (by exact rfl) (by exact rfl) (by exact rfl) (Nat.le_of_ble_eq_true rfl) (Nat.le_of_ble_eq_true rfl) (Nat.le_refl _) ?_
    refine c_takeInP (w := (8 - p1 % 8) % 8) (f := kEq 0) (P := pos9 D1 p1) (by omega) (fun _ => kEq_c (due := 0) (by omega) (by omega)) (.inl ⟨p1, hR1, gF9_p hK1, hR1.pos⟩) (fun D2 v hv h2 hf2 => ?_)
    have hF2 := hF.tr (wk hf2)
    rcases h2 with ⟨p2, hR2, hK2, hP2⟩ | ⟨k2, pl2, hb2, e2⟩
    rotate_left
    · exact z_at [(0, .ref 19), (2, .int (nI n)), (3, .long (lN p0)), (7, .int (nI asg))] ⟨rfl, rfl, rfl, rfl, trivial⟩ (bad2 D2 asg k2 pl2 _ hb2 e2 hF2)
    have hpos2 : pos9 D2 0 := (hP2.1.mv hP2.2.2).eq (by omega)
    refine z_lstore dX9_readFrame_218 (Nat.le_of_ble_eq_true rfl) ?_
    refine z_aload_n dX9_readFrame_220 (by exact rfl) ?_
    refine z_gfL zfx_X9_267 (by exact rfl) dX9_readFrame_221 ?_
    refine z_eJ (lN p2) hR2.2.2.1 ?_
    refine z_lstore dX9_readFrame_224 (Nat.le_of_ble_eq_true rfl) ?_
    refine z_aload_n dX9_readFrame_226 (by exact rfl) ?_
    refine z_lload_n dX9_readFrame_227 (by exact rfl) ?_
    refine z_bipush dX9_readFrame_228 ?_
    refine z_cV dX9_readFrame_230 zk_X9_331 (by exact rfl) (by exact rfl) (by exact rfl) (Nat.le_of_ble_eq_true rfl) (Nat.le_of_ble_eq_true rfl) (Nat.le_refl _) ?_
    refine c_readSum (w := 16) (p0 := p0) (P := True) (Or.inr rfl) hpb (.inl ⟨p2, hR2, hK2, trivial, hpos2⟩) (fun D3 v3 h3 hf3 => ?_)
    have hF3 := hF2.tr (wk hf3)
    refine z_aload_n dX9_readFrame_233 (by exact rfl) ?_
    refine z_gfI zfx_X9_264 (by exact rfl) dX9_readFrame_234 ?_
    refine z_if_ne (tgt := 259) dX9_readFrame_237 (by decide) (fun c237 => ?_) (fun c237 => ?_)
    · exact z_vret (st := []) rfl dX9_readFrame_259 (hq D3 (by
        rcases h3 with ⟨p, hR3, _⟩ | hb3
        · exact absurd hR3.2.2.2.2.1 c237
        · exact .inr hb3) (wf hF3))
    · rcases h3 with ⟨p3, hR3, hK3, hP3⟩ | ⟨k3, pl3, hb3, e3⟩
      rotate_left
      · exact absurd c237 hb3.z
      have h38 : p3 % 8 = 0 := by
        obtain ⟨q, eq, hq1, hq2⟩ := hP3.2
        have : p3 = q := (pk_lEQ (by have := hR3.2.2.2.1; omega) (by omega)).mp (hR3.2.2.1.symm.trans eq)
        omega
      refine z_aload_n dX9_readFrame_240 (by exact rfl) ?_
      refine z_iload dX9_readFrame_241 (by exact rfl) ?_
      refine z_iload_n dX9_readFrame_243 (by exact rfl) ?_
      refine z_cV dX9_readFrame_244 zk_X9_338 (by exact rfl) (by exact rfl) (by exact rfl) (Nat.le_of_ble_eq_true rfl) (Nat.le_of_ble_eq_true rfl) (Nat.le_refl _) ?_
      refine c_isKeptB (bits := bits) (S := S) (hset hF3).1 (hset hF3).2.1 hc hb hasg hn.2 hfn (hset hF3).2.2 (fun c' hc' => (hRw c' hc').fr (hf2.tr hf3) (fun _ _ => rfl)) (fun j hj => (hF3.1 63 j rfl).trans (hS j hj)) (fun D4 b gt gf hf4 => ?_)
      have hF4 : zfr fF9 D D4 := (wf hF3).tr (hf4.wk fF9_K)
      refine z_if_ne (tgt := 259) dX9_readFrame_247 (by decide) (fun c247 => ?_) (fun c247 => ?_)
      · exact z_vret (st := []) rfl dX9_readFrame_259 (by
          have hbt : b = true := by
            cases b with
            | true => rfl
            | false => exact absurd rfl c247
          obtain ⟨g1, g2, g3⟩ := gt hbt
          refine hq D4 (.inl ⟨_, p3, hK3.symm.trans (zif_p g1), ?_, h38, g2, g3⟩) hF4
          exact ⟨(hf4.2 19 33 rfl).trans hR3.1, hR3.2.1, (hf4.2 19 32 rfl).trans hR3.2.2.1, hR3.2.2.2.1, (hf4.1 19 22 rfl).trans hR3.2.2.2.2.1, fun i hi => by
            rw [show D4.2 60 = D3.2 60 from funext fun k => hf4.2 60 k rfl]
            exact hR3.2.2.2.2.2.1 i hi, (hf4.1 19 23 rfl).trans hR3.2.2.2.2.2.2⟩)
      · have hbf : b = false := by
          cases b with
          | false => rfl
          | true => exact absurd c247 (by decide)
        have h422 : D4.1 19 22 = 0 := (hf4.1 19 22 rfl).trans hR3.2.2.2.2.1
        refine z_aload_n dX9_readFrame_250 (by exact rfl) ?_
        refine z_iconst dX9_readFrame_251 ?_
        refine z_lload dX9_readFrame_252 (by exact rfl) ?_
        refine z_cV dX9_readFrame_254 zk_X9_273 (by exact rfl) (by exact rfl) (by exact rfl) (Nat.le_of_ble_eq_true rfl) (Nat.le_of_ble_eq_true rfl) (Nat.le_refl _) ?_
        refine c_wrong (fun _ => ?_) (fun q => absurd h422 q)
        refine z_istore dX9_readFrame_257 (Nat.le_of_ble_eq_true rfl) ?_
        exact z_vret (st := []) rfl dX9_readFrame_259 (hq _ (.inr ⟨4, p2, ⟨rfl, lN_i p2, by omega, by omega⟩, hK3.symm.trans (zif_n (gf hbf))⟩) ((hF4.uI _ rfl).uI _ rfl))
  have lp : ∀ (asg : Nat), asg < 16 → ((asg < 8 ∧ asg + 1 = ch) ∨ (8 ≤ asg ∧ asg ≤ 10 ∧ ch = 2)) → ∀ (m c : Nat) (D1 : zD) (R : zRows), c + m = ch → rs9 D1 T sz (rbind (sRows T (8 * sz) n bits asg c m R) (gF9 T (8 * sz) ch bits n p0 asg)) sp (∀ c', c' < c → row9 D1 c' (R c') n) → zfr fG9 D D1 → Z (zmk iX9_readFrame (d + 6)) 0 120 (zl [(0, .ref 19), (2, .int (nI n)), (3, .long (lN p0)), (7, .int (nI asg)), (10, .int (nI c))]) [] D1 Q := by
    intro asg ha16 hasg m
    induction m with
    | zero =>
      intro c D1 R hm h1 hF
      have hm : c = ch := by omega
      subst hm
      refine z_iload dX9_readFrame_120 (by exact rfl) ?_
      refine z_aload_n dX9_readFrame_122 (by exact rfl) ?_
      refine z_gfI zfx_X9_290 (by exact rfl) dX9_readFrame_123 ?_
      refine z_eI (nI c) (hset hF).1 ?_
      refine z_icmp_ge (tgt := 191) dX9_readFrame_126 (by decide) (fun _ => ?_) (fun q9 => absurd ((nI_le (Nat.le_refl _) (by omega))) q9)
      exact z_at [(0, .ref 19), (2, .int (nI n)), (3, .long (lN p0)), (7, .int (nI asg))] ⟨rfl, rfl, rfl, rfl, trivial⟩ (by
        rcases h1 with ⟨p1, hR1, hK1, hP1⟩ | ⟨k, pl, hb1, e⟩
        · exact good asg hasg D1 p1 R hR1 hP1 hK1 hF
        · exact bad1 D1 asg k pl hb1 e hF)
    | succ m ih =>
      intro c D1 R hm h1 hF
      rw [sRows_s] at h1
      have hbs : 4 ≤ (bits + if side asg c = true then 1 else 0) ∧ (bits + if side asg c = true then 1 else 0) ≤ 25 := by split <;> omega
      have tl : Z (zmk iX9_readFrame (d + 6)) 0 182 (zl [(0, .ref 19), (2, .int (nI n)), (3, .long (lN p0)), (7, .int (nI asg)), (10, .int (nI c))]) [.int (nI (bits + if side asg c = true then 1 else 0)), .int (nI n), .int (nI c), .ref 19] D1 Q := by
        refine z_cV dX9_readFrame_182 zk_X9_335 (by exact rfl) (by exact rfl) (by exact rfl) (Nat.le_of_ble_eq_true rfl) (Nat.le_of_ble_eq_true rfl) (Nat.le_refl _) ?_
        refine c_readRow hsz (by omega) hn hbs h1 (fun D2 a h2 hf2 => ?_)
        refine z_iinc dX9_readFrame_185 (by exact rfl) ?_
        refine z_at [(0, .ref 19), (2, .int (nI n)), (3, .long (lN p0)), (7, .int (nI asg)), (10, .int (nI (c + 1)))] ⟨rfl, rfl, rfl, rfl, congrArg (fun x => some (Value.int x)) (nI_1 c), trivial⟩ ?_
        refine z_goto (tgt := 120) dX9_readFrame_188 (by decide) ?_
        exact ih (c + 1) D2 _ (by omega) (h2.mp (fun _ hp c' hc' => by
          obtain e9 | e9 : c' = c ∨ c' < c := by omega
          · subst e9
            rw [if_pos rfl]
            exact hp.2
          · rw [if_neg (by omega)]
            exact (hp.1 c' e9).fr hf2 (fun i hi => by
              unfold fL9
              have : fW9 64 (256 * c' + i) = false := rfl
              rw [this]
              simp
              omega))) (hF.tr (hf2.wk (fG9_L c)))
      have sd : Z (zmk iX9_readFrame (d + 6)) 0 144 (zl [(0, .ref 19), (2, .int (nI n)), (3, .long (lN p0)), (7, .int (nI asg)), (10, .int (nI c))]) [.int (nI bits), .int (nI n), .int (nI c), .ref 19] D1 Q := by
        rcases hasg with ⟨ha, ha2⟩ | ⟨ha1, ha2, ha3⟩
        · have e0 : (bits + if side asg c = true then 1 else 0) = bits + 0 := by
            unfold side
            rw [if_neg (by simp; omega)]
          rw [e0] at tl
          have ne : ∀ k, 8 ≤ k → k < 16 → ¬ nI asg = nI k := fun k h1 h2 q => by
            have := (nI_eq (a := asg) (b := k) (by omega) (by omega)).mp q
            omega
          refine z_iload dX9_readFrame_144 (by exact rfl) ?_
          refine z_bipush dX9_readFrame_146 ?_
          refine z_icmp_ne (tgt := 156) dX9_readFrame_148 (by decide) (fun _ => ?_) (fun q9 => absurd q9 ((ne 9 (by omega) (by omega))))
          refine z_iload dX9_readFrame_156 (by exact rfl) ?_
          refine z_bipush dX9_readFrame_158 ?_
          refine z_icmp_eq (tgt := 170) dX9_readFrame_160 (by decide) (fun q9 => absurd q9 ((ne 8 (by omega) (by omega)))) (fun _ => ?_)
          refine z_iload dX9_readFrame_163 (by exact rfl) ?_
          refine z_bipush dX9_readFrame_165 ?_
          refine z_icmp_ne (tgt := 180) dX9_readFrame_167 (by decide) (fun _ => ?_) (fun q9 => absurd q9 ((ne 10 (by omega) (by omega))))
          refine z_iconst dX9_readFrame_180 ?_
          refine z_iadd dX9_readFrame_181 ?_
          refine z_eI (nI (bits + 0)) (nI_add _ 0) ?_
          exact tl
        · subst ha3
          obtain e | e | e : asg = 8 ∨ asg = 9 ∨ asg = 10 := by omega
          · subst e
            obtain e | e : c = 0 ∨ c = 1 := by omega
            · subst e
              refine z_iload dX9_readFrame_144 (by exact rfl) ?_
              refine z_bipush dX9_readFrame_146 ?_
              refine z_icmp_ne (tgt := 156) dX9_readFrame_148 (by decide) (fun _ => ?_) (fun q9 => absurd q9 ((by decide)))
              refine z_iload dX9_readFrame_156 (by exact rfl) ?_
              refine z_bipush dX9_readFrame_158 ?_
              refine z_icmp_eq (tgt := 170) dX9_readFrame_160 (by decide) (fun _ => ?_) (fun q9 => absurd (rfl) q9)
              refine z_iload dX9_readFrame_170 (by exact rfl) ?_
              refine z_iconst dX9_readFrame_172 ?_
              refine z_icmp_ne (tgt := 180) dX9_readFrame_173 (by decide) (fun _ => ?_) (fun q9 => absurd q9 ((by decide)))
              refine z_iconst dX9_readFrame_180 ?_
              refine z_iadd dX9_readFrame_181 ?_
              refine z_eI (nI (bits + 0)) (nI_add _ 0) ?_
              exact tl
            · subst e
              refine z_iload dX9_readFrame_144 (by exact rfl) ?_
              refine z_bipush dX9_readFrame_146 ?_
              refine z_icmp_ne (tgt := 156) dX9_readFrame_148 (by decide) (fun _ => ?_) (fun q9 => absurd q9 ((by decide)))
              refine z_iload dX9_readFrame_156 (by exact rfl) ?_
              refine z_bipush dX9_readFrame_158 ?_
              refine z_icmp_eq (tgt := 170) dX9_readFrame_160 (by decide) (fun _ => ?_) (fun q9 => absurd (rfl) q9)
              refine z_iload dX9_readFrame_170 (by exact rfl) ?_
              refine z_iconst dX9_readFrame_172 ?_
              refine z_icmp_ne (tgt := 180) dX9_readFrame_173 (by decide) (fun q9 => absurd (rfl) q9) (fun _ => ?_)
              refine z_iconst dX9_readFrame_176 ?_
              refine z_goto (tgt := 181) dX9_readFrame_177 (by decide) ?_
              refine z_iadd dX9_readFrame_181 ?_
              refine z_eI (nI (bits + 1)) (nI_add _ 1) ?_
              exact tl
          · subst e
            obtain e | e : c = 0 ∨ c = 1 := by omega
            · subst e
              refine z_iload dX9_readFrame_144 (by exact rfl) ?_
              refine z_bipush dX9_readFrame_146 ?_
              refine z_icmp_ne (tgt := 156) dX9_readFrame_148 (by decide) (fun q9 => absurd (rfl) q9) (fun _ => ?_)
              refine z_iload dX9_readFrame_151 (by exact rfl) ?_
              refine z_if_eq (tgt := 176) dX9_readFrame_153 (by decide) (fun _ => ?_) (fun q9 => absurd (rfl) q9)
              refine z_iconst dX9_readFrame_176 ?_
              refine z_goto (tgt := 181) dX9_readFrame_177 (by decide) ?_
              refine z_iadd dX9_readFrame_181 ?_
              refine z_eI (nI (bits + 1)) (nI_add _ 1) ?_
              exact tl
            · subst e
              refine z_iload dX9_readFrame_144 (by exact rfl) ?_
              refine z_bipush dX9_readFrame_146 ?_
              refine z_icmp_ne (tgt := 156) dX9_readFrame_148 (by decide) (fun q9 => absurd (rfl) q9) (fun _ => ?_)
              refine z_iload dX9_readFrame_151 (by exact rfl) ?_
              refine z_if_eq (tgt := 176) dX9_readFrame_153 (by decide) (fun q9 => absurd q9 ((by decide))) (fun _ => ?_)
              refine z_iload dX9_readFrame_156 (by exact rfl) ?_
              refine z_bipush dX9_readFrame_158 ?_
              refine z_icmp_eq (tgt := 170) dX9_readFrame_160 (by decide) (fun q9 => absurd q9 ((by decide))) (fun _ => ?_)
              refine z_iload dX9_readFrame_163 (by exact rfl) ?_
              refine z_bipush dX9_readFrame_165 ?_
              refine z_icmp_ne (tgt := 180) dX9_readFrame_167 (by decide) (fun _ => ?_) (fun q9 => absurd q9 ((by decide)))
              refine z_iconst dX9_readFrame_180 ?_
              refine z_iadd dX9_readFrame_181 ?_
              refine z_eI (nI (bits + 0)) (nI_add _ 0) ?_
              exact tl
          · subst e
            obtain e | e : c = 0 ∨ c = 1 := by omega
            · subst e
              refine z_iload dX9_readFrame_144 (by exact rfl) ?_
              refine z_bipush dX9_readFrame_146 ?_
              refine z_icmp_ne (tgt := 156) dX9_readFrame_148 (by decide) (fun _ => ?_) (fun q9 => absurd q9 ((by decide)))
              refine z_iload dX9_readFrame_156 (by exact rfl) ?_
              refine z_bipush dX9_readFrame_158 ?_
              refine z_icmp_eq (tgt := 170) dX9_readFrame_160 (by decide) (fun q9 => absurd q9 ((by decide))) (fun _ => ?_)
              refine z_iload dX9_readFrame_163 (by exact rfl) ?_
              refine z_bipush dX9_readFrame_165 ?_
              refine z_icmp_ne (tgt := 180) dX9_readFrame_167 (by decide) (fun q9 => absurd (rfl) q9) (fun _ => ?_)
              refine z_iload dX9_readFrame_170 (by exact rfl) ?_
              refine z_iconst dX9_readFrame_172 ?_
              refine z_icmp_ne (tgt := 180) dX9_readFrame_173 (by decide) (fun _ => ?_) (fun q9 => absurd q9 ((by decide)))
              refine z_iconst dX9_readFrame_180 ?_
              refine z_iadd dX9_readFrame_181 ?_
              refine z_eI (nI (bits + 0)) (nI_add _ 0) ?_
              exact tl
            · subst e
              refine z_iload dX9_readFrame_144 (by exact rfl) ?_
              refine z_bipush dX9_readFrame_146 ?_
              refine z_icmp_ne (tgt := 156) dX9_readFrame_148 (by decide) (fun _ => ?_) (fun q9 => absurd q9 ((by decide)))
              refine z_iload dX9_readFrame_156 (by exact rfl) ?_
              refine z_bipush dX9_readFrame_158 ?_
              refine z_icmp_eq (tgt := 170) dX9_readFrame_160 (by decide) (fun q9 => absurd q9 ((by decide))) (fun _ => ?_)
              refine z_iload dX9_readFrame_163 (by exact rfl) ?_
              refine z_bipush dX9_readFrame_165 ?_
              refine z_icmp_ne (tgt := 180) dX9_readFrame_167 (by decide) (fun q9 => absurd (rfl) q9) (fun _ => ?_)
              refine z_iload dX9_readFrame_170 (by exact rfl) ?_
              refine z_iconst dX9_readFrame_172 ?_
              refine z_icmp_ne (tgt := 180) dX9_readFrame_173 (by decide) (fun q9 => absurd (rfl) q9) (fun _ => ?_)
              refine z_iconst dX9_readFrame_176 ?_
              refine z_goto (tgt := 181) dX9_readFrame_177 (by decide) ?_
              refine z_iadd dX9_readFrame_181 ?_
              refine z_eI (nI (bits + 1)) (nI_add _ 1) ?_
              exact tl
      refine z_iload dX9_readFrame_120 (by exact rfl) ?_
      refine z_aload_n dX9_readFrame_122 (by exact rfl) ?_
      refine z_gfI zfx_X9_290 (by exact rfl) dX9_readFrame_123 ?_
      refine z_eI (nI ch) (hset hF).1 ?_
      refine z_icmp_ge (tgt := 191) dX9_readFrame_126 (by decide) (fun q9 => absurd q9 ((nI_ge (a := c) (b := ch) (by omega) (by omega)))) (fun _ => ?_)
      refine z_aload_n dX9_readFrame_129 (by exact rfl) ?_
      refine z_gfI zfx_X9_264 (by exact rfl) dX9_readFrame_130 ?_
      refine z_if_ne (tgt := 191) dX9_readFrame_133 (by decide) (fun c133 => ?_) (fun c133 => ?_)
      · exact z_at [(0, .ref 19), (2, .int (nI n)), (3, .long (lN p0)), (7, .int (nI asg))] ⟨rfl, rfl, rfl, rfl, trivial⟩ (by
          rcases h1 with ⟨p1, hR1, hK1, hP1⟩ | ⟨k, pl, hb1, e⟩
          · exact absurd hR1.2.2.2.2.1 c133
          · exact bad1 D1 asg k pl hb1 e hF)
      · refine z_aload_n dX9_readFrame_136 (by exact rfl) ?_
        refine z_iload dX9_readFrame_137 (by exact rfl) ?_
        refine z_iload_n dX9_readFrame_139 (by exact rfl) ?_
        refine z_aload_n dX9_readFrame_140 (by exact rfl) ?_
        refine z_gfI zfx_X9_295 (by exact rfl) dX9_readFrame_141 ?_
        refine z_eI (nI bits) (hset hF).2.1 ?_
        exact sd
  have t110 : ∀ (asg : Nat) (D1 : zD), asg < 16 → rs9 D1 T sz (gS9 T (8 * sz) ch bits n p0 asg) sp (kAsg ch asg = 0 ∧ pos9 D1 0) → zfr f9 D D1 → Z (zmk iX9_readFrame (d + 6)) 0 110 (zl [(0, .ref 19), (2, .int (nI n)), (3, .long (lN p0)), (7, .int (nI asg))]) [] D1 Q := by
    intro asg D1 ha h1 hF
    unfold gS9 at h1
    refine z_aload_n dX9_readFrame_110 (by exact rfl) ?_
    refine z_lload_n dX9_readFrame_111 (by exact rfl) ?_
    refine z_bipush dX9_readFrame_112 ?_
    refine z_cV dX9_readFrame_114 zk_X9_331 (by exact rfl) (by exact rfl) (by exact rfl) (Nat.le_of_ble_eq_true rfl) (Nat.le_of_ble_eq_true rfl) (Nat.le_refl _) ?_
    refine c_readSum (w := 8) (p0 := p0) (Or.inl rfl) hpb h1 (fun D2 v h2 hf2 => ?_)
    have hF2 := wk (hF.tr hf2)
    rcases h2 with ⟨p2, hR2, hK2, hP2⟩ | ⟨k2, pl2, hb2, e2⟩
    · refine z_iconst dX9_readFrame_117 ?_
      refine z_istore dX9_readFrame_118 (Nat.le_of_ble_eq_true rfl) ?_
      exact z_at [(0, .ref 19), (2, .int (nI n)), (3, .long (lN p0)), (7, .int (nI asg)), (10, .int (nI 0))] ⟨rfl, rfl, rfl, rfl, rfl, trivial⟩ (lp asg ha (kAsg_0 hc hP2.1) ch 0 D2 _ (by omega) (.inl ⟨p2, hR2, hK2, fun c' hc' => by omega⟩) hF2)
    refine z_iconst dX9_readFrame_117 ?_
    refine z_istore dX9_readFrame_118 (Nat.le_of_ble_eq_true rfl) ?_
    refine z_iload dX9_readFrame_120 (by exact rfl) ?_
    refine z_aload_n dX9_readFrame_122 (by exact rfl) ?_
    refine z_gfI zfx_X9_290 (by exact rfl) dX9_readFrame_123 ?_
    refine z_eI (nI ch) (hset hF2).1 ?_
    refine z_icmp_ge (tgt := 191) dX9_readFrame_126 (by decide) (fun q9 => absurd q9 ((nI_ge (a := 0) (b := ch) (by omega) (by omega)))) (fun _ => ?_)
    refine z_aload_n dX9_readFrame_129 (by exact rfl) ?_
    refine z_gfI zfx_X9_264 (by exact rfl) dX9_readFrame_130 ?_
    refine z_if_ne (tgt := 191) dX9_readFrame_133 (by decide) (fun _ => ?_) (fun q9 => absurd q9 (hb2.z))
    exact z_at [(0, .ref 19), (2, .int (nI n)), (3, .long (lN p0)), (7, .int (nI asg))] ⟨rfl, rfl, rfl, rfl, trivial⟩ (bad1 D2 asg k2 pl2 hb2 e2 hF2)
  rw [sFrame_b, sHeader_b] at hK
  refine z_aload_n dX9_readFrame_0 (by exact rfl) ?_
  refine z_gfL zfx_X9_267 (by exact rfl) dX9_readFrame_1 ?_
  refine z_eJ (lN p0) hR.2.2.1 ?_
  refine z_lstore_n dX9_readFrame_4 (Nat.le_of_ble_eq_true rfl) ?_
  refine z_aload_n dX9_readFrame_5 (by exact rfl) ?_
  refine z_bipush dX9_readFrame_6 ?_
  refine z_ldcL dX9_readFrame_8 zclx_X9_227 ?_
  refine z_ldcL dX9_readFrame_11 zclx_X9_227 ?_
  refine z_cV dX9_readFrame_14 zk_X9_280 (by exact rfl) (by exact rfl) (by exact rfl) (Nat.le_of_ble_eq_true rfl) (Nat.le_of_ble_eq_true rfl) (Nat.le_refl _) ?_
  refine c_takeInP (w := 14) (P := pos9 D 0) (by omega) (fun _ => kEq_c (due := 16382) (by omega) (by omega)) (.inl ⟨p0, hR, hK, hR.pos.eq (by omega)⟩) (fun D1 v1 hv1 h1 hf1 => ?_)
  refine z_lstore dX9_readFrame_17 (Nat.le_of_ble_eq_true rfl) ?_
  refine z_aload_n dX9_readFrame_19 (by exact rfl) ?_
  refine z_iconst dX9_readFrame_20 ?_
  refine z_lconst dX9_readFrame_21 ?_
  refine z_lconst dX9_readFrame_22 ?_
  refine z_cV dX9_readFrame_23 zk_X9_280 (by exact rfl) (by exact rfl) (by exact rfl) (Nat.le_of_ble_eq_true rfl) (Nat.le_of_ble_eq_true rfl) (Nat.le_refl _) ?_
  refine c_takeInP (w := 2) (by omega) (fun _ => kEq_c (due := 0) (by omega) (by omega)) h1 (fun D2 v2 hv2 h2 hf2 => ?_)
  refine z_lstore dX9_readFrame_26 (Nat.le_of_ble_eq_true rfl) ?_
  refine z_aload_n dX9_readFrame_28 (by exact rfl) ?_
  refine z_iconst dX9_readFrame_29 ?_
  refine z_ldcL dX9_readFrame_30 zclx_X9_115 ?_
  refine z_ldcL dX9_readFrame_33 zclx_X9_115 ?_
  refine z_cV dX9_readFrame_36 zk_X9_280 (by exact rfl) (by exact rfl) (by exact rfl) (Nat.le_of_ble_eq_true rfl) (Nat.le_of_ble_eq_true rfl) (Nat.le_refl _) ?_
  refine c_takeInP (w := 4) (by omega) (fun _ => kEq_c (due := 6) (by omega) (by omega)) h2 (fun D3 v3 hv3 h3 hf3 => ?_)
  refine z_lstore dX9_readFrame_39 (Nat.le_of_ble_eq_true rfl) ?_
  refine z_aload_n dX9_readFrame_41 (by exact rfl) ?_
  refine z_iconst dX9_readFrame_42 ?_
  refine z_lconst dX9_readFrame_43 ?_
  refine z_lconst dX9_readFrame_44 ?_
  refine z_cV dX9_readFrame_45 zk_X9_280 (by exact rfl) (by exact rfl) (by exact rfl) (Nat.le_of_ble_eq_true rfl) (Nat.le_of_ble_eq_true rfl) (Nat.le_refl _) ?_
  refine c_takeInP (w := 4) (by omega) (fun _ => kEq_c (due := 0) (by omega) (by omega)) h3 (fun D4 v4 hv4 h4 hf4 => ?_)
  have hF4 := ((hf1.tr hf2).tr hf3).tr hf4
  refine z_lstore dX9_readFrame_48 (Nat.le_of_ble_eq_true rfl) ?_
  refine z_aload_n dX9_readFrame_50 (by exact rfl) ?_
  refine z_cV dX9_readFrame_51 zk_X9_325 (by exact rfl) (by exact rfl) (by exact rfl) (Nat.le_of_ble_eq_true rfl) (Nat.le_of_ble_eq_true rfl) (Nat.le_refl _) ?_
  refine c_readAssignment (ch := ch) ((hF4.1 19 36 rfl).trans hch) hc h4 (fun D5 asg ha h5 hf5 => ?_)
  refine z_istore dX9_readFrame_54 (Nat.le_of_ble_eq_true rfl) ?_
  refine z_aload_n dX9_readFrame_56 (by exact rfl) ?_
  refine z_iconst dX9_readFrame_57 ?_
  refine z_lconst dX9_readFrame_58 ?_
  refine z_lconst dX9_readFrame_59 ?_
  refine z_cV dX9_readFrame_60 zk_X9_280 (by exact rfl) (by exact rfl) (by exact rfl) (Nat.le_of_ble_eq_true rfl) (Nat.le_of_ble_eq_true rfl) (Nat.le_refl _) ?_
  refine c_takeInP (w := 4) (by omega) (fun _ => kEq_c (due := 0) (by omega) (by omega)) h5 (fun D6 v6 hv6 h6 hf6 => ?_)
  refine z_lstore dX9_readFrame_63 (Nat.le_of_ble_eq_true rfl) ?_
  refine z_aload_n dX9_readFrame_65 (by exact rfl) ?_
  refine z_iload_n dX9_readFrame_66 (by exact rfl) ?_
  refine z_cV dX9_readFrame_67 zk_X9_328 (by exact rfl) (by exact rfl) (by exact rfl) (Nat.le_of_ble_eq_true rfl) (Nat.le_of_ble_eq_true rfl) (Nat.le_refl _) ?_
  refine c_readNumber hfr h6 (fun D7 h7 hf7 => ?_)
  have h7 := h7.mp (P' := pos9 D7 0 ∧ kAsg ch asg = 0) (fun _ hp => by
    obtain ⟨⟨⟨⟨⟨⟨⟨g0, _, m1⟩, _, m2⟩, _, m3⟩, _, m4⟩, ea, m5⟩, _, m6⟩, w, hw8, m7⟩ := hp
    exact ⟨(((((((g0.mv m1).mv m2).mv m3).mv m4).mv m5).mv m6).mv m7).eq (by omega), ea⟩)
  have hF7 := ((hF4.tr hf5).tr hf6).tr hf7
  refine z_aload_n dX9_readFrame_70 (by exact rfl) ?_
  refine z_gfL zfx_X9_267 (by exact rfl) dX9_readFrame_71 ?_
  refine z_lstore dX9_readFrame_74 (Nat.le_of_ble_eq_true rfl) ?_
  refine z_aload_n dX9_readFrame_76 (by exact rfl) ?_
  refine z_bipush dX9_readFrame_77 ?_
  refine z_cV dX9_readFrame_79 zk_X9_277 (by exact rfl) (by exact rfl) (by exact rfl) (Nat.le_of_ble_eq_true rfl) (Nat.le_of_ble_eq_true rfl) (Nat.le_refl _) ?_
  refine c_takeG (w := 8) (by omega) h7 (fun D8 v8 hv8 h8 hf8 => ?_)
  have hF8 := hF7.tr hf8
  have hv9 : v8 < 256 := hv8
  refine z_lstore dX9_readFrame_82 (Nat.le_of_ble_eq_true rfl) ?_
  refine z_aload_n dX9_readFrame_84 (by exact rfl) ?_
  refine z_gfI zfx_X9_264 (by exact rfl) dX9_readFrame_85 ?_
  refine z_if_ne (tgt := 110) dX9_readFrame_88 (by decide) (fun c88 => ?_) (fun c88 => ?_)
  · exact z_at [(0, .ref 19), (2, .int (nI n)), (3, .long (lN p0)), (7, .int (nI asg))] ⟨rfl, rfl, rfl, rfl, trivial⟩ (t110 asg D8 ha (by
      rcases h8 with ⟨p, e1, hR0, hR9, hk, hkn, hP⟩ | hb
      · exact absurd hR9.2.2.2.2.1 c88
      · exact .inr hb) hF8)
  · refine z_lload dX9_readFrame_91 (by exact rfl) ?_
    refine z_iload_n dX9_readFrame_93 (by exact rfl) ?_
    refine z_iconst dX9_readFrame_94 ?_
    refine z_isub dX9_readFrame_95 ?_
    refine z_i2l dX9_readFrame_96 ?_
    refine z_eJ (lN (n - 1)) (by
      rw [show nI n - Int32.ofInt 1 = nI (n - 1) from pk_sub (a := n) (b := 1) hn.1]
      exact nI_l (by omega)) ?_
    refine z_eq (tgt := 110) dX9_readFrame_97 dX9_readFrame_98 (by decide) (fun c97 => ?_) (fun c97 => ?_)
    · exact z_at [(0, .ref 19), (2, .int (nI n)), (3, .long (lN p0)), (7, .int (nI asg))] ⟨rfl, rfl, rfl, rfl, trivial⟩ (t110 asg D8 ha (by
        have e9 : v8 = n - 1 := (pk_lEQ (by omega) (by omega)).mp c97
        rcases h8 with ⟨p, e1, hR0, hR9, hk, hkn, hP⟩ | hb
        · exact .inl ⟨p + 8, hR9, hk (if_pos (by omega)), hP.2, (hP.1.mv (hR0.mv9 hR9)).eq (by omega)⟩
        · exact .inr hb) hF8)
    · refine z_aload_n dX9_readFrame_101 (by exact rfl) ?_
      refine z_iconst dX9_readFrame_102 ?_
      refine z_lload dX9_readFrame_103 (by exact rfl) ?_
      refine z_cV dX9_readFrame_105 zk_X9_273 (by exact rfl) (by exact rfl) (by exact rfl) (Nat.le_of_ble_eq_true rfl) (Nat.le_of_ble_eq_true rfl) (Nat.le_refl _) ?_
      refine c_wrong (fun _ => ?_) (fun q => absurd c88 q)
      refine z_istore dX9_readFrame_108 (Nat.le_of_ble_eq_true rfl) ?_
      exact z_at [(0, .ref 19), (2, .int (nI n)), (3, .long (lN p0)), (7, .int (nI asg))] ⟨rfl, rfl, rfl, rfl, trivial⟩ (t110 asg _ ha (by
        have e9 : ¬ v8 + 1 = n := fun q => c97 ((pk_lEQ (by omega) (by omega)).mpr (by omega))
        rcases h8 with ⟨p, e1, hR0, hR9, hk, hkn, hP⟩ | ⟨k, pl, hb, e⟩
        · have e8 := hkn (by rw [if_neg e9]; decide)
          rw [if_neg e9] at e8
          exact .inr ⟨4, p, ⟨rfl, by rw [← lN_i p, ← e1]; rfl, by omega, by omega⟩, e8⟩
        · exact absurd c88 hb.z) (zfr_fail9 hF8))
