/-! ===== Chooser.offerPredicted, choose ===== -/
def isPr (P B nb : Nat) : Prop := (zfc P 3 0 = some (B + 2) ∧ zfc P 3 1 = some 0 ∧ zfc P 3 2 = some 0) ∧ (∃ fl, zSH[P]? = some (5, 3, fl)) ∧ zac B = some (0, nb) ∧ nb ≤ 32 ∧ (¬ P = 13 ∧ ¬ P = 14) ∧ (¬ B = 13 ∧ ¬ B = 14)
theorem isPr_own : isPr 2 3 8 := ⟨⟨rfl, rfl, rfl⟩, ⟨_, rfl⟩, rfl, by omega, by omega, by omega⟩
theorem isPr_fix : isPr 11 12 4 := ⟨⟨rfl, rfl, rfl⟩, ⟨_, rfl⟩, rfl, by omega, by omega, by omega⟩
def fRs (a _ : Nat) : Bool := decide (13 ≤ a) && decide (a ≤ 17)
theorem fRs_T (a k : Nat) (h : fRs a k = false) : fT8 a k = false := by
  unfold fRs at h
  unfold fT8
  simp at h ⊢
  omega
theorem fRs_M (a k : Nat) (h : fRs a k = false) : fM8 a k = false := by
  unfold fRs at h
  unfold fM8
  simp at h ⊢
  omega
theorem fRs_n {a k : Nat} (h : ¬ (13 ≤ a ∧ a ≤ 17)) : fRs a k = false := by
  unfold fRs
  simp
  omega
def fOp (X a k : Nat) : Bool := fRs a k || (a == X && decide (4 ≤ k))
theorem fOp_R (X a k : Nat) (h : fOp X a k = false) : fRs a k = false := or_l h
theorem fOp_X (X a k : Nat) (h : fOp X a k = false) : (a == X && decide (4 ≤ k)) = false := or_r h
theorem fOp_n {X a k : Nat} (h : ¬ (13 ≤ a ∧ a ≤ 17)) (h2 : ¬ a = X ∨ k < 4) : fOp X a k = false := by
  unfold fOp fRs
  simp
  omega
theorem sfW.fr {D D' : zD} {F : Nat → Nat → Bool} {X hd : Nat} {s : Option zWay} (h : sfW D X hd s) (hF : zfr F D D') (g : ∀ k, F X k = false) : sfW D' X hd s := by
  cases s with
  | none => exact (hF.2 X 6 (g 6)).trans h
  | some w => exact ⟨(hF.1 X 4 (g 4)).trans h.1, (hF.1 X 5 (g 5)).trans h.2.1, (hF.2 X 6 (g 6)).trans h.2.2.1, h.2.2.2⟩
theorem sf7.fr {D D' : zD} {F : Nat → Nat → Bool} {X n b w : Nat} (h : sf7 D X n b w) (hF : zfr F D D') (g : ∀ k, k < 4 → F X k = false) : sf7 D' X n b w := ⟨(hF.1 X 1 (g 1 (by omega))).trans h.1, (hF.1 X 2 (g 2 (by omega))).trans h.2.1, (hF.1 X 3 (g 3 (by omega))).trans h.2.2⟩
theorem rsU_bd {pr : zPr} {o n : Nat} {a : zRow} (h : rsOk pr o n a) : ∀ i, o ≤ i → i < n → rsU pr o a i < 4294967296 := fun i h1 h2 => fd_bd (h i h1 h2)
theorem c_offerPredicted {d X P B nb n c w o s t hd ex : Nat} {cs : Nat → Int} {D : zD} {Q : zQ} {a : zRow} {s0 : Option zWay} (hX : isSf X) (hP : isPr P B nb) (hPX : ¬ P = X ∧ ¬ B = X) (hn : n ≤ 256) (hc : c ≤ 25) (hs : sf7 D X n c w) (ha : row8 D (X + 1) a n) (hp : pred8 D P B o s cs) (hsh : s ≤ 15) (ho : o ≤ nb) (hon : o ≤ n) (hhd : hd + ex ≤ 1000000) (h0 : sfW D X hd s0)
    (hq : ∀ D', sfW D' X hd (zif (rsOk (s, cs) o n a) (off t (bq (rsU (s, cs) o a) n o) (ex + o * c + lc (rsU (s, cs) o a) n o) s0) s0) → zfr (fOp X) D D' → Q (.inl none) 0 D') :
    ZM yX0_offerPredicted iX0_offerPredicted (d + 3) [.ref 10, .ref X, .int (nI t), .int (nI (hd + ex)), .ref P] D Q := by
  obtain ⟨⟨x0, x1, x2, x3, x4, x5, x6⟩, hr, ⟨fl, hfl⟩, hl⟩ := id hX
  obtain ⟨⟨p0, p1, p2⟩, hPs, hB, hnb, hPn, hBn⟩ := hP
  refine z_method (by decide) rfl (Nat.le_of_ble_eq_true rfl) ?_
  refine z_at [(0, .ref 10), (1, .ref X), (2, .int (nI t)), (3, .int (nI (hd + ex))), (4, .ref P)] ⟨rfl, rfl, rfl, rfl, rfl, trivial⟩ ?_
  have oc : o * c ≤ 32 * 25 := Nat.mul_le_mul (by omega) hc
  have good : ∀ (D1 : zD), rsOk (s, cs) o n a → D1.1 13 1 = nI n → D1.1 13 2 = nI o → (∀ i, o ≤ i → i < n → D1.2 14 i = lN (rsU (s, cs) o a i)) → zfr fT8 D D1 → Z (zmk iX0_offerPredicted (d + 3)) 0 20 (zl [(0, .ref 10), (1, .ref X), (2, .int (nI t)), (3, .int (nI (hd + ex))), (4, .ref P)]) [] D1 Q := by
    intro D1 hok g1 g2 g3 hf1
    have hub := rsU_bd hok
    refine z_aload_n dX0_offerPredicted_20 (by exact rfl) ?_
    refine z_gfA zfx_X0_23 (by exact rfl) dX0_offerPredicted_21 ?_
    refine z_cV dX0_offerPredicted_24 zk_X0_68 (by exact rfl) (by exact rfl) (by exact rfl) (Nat.le_of_ble_eq_true rfl) (Nat.le_of_ble_eq_true rfl) (Nat.le_refl _) ?_
    refine c_measure8 g1 g2 hn hon (fun i a b => ⟨g3 i a b, hub i a b⟩) (fun D2 hv g6 g7 g8 hf2 => ?_)
    have hF2 : zfr fRs D D2 := (hf1.wk fRs_T).tr (hf2.wk fRs_M)
    have hlb := pcs_bd hv hn hub (Nat.le_refl _)
    have hlc : lc (rsU (s, cs) o a) n o < 20000000000000 := hlb
    refine z_aload_n dX0_offerPredicted_27 (by exact rfl) ?_
    refine z_iload_n dX0_offerPredicted_28 (by exact rfl) ?_
    refine z_iload_n dX0_offerPredicted_29 (by exact rfl) ?_
    refine z_aload dX0_offerPredicted_30 (by exact rfl) ?_
    refine z_gfI zfx_X0_57 p1 dX0_offerPredicted_32 ?_
    refine z_eI (nI o) ((hF2.1 P 1 (fRs_n (by
      intro q
      have : P = 15 ∨ P = 16 ∨ P = 17 := by omega
      rcases this with h | h | h <;> rw [h] at p1 <;> exact absurd p1 (by decide)))).trans hp.1) ?_
    refine z_aload_n dX0_offerPredicted_35 (by exact rfl) ?_
    refine z_gfI zfx_X0_40 x2 dX0_offerPredicted_36 ?_
    refine z_eI (nI c) ((hF2.1 X 2 (fRs_n (by omega))).trans hs.2.1) ?_
    refine z_imul dX0_offerPredicted_39 ?_
    refine z_eI (nI (o * c)) (pk_mul _ _) ?_
    refine z_iadd dX0_offerPredicted_40 ?_
    refine z_eI (nI (hd + ex + o * c)) (nI_add _ _) ?_
    refine z_i2l dX0_offerPredicted_41 ?_
    refine z_eJ (lN (hd + ex + o * c)) (nI_l (by omega)) ?_
    refine z_aload_n dX0_offerPredicted_42 (by exact rfl) ?_
    refine z_gfA zfx_X0_23 (by exact rfl) dX0_offerPredicted_43 ?_
    refine z_gfL zfx_X0_71 (by exact rfl) dX0_offerPredicted_46 ?_
    refine z_eJ (lN (lc (rsU (s, cs) o a) n o)) g7 ?_
    refine z_ladd dX0_offerPredicted_49 ?_
    refine z_eJ (lN (hd + (ex + o * c + lc (rsU (s, cs) o a) n o))) (by
      rw [lN_add]
      congr 1
      omega) ?_
    refine z_aload_n dX0_offerPredicted_50 (by exact rfl) ?_
    refine z_gfA zfx_X0_23 (by exact rfl) dX0_offerPredicted_51 ?_
    refine z_gfI zfx_X0_75 (by exact rfl) dX0_offerPredicted_54 ?_
    refine z_eI (iI ((bq (rsU (s, cs) o a) n o : Nat) : Int)) (by rw [g6, iI_N]) ?_
    refine z_cV dX0_offerPredicted_57 zk_X0_43 (by exact rfl) hfl (by exact rfl) (Nat.le_of_ble_eq_true rfl) (Nat.le_of_ble_eq_true rfl) (Nat.le_refl _) ?_
    refine c_offer7 (t := t) hX (by omega) (h0.fr hF2 (fun k => fRs_n (by omega))) (fun D3 hw3 hf3 => ?_)
    exact z_vret (st := []) rfl dX0_offerPredicted_60 (hq D3 (by rw [zif_p hok]; exact hw3) ((hF2.wk (fOp_R X)).tr (hf3.wk (fOp_X X))))
  refine z_aload_n dX0_offerPredicted_0 (by exact rfl) ?_
  refine z_gfA zfx_X0_23 (by exact rfl) dX0_offerPredicted_1 ?_
  refine z_aload_n dX0_offerPredicted_4 (by exact rfl) ?_
  refine z_gfA zfx_X0_60 x0 dX0_offerPredicted_5 ?_
  refine z_aload_n dX0_offerPredicted_8 (by exact rfl) ?_
  refine z_gfI zfx_X0_47 x1 dX0_offerPredicted_9 ?_
  refine z_eI (nI n) hs.1 ?_
  refine z_aload dX0_offerPredicted_12 (by exact rfl) ?_
  refine z_cV dX0_offerPredicted_14 zk_X0_64 (by exact rfl) (by exact rfl) (by exact rfl) (Nat.le_of_ble_eq_true rfl) (Nat.le_of_ble_eq_true rfl) (Nat.le_refl _) ?_
  refine c_resTake p0 p1 p2 hPs hB hr hPn hBn (by omega) hp hsh ho hnb hon hn ha (fun D1 hok g1 g2 g3 hf1 => ?_) (fun D1 hno hf1 => ?_)
  · refine z_if_eq (tgt := 60) dX0_offerPredicted_17 (by decide) (fun q9 => absurd q9 ((by decide))) (fun _ => ?_)
    exact good D1 hok g1 g2 g3 hf1
  · refine z_if_eq (tgt := 60) dX0_offerPredicted_17 (by decide) (fun _ => ?_) (fun q9 => absurd (rfl) q9)
    exact z_vret (st := []) rfl dX0_offerPredicted_60 (hq D1 (by
      rw [zif_n hno]
      exact h0.fr (hf1.wk fRs_T) (fun k => fRs_n (by omega))) ((hf1.wk fRs_T).wk (fOp_R X)))
