/-! ===== Reader.accepts ===== -/
theorem ra_settings (T : Nat → Bool) (e : Nat) : radv (sSettings T e) 0 := by
  unfold sSettings
  exact ra_eq (ra_bind (ra_it _ _ _ _) fun _ => ra_bind (ra_it _ _ _ _) fun _ => ra_bind (ra_ps _ _) fun _ => ra_bind (ra_ps _ _) fun _ => ra_bind (ra_it _ _ _ _) fun _ => ra_bind (ra_it _ _ _ _) fun _ => ra_bind (ra_it _ _ _ _) fun _ => ra_bind (ra_it _ _ _ _) fun _ => ra_bind (ra_ps _ _) fun _ => ra_pure _) (by decide)
theorem ra_words (T : Nat → Bool) (e : Nat) : ∀ (n l : Nat), radv (sWords T e n l) 0
  | 0, _ => ra_pure _
  | n + 1, l => by
    unfold sWords
    split
    · exact ra_pure _
    · exact ra_eq (ra_bind (d2 := 7 + (24 + 0)) (ra_it _ _ _ _) fun _ => ra_bind (ra_it _ _ _ _) fun _ => ra_bind (d2 := 0) (ra_it _ _ _ _) fun len => ra_eq (ra_bind (ra_ps _ _) fun _ => ra_words T e n _) (by omega)) (by decide)
theorem ra_open (T : Nat → Bool) (e : Nat) : radv (sOpen T e) 0 := by
  unfold sOpen
  exact ra_eq (ra_bind (ra_it _ _ _ _) fun _ => ra_bind (ra_it _ _ _ _) fun _ => ra_bind (ra_it _ _ _ _) fun _ => ra_bind (ra_it _ _ _ _) fun _ => ra_bind (ra_settings _ _) fun _ => ra_bind (ra_words _ _ _ _) fun _ => ra_pure _) (by decide)
theorem nf_lt {f m bl : Nat} (hbl : 0 < bl) : f < (m + bl - 1) / bl ↔ f * bl < m := by
  rw [show (f < (m + bl - 1) / bl) = (f + 1 ≤ (m + bl - 1) / bl) from rfl, Nat.le_div_iff_mul_le hbl, Nat.succ_mul]
  omega
def fAcc (a _ : Nat) : Bool := a == 37 || (a == 39 || (a == 40 || (decide (42 ≤ a) && decide (a ≤ 51))))
theorem fAcc_set (a k : Nat) (h : fAcc a k = false) : fSet a k = false := by
  unfold fAcc at h
  unfold fSet
  simp at h ⊢
  omega
theorem fAcc_fr (a k : Nat) (h : fAcc a k = false) : fFr a k = false := by
  unfold fAcc at h
  unfold fFr fAt
  simp at h ⊢
  omega
theorem zt_X4c : Cond.classLink RX4 89 zISE ∈ lw_tbl := by decide +kernel
theorem c_accepts {d sz : Nat} {D : zD} {T : Nat → Bool} {Q : zQ} (hsz : D.1 37 1 = nI sz) (hsz2 : sz ≤ 20000) (hT : ∀ i, i < 8 * sz → bt8 (D.1 38) i = T i)
    (h1 : ∀ D' st S q, sRead T (8 * sz) 0 = .inr ((st, S), q) → okSet st → set8 D' st → smp8 D' S (st.2.2.2.2 * st.2.2.1) → D'.1 37 1 = 0 → D'.1 37 2 = 0 → D'.1 37 3 = Int32.ofInt (-1) → zfr fAcc D D' → Q (.inl (some (.int 1))) 0 D')
    (h0 : ∀ D' k pl, sRead T (8 * sz) 0 = .inl (k, pl) → D'.1 37 1 = 0 → bad8 D' k pl → zfr fAcc D D' → Q (.inl (some (.int 0))) 1 D') :
    ZM yX4_accepts iX4_accepts (d + 6) [.ref 37] D Q := by
  refine z_method (by decide) rfl (Nat.le_of_ble_eq_true rfl) ?_
  refine z_at [(0, .ref 37)] ⟨rfl, trivial⟩ ?_
  obtain ⟨sp, hsp⟩ : ∃ sp, sp = sRead T (8 * sz) 0 := ⟨_, rfl⟩
  rw [← hsp] at h1 h0
  have hK := hsp.symm
  unfold sRead at hK
  have bad : ∀ (D1 : zD) (k pl pc : Nat) (L : zLo), L 0 = some (.ref 37) → 17 ≤ pc ∧ pc < 85 → sp = .inl (k, pl) → bad8 D1 k pl → zfr fAcc D D1 → ZX (zmk iX4_accepts (d + 6)) 1 pc L zISE D1 Q := by
    intro D1 k pl pc L hL hpc e hb hF
    refine zx_catch (x := (17, 85, 88, 89)) (hs := []) (Or.inr rfl) rfl hpc (by decide) zt_X4c (i := 2) (len := 1) (Or.inl ⟨2, rfl, rfl, dX4_accepts_88⟩) (Nat.le_of_ble_eq_true rfl) ?_
    refine z_at [(0, .ref 37)] ⟨hL, trivial⟩ ?_
    refine z_iconst dX4_accepts_89 ?_
    refine z_istore_n dX4_accepts_90 (Nat.le_of_ble_eq_true rfl) ?_
    refine z_aload_n dX4_accepts_91 (by exact rfl) ?_
    refine z_iconst dX4_accepts_92 ?_
    refine z_pfI zfx_X4_15 (by exact rfl) dX4_accepts_93 ?_
    refine z_iload_n dX4_accepts_96 (by exact rfl) ?_
    exact z_zret (st := []) (by decide) rfl dX4_accepts_97 (h0 _ k pl e rfl hb (hF.uI _ rfl))
  have lp : ∀ (st : zSet), okSet st → ∀ (mm f : Nat) (D1 : zD) (p1 : Nat) (S : zRow), f + mm = (st.2.2.2.2 + st.1 - 1) / st.1 → p1 % 8 = 0 → set8 D1 st → smp8 D1 S (min (f * st.1) st.2.2.2.2 * st.2.2.1) → rd8 D1 T sz p1 → zfr fAcc D D1 → (rbind (rloop (fun f S => rbind (sFrame T (8 * sz) st.2.2.1 st.2.2.2.1 f (min st.1 (st.2.2.2.2 - f * st.1))) fun U => rpure (lay st.2.2.1 (f * st.1) (min st.1 (st.2.2.2.2 - f * st.1)) U S)) f mm S) fun S p => if p = 8 * sz then .inr ((st, S), p) else .inl (2, p)) p1 = sp → Z (zmk iX4_accepts (d + 6)) 0 23 (zl [(0, .ref 37), (1, .int 1), (2, .int (nI f))]) [] D1 Q := by
    rintro ⟨bl, rt, ch, bi, mo⟩ ⟨o1, o2, o3, o4, o5⟩ mm
    simp only at *
    have hmo : mo ≤ 4096 := Nat.le_trans (Nat.le_mul_of_pos_right _ (by omega)) o5
    induction mm with
    | zero =>
      intro f D1 p1 S hm hp8 hs hS hR1 hF hK1
      have hge : ¬ f * bl < mo := fun q => by
        have := (nf_lt (by omega)).mpr q
        omega
      have hfl : f ≤ 4096 := by
        rcases Nat.eq_zero_or_pos f with h | h
        · omega
        · have := (nf_lt (f := f - 1) (m := mo) (bl := bl) (by omega)).mp (by omega)
          have h2 : f - 1 ≤ (f - 1) * bl := Nat.le_mul_of_pos_right _ (by omega)
          omega
      have hfb : f * bl < 2 ^ 21 := by
        have : f * bl ≤ 4096 * 256 := Nat.mul_le_mul hfl o1.2
        omega
      have hmin : min (f * bl) mo = mo := by omega
      rw [hmin] at hS
      have hK2 : (if p1 = 8 * sz then .inr (((bl, rt, ch, bi, mo), S), p1) else .inl (2, p1)) = sp := hK1
      have fin : Z (zmk iX4_accepts (d + 6)) 0 81 (zl [(0, .ref 37), (1, .int 1)]) [] D1 Q := by
        refine z_aload_n dX4_accepts_81 (by exact rfl) ?_
        refine z_cV dX4_accepts_82 zk_X4_86 (by exact rfl) (by exact rfl) (by exact rfl) (Nat.le_of_ble_eq_true rfl) (Nat.le_of_ble_eq_true rfl) (Nat.le_refl _) ?_
        refine c_expectEnd hR1 (fun hp => ?_) (fun D2 hp hb hf => bad D2 2 p1 82 _ rfl (by omega) (by rw [← hK2, if_neg hp]) hb (hF.tr ((hf.wk fFr_at).wk fAcc_fr)))
        refine z_goto (tgt := 91) dX4_accepts_85 (by decide) ?_
        refine z_aload_n dX4_accepts_91 (by exact rfl) ?_
        refine z_iconst dX4_accepts_92 ?_
        refine z_pfI zfx_X4_15 (by exact rfl) dX4_accepts_93 ?_
        refine z_iload_n dX4_accepts_96 (by exact rfl) ?_
        exact z_zret (st := []) (by decide) rfl dX4_accepts_97 (h1 _ (bl, rt, ch, bi, mo) S p1 (by rw [← hK2, if_pos hp]) ⟨o1, o2, o3, o4, o5⟩ hs hS rfl hR1.2.2.2.2.2.1 hR1.2.2.2.2.2.2 (hF.uI _ rfl))
      refine z_iload_n dX4_accepts_23 (by exact rfl) ?_
      refine z_sipush dX4_accepts_24 ?_
      refine z_icmp_ge (tgt := 81) dX4_accepts_27 (by decide) (fun c27 => ?_) (fun c27 => ?_)
      · exact z_at [(0, .ref 37), (1, .int 1)] ⟨rfl, rfl, trivial⟩ fin
      · refine z_iload_n dX4_accepts_30 (by exact rfl) ?_
        refine z_aload_n dX4_accepts_31 (by exact rfl) ?_
        refine z_gfA zfx_X4_28 (by exact rfl) dX4_accepts_32 ?_
        refine z_gfI zfx_X4_70 (by exact rfl) dX4_accepts_35 ?_
        refine z_eI (nI bl) hs.1 ?_
        refine z_imul dX4_accepts_38 ?_
        refine z_eI (nI (f * bl)) (pk_mul _ _) ?_
        refine z_aload_n dX4_accepts_39 (by exact rfl) ?_
        refine z_gfI zfx_X4_73 (by exact rfl) dX4_accepts_40 ?_
        refine z_eI (nI mo) hs.2.2.2.2 ?_
        refine z_icmp_ge (tgt := 81) dX4_accepts_43 (by decide) (fun _ => ?_) (fun q9 => absurd ((nI_le (by omega) (by omega))) q9)
        exact z_at [(0, .ref 37), (1, .int 1)] ⟨rfl, rfl, trivial⟩ fin
    | succ mm ih =>
      intro f D1 p1 S hm hp8 hs hS hR1 hF hK1
      have hlt : f * bl < mo := (nf_lt (by omega)).mp (by omega)
      have hf256 : f < 256 := by
        have : f * 16 ≤ f * bl := Nat.mul_le_mul_left _ o1.1
        omega
      have hmin : min (f * bl) mo = f * bl := by omega
      rw [hmin] at hS
      obtain ⟨n, hn⟩ : ∃ n, n = min bl (mo - f * bl) := ⟨_, rfl⟩
      have hn2 : 1 ≤ n ∧ n ≤ 256 := by omega
      have hfn : f * bl + n = min ((f + 1) * bl) mo := by
        rw [Nat.succ_mul]
        omega
      have hK2 : (rbind (sFrame T (8 * sz) ch bi f n) fun U => rbind (rloop (fun f S => rbind (sFrame T (8 * sz) ch bi f (min bl (mo - f * bl))) fun U => rpure (lay ch (f * bl) (min bl (mo - f * bl)) U S)) (f + 1) mm (lay ch (f * bl) n U S)) fun S p => if p = 8 * sz then .inr (((bl, rt, ch, bi, mo), S), p) else .inl (2, p)) p1 = sp := by
        rw [← hK1, hn]
        show _ = rbind (rbind (rbind _ _) _) _ p1
        rw [rassoc, rassoc]
        rfl
      refine z_iload_n dX4_accepts_23 (by exact rfl) ?_
      refine z_sipush dX4_accepts_24 ?_
      refine z_icmp_ge (tgt := 81) dX4_accepts_27 (by decide) (fun q9 => absurd q9 ((nI_ge (a := f) (b := 256) (by omega) (by omega)))) (fun _ => ?_)
      refine z_iload_n dX4_accepts_30 (by exact rfl) ?_
      refine z_aload_n dX4_accepts_31 (by exact rfl) ?_
      refine z_gfA zfx_X4_28 (by exact rfl) dX4_accepts_32 ?_
      refine z_gfI zfx_X4_70 (by exact rfl) dX4_accepts_35 ?_
      refine z_eI (nI bl) hs.1 ?_
      refine z_imul dX4_accepts_38 ?_
      refine z_eI (nI (f * bl)) (pk_mul _ _) ?_
      refine z_aload_n dX4_accepts_39 (by exact rfl) ?_
      refine z_gfI zfx_X4_73 (by exact rfl) dX4_accepts_40 ?_
      refine z_eI (nI mo) hs.2.2.2.2 ?_
      refine z_icmp_ge (tgt := 81) dX4_accepts_43 (by decide) (fun q9 => absurd q9 ((nI_ge hlt (by omega)))) (fun _ => ?_)
      refine z_aload_n dX4_accepts_46 (by exact rfl) ?_
      refine z_iload_n dX4_accepts_47 (by exact rfl) ?_
      refine z_aload_n dX4_accepts_48 (by exact rfl) ?_
      refine z_gfA zfx_X4_28 (by exact rfl) dX4_accepts_49 ?_
      refine z_gfI zfx_X4_70 (by exact rfl) dX4_accepts_52 ?_
      refine z_eI (nI bl) hs.1 ?_
      refine z_aload_n dX4_accepts_55 (by exact rfl) ?_
      refine z_gfI zfx_X4_73 (by exact rfl) dX4_accepts_56 ?_
      refine z_eI (nI mo) hs.2.2.2.2 ?_
      refine z_iload_n dX4_accepts_59 (by exact rfl) ?_
      refine z_aload_n dX4_accepts_60 (by exact rfl) ?_
      refine z_gfA zfx_X4_28 (by exact rfl) dX4_accepts_61 ?_
      refine z_gfI zfx_X4_70 (by exact rfl) dX4_accepts_64 ?_
      refine z_eI (nI bl) hs.1 ?_
      refine z_imul dX4_accepts_67 ?_
      refine z_eI (nI (f * bl)) (pk_mul _ _) ?_
      refine z_isub dX4_accepts_68 ?_
      refine z_eI (nI (mo - f * bl)) (pk_sub (by omega)) ?_
      refine z_min dX4_accepts_69 zm_X4_76 (Nat.le_of_ble_eq_true rfl) (Nat.le_of_ble_eq_true rfl) ?_
      refine z_eI (nI n) (by
        rw [hn]
        split
        next h =>
          have := (nI_ltI (a := mo - f * bl) (b := bl) (by omega) (by omega)).mp h
          congr 1
          omega
        next h =>
          have : ¬ mo - f * bl < bl := fun q => h (nI_lt q (by omega))
          congr 1
          omega) ?_
      refine z_cV dX4_accepts_72 zk_X4_82 (by exact rfl) (by exact rfl) (by exact rfl) (Nat.le_of_ble_eq_true rfl) (Nat.le_of_ble_eq_true rfl) (Nat.le_refl _) ?_
      refine c_readFrame (sp := sFrame T (8 * sz) ch bi f n p1) hs.2.2.1 hs.2.2.2.1 hs.1 o3 o4 hf256 hn2 (by
        rw [hfn]
        exact Nat.le_trans (Nat.mul_le_mul_right _ (Nat.min_le_right _ _)) o5) hp8 hR1 hS rfl (fun D2 k pl e hb hf => bad D2 k pl 72 _ rfl (by omega) (hK2.symm.trans (rbind_l e)) hb (hF.tr (hf.wk fAcc_fr))) (fun D2 U q e hS2 hR2 hq8 hf2 => ?_)
      refine z_iinc dX4_accepts_75 (by exact rfl) ?_
      refine z_at [(0, .ref 37), (1, .int 1), (2, .int (nI (f + 1)))] ⟨rfl, rfl, congrArg (fun x => some (Value.int x)) (nI_1 f), trivial⟩ ?_
      refine z_goto (tgt := 23) dX4_accepts_78 (by decide) ?_
      exact ih (f + 1) D2 q _ (by omega) hq8 ⟨(hf2.1 39 2 rfl).trans hs.1, (hf2.1 39 3 rfl).trans hs.2.1, (hf2.1 39 0 rfl).trans hs.2.2.1, (hf2.1 39 1 rfl).trans hs.2.2.2.1, (hf2.1 37 5 rfl).trans hs.2.2.2.2⟩ (by rw [← hfn]; exact hS2) hR2 (hF.tr (hf2.wk fAcc_fr)) ((rbind_r e).symm.trans hK2)
  have hR0 : ∀ D1 : zD, D1.1 37 1 = D.1 37 1 → D1.1 37 7 = nI 0 → D1.1 38 = D.1 38 → D1.1 37 2 = 0 → D1.1 37 3 = Int32.ofInt (-1) → rd8 D1 T sz 0 := fun D1 e1 e2 e3 e4 e5 => ⟨e1.trans hsz, hsz2, e2, Nat.zero_le _, fun i hi => by rw [e3]; exact hT i hi, e4, e5⟩
  refine z_aload_n dX4_accepts_0 (by exact rfl) ?_
  refine z_iconst dX4_accepts_1 ?_
  refine z_pfI zfx_X4_19 (by exact rfl) dX4_accepts_2 ?_
  refine z_aload_n dX4_accepts_5 (by exact rfl) ?_
  refine z_iconst dX4_accepts_6 ?_
  refine z_pfI zfx_X4_22 (by exact rfl) dX4_accepts_7 ?_
  refine z_aload_n dX4_accepts_10 (by exact rfl) ?_
  refine z_iconst dX4_accepts_11 ?_
  refine z_pfI zfx_X4_64 (by exact rfl) dX4_accepts_12 ?_
  refine z_iconst dX4_accepts_15 ?_
  refine z_istore_n dX4_accepts_16 (Nat.le_of_ble_eq_true rfl) ?_
  refine z_aload_n dX4_accepts_17 (by exact rfl) ?_
  refine z_cV dX4_accepts_18 zk_X4_67 (by exact rfl) (by exact rfl) (by exact rfl) (Nat.le_of_ble_eq_true rfl) (Nat.le_of_ble_eq_true rfl) (Nat.le_refl _) ?_
  refine c_openStream (hR0 _ rfl rfl rfl rfl rfl) (fun D1 st q e ho hs hR1 hf1 => ?_) (fun D1 k pl e hb hf => bad D1 k pl 18 _ rfl (by omega) (hK.symm.trans (rbind_l e)) hb ((((zfr.rf.uI _ rfl).uI _ rfl).uI _ rfl).tr (hf.wk fAcc_set)))
  refine z_iconst dX4_accepts_21 ?_
  refine z_istore_n dX4_accepts_22 (Nat.le_of_ble_eq_true rfl) ?_
  exact z_at [(0, .ref 37), (1, .int 1), (2, .int (nI 0))] ⟨rfl, rfl, rfl, trivial⟩ (lp st ho _ 0 D1 q (fun _ => 0) (Nat.zero_add _) (ra_open _ _ _ _ _ e) hs (fun j hj => by
    rw [Nat.zero_mul, Nat.zero_min, Nat.zero_mul] at hj
    omega) hR1 ((((zfr.rf.uI _ rfl).uI _ rfl).uI _ rfl).tr (hf1.wk fAcc_set)) ((rbind_r e).symm.trans hK))
/-! ===== read, of the class ===== -/
theorem c_become {d a b : Nat} {D : zD} {Q : zQ} (hq : Q (.inl none) 0 (zuI (zuI (zuI (zuI D 1 0 (D.1 39 0)) 1 1 (D.1 39 1)) 1 2 (D.1 39 2)) 1 3 (D.1 39 3))) : ZM yX6_become iX6_become d [.ref 1, .ref 39] D Q := by
  refine z_method (by decide) rfl (Nat.le_of_ble_eq_true rfl) ?_
  refine z_at [(0, .ref 1), (1, .ref 39)] ⟨rfl, rfl, trivial⟩ ?_
  refine z_aload_n dX6_become_0 (by exact rfl) ?_
  refine z_aload_n dX6_become_1 (by exact rfl) ?_
  refine z_gfI zfx_X6_7 (by exact rfl) dX6_become_2 ?_
  refine z_pfI zfx_X6_7 (by exact rfl) dX6_become_5 ?_
  refine z_aload_n dX6_become_8 (by exact rfl) ?_
  refine z_aload_n dX6_become_9 (by exact rfl) ?_
  refine z_gfI zfx_X6_13 (by exact rfl) dX6_become_10 ?_
  refine z_pfI zfx_X6_13 (by exact rfl) dX6_become_13 ?_
  refine z_aload_n dX6_become_16 (by exact rfl) ?_
  refine z_aload_n dX6_become_17 (by exact rfl) ?_
  refine z_gfI zfx_X6_16 (by exact rfl) dX6_become_18 ?_
  refine z_pfI zfx_X6_16 (by exact rfl) dX6_become_21 ?_
  refine z_aload_n dX6_become_24 (by exact rfl) ?_
  refine z_aload_n dX6_become_25 (by exact rfl) ?_
  refine z_gfI zfx_X6_20 (by exact rfl) dX6_become_26 ?_
  refine z_pfI zfx_X6_20 (by exact rfl) dX6_become_29 ?_
  exact z_vret (st := []) rfl dX6_become_32 hq
set_option maxRecDepth 100000 in
theorem zt_X8cp : zcpyw RX8 155 = true := by decide +kernel
def fRd8 (a k : Nat) : Bool := fAcc a k || (a == 1 || (a == 4 || (a == 0 && k == 3)))
theorem c_read8 {d sz : Nat} {D : zD} {T : Nat → Bool} {Q : zQ} (hsz : D.1 37 1 = nI sz) (hsz2 : sz ≤ 20000) (hT : ∀ i, i < 8 * sz → bt8 (D.1 38) i = T i)
    (h1 : ∀ D' st S q, sRead T (8 * sz) 0 = .inr ((st, S), q) → okSet st → (D'.1 1 0 = nI st.2.2.1 ∧ D'.1 1 1 = nI st.2.2.2.1 ∧ D'.1 1 2 = nI st.1 ∧ D'.1 1 3 = nI st.2.1) → (∀ j, j < st.2.2.2.2 * st.2.2.1 → D'.1 4 j = iI (S j)) → D'.1 0 3 = nI (st.2.2.2.2 * st.2.2.1) → D'.1 37 1 = 0 → D'.1 37 2 = 0 → D'.1 37 3 = Int32.ofInt (-1) → zfr fRd8 D D' → Q (.inl (some (.int (nI (st.2.2.2.2 * st.2.2.1))))) 0 D')
    (h0 : ∀ D' k pl, sRead T (8 * sz) 0 = .inl (k, pl) → D'.1 37 1 = 0 → bad8 D' k pl → zfr fAcc D D' → Q (.inr zIAE) 2 D') :
    ZM yX8_read iX8_read (d + 7) [.ref 0] D Q := by
  refine z_method (by decide) rfl (Nat.le_of_ble_eq_true rfl) ?_
  refine z_at [(0, .ref 0)] ⟨rfl, trivial⟩ ?_
  have go : ∀ (D1 : zD) (st : zSet) (S : zRow) (q : Nat), sRead T (8 * sz) 0 = .inr ((st, S), q) → okSet st → set8 D1 st → smp8 D1 S (st.2.2.2.2 * st.2.2.1) → D1.1 37 1 = 0 → D1.1 37 2 = 0 → D1.1 37 3 = Int32.ofInt (-1) → zfr fAcc D D1 → Z (zmk iX8_read (d + 7)) 0 18 (zl [(0, .ref 0)]) [] D1 Q := by
    intro D1 st S q e ho hs hS e1 e2 e3 hF
    have o5 := ho.2.2.2.2
    obtain ⟨s1, s2, s3, s4, s5⟩ := hs
    refine z_aload_n dX8_read_18 (by exact rfl) ?_
    refine z_gfA zfx_X8_12 (by exact rfl) dX8_read_19 ?_
    refine z_aload_n dX8_read_22 (by exact rfl) ?_
    refine z_gfA zfx_X8_43 (by exact rfl) dX8_read_23 ?_
    refine z_gfA zfx_X8_144 (by exact rfl) dX8_read_26 ?_
    refine z_cV dX8_read_29 zk_X8_147 (by exact rfl) (by exact rfl) (by exact rfl) (Nat.le_of_ble_eq_true rfl) (Nat.le_of_ble_eq_true rfl) (Nat.le_refl _) ?_
    refine c_become (a := 0) (b := 0) ?_
    refine z_aload_n dX8_read_32 (by exact rfl) ?_
    refine z_aload_n dX8_read_33 (by exact rfl) ?_
    refine z_gfA zfx_X8_43 (by exact rfl) dX8_read_34 ?_
    refine z_gfI zfx_X8_151 (by exact rfl) dX8_read_37 ?_
    refine z_eI (nI st.2.2.2.2) s5 ?_
    refine z_aload_n dX8_read_40 (by exact rfl) ?_
    refine z_gfA zfx_X8_12 (by exact rfl) dX8_read_41 ?_
    refine z_gfI zfx_X8_66 (by exact rfl) dX8_read_44 ?_
    refine z_eI (nI st.2.2.1) s3 ?_
    refine z_imul dX8_read_47 ?_
    refine z_eI (nI (st.2.2.2.2 * st.2.2.1)) (pk_mul _ _) ?_
    refine z_pfI zfx_X8_29 (by exact rfl) dX8_read_48 ?_
    refine z_aload_n dX8_read_51 (by exact rfl) ?_
    refine z_gfA zfx_X8_43 (by exact rfl) dX8_read_52 ?_
    refine z_gfA zfx_X8_154 (by exact rfl) dX8_read_55 ?_
    refine z_iconst dX8_read_58 ?_
    refine z_aload_n dX8_read_59 (by exact rfl) ?_
    refine z_gfA zfx_X8_25 (by exact rfl) dX8_read_60 ?_
    refine z_iconst dX8_read_63 ?_
    refine z_aload_n dX8_read_64 (by exact rfl) ?_
    refine z_gfI zfx_X8_29 (by exact rfl) dX8_read_65 ?_
    have ec : (nI (st.2.2.2.2 * st.2.2.1)).toNatClampNeg = st.2.2.2.2 * st.2.2.1 := nI_clamp (by omega)
    refine z_eI (nI (st.2.2.2.2 * st.2.2.1)) rfl ?_
    refine z_copyI (a0 := 40) (a1 := 4) (n0 := 4096) (n1 := 4096) rfl rfl dX8_read_68 zt_X8cp (by decide) (by decide) (nI_pos (by omega)) (by rw [ec]; show 0 + st.2.2.2.2 * st.2.2.1 ≤ 4096; omega) (by rw [ec]; show 0 + st.2.2.2.2 * st.2.2.1 ≤ 4096; omega) (Nat.le_of_ble_eq_true rfl) ?_
    refine z_aload_n dX8_read_71 (by exact rfl) ?_
    refine z_gfI zfx_X8_29 (by exact rfl) dX8_read_72 ?_
    exact z_iret (st := []) rfl dX8_read_75 (h1 _ st S q e ho ⟨s3, s4, s1, s2⟩ (fun j hj => by
      rw [zuR_s, nI_clamp (n := st.2.2.2.2 * st.2.2.1) (by omega)]
      refine (pk_cpy_in (Nat.zero_le _) (by show j < 0 + _; omega)).trans ?_
      show D1.1 40 (0 + (j - 0)) = _
      rw [Nat.zero_add, Nat.sub_zero]
      exact hS j hj) rfl e1 e2 e3 ((((((((hF.wk (fun a k h => or_l h)).uI _ rfl).uI _ rfl).uI _ rfl).uI _ rfl).uI _ rfl).uR _ (fun _ => rfl))))
  refine z_aload_n dX8_read_0 (by exact rfl) ?_
  refine z_gfA zfx_X8_43 (by exact rfl) dX8_read_1 ?_
  refine z_cV dX8_read_4 zk_X8_140 (by exact rfl) (by exact rfl) (by exact rfl) (Nat.le_of_ble_eq_true rfl) (Nat.le_of_ble_eq_true rfl) (Nat.le_refl _) ?_
  refine c_accepts hsz hsz2 hT (fun D1 st S q e ho hs hS e1 e2 e3 hF => ?_) (fun D1 k pl e e1 hb hF => ?_)
  · refine z_if_ne (tgt := 18) dX8_read_7 (by decide) (fun _ => ?_) (fun q9 => absurd q9 ((by decide)))
    exact z_at [(0, .ref 0)] ⟨rfl, trivial⟩ (go D1 st S q e ho hs hS e1 e2 e3 hF)
  · refine z_if_ne (tgt := 18) dX8_read_7 (by decide) (fun q9 => absurd (rfl) q9) (fun _ => ?_)
    exact z_throw (Or.inl rfl) zt_X8_63 dX8_read_10 dX8_read_13 dX8_read_14 dX8_read_17 rfl (Nat.le_of_ble_eq_true rfl) (Nat.le_of_ble_eq_true rfl) (h0 D1 k pl e e1 hb hF)
