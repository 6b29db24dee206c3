/-! ===== Residuals.take ===== -/
theorem fd_nn {e : Int} (h : ¬ e < 0) : ((fd e : Nat) : Int) = 2 * e := by
  unfold fd
  rw [if_neg h]
  omega
theorem fd_ng {e : Int} (h : e < 0) : ((fd e : Nat) : Int) = -2 * e - 1 := by
  unfold fd
  rw [if_pos h]
  omega
theorem fd_bd {e : Int} (h : bd 2147483647 e) : fd e < 4294967296 := by
  unfold bd at h
  unfold fd
  split <;> omega
def fT8 (a k : Nat) : Bool := a == 14 || (a == 13 && (k == 1 || k == 2))
theorem pred8.fr {D D' : zD} {F : Nat → Nat → Bool} {P B o s : Nat} {c : Nat → Int} (h : pred8 D P B o s c) (hF : zfr F D D') (h1 : ∀ k, F P k = false) (h2 : ∀ k, F B k = false) : pred8 D' P B o s c := ⟨(hF.1 _ _ (h1 1)).trans h.1, (hF.1 _ _ (h1 2)).trans h.2.1, fun j hj => ⟨(hF.1 _ _ (h2 j)).trans (h.2.2 j hj).1, (h.2.2 j hj).2⟩⟩
theorem fT8_f {r : Nat} (h1 : ¬ r = 13) (h2 : ¬ r = 14) (k : Nat) : fT8 r k = false := by
  unfold fT8
  simp
  omega
theorem c_resTake {d P B nb r o s n : Nat} {D : zD} {Q : zQ} {c : Nat → Int} {a : zRow} (hP0 : zfc P 3 0 = some (B + 2)) (hP1 : zfc P 3 1 = some 0) (hP2 : zfc P 3 2 = some 0) (hPs : ∃ fl, zSH[P]? = some (5, 3, fl)) (hB : zac B = some (0, nb)) (hr : zac r = some (0, 256)) (hP : ¬ P = 13 ∧ ¬ P = 14) (hBn : ¬ B = 13 ∧ ¬ B = 14) (hrn : ¬ r = 13 ∧ ¬ r = 14) (hp : pred8 D P B o s c) (hs : s ≤ 15) (ho : o ≤ nb) (hnb : nb ≤ 32) (hon : o ≤ n) (hn : n ≤ 256) (ha : row8 D r a n)
    (h1 : ∀ D', rsOk (s, c) o n a → D'.1 13 1 = nI n → D'.1 13 2 = nI o → (∀ i, o ≤ i → i < n → D'.2 14 i = lN (rsU (s, c) o a i)) → zfr fT8 D D' → Q (.inl (some (.int 1))) 0 D') (h0 : ∀ D', ¬ rsOk (s, c) o n a → zfr fT8 D D' → Q (.inl (some (.int 0))) 0 D') :
    ZM yX5_take iX5_take (d + 1) [.ref 13, .ref r, .int (nI n), .ref P] D Q := by
  refine z_method (by decide) rfl (Nat.le_of_ble_eq_true rfl) ?_
  refine z_at [(0, .ref 13), (1, .ref r), (2, .int (nI n)), (3, .ref P)] ⟨rfl, rfl, rfl, rfl, trivial⟩ ?_
  obtain ⟨fl, hPs⟩ := hPs
  have lp : ∀ (m i : Nat) (D1 : zD), i + m = n → o ≤ i → (∀ j, o ≤ j → j < i → bd 2147483647 (rsd (s, c) o a j)) → D1.1 13 1 = nI n → D1.1 13 2 = nI o → (∀ j, o ≤ j → j < i → D1.2 14 j = lN (rsU (s, c) o a j)) → zfr fT8 D D1 → Z (zmk iX5_take (d + 1)) 0 19 (zl [(0, .ref 13), (1, .ref r), (2, .int (nI n)), (3, .ref P), (4, .int (nI i))]) [] D1 Q := by
    intro m
    induction m with
    | zero =>
      intro i D1 hi hoi hok g1 g2 g3 hF
      have hi : i = n := by omega
      subst hi
      refine z_iload dX5_take_19 (by exact rfl) ?_
      refine z_iload_n dX5_take_21 (by exact rfl) ?_
      refine z_icmp_ge (tgt := 93) dX5_take_22 (by decide) (fun _ => ?_) (fun q9 => absurd ((nI_le (Nat.le_refl _) (by omega))) q9)
      refine z_iconst dX5_take_93 ?_
      exact z_zret (st := []) (by decide) rfl dX5_take_94 (h1 D1 hok g1 g2 g3 hF)
    | succ m ih =>
      intro i D1 hi hoi hok g1 g2 g3 hF
      have cl : (nI i).toNatClampNeg = i := nI_clamp (by omega)
      have hr1 : row8 D1 r a n := ha.fr hF (fT8_f hrn.1 hrn.2)
      have hp1 : pred8 D1 P B o s c := hp.fr hF (fT8_f hP.1 hP.2) (fT8_f hBn.1 hBn.2)
      obtain ⟨e1, e2⟩ := hr1 i (by omega)
      have hfb := fore_bd (c := c) (a := a) (i := i) (s := s) (o := o) (by omega) (fun k hk => (hp.2.2 k hk).2) (fun k hk => (ha (i - 1 - k) (by omega)).2)
      unfold smI bd at e2
      unfold bd at hfb
      obtain ⟨e, he⟩ : ∃ e, e = rsd (s, c) o a i := ⟨_, rfl⟩
      have heb : -8796109799425 ≤ e ∧ e ≤ 8796109799425 := by
        rw [he]
        unfold rsd
        show _ ≤ a i - fore c s o a i ∧ a i - fore c s o a i ≤ _
        omega
      have heu : rsU (s, c) o a i = fd e := by
        rw [he]
        rfl
      have tl : ∀ (x : Int64), bd 2147483647 e → x = lN (fd e) → Z (zmk iX5_take (d + 1)) 0 86 (zl [(0, .ref 13), (1, .ref r), (2, .int (nI n)), (3, .ref P), (4, .int (nI i))]) [.long x, .int (nI i), .ref 14] D1 Q := by
        intro x hb hx
        subst hx
        refine z_sJ (by exact rfl) dX5_take_86 (vp_in_nI (by omega) (by omega)) ?_
        rw [cl]
        refine z_iinc dX5_take_87 (by exact rfl) ?_
        refine z_at [(0, .ref 13), (1, .ref r), (2, .int (nI n)), (3, .ref P), (4, .int (nI (i + 1)))] ⟨rfl, rfl, rfl, rfl, congrArg (fun x => some (Value.int x)) (nI_1 i), trivial⟩ ?_
        refine z_goto (tgt := 19) dX5_take_90 (by decide) ?_
        exact ih (i + 1) _ (by omega) (by omega) (fun j h1 h2 => by
          obtain q | q : j = i ∨ j < i := by omega
          · subst q
            rw [← he]
            exact hb
          · exact hok j h1 q) g1 g2 (fun j h1 h2 => by
          obtain q | q : j = i ∨ j < i := by omega
          · subst q
            rw [zuL_at, heu]
          · rw [zuL_ne (by omega)]
            exact g3 j h1 q) (hF.uL _ rfl)
      refine z_iload dX5_take_19 (by exact rfl) ?_
      refine z_iload_n dX5_take_21 (by exact rfl) ?_
      refine z_icmp_ge (tgt := 93) dX5_take_22 (by decide) (fun q9 => absurd q9 ((nI_ge (a := i) (b := n) (by omega) (by omega)))) (fun _ => ?_)
      refine z_aload_n dX5_take_25 (by exact rfl) ?_
      refine z_iload dX5_take_26 (by exact rfl) ?_
      refine z_aI hr dX5_take_28 (vp_in_nI (by omega) (by omega)) ?_
      refine z_eI (iI (a i)) (by rw [cl]; exact e1) ?_
      refine z_i2l dX5_take_29 ?_
      refine z_eJ (lI (a i)) (iI_l (by omega) (by omega)) ?_
      refine z_aload_n dX5_take_30 (by exact rfl) ?_
      refine z_aload_n dX5_take_31 (by exact rfl) ?_
      refine z_iload dX5_take_32 (by exact rfl) ?_
      refine z_cV dX5_take_34 zk_X5_37 (by exact rfl) hPs (by exact rfl) (Nat.le_of_ble_eq_true rfl) (Nat.le_of_ble_eq_true rfl) (Nat.le_refl _) ?_
      refine c_foretell hP0 hP1 hP2 hB hr hp1 hs ho hnb hoi (by omega) (fun j hj => hr1 j (by omega)) ?_
      refine z_lsub dX5_take_37 ?_
      refine z_eJ (lI e) (by rw [lI_sub, he]; rfl) ?_
      refine z_lstore dX5_take_38 (Nat.le_of_ble_eq_true rfl) ?_
      refine z_lload dX5_take_40 (by exact rfl) ?_
      refine z_ldcL dX5_take_42 zclx_X5_41 ?_
      refine z_ldcL dX5_take_45 zclx_X5_43 ?_
      refine z_cN dX5_take_48 zk_X5_45 rfl (by exact rfl) (Nat.le_of_ble_eq_true rfl) (Nat.le_of_ble_eq_true rfl) (Nat.le_refl _) ?_
      refine c_within (fun a48 b48 => ?_) (fun n48 => ?_)
      · refine z_if_ne (tgt := 56) dX5_take_51 (by decide) (fun _ => ?_) (fun q9 => absurd q9 ((by decide)))
        have hb : bd 2147483647 e := ⟨(lI_le (a := -2147483647) (b := e) (by omega) (by omega) (by omega) (by omega)).mp a48, (lI_le (a := e) (b := 2147483647) (by omega) (by omega) (by omega) (by omega)).mp b48⟩
        have hb0 := hb
        unfold bd at hb0
        refine z_aload_n dX5_take_56 (by exact rfl) ?_
        refine z_gfA zfx_X5_9 (by exact rfl) dX5_take_57 ?_
        refine z_iload dX5_take_60 (by exact rfl) ?_
        refine z_lload dX5_take_62 (by exact rfl) ?_
        refine z_lconst dX5_take_64 ?_
        refine z_lt (tgt := 78) dX5_take_65 dX5_take_66 (by decide) (fun c65 => ?_) (fun c65 => ?_)
        · refine z_ldcL dX5_take_78 zclx_X5_51 ?_
          refine z_lload dX5_take_81 (by exact rfl) ?_
          refine z_lmul dX5_take_83 ?_
          refine z_lconst dX5_take_84 ?_
          refine z_lsub dX5_take_85 ?_
          exact z_at [(0, .ref 13), (1, .ref r), (2, .int (nI n)), (3, .ref P), (4, .int (nI i))] ⟨rfl, rfl, rfl, rfl, rfl, trivial⟩ (tl _ hb (by
            have hlt : e < 0 := (lI_lt (a := e) (b := 0) (by omega) (by omega) (by omega) (by omega)).mp c65
            rw [lI_N, fd_ng hlt, ← lI_sub, ← lI_mul]
            rfl))
        · refine z_ldcL dX5_take_69 zclx_X5_49 ?_
          refine z_lload dX5_take_72 (by exact rfl) ?_
          refine z_lmul dX5_take_74 ?_
          refine z_goto (tgt := 86) dX5_take_75 (by decide) ?_
          exact z_at [(0, .ref 13), (1, .ref r), (2, .int (nI n)), (3, .ref P), (4, .int (nI i))] ⟨rfl, rfl, rfl, rfl, rfl, trivial⟩ (tl _ hb (by
            have hlt : ¬ e < 0 := fun q => c65 ((lI_lt (a := e) (b := 0) (by omega) (by omega) (by omega) (by omega)).mpr q)
            rw [lI_N, fd_nn hlt, ← lI_mul]
            rfl))
      · refine z_if_ne (tgt := 56) dX5_take_51 (by decide) (fun q9 => absurd (rfl) q9) (fun _ => ?_)
        refine z_iconst dX5_take_54 ?_
        exact z_zret (st := []) (by decide) rfl dX5_take_55 (h0 D1 (fun q => n48 (by
          have hb := q i hoi (by omega)
          rw [← he] at hb
          unfold bd at hb
          exact ⟨(lI_le (by omega) (by omega) (by omega) (by omega)).mpr hb.1, (lI_le (by omega) (by omega) (by omega) (by omega)).mpr hb.2⟩)) hF)
  refine z_aload_n dX5_take_0 (by exact rfl) ?_
  refine z_iload_n dX5_take_1 (by exact rfl) ?_
  refine z_pfI zfx_X5_25 (by exact rfl) dX5_take_2 ?_
  refine z_aload_n dX5_take_5 (by exact rfl) ?_
  refine z_aload_n dX5_take_6 (by exact rfl) ?_
  refine z_gfI zfx_X5_29 hP1 dX5_take_7 ?_
  refine z_eI (nI o) (by
    have := hp.1
    rw [zuI_ne (by omega)]
    exact this) ?_
  refine z_pfI zfx_X5_34 (by exact rfl) dX5_take_10 ?_
  refine z_aload_n dX5_take_13 (by exact rfl) ?_
  refine z_gfI zfx_X5_34 (by exact rfl) dX5_take_14 ?_
  refine z_eI (nI o) rfl ?_
  refine z_istore dX5_take_17 (Nat.le_of_ble_eq_true rfl) ?_
  exact z_at [(0, .ref 13), (1, .ref r), (2, .int (nI n)), (3, .ref P), (4, .int (nI o))] ⟨rfl, rfl, rfl, rfl, rfl, trivial⟩ (lp (n - o) o _ (by omega) (Nat.le_refl _) (fun j h1 h2 => by omega) rfl rfl (fun j h1 h2 => by omega) ((zfr.rf.uI _ rfl).uI _ rfl))
