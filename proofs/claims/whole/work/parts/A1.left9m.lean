/-! ===== the reference's making: summed, leave, folded, costOf, bestK, partsCost, leftCost ===== -/
def own9 (D : zD) (o s : Nat) (cs : Nat → Int) : Prop := D.1 19 6 = nI o ∧ D.1 19 5 = nI s ∧ ∀ j, j < o → D.1 52 j = iI (cs j) ∧ wtI (cs j)
theorem own9.fr {D D' : zD} {F : Nat → Nat → Bool} {o s : Nat} {cs : Nat → Int} (h : own9 D o s cs) (hF : zfr F D D') (h6 : F 19 6 = false) (h5 : F 19 5 = false) (h2 : ∀ k, F 52 k = false) : own9 D' o s cs := ⟨(hF.1 _ _ h6).trans h.1, (hF.1 _ _ h5).trans h.2.1, fun j hj => ⟨(hF.1 _ _ (h2 j)).trans (h.2.2 j hj).1, (h.2.2 j hj).2⟩⟩
theorem rowL.fr {D D' : zD} {F : Nat → Nat → Bool} {n : Nat} {a : zRow} (h : rowL D a n) (hF : zfr F D D') (h1 : ∀ k, F 61 k = false) : rowL D' a n := fun i hi => ⟨(hF.2 _ _ (h1 i)).trans (h i hi).1, (h i hi).2⟩
theorem c_summed {d k o s : Nat} {cs : Nat → Int} {D : zD} {Q : zQ} {a : zRow} (ho : o ≤ 8) (hs : s ≤ 14) (hok : o ≤ k) (hk : k < 256) (hw : own9 D o s cs) (ha : rowL D a k) (hq : Q (.inl (some (.long (lI (fore cs s o a k))))) 0 D) : ZM yX9_summed iX9_summed d [.ref 19, .int (nI k)] D Q := by
  refine z_method (by decide) rfl (Nat.le_of_ble_eq_true rfl) ?_
  refine z_at [(0, .ref 19), (1, .int (nI k))] ⟨rfl, rfl, trivial⟩ ?_
  have lp : ∀ (m j : Nat), j + m = o → Z (zmk iX9_summed d) 0 5 (zl [(0, .ref 19), (1, .int (nI k)), (2, .long (lI (sm (fun i => cs i * a (k - 1 - i)) j))), (4, .int (nI j))]) [] D Q := by
    intro m
    induction m with
    | zero =>
      intro j hj
      have hj : j = o := by omega
      subst hj
      have hb := fsum_bd (c := cs) (a := a) (i := k) (j := j) (by omega) (fun i hi => (hw.2.2 i hi).2) (fun i hi => (ha (k - 1 - i) (by omega)).2)
      unfold bd at hb
      refine z_iload dX9_summed_5 (by exact rfl) ?_
      refine z_aload_n dX9_summed_7 (by exact rfl) ?_
      refine z_gfI zfx_X9_97 (by exact rfl) dX9_summed_8 ?_
      refine z_eI (nI j) hw.1 ?_
      refine z_icmp_ge (tgt := 43) dX9_summed_11 (by decide) (fun _ => ?_) (fun q9 => absurd ((nI_le (Nat.le_refl _) (by omega))) q9)
      refine z_lload_n dX9_summed_43 (by exact rfl) ?_
      refine z_aload_n dX9_summed_44 (by exact rfl) ?_
      refine z_gfI zfx_X9_94 (by exact rfl) dX9_summed_45 ?_
      refine z_eI (nI s) hw.2.1 ?_
      refine z_lshr dX9_summed_48 ?_
      refine z_eJ (lI (fore cs s j a k)) (lI_shr (by omega) (by omega) (by omega)) ?_
      exact z_lret (st := []) rfl dX9_summed_49 hq
    | succ m ih =>
      intro j hj
      obtain ⟨g1, g2⟩ := hw.2.2 j (by omega)
      obtain ⟨g3, g4⟩ := ha (k - 1 - j) (by omega)
      unfold wtI bd at g2
      refine z_iload dX9_summed_5 (by exact rfl) ?_
      refine z_aload_n dX9_summed_7 (by exact rfl) ?_
      refine z_gfI zfx_X9_97 (by exact rfl) dX9_summed_8 ?_
      refine z_eI (nI o) hw.1 ?_
      refine z_icmp_ge (tgt := 43) dX9_summed_11 (by decide) (fun q9 => absurd q9 ((nI_ge (a := j) (b := o) (by omega) (by omega)))) (fun _ => ?_)
      refine z_lload_n dX9_summed_14 (by exact rfl) ?_
      refine z_aload_n dX9_summed_15 (by exact rfl) ?_
      refine z_gfA zfx_X9_23 (by exact rfl) dX9_summed_16 ?_
      refine z_iload dX9_summed_19 (by exact rfl) ?_
      refine z_aI (by exact rfl) dX9_summed_21 (vp_in_nI (by omega) (by omega)) ?_
      refine z_eI (iI (cs j)) (by rw [nI_clamp (by omega)]; exact g1) ?_
      refine z_i2l dX9_summed_22 ?_
      refine z_eJ (lI (cs j)) (iI_l (by omega) (by omega)) ?_
      refine z_aload_n dX9_summed_23 (by exact rfl) ?_
      refine z_gfA zfx_X9_55 (by exact rfl) dX9_summed_24 ?_
      refine z_iload_n dX9_summed_27 (by exact rfl) ?_
      refine z_iconst dX9_summed_28 ?_
      refine z_isub dX9_summed_29 ?_
      refine z_iload dX9_summed_30 (by exact rfl) ?_
      refine z_isub dX9_summed_32 ?_
      refine z_eI (nI (k - 1 - j)) (by rw [show nI k - Int32.ofInt 1 = nI (k - 1) from pk_sub (a := k) (b := 1) (by omega)]; exact pk_sub (by omega)) ?_
      refine z_aJ (by exact rfl) dX9_summed_33 (vp_in_nI (by omega) (by omega)) ?_
      refine z_eJ (lI (a (k - 1 - j))) (by rw [nI_clamp (n := k - 1 - j) (by omega)]; exact g3) ?_
      refine z_lmul dX9_summed_34 ?_
      refine z_ladd dX9_summed_35 ?_
      refine z_eJ (lI (sm (fun i => cs i * a (k - 1 - i)) (j + 1))) (by rw [lI_mul, lI_add]; rfl) ?_
      refine z_lstore_n dX9_summed_36 (Nat.le_of_ble_eq_true rfl) ?_
      refine z_iinc dX9_summed_37 (by exact rfl) ?_
      refine z_at [(0, .ref 19), (1, .int (nI k)), (2, .long (lI (sm (fun i => cs i * a (k - 1 - i)) (j + 1)))), (4, .int (nI (j + 1)))] ⟨rfl, rfl, rfl, congrArg (fun x => some (Value.int x)) (nI_1 j), trivial⟩ ?_
      refine z_goto (tgt := 5) dX9_summed_40 (by decide) ?_
      exact ih (j + 1) (by omega)
  refine z_lconst dX9_summed_0 ?_
  refine z_lstore_n dX9_summed_1 (Nat.le_of_ble_eq_true rfl) ?_
  refine z_iconst dX9_summed_2 ?_
  refine z_istore dX9_summed_3 (Nat.le_of_ble_eq_true rfl) ?_
  exact z_at [(0, .ref 19), (1, .int (nI k)), (2, .long (lI (sm (fun i => cs i * a (k - 1 - i)) 0))), (4, .int (nI 0))] ⟨rfl, rfl, rfl, rfl, trivial⟩ (lp o 0 (by omega))
/-- the predictor of a type -/
def prT (D : zD) (t o : Nat) (pr : zPr) : Prop := (t = 8 + o ∧ o ≤ 4 ∧ pr = (0, fxC o)) ∨ (t = 31 + o ∧ 1 ≤ o ∧ o ≤ 8 ∧ pr.1 ≤ 14 ∧ own9 D o pr.1 pr.2)
theorem prT.o {D : zD} {t o : Nat} {pr : zPr} (h : prT D t o pr) : 8 ≤ t ∧ t < 64 ∧ ordN t = o := by
  unfold ordN
  rcases h with ⟨h1, h2, _⟩ | ⟨h1, h2, h3, _⟩
  · rw [if_neg (by omega), if_pos (by omega)]
    omega
  · rw [if_neg (by omega), if_neg (by omega)]
    omega
def f62 (a _ : Nat) : Bool := a == 62
def leftE (D : zD) (pr : zPr) (o n : Nat) (a : zRow) : Prop := ∀ i, o ≤ i → i < n → D.2 62 i = lI (rsd pr o a i)
theorem c_leave {d t o n : Nat} {pr : zPr} {D : zD} {Q : zQ} {a : zRow} (hp : prT D t o pr) (h24 : D.1 19 24 = nI n) (hon : o ≤ n) (hn : n ≤ 256) (ha : rowL D a n) (hq : ∀ D' (b : Bool), (b = true ↔ rsOk pr o n a) → leftE D' pr o n a → zfr f62 D D' → Q (.inl (some (.int (nI b.toNat)))) 0 D') : ZM yX9_leave iX9_leave (d + 1) [.ref 19, .int (nI t)] D Q := by
  refine z_method (by decide) rfl (Nat.le_of_ble_eq_true rfl) ?_
  refine z_at [(0, .ref 19), (1, .int (nI t))] ⟨rfl, rfl, trivial⟩ ?_
  obtain ⟨ht8, ht, hot⟩ := hp.o
  have ho32 : o ≤ 32 := by
    rcases hp with ⟨_, h, _⟩ | ⟨_, _, h, _⟩ <;> omega
  have hwt : ∀ k, k < o → wtI (pr.2 k) := fun k hk => by
    rcases hp with ⟨_, h, e⟩ | ⟨_, _, _, _, h⟩
    · rw [e]
      exact fxC_w o h k hk
    · exact (h.2.2 k hk).2
  have lp : ∀ (m i : Nat) (b : Bool) (D1 : zD), i + m = n → o ≤ i → (b = true ↔ ∀ j, o ≤ j → j < i → bd 2147483647 (rsd pr o a j)) → (∀ j, o ≤ j → j < i → D1.2 62 j = lI (rsd pr o a j)) → zfr f62 D D1 → Z (zmk iX9_leave (d + 1)) 0 7 (zl [(0, .ref 19), (1, .int (nI t)), (2, .int (nI b.toNat)), (3, .int (nI i))]) [] D1 Q := by
    intro m
    induction m with
    | zero =>
      intro i b D1 hi hoi hb hl hF
      have hi : i = n := by omega
      subst hi
      cases b with
      | true =>
        refine z_iload_n dX9_leave_7 (by exact rfl) ?_
        refine z_aload_n dX9_leave_8 (by exact rfl) ?_
        refine z_gfI zfx_X9_108 (by exact rfl) dX9_leave_9 ?_
        refine z_eI (nI i) ((hF.1 19 24 rfl).trans h24) ?_
        refine z_icmp_ge (tgt := 89) dX9_leave_12 (by decide) (fun _ => ?_) (fun q9 => absurd ((nI_le (Nat.le_refl _) (by omega))) q9)
        refine z_iload_n dX9_leave_89 (by exact rfl) ?_
        exact z_zret (st := []) (by decide) rfl dX9_leave_90 (hq D1 true hb hl hF)
      | false =>
        refine z_iload_n dX9_leave_7 (by exact rfl) ?_
        refine z_aload_n dX9_leave_8 (by exact rfl) ?_
        refine z_gfI zfx_X9_108 (by exact rfl) dX9_leave_9 ?_
        refine z_eI (nI i) ((hF.1 19 24 rfl).trans h24) ?_
        refine z_icmp_ge (tgt := 89) dX9_leave_12 (by decide) (fun _ => ?_) (fun q9 => absurd ((nI_le (Nat.le_refl _) (by omega))) q9)
        refine z_iload_n dX9_leave_89 (by exact rfl) ?_
        exact z_zret (st := []) (by decide) rfl dX9_leave_90 (hq D1 false hb hl hF)
    | succ m ih =>
      intro i b D1 hi hoi hb hl hF
      have cl : (nI i).toNatClampNeg = i := nI_clamp (by omega)
      have ha1 : rowL D1 a n := ha.fr hF (fun _ => rfl)
      obtain ⟨e1, e2⟩ := ha1 i (by omega)
      have hfb := fore_bd (c := pr.2) (a := a) (i := i) (s := pr.1) (o := o) ho32 hwt (fun k hk => (ha (i - 1 - k) (by omega)).2)
      unfold smI bd at e2
      unfold bd at hfb
      obtain ⟨e, he⟩ : ∃ e, e = rsd pr o a i := ⟨_, rfl⟩
      have heb : -8796109799425 ≤ e ∧ e ≤ 8796109799425 := by
        rw [he]
        unfold rsd
        omega
      have nx : ∀ (D2 : zD) (b' : Bool), (b' = true ↔ (b = true ∧ bd 2147483647 e)) → D2.2 62 i = lI e → (∀ j, o ≤ j → j < i → D2.2 62 j = lI (rsd pr o a j)) → zfr f62 D D2 → Z (zmk iX9_leave (d + 1)) 0 83 (zl [(0, .ref 19), (1, .int (nI t)), (2, .int (nI b'.toNat)), (3, .int (nI i))]) [] D2 Q := by
        intro D2 b' hb' g1 g2 hF2
        refine z_iinc dX9_leave_83 (by exact rfl) ?_
        refine z_at [(0, .ref 19), (1, .int (nI t)), (2, .int (nI b'.toNat)), (3, .int (nI (i + 1)))] ⟨rfl, rfl, rfl, congrArg (fun x => some (Value.int x)) (nI_1 i), trivial⟩ ?_
        refine z_goto (tgt := 7) dX9_leave_86 (by decide) ?_
        exact ih (i + 1) b' D2 (by omega) (by omega) (by
          rw [hb', hb, he]
          constructor
          · rintro ⟨q1, q2⟩ j h1 h2
            obtain q | q : j = i ∨ j < i := by omega
            · subst q
              exact q2
            · exact q1 j h1 q
          · intro q
            exact ⟨fun j h1 h2 => q j h1 (by omega), q i hoi (by omega)⟩) (fun j h1 h2 => by
          obtain q | q : j = i ∨ j < i := by omega
          · subst q
            rw [g1, he]
          · exact g2 j h1 q) hF2
      have t54 : Z (zmk iX9_leave (d + 1)) 0 54 (zl [(0, .ref 19), (1, .int (nI t)), (2, .int (nI b.toNat)), (3, .int (nI i))]) [.long (lI e), .int (nI i), .ref 62] D1 Q := by
        cases b with
        | false =>
          refine z_sJ (by exact rfl) dX9_leave_54 (vp_in_nI (by omega) (by omega)) ?_
          rw [cl]
          refine z_iload_n dX9_leave_55 (by exact rfl) ?_
          refine z_if_eq (tgt := 81) dX9_leave_56 (by decide) (fun _ => ?_) (fun q9 => absurd (rfl) q9)
          refine z_iconst dX9_leave_81 ?_
          refine z_istore_n dX9_leave_82 (Nat.le_of_ble_eq_true rfl) ?_
          exact z_at [(0, .ref 19), (1, .int (nI t)), (2, .int (nI false.toNat)), (3, .int (nI i))] ⟨rfl, rfl, rfl, rfl, trivial⟩ (nx _ false (by simp) (zuL_at _ _ _ _) (fun j h1 h2 => by
            rw [zuL_ne (by omega)]
            exact hl j h1 h2) (hF.uL _ rfl))
        | true =>
          refine z_sJ (by exact rfl) dX9_leave_54 (vp_in_nI (by omega) (by omega)) ?_
          rw [cl]
          refine z_iload_n dX9_leave_55 (by exact rfl) ?_
          refine z_if_eq (tgt := 81) dX9_leave_56 (by decide) (fun q9 => absurd q9 ((by decide))) (fun _ => ?_)
          refine z_aload_n dX9_leave_59 (by exact rfl) ?_
          refine z_gfA zfx_X9_58 (by exact rfl) dX9_leave_60 ?_
          refine z_iload_n dX9_leave_63 (by exact rfl) ?_
          refine z_aJ (by exact rfl) dX9_leave_64 (vp_in_nI (by omega) (by omega)) ?_
          refine z_eJ (lI e) (by rw [cl]; exact zuL_at _ _ _ _) ?_
          refine z_ldcL dX9_leave_65 zclx_X9_129 ?_
          refine z_ldcL dX9_leave_68 zclx_X9_131 ?_
          refine z_cS dX9_leave_71 zk_X9_75 (by exact rfl) (Nat.le_of_ble_eq_true rfl) (Nat.le_of_ble_eq_true rfl) (Nat.le_refl _) ?_
          refine c_in (fun a71 b71 => ?_) (fun n71 => ?_)
          · refine z_if_eq (tgt := 81) dX9_leave_74 (by decide) (fun q9 => absurd q9 (by decide)) (fun _ => ?_)
            refine z_iconst dX9_leave_77 ?_
            refine z_goto (tgt := 82) dX9_leave_78 (by decide) ?_
            refine z_istore_n dX9_leave_82 (Nat.le_of_ble_eq_true rfl) ?_
            exact z_at [(0, .ref 19), (1, .int (nI t)), (2, .int (nI true.toNat)), (3, .int (nI i))] ⟨rfl, rfl, rfl, rfl, trivial⟩ (nx _ true (by
              have hb : bd 2147483647 e := ⟨(lI_le (a := -2147483647) (b := e) (by omega) (by omega) (by omega) (by omega)).mp a71, (lI_le (a := e) (b := 2147483647) (by omega) (by omega) (by omega) (by omega)).mp b71⟩
              exact ⟨fun _ => ⟨rfl, hb⟩, fun _ => rfl⟩) (zuL_at _ _ _ _) (fun j h1 h2 => by
              rw [zuL_ne (by omega)]
              exact hl j h1 h2) (hF.uL _ rfl))
          · refine z_if_eq (tgt := 81) dX9_leave_74 (by decide) (fun _ => ?_) (fun q9 => absurd q9 (by decide))
            refine z_iconst dX9_leave_81 ?_
            refine z_istore_n dX9_leave_82 (Nat.le_of_ble_eq_true rfl) ?_
            exact z_at [(0, .ref 19), (1, .int (nI t)), (2, .int (nI false.toNat)), (3, .int (nI i))] ⟨rfl, rfl, rfl, rfl, trivial⟩ (nx _ false (by
              constructor
              · intro q
                cases q
              · rintro ⟨_, hb⟩
                unfold bd at hb
                exact absurd ⟨(lI_le (a := -2147483647) (b := e) (by omega) (by omega) (by omega) (by omega)).mpr hb.1, (lI_le (a := e) (b := 2147483647) (by omega) (by omega) (by omega) (by omega)).mpr hb.2⟩ n71) (zuL_at _ _ _ _) (fun j h1 h2 => by
              rw [zuL_ne (by omega)]
              exact hl j h1 h2) (hF.uL _ rfl))
      rcases id hp with ⟨p1, p2, p3⟩ | ⟨p1, p2, p3, p4, p5⟩
      · refine z_iload_n dX9_leave_7 (by exact rfl) ?_
        refine z_aload_n dX9_leave_8 (by exact rfl) ?_
        refine z_gfI zfx_X9_108 (by exact rfl) dX9_leave_9 ?_
        refine z_eI (nI n) ((hF.1 19 24 rfl).trans h24) ?_
        refine z_icmp_ge (tgt := 89) dX9_leave_12 (by decide) (fun q9 => absurd q9 ((nI_ge (a := i) (b := n) (by omega) (by omega)))) (fun _ => ?_)
        refine z_aload_n dX9_leave_15 (by exact rfl) ?_
        refine z_gfA zfx_X9_58 (by exact rfl) dX9_leave_16 ?_
        refine z_iload_n dX9_leave_19 (by exact rfl) ?_
        refine z_aload_n dX9_leave_20 (by exact rfl) ?_
        refine z_gfA zfx_X9_55 (by exact rfl) dX9_leave_21 ?_
        refine z_iload_n dX9_leave_24 (by exact rfl) ?_
        refine z_aJ (by exact rfl) dX9_leave_25 (vp_in_nI (by omega) (by omega)) ?_
        refine z_eJ (lI (a i)) (by rw [cl]; exact e1) ?_
        refine z_iload_n dX9_leave_26 (by exact rfl) ?_
        refine z_bipush dX9_leave_27 ?_
        refine z_icmp_le (tgt := 40) dX9_leave_29 (by decide) (fun _ => ?_) (fun q9 => absurd ((nI_le (a := t) (b := 31) (by omega) (by omega))) q9)
        refine z_aload_n dX9_leave_40 (by exact rfl) ?_
        refine z_aload_n dX9_leave_41 (by exact rfl) ?_
        refine z_gfA zfx_X9_55 (by exact rfl) dX9_leave_42 ?_
        refine z_iload_n dX9_leave_45 (by exact rfl) ?_
        refine z_iload_n dX9_leave_46 (by exact rfl) ?_
        refine z_bipush dX9_leave_47 ?_
        refine z_isub dX9_leave_49 ?_
        refine z_eI (nI o) (by
          rw [show (Int8.ofInt 8).toInt32 = nI 8 from rfl, pk_sub (a := t) (b := 8) (by omega)]
          congr 1
          omega) ?_
        refine z_cV dX9_leave_50 zk_X9_125 (by exact rfl) (by exact rfl) (by exact rfl) (Nat.le_of_ble_eq_true rfl) (Nat.le_of_ble_eq_true rfl) (Nat.le_refl _) ?_
        refine c_fixed p2 hoi (by omega) (fun j hj => (ha1 _ (by omega)).1) ?_
        refine z_lsub dX9_leave_53 ?_
        refine z_eJ (lI e) (by rw [lI_sub, he, p3]; rfl) ?_
        exact z_at [(0, .ref 19), (1, .int (nI t)), (2, .int (nI b.toNat)), (3, .int (nI i))] ⟨rfl, rfl, rfl, rfl, trivial⟩ t54
      · refine z_iload_n dX9_leave_7 (by exact rfl) ?_
        refine z_aload_n dX9_leave_8 (by exact rfl) ?_
        refine z_gfI zfx_X9_108 (by exact rfl) dX9_leave_9 ?_
        refine z_eI (nI n) ((hF.1 19 24 rfl).trans h24) ?_
        refine z_icmp_ge (tgt := 89) dX9_leave_12 (by decide) (fun q9 => absurd q9 ((nI_ge (a := i) (b := n) (by omega) (by omega)))) (fun _ => ?_)
        refine z_aload_n dX9_leave_15 (by exact rfl) ?_
        refine z_gfA zfx_X9_58 (by exact rfl) dX9_leave_16 ?_
        refine z_iload_n dX9_leave_19 (by exact rfl) ?_
        refine z_aload_n dX9_leave_20 (by exact rfl) ?_
        refine z_gfA zfx_X9_55 (by exact rfl) dX9_leave_21 ?_
        refine z_iload_n dX9_leave_24 (by exact rfl) ?_
        refine z_aJ (by exact rfl) dX9_leave_25 (vp_in_nI (by omega) (by omega)) ?_
        refine z_eJ (lI (a i)) (by rw [cl]; exact e1) ?_
        refine z_iload_n dX9_leave_26 (by exact rfl) ?_
        refine z_bipush dX9_leave_27 ?_
        refine z_icmp_le (tgt := 40) dX9_leave_29 (by decide) (fun q9 => absurd q9 ((fun q => absurd ((nI_leI (a := t) (b := 31) (by omega) (by omega)).mp q) (by omega)))) (fun _ => ?_)
        refine z_aload_n dX9_leave_32 (by exact rfl) ?_
        refine z_iload_n dX9_leave_33 (by exact rfl) ?_
        refine z_cV dX9_leave_34 zk_X9_121 (by exact rfl) (by exact rfl) (by exact rfl) (Nat.le_of_ble_eq_true rfl) (Nat.le_of_ble_eq_true rfl) (Nat.le_refl _) ?_
        refine c_summed p3 p4 hoi (by omega) (p5.fr hF rfl rfl (fun _ => rfl)) (fun j hj => ha1 j (by omega)) ?_
        refine z_goto (tgt := 53) dX9_leave_37 (by decide) ?_
        refine z_lsub dX9_leave_53 ?_
        refine z_eJ (lI e) (by rw [lI_sub, he]; rfl) ?_
        exact z_at [(0, .ref 19), (1, .int (nI t)), (2, .int (nI b.toNat)), (3, .int (nI i))] ⟨rfl, rfl, rfl, rfl, trivial⟩ t54
  refine z_iconst dX9_leave_0 ?_
  refine z_istore_n dX9_leave_1 (Nat.le_of_ble_eq_true rfl) ?_
  refine z_iload_n dX9_leave_2 (by exact rfl) ?_
  refine z_cS dX9_leave_3 zk_X9_117 (by exact rfl) (Nat.le_of_ble_eq_true rfl) (Nat.le_of_ble_eq_true rfl) (Nat.le_refl _) ?_
  refine c_o ⟨ht8, ht⟩ ?_
  rw [hot]
  refine z_istore_n dX9_leave_6 (Nat.le_of_ble_eq_true rfl) ?_
  exact z_at [(0, .ref 19), (1, .int (nI t)), (2, .int (nI true.toNat)), (3, .int (nI o))] ⟨rfl, rfl, rfl, rfl, trivial⟩ (lp (n - o) o true D (by omega) (Nat.le_refl _) ⟨fun _ j h1 h2 => by omega, fun _ => rfl⟩ (fun j h1 h2 => by omega) zfr.rf)
theorem c_folded9 {d : Nat} {e : Int} {D : zD} {Q : zQ} (he : bd 2147483647 e) (hq : Q (.inl (some (.long (lN (fd e))))) 0 D) : ZM yX9_folded iX9_folded d [.long (lI e)] D Q := by
  refine z_method (by decide) rfl (Nat.le_of_ble_eq_true rfl) ?_
  refine z_at [(0, .long (lI e))] ⟨rfl, trivial⟩ ?_
  unfold bd at he
  have ez : lI 0 ≤ lI e ↔ 0 ≤ e := lI_le (by omega) (by omega) (by omega) (by omega)
  refine z_lload_n dX9_folded_0 (by exact rfl) ?_
  refine z_lconst dX9_folded_1 ?_
  refine z_ge (tgt := 16) dX9_folded_2 dX9_folded_3 (by decide) (fun c2 => ?_) (fun c2 => ?_)
  · refine z_ldcL dX9_folded_16 zclx_X9_111 ?_
    refine z_lload_n dX9_folded_19 (by exact rfl) ?_
    refine z_lmul dX9_folded_20 ?_
    exact z_lret (st := []) rfl dX9_folded_21 (by
      have hlt : ¬ e < 0 := by
        have := ez.mp c2
        omega
      rw [lI_N, fd_nn hlt, ← lI_mul] at hq
      exact hq)
  · refine z_ldcL dX9_folded_6 zclx_X9_133 ?_
    refine z_lload_n dX9_folded_9 (by exact rfl) ?_
    refine z_lmul dX9_folded_10 ?_
    refine z_lconst dX9_folded_11 ?_
    refine z_lsub dX9_folded_12 ?_
    refine z_goto (tgt := 21) dX9_folded_13 (by decide) ?_
    exact z_lret (st := []) rfl dX9_folded_21 (by
      have hlt : e < 0 := by
        rcases Int.lt_or_le e 0 with h | h
        · exact h
        · exact absurd (ez.mpr h) c2
      rw [lI_N, fd_ng hlt, ← lI_sub, ← lI_mul] at hq
      exact hq)
/-- what is left, for measuring -/
def leftU (D : zD) (u : Nat → Nat) (o n : Nat) : Prop := ∀ i, o ≤ i → i < n → ∃ e, D.2 62 i = lI e ∧ bd 2147483647 e ∧ fd e = u i
theorem leftU.of {D : zD} {pr : zPr} {o n : Nat} {a : zRow} (h : leftE D pr o n a) (hk : rsOk pr o n a) : leftU D (rsU pr o a) o n := fun i h1 h2 => ⟨_, h i h1 h2, hk i h1 h2, rfl⟩
theorem leftU.bd {D : zD} {u : Nat → Nat} {o n : Nat} (h : leftU D u o n) : ∀ i, o ≤ i → i < n → u i < 4294967296 := fun i h1 h2 => by
  obtain ⟨e, _, h3, h4⟩ := h i h1 h2
  rw [← h4]
  exact fd_bd h3
theorem c_costOf {d o n i m k : Nat} {D : zD} {Q : zQ} {u : Nat → Nat} (hu : leftU D u o n) (hi : o ≤ i) (hm : i + m ≤ n) (hn : n ≤ 256) (hk : k < 15) (hq : Q (.inl (some (.long (lN (cst u i m k))))) 0 D) : ZM yX9_costOf iX9_costOf (d + 1) [.ref 19, .int (nI i), .int (nI (i + m)), .int (nI k)] D Q := by
  refine z_method (by decide) rfl (Nat.le_of_ble_eq_true rfl) ?_
  refine z_at [(0, .ref 19), (1, .int (nI i)), (2, .int (nI (i + m))), (3, .int (nI k))] ⟨rfl, rfl, rfl, rfl, trivial⟩ ?_
  have lp : ∀ (j r : Nat), r + j = m → Z (zmk iX9_costOf (d + 1)) 0 6 (zl [(0, .ref 19), (2, .int (nI (i + m))), (3, .int (nI k)), (4, .long (lN (nsum (fun i => u i / 2 ^ k + 1 + k) i r))), (6, .int (nI (i + r)))]) [] D Q := by
    intro j
    induction j with
    | zero =>
      intro r hr
      have hr : r = m := by omega
      subst hr
      refine z_iload dX9_costOf_6 (by exact rfl) ?_
      refine z_iload_n dX9_costOf_8 (by exact rfl) ?_
      refine z_icmp_ge (tgt := 40) dX9_costOf_9 (by decide) (fun _ => ?_) (fun q9 => absurd ((nI_le (Nat.le_refl _) (by omega))) q9)
      refine z_lload dX9_costOf_40 (by exact rfl) ?_
      exact z_lret (st := []) rfl dX9_costOf_42 (by rw [cst_k]; exact hq)
    | succ j ih =>
      intro r hr
      obtain ⟨e, e1, e2, e3⟩ := hu (i + r) (by omega) (by omega)
      have hub := hu.bd (i + r) (by omega) (by omega)
      refine z_iload dX9_costOf_6 (by exact rfl) ?_
      refine z_iload_n dX9_costOf_8 (by exact rfl) ?_
      refine z_icmp_ge (tgt := 40) dX9_costOf_9 (by decide) (fun q9 => absurd q9 ((nI_ge (a := i + r) (b := i + m) (by omega) (by omega)))) (fun _ => ?_)
      refine z_lload dX9_costOf_12 (by exact rfl) ?_
      refine z_aload_n dX9_costOf_14 (by exact rfl) ?_
      refine z_gfA zfx_X9_58 (by exact rfl) dX9_costOf_15 ?_
      refine z_iload dX9_costOf_18 (by exact rfl) ?_
      refine z_aJ (by exact rfl) dX9_costOf_20 (vp_in_nI (by omega) (by omega)) ?_
      refine z_eJ (lI e) (by rw [nI_clamp (n := i + r) (by omega)]; exact e1) ?_
      refine z_cS dX9_costOf_21 zk_X9_135 (by exact rfl) (Nat.le_of_ble_eq_true rfl) (Nat.le_of_ble_eq_true rfl) (Nat.le_refl _) ?_
      refine c_folded9 e2 ?_
      refine z_eJ (lN (u (i + r))) (by rw [e3]) ?_
      refine z_iload_n dX9_costOf_24 (by exact rfl) ?_
      refine z_lshr dX9_costOf_25 ?_
      refine z_eJ (lN (u (i + r) / 2 ^ k)) (lN_shr (by omega) (by omega)) ?_
      refine z_lconst dX9_costOf_26 ?_
      refine z_ladd dX9_costOf_27 ?_
      refine z_eJ (lN (u (i + r) / 2 ^ k + 1)) (lN_add _ 1) ?_
      refine z_iload_n dX9_costOf_28 (by exact rfl) ?_
      refine z_i2l dX9_costOf_29 ?_
      refine z_eJ (lN k) (nI_l (by omega)) ?_
      refine z_ladd dX9_costOf_30 ?_
      refine z_eJ (lN (u (i + r) / 2 ^ k + 1 + k)) (lN_add _ _) ?_
      refine z_ladd dX9_costOf_31 ?_
      refine z_eJ (lN (nsum (fun i => u i / 2 ^ k + 1 + k) i (r + 1))) (by rw [lN_add, nsum_r]) ?_
      refine z_lstore dX9_costOf_32 (Nat.le_of_ble_eq_true rfl) ?_
      refine z_iinc dX9_costOf_34 (by exact rfl) ?_
      refine z_at [(0, .ref 19), (2, .int (nI (i + m))), (3, .int (nI k)), (4, .long (lN (nsum (fun i => u i / 2 ^ k + 1 + k) i (r + 1)))), (6, .int (nI (i + (r + 1))))] ⟨rfl, rfl, rfl, rfl, congrArg (fun x => some (Value.int x)) (nI_1 _), trivial⟩ ?_
      refine z_goto (tgt := 6) dX9_costOf_37 (by decide) ?_
      exact ih (r + 1) (by omega)
  refine z_lconst dX9_costOf_0 ?_
  refine z_lstore dX9_costOf_1 (Nat.le_of_ble_eq_true rfl) ?_
  refine z_iload_n dX9_costOf_3 (by exact rfl) ?_
  refine z_istore dX9_costOf_4 (Nat.le_of_ble_eq_true rfl) ?_
  exact z_at [(0, .ref 19), (2, .int (nI (i + m))), (3, .int (nI k)), (4, .long (lN (nsum (fun i => u i / 2 ^ k + 1 + k) i 0))), (6, .int (nI (i + 0)))] ⟨rfl, rfl, rfl, rfl, rfl, trivial⟩ (lp m 0 (by omega))
