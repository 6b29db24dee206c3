/-! ===== Predictor.foretell, becomeFixed ===== -/
def bd (B : Int) (x : Int) : Prop := -B ≤ x ∧ x ≤ B
theorem bd_abs {x : Int} {n : Nat} : bd (n : Int) x ↔ x.natAbs ≤ n := by
  unfold bd
  omega
theorem bd_mul {x y : Int} {m n : Nat} (hx : bd (m : Int) x) (hy : bd (n : Int) y) : bd ((m * n : Nat) : Int) (x * y) := by
  rw [bd_abs] at *
  rw [Int.natAbs_mul]
  exact Nat.mul_le_mul hx hy
theorem sm_bd {f : Nat → Int} {M : Nat} : ∀ {n : Nat}, (∀ j, j < n → bd (M : Int) (f j)) → bd ((n * M : Nat) : Int) (sm f n)
  | 0, _ => by
    rw [bd_abs]
    exact Nat.zero_le _
  | n + 1, h => by
    have h1 := sm_bd (n := n) (fun j hj => h j (by omega))
    have h2 := h n (by omega)
    have e : sm f (n + 1) = sm f n + f n := rfl
    rw [Nat.succ_mul, e]
    unfold bd at *
    omega
theorem sm_congr {f g : Nat → Int} : ∀ {n : Nat}, (∀ j, j < n → f j = g j) → sm f n = sm g n
  | 0, _ => rfl
  | n + 1, h => by
    unfold sm
    rw [sm_congr (fun j hj => h j (by omega)), h n (by omega)]
/-- small enough for a number of a row, a weight -/
def smI (x : Int) : Prop := bd 16777216 x
def wtI (x : Int) : Prop := bd 16384 x
theorem fsum_bd {c : Nat → Int} {a : zRow} {i : Nat} : ∀ {j : Nat}, j ≤ 32 → (∀ k, k < j → wtI (c k)) → (∀ k, k < j → smI (a (i - 1 - k))) → bd 8796093022208 (sm (fun k => c k * a (i - 1 - k)) j) := by
  intro j hj h1 h2
  have h := sm_bd (f := fun k => c k * a (i - 1 - k)) (M := 16384 * 16777216) (n := j) (fun k hk => bd_mul (m := 16384) (n := 16777216) (h1 k hk) (h2 k hk))
  have : j * (16384 * 16777216) ≤ 32 * (16384 * 16777216) := Nat.mul_le_mul_right _ hj
  unfold bd at *
  omega
theorem fore_bd {c : Nat → Int} {a : zRow} {i s o : Nat} (ho : o ≤ 32) (h1 : ∀ k, k < o → wtI (c k)) (h2 : ∀ k, k < o → smI (a (i - 1 - k))) : bd 8796093022209 (fore c s o a i) := by
  have h := fsum_bd ho h1 h2
  have h3 := shr_bd (B := 8796093022209) s (by omega) (by unfold bd at h; omega) (by unfold bd at h; omega) (a := sm (fun k => c k * a (i - 1 - k)) o)
  unfold bd fore
  omega
/-- the numbers that a cell of ints begins with -/
def row8 (D : zD) (r : Nat) (a : zRow) (n : Nat) : Prop := ∀ i, i < n → D.1 r i = iI (a i) ∧ smI (a i)
def pred8 (D : zD) (P B o s : Nat) (c : Nat → Int) : Prop := D.1 P 1 = nI o ∧ D.1 P 2 = nI s ∧ ∀ j, j < o → D.1 B j = iI (c j) ∧ wtI (c j)
theorem c_foretell {d P B nb r o s i : Nat} {D : zD} {Q : zQ} {c : Nat → Int} {a : zRow} (hP0 : zfc P 3 0 = some (B + 2)) (hP1 : zfc P 3 1 = some 0) (hP2 : zfc P 3 2 = some 0) (hB : zac B = some (0, nb)) (hr : zac r = some (0, 256)) (hp : pred8 D P B o s c) (hs : s ≤ 15) (ho : o ≤ nb) (hnb : nb ≤ 32) (hoi : o ≤ i) (hi : i < 256) (ha : row8 D r a i) (hq : Q (.inl (some (.long (lI (fore c s o a i))))) 0 D) :
    ZM yX3_foretell iX3_foretell d [.ref P, .ref r, .int (nI i)] D Q := by
  refine z_method (by decide) rfl (Nat.le_of_ble_eq_true rfl) ?_
  obtain ⟨hp1, hp2, hp3⟩ := hp
  have lp : ∀ (m j : Nat), j + m = o → Z (zmk iX3_foretell d) 0 5 (zl [(0, .ref P), (1, .ref r), (2, .int (nI i)), (3, .long (lI (sm (fun k => c k * a (i - 1 - k)) j))), (5, .int (nI j))]) [] D Q := by
    intro m
    induction m with
    | zero =>
      intro j hj
      have hj : j = o := by omega
      subst hj
      have hb := fsum_bd (i := i) (j := j) (by omega) (fun k hk => (hp3 k hk).2) (fun k hk => (ha (i - 1 - k) (by omega)).2)
      unfold bd at hb
      refine z_iload dX3_foretell_5 (by exact rfl) ?_
      refine z_aload_n dX3_foretell_7 (by exact rfl) ?_
      refine z_gfI zfx_X3_13 hP1 dX3_foretell_8 ?_
      refine z_eI (nI j) hp1 ?_
      refine z_icmp_ge (tgt := 41) dX3_foretell_11 (by decide) (fun _ => ?_) (fun q9 => absurd ((nI_le (Nat.le_refl _) (by omega))) q9)
      refine z_lload_n dX3_foretell_41 (by exact rfl) ?_
      refine z_aload_n dX3_foretell_42 (by exact rfl) ?_
      refine z_gfI zfx_X3_17 hP2 dX3_foretell_43 ?_
      refine z_eI (nI s) hp2 ?_
      refine z_lshr dX3_foretell_46 ?_
      refine z_eJ (lI (fore c s j a i)) (lI_shr (by omega) (by omega) (by omega)) ?_
      exact z_lret (st := []) rfl dX3_foretell_47 hq
    | succ m ih =>
      intro j hj
      obtain ⟨g1, g2⟩ := hp3 j (by omega)
      obtain ⟨g3, g4⟩ := ha (i - 1 - j) (by omega)
      refine z_iload dX3_foretell_5 (by exact rfl) ?_
      refine z_aload_n dX3_foretell_7 (by exact rfl) ?_
      refine z_gfI zfx_X3_13 hP1 dX3_foretell_8 ?_
      refine z_eI (nI o) hp1 ?_
      refine z_icmp_ge (tgt := 41) dX3_foretell_11 (by decide) (fun q9 => absurd q9 ((nI_ge (a := j) (b := o) (by omega) (by omega)))) (fun _ => ?_)
      refine z_lload_n dX3_foretell_14 (by exact rfl) ?_
      refine z_aload_n dX3_foretell_15 (by exact rfl) ?_
      refine z_gfA zfx_X3_7 hP0 dX3_foretell_16 ?_
      refine z_iload dX3_foretell_19 (by exact rfl) ?_
      refine z_aI hB dX3_foretell_21 (vp_in_nI (by omega) (by omega)) ?_
      refine z_eI (iI (c j)) (by rw [nI_clamp (by omega)]; exact g1) ?_
      refine z_i2l dX3_foretell_22 ?_
      refine z_eJ (lI (c j)) (iI_l (by unfold wtI bd at g2; omega) (by unfold wtI bd at g2; omega)) ?_
      refine z_aload_n dX3_foretell_23 (by exact rfl) ?_
      refine z_iload_n dX3_foretell_24 (by exact rfl) ?_
      refine z_iconst dX3_foretell_25 ?_
      refine z_isub dX3_foretell_26 ?_
      refine z_iload dX3_foretell_27 (by exact rfl) ?_
      refine z_isub dX3_foretell_29 ?_
      refine z_eI (nI (i - 1 - j)) (by rw [show nI i - Int32.ofInt 1 = nI (i - 1) from pk_sub (a := i) (b := 1) (by omega)]; exact pk_sub (by omega)) ?_
      refine z_aI hr dX3_foretell_30 (vp_in_nI (by omega) (by omega)) ?_
      refine z_eI (iI (a (i - 1 - j))) (by rw [nI_clamp (n := i - 1 - j) (by omega)]; exact g3) ?_
      refine z_i2l dX3_foretell_31 ?_
      refine z_eJ (lI (a (i - 1 - j))) (iI_l (by unfold smI bd at g4; omega) (by unfold smI bd at g4; omega)) ?_
      refine z_lmul dX3_foretell_32 ?_
      refine z_ladd dX3_foretell_33 ?_
      refine z_eJ (lI (sm (fun k => c k * a (i - 1 - k)) (j + 1))) (by rw [lI_mul, lI_add]; rfl) ?_
      refine z_lstore_n dX3_foretell_34 (Nat.le_of_ble_eq_true rfl) ?_
      refine z_iinc dX3_foretell_35 (by exact rfl) ?_
      refine z_at [(0, .ref P), (1, .ref r), (2, .int (nI i)), (3, .long (lI (sm (fun k => c k * a (i - 1 - k)) (j + 1)))), (5, .int (nI (j + 1)))] ⟨rfl, rfl, rfl, rfl, congrArg (fun x => some (Value.int x)) (nI_1 j), trivial⟩ ?_
      refine z_goto (tgt := 5) dX3_foretell_38 (by decide) ?_
      exact ih (j + 1) (by omega)
  refine z_at [(0, .ref P), (1, .ref r), (2, .int (nI i))] ⟨rfl, rfl, rfl, trivial⟩ ?_
  refine z_lconst dX3_foretell_0 ?_
  refine z_lstore_n dX3_foretell_1 (Nat.le_of_ble_eq_true rfl) ?_
  refine z_iconst dX3_foretell_2 ?_
  refine z_istore dX3_foretell_3 (Nat.le_of_ble_eq_true rfl) ?_
  exact z_at [(0, .ref P), (1, .ref r), (2, .int (nI i)), (3, .long (lI (sm (fun k => c k * a (i - 1 - k)) 0))), (5, .int (nI 0))] ⟨rfl, rfl, rfl, rfl, rfl, trivial⟩ (lp o 0 (by omega))
theorem zuI_at (D : zD) (a k : Nat) (v : Int32) : (zuI D a k v).1 a k = v := by
  rw [zuI_s]
  exact pk_us
theorem zuI_ne {D : zD} {a k a' k' : Nat} {v : Int32} (h : ¬ (a' = a ∧ k' = k)) : (zuI D a k v).1 a' k' = D.1 a' k' := by
  unfold zuI
  simp only
  split
  next e =>
    subst e
    exact pk_un (fun q => h ⟨rfl, q⟩)
  next => rfl
def fxN (o : Nat) : Nat := o * (o - 1) / 2
theorem fxC_at : ∀ o, o ≤ 4 → ∀ j, j < o → ([1, 2, -1, 3, -3, 1, 4, -6, 4, -1] : List Int32).getD (fxN o + j) 0 = iI (fxC o j) ∧ fxN o + j < 10 := by decide
theorem fxC_w : ∀ o, o ≤ 4 → ∀ j, j < o → wtI (fxC o j) := by
  intro o ho j hj
  have : ∀ o, o ≤ 4 → ∀ j, j < o → -16384 ≤ fxC o j ∧ fxC o j ≤ 16384 := by decide
  exact this o ho j hj
theorem fxN_c : ∀ o, o ≤ 4 → (nI o * (nI o - Int32.ofInt 1)) / Int32.ofInt 2 = nI (fxN o) := by decide +kernel
def fOf (P B : Nat) (a _ : Nat) : Bool := a == P || a == B
theorem zt_X3_24 : Cond.fieldLink RX3 24 RX3 "FIXED_COEFFICIENTS" "[I" ∈ lw_tbl := by decide +kernel
theorem c_becomeFixed {d P B nb o : Nat} {D : zD} {Q : zQ} {fl : List Nat} (hPs : zSH[P]? = some (5, 3, fl)) (hP0 : zfc P 3 0 = some (B + 2)) (hP1 : zfc P 3 1 = some 0) (hP2 : zfc P 3 2 = some 0) (hB : zac B = some (0, nb)) (hPB : ¬ P = B) (ho : o ≤ 4) (hob : o ≤ nb) (hnb : nb ≤ 32) (hq : ∀ D', pred8 D' P B o 0 (fxC o) → zfr (fOf P B) D D' → Q (.inl none) 0 D') :
    ZM yX3_becomeFixed iX3_becomeFixed (d + 1) [.ref P, .int (nI o)] D Q := by
  refine z_method (by decide) rfl (Nat.le_of_ble_eq_true rfl) ?_
  have lp : ∀ (m j : Nat) (D1 : zD), j + m = o → D1.1 P 1 = nI j → D1.1 P 2 = nI 0 → (∀ k, k < j → D1.1 B k = iI (fxC o k)) → zfr (fOf P B) D D1 → Z (zmk iX3_becomeFixed (d + 1)) 0 15 (zl [(0, .ref P), (1, .int (nI o)), (2, .int (nI (fxN o))), (3, .int (nI j))]) [] D1 Q := by
    intro m
    induction m with
    | zero =>
      intro j D1 hj e1 e2 e3 hF
      have hj : j = o := by omega
      subst hj
      refine z_iload_n dX3_becomeFixed_15 (by exact rfl) ?_
      refine z_iload_n dX3_becomeFixed_16 (by exact rfl) ?_
      refine z_icmp_ge (tgt := 37) dX3_becomeFixed_17 (by decide) (fun _ => ?_) (fun q9 => absurd ((nI_le (Nat.le_refl _) (by omega))) q9)
      exact z_vret (st := []) rfl dX3_becomeFixed_37 (hq D1 ⟨e1, e2, fun k hk => ⟨e3 k hk, fxC_w j ho k hk⟩⟩ hF)
    | succ m ih =>
      intro j D1 hj e1 e2 e3 hF
      obtain ⟨g1, g2⟩ := fxC_at o ho j (by omega)
      refine z_iload_n dX3_becomeFixed_15 (by exact rfl) ?_
      refine z_iload_n dX3_becomeFixed_16 (by exact rfl) ?_
      refine z_icmp_ge (tgt := 37) dX3_becomeFixed_17 (by decide) (fun q9 => absurd q9 ((nI_ge (a := j) (b := o) (by omega) (by omega)))) (fun _ => ?_)
      refine z_aload_n dX3_becomeFixed_20 (by exact rfl) ?_
      refine z_gets zt_X3_24 dX3_becomeFixed_21 ?_
      refine z_iload_n dX3_becomeFixed_24 (by exact rfl) ?_
      refine z_iload_n dX3_becomeFixed_25 (by exact rfl) ?_
      refine z_iadd dX3_becomeFixed_26 ?_
      refine z_eI (nI (fxN o + j)) (nI_add _ _) ?_
      refine z_ifix dX3_becomeFixed_27 (vp_in_nI g2 (by omega)) ?_
      refine z_eI (iI (fxC o j)) (by rw [nI_clamp (by omega)]; exact g1) ?_
      refine z_cV dX3_becomeFixed_28 zk_X3_27 (by exact rfl) hPs (by exact rfl) (Nat.le_of_ble_eq_true rfl) (Nat.le_of_ble_eq_true rfl) (Nat.le_refl _) ?_
      refine c_add hP0 hP1 hB e1 (by omega) (by omega) hPB ?_
      refine z_iinc dX3_becomeFixed_31 (by exact rfl) ?_
      refine z_at [(0, .ref P), (1, .int (nI o)), (2, .int (nI (fxN o))), (3, .int (nI (j + 1)))] ⟨rfl, rfl, rfl, congrArg (fun x => some (Value.int x)) (nI_1 j), trivial⟩ ?_
      refine z_goto (tgt := 15) dX3_becomeFixed_34 (by decide) ?_
      exact ih (j + 1) _ (by omega) (zuI_at _ _ _ _) (by rw [zuI_ne (by omega), zuI_ne (by omega)]; exact e2) (fun k hk => by
        rw [zuI_ne (by omega)]
        obtain h | h : k = j ∨ k < j := by omega
        · subst h
          exact zuI_at _ _ _ _
        · rw [zuI_ne (by omega)]
          exact e3 k h) ((hF.uI _ (by simp [fOf])).uI _ (by simp [fOf]))
  refine z_at [(0, .ref P), (1, .int (nI o))] ⟨rfl, rfl, trivial⟩ ?_
  refine z_aload_n dX3_becomeFixed_0 (by exact rfl) ?_
  refine z_iconst dX3_becomeFixed_1 ?_
  refine z_cV dX3_becomeFixed_2 zk_X3_20 (by exact rfl) hPs (by exact rfl) (Nat.le_of_ble_eq_true rfl) (Nat.le_of_ble_eq_true rfl) (Nat.le_refl _) ?_
  refine c_begin hP1 hP2 ?_
  refine z_iload_n dX3_becomeFixed_5 (by exact rfl) ?_
  refine z_iload_n dX3_becomeFixed_6 (by exact rfl) ?_
  refine z_iconst dX3_becomeFixed_7 ?_
  refine z_isub dX3_becomeFixed_8 ?_
  refine z_imul dX3_becomeFixed_9 ?_
  refine z_iconst dX3_becomeFixed_10 ?_
  refine z_idiv dX3_becomeFixed_11 (by decide) ?_
  refine z_istore_n dX3_becomeFixed_12 (Nat.le_of_ble_eq_true rfl) ?_
  refine z_iconst dX3_becomeFixed_13 ?_
  refine z_istore_n dX3_becomeFixed_14 (Nat.le_of_ble_eq_true rfl) ?_
  exact z_at [(0, .ref P), (1, .int (nI o)), (2, .int (nI (fxN o))), (3, .int (nI 0))] ⟨rfl, rfl, congrArg (fun x => some (Value.int x)) (fxN_c o ho), rfl, trivial⟩ (lp o 0 _ (by omega) ((zuI_ne (by omega)).trans (zuI_at _ _ _ _)) (zuI_at _ _ _ _) (fun k hk => by omega) ((zfr.rf.uI _ (by simp [fOf])).uI _ (by simp [fOf])))
