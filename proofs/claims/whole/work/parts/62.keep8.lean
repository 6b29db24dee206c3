/-! ===== Reader.uniteRows, keepSamples ===== -/
def row8w (D : zD) (r : Nat) (a : zRow) (n : Nat) : Prop := ∀ i, i < n → D.1 r i = iI (a i) ∧ bd 134217728 (a i)
theorem iI_and1 {x : Int} : iI x &&& Int32.ofInt 1 = iI (x % 2) := by
  have h := pk_and (iI x) (m := Int32.ofInt 1) 1 (by decide)
  rw [h, iI_N]
  congr 1
  have e : (iI x).toBitVec.toNat = (x % 4294967296).toNat := by
    show (BitVec.ofInt 32 x).toNat = _
    rw [BitVec.toNat_ofInt]
    rfl
  rw [e]
  omega
def fUni (a _ : Nat) : Bool := a == 42 || a == 43
theorem sh1_bd {x : Int} (h : bd 100000000 x) : bd 100000000 (x >>> 1) := by
  rw [Int.shiftRight_eq_div_pow]
  unfold bd at *
  show -100000000 ≤ x / 2 ∧ x / 2 ≤ 100000000
  omega
theorem c_uniteRows {d asg n ch : Nat} {D : zD} {Q : zQ} {R : zRows} (hasg : (asg < 8 ∧ asg + 1 = ch) ∨ (8 ≤ asg ∧ asg ≤ 10 ∧ ch = 2)) (hn : n ≤ 256) (hRw : ∀ c, c < ch → row8 D (42 + c) (R c) n) (hq : ∀ D', (∀ c, c < ch → row8w D' (42 + c) (unite asg R c) n) → zfr fUni D D' → Q (.inl none) 0 D') :
    ZM yX4_uniteRows iX4_uniteRows d [.ref 37, .int (nI asg), .int (nI n)] D Q := by
  refine z_method (by decide) rfl (Nat.le_of_ble_eq_true rfl) ?_
  refine z_at [(0, .ref 37), (1, .int (nI asg)), (2, .int (nI n))] ⟨rfl, rfl, rfl, trivial⟩ ?_
  have ea : ∀ k, k < 16 → (nI asg = nI k ↔ asg = k) := fun k hk => nI_eq (by omega) (by omega)
  have lp : ∀ (m i : Nat) (D1 : zD), i + m = n → (∀ c, c < ch → ∀ j, j < n → D1.1 (42 + c) j = iI (if j < i then unite asg R c j else R c j)) → zfr fUni D D1 → Z (zmk iX4_uniteRows d) 0 18 (zl [(0, .ref 37), (1, .int (nI asg)), (2, .int (nI n)), (3, .ref 42), (4, .ref 43), (5, .int (nI i))]) [] D1 Q := by
    intro m
    induction m with
    | zero =>
      intro i D1 hi h1 hF
      have hi : i = n := by omega
      subst hi
      refine z_iload dX4_uniteRows_18 (by exact rfl) ?_
      refine z_iload_n dX4_uniteRows_20 (by exact rfl) ?_
      refine z_icmp_ge (tgt := 126) dX4_uniteRows_21 (by decide) (fun _ => ?_) (fun q9 => absurd ((nI_le (Nat.le_refl _) (by omega))) q9)
      exact z_vret (st := []) rfl dX4_uniteRows_126 (hq D1 (fun c hc j hj => ⟨by rw [h1 c hc j hj, if_pos hj], by
        have g := fun c hc => (hRw c hc j hj).2
        unfold smI bd at g
        have gc := g c hc
        have sb : asg = 10 → bd 100000000 ((2 * R 0 j + R 1 j % 2 + R 1 j) >>> 1) := fun e => sh1_bd (by
          have g0 := g 0 (by omega)
          have g1 := g 1 (by omega)
          unfold bd
          omega)
        unfold unite bd
        split
        · split
          · have g0 := g 0 (by omega)
            have g1 := g 1 (by omega)
            omega
          · omega
        · split
          · split
            · have g0 := g 0 (by omega)
              have g1 := g 1 (by omega)
              omega
            · omega
          · split
            next e10 =>
              have sb := sb e10
              have g1 := g 1 (by omega)
              unfold bd at sb
              split
              · omega
              · split <;> omega
            · omega⟩) hF)
    | succ m ih =>
      intro i D1 hi h1 hF
      have hlt : i < n := by omega
      rcases hasg with ⟨hl, hl2⟩ | ⟨hl1, hl2, hch⟩
      · refine z_iload dX4_uniteRows_18 (by exact rfl) ?_
        refine z_iload_n dX4_uniteRows_20 (by exact rfl) ?_
        refine z_icmp_ge (tgt := 126) dX4_uniteRows_21 (by decide) (fun q9 => absurd q9 ((nI_ge (a := i) (b := n) (by omega) (by omega)))) (fun _ => ?_)
        refine z_iload_n dX4_uniteRows_24 (by exact rfl) ?_
        refine z_bipush dX4_uniteRows_25 ?_
        refine z_icmp_ne (tgt := 48) dX4_uniteRows_27 (by decide) (fun _ => ?_) (fun q9 => absurd q9 ((fun q => absurd ((ea 8 (by omega)).mp q) (by omega))))
        refine z_iload_n dX4_uniteRows_48 (by exact rfl) ?_
        refine z_bipush dX4_uniteRows_49 ?_
        refine z_icmp_ne (tgt := 69) dX4_uniteRows_51 (by decide) (fun _ => ?_) (fun q9 => absurd q9 ((fun q => absurd ((ea 9 (by omega)).mp q) (by omega))))
        refine z_iload_n dX4_uniteRows_69 (by exact rfl) ?_
        refine z_bipush dX4_uniteRows_70 ?_
        refine z_icmp_ne (tgt := 120) dX4_uniteRows_72 (by decide) (fun _ => ?_) (fun q9 => absurd q9 ((fun q => absurd ((ea 10 (by omega)).mp q) (by omega))))
        refine z_iinc dX4_uniteRows_120 (by exact rfl) ?_
        refine z_at [(0, .ref 37), (1, .int (nI asg)), (2, .int (nI n)), (3, .ref 42), (4, .ref 43), (5, .int (nI (i + 1)))] ⟨rfl, rfl, rfl, rfl, rfl, congrArg (fun x => some (Value.int x)) (nI_1 i), trivial⟩ ?_
        refine z_goto (tgt := 18) dX4_uniteRows_123 (by decide) ?_
        exact ih (i + 1) D1 (by omega) (fun c hc j hj => by
          have e : unite asg R c j = R c j := by
            unfold unite
            rw [if_neg (by omega), if_neg (by omega), if_neg (by omega)]
          rw [h1 c hc j hj, e]
          split <;> split <;> rfl) hF
      · subst hch
        have g0 : D1.1 42 i = iI (R 0 i) := by
          have := h1 0 (by omega) i hlt
          rw [if_neg (by omega)] at this
          exact this
        have g1 : D1.1 43 i = iI (R 1 i) := by
          have := h1 1 (by omega) i hlt
          rw [if_neg (by omega)] at this
          exact this
        have b0 := (hRw 0 (by omega) i hlt).2
        have b1 := (hRw 1 (by omega) i hlt).2
        unfold smI bd at b0 b1
        have cl : (nI i).toNatClampNeg = i := nI_clamp (by omega)
        have vin : vp_in (nI i) 256 := vp_in_nI (by omega) (by omega)
        have fin : ∀ D2 : zD, (∀ c, c < 2 → ∀ j, ¬ j = i → D2.1 (42 + c) j = D1.1 (42 + c) j) → D2.1 42 i = iI (unite asg R 0 i) → D2.1 43 i = iI (unite asg R 1 i) → zfr fUni D D2 → Z (zmk iX4_uniteRows d) 0 120 (zl [(0, .ref 37), (1, .int (nI asg)), (2, .int (nI n)), (3, .ref 42), (4, .ref 43), (5, .int (nI i))]) [] D2 Q := by
          intro D2 e1 e2 e3 hF2
          refine z_iinc dX4_uniteRows_120 (by exact rfl) ?_
          refine z_at [(0, .ref 37), (1, .int (nI asg)), (2, .int (nI n)), (3, .ref 42), (4, .ref 43), (5, .int (nI (i + 1)))] ⟨rfl, rfl, rfl, rfl, rfl, congrArg (fun x => some (Value.int x)) (nI_1 i), trivial⟩ ?_
          refine z_goto (tgt := 18) dX4_uniteRows_123 (by decide) ?_
          exact ih (i + 1) D2 (by omega) (fun c hc j hj => by
            obtain e | e : j = i ∨ ¬ j = i := by omega
            · subst e
              rw [if_pos (by omega)]
              obtain c0 | c0 : c = 0 ∨ c = 1 := by omega
              · subst c0
                exact e2
              · subst c0
                exact e3
            · rw [e1 c hc j e, h1 c hc j hj]
              by_cases h9 : j < i
              · rw [if_pos h9, if_pos (by omega)]
              · rw [if_neg h9, if_neg (by omega)]) hF2
        obtain e | e | e : asg = 8 ∨ asg = 9 ∨ asg = 10 := by omega
        · subst e
          refine z_iload dX4_uniteRows_18 (by exact rfl) ?_
          refine z_iload_n dX4_uniteRows_20 (by exact rfl) ?_
          refine z_icmp_ge (tgt := 126) dX4_uniteRows_21 (by decide) (fun q9 => absurd q9 ((nI_ge (a := i) (b := n) (by omega) (by omega)))) (fun _ => ?_)
          refine z_iload_n dX4_uniteRows_24 (by exact rfl) ?_
          refine z_bipush dX4_uniteRows_25 ?_
          refine z_icmp_ne (tgt := 48) dX4_uniteRows_27 (by decide) (fun q9 => absurd (rfl) q9) (fun _ => ?_)
          refine z_aload dX4_uniteRows_30 (by exact rfl) ?_
          refine z_iload dX4_uniteRows_32 (by exact rfl) ?_
          refine z_aload_n dX4_uniteRows_34 (by exact rfl) ?_
          refine z_iload dX4_uniteRows_35 (by exact rfl) ?_
          refine z_aI (by exact rfl) dX4_uniteRows_37 vin ?_
          refine z_eI (iI (R 0 i)) (by rw [cl]; exact g0) ?_
          refine z_aload dX4_uniteRows_38 (by exact rfl) ?_
          refine z_iload dX4_uniteRows_40 (by exact rfl) ?_
          refine z_aI (by exact rfl) dX4_uniteRows_42 vin ?_
          refine z_eI (iI (R 1 i)) (by rw [cl]; exact g1) ?_
          refine z_isub dX4_uniteRows_43 ?_
          refine z_sI (by exact rfl) dX4_uniteRows_44 vin ?_
          rw [cl, iI_sub]
          refine z_goto (tgt := 120) dX4_uniteRows_45 (by decide) ?_
          exact z_at [(0, .ref 37), (1, .int (nI 8)), (2, .int (nI n)), (3, .ref 42), (4, .ref 43), (5, .int (nI i))] ⟨rfl, rfl, rfl, rfl, rfl, rfl, trivial⟩ (fin _ (fun c hc j hj => zuI_ne (by omega)) ((zuI_ne (by omega)).trans g0) (zuI_at _ _ _ _) (hF.uI _ rfl))
        · subst e
          refine z_iload dX4_uniteRows_18 (by exact rfl) ?_
          refine z_iload_n dX4_uniteRows_20 (by exact rfl) ?_
          refine z_icmp_ge (tgt := 126) dX4_uniteRows_21 (by decide) (fun q9 => absurd q9 ((nI_ge (a := i) (b := n) (by omega) (by omega)))) (fun _ => ?_)
          refine z_iload_n dX4_uniteRows_24 (by exact rfl) ?_
          refine z_bipush dX4_uniteRows_25 ?_
          refine z_icmp_ne (tgt := 48) dX4_uniteRows_27 (by decide) (fun _ => ?_) (fun q9 => absurd q9 ((by decide)))
          refine z_iload_n dX4_uniteRows_48 (by exact rfl) ?_
          refine z_bipush dX4_uniteRows_49 ?_
          refine z_icmp_ne (tgt := 69) dX4_uniteRows_51 (by decide) (fun q9 => absurd (rfl) q9) (fun _ => ?_)
          refine z_aload_n dX4_uniteRows_54 (by exact rfl) ?_
          refine z_iload dX4_uniteRows_55 (by exact rfl) ?_
          refine z_dup2 dX4_uniteRows_57 (by exact rfl) (by exact rfl) ?_
          refine z_aI (by exact rfl) dX4_uniteRows_58 vin ?_
          refine z_eI (iI (R 0 i)) (by rw [cl]; exact g0) ?_
          refine z_aload dX4_uniteRows_59 (by exact rfl) ?_
          refine z_iload dX4_uniteRows_61 (by exact rfl) ?_
          refine z_aI (by exact rfl) dX4_uniteRows_63 vin ?_
          refine z_eI (iI (R 1 i)) (by rw [cl]; exact g1) ?_
          refine z_iadd dX4_uniteRows_64 ?_
          refine z_sI (by exact rfl) dX4_uniteRows_65 vin ?_
          rw [cl, iI_add]
          refine z_goto (tgt := 120) dX4_uniteRows_66 (by decide) ?_
          exact z_at [(0, .ref 37), (1, .int (nI 9)), (2, .int (nI n)), (3, .ref 42), (4, .ref 43), (5, .int (nI i))] ⟨rfl, rfl, rfl, rfl, rfl, rfl, trivial⟩ (fin _ (fun c hc j hj => zuI_ne (by omega)) (zuI_at _ _ _ _) ((zuI_ne (by omega)).trans g1) (hF.uI _ rfl))
        · subst e
          refine z_iload dX4_uniteRows_18 (by exact rfl) ?_
          refine z_iload_n dX4_uniteRows_20 (by exact rfl) ?_
          refine z_icmp_ge (tgt := 126) dX4_uniteRows_21 (by decide) (fun q9 => absurd q9 ((nI_ge (a := i) (b := n) (by omega) (by omega)))) (fun _ => ?_)
          refine z_iload_n dX4_uniteRows_24 (by exact rfl) ?_
          refine z_bipush dX4_uniteRows_25 ?_
          refine z_icmp_ne (tgt := 48) dX4_uniteRows_27 (by decide) (fun _ => ?_) (fun q9 => absurd q9 ((by decide)))
          refine z_iload_n dX4_uniteRows_48 (by exact rfl) ?_
          refine z_bipush dX4_uniteRows_49 ?_
          refine z_icmp_ne (tgt := 69) dX4_uniteRows_51 (by decide) (fun _ => ?_) (fun q9 => absurd q9 ((by decide)))
          refine z_iload_n dX4_uniteRows_69 (by exact rfl) ?_
          refine z_bipush dX4_uniteRows_70 ?_
          refine z_icmp_ne (tgt := 120) dX4_uniteRows_72 (by decide) (fun q9 => absurd (rfl) q9) (fun _ => ?_)
          refine z_iconst dX4_uniteRows_75 ?_
          refine z_aload_n dX4_uniteRows_76 (by exact rfl) ?_
          refine z_iload dX4_uniteRows_77 (by exact rfl) ?_
          refine z_aI (by exact rfl) dX4_uniteRows_79 vin ?_
          refine z_eI (iI (R 0 i)) (by rw [cl]; exact g0) ?_
          refine z_imul dX4_uniteRows_80 ?_
          refine z_aload dX4_uniteRows_81 (by exact rfl) ?_
          refine z_iload dX4_uniteRows_83 (by exact rfl) ?_
          refine z_aI (by exact rfl) dX4_uniteRows_85 vin ?_
          refine z_eI (iI (R 1 i)) (by rw [cl]; exact g1) ?_
          refine z_iconst dX4_uniteRows_86 ?_
          refine z_iand dX4_uniteRows_87 ?_
          refine z_iadd dX4_uniteRows_88 ?_
          refine z_eI (iI (2 * R 0 i + R 1 i % 2)) (by rw [iI_and1, show Int32.ofInt 2 = iI 2 from rfl, iI_mul, iI_add]) ?_
          refine z_istore dX4_uniteRows_89 (Nat.le_of_ble_eq_true rfl) ?_
          refine z_aload_n dX4_uniteRows_91 (by exact rfl) ?_
          refine z_iload dX4_uniteRows_92 (by exact rfl) ?_
          refine z_iload dX4_uniteRows_94 (by exact rfl) ?_
          refine z_aload dX4_uniteRows_96 (by exact rfl) ?_
          refine z_iload dX4_uniteRows_98 (by exact rfl) ?_
          refine z_aI (by exact rfl) dX4_uniteRows_100 vin ?_
          refine z_eI (iI (R 1 i)) (by rw [cl]; exact g1) ?_
          refine z_iadd dX4_uniteRows_101 ?_
          refine z_eI (iI (2 * R 0 i + R 1 i % 2 + R 1 i)) (iI_add _ _) ?_
          refine z_iconst dX4_uniteRows_102 ?_
          refine z_ishr dX4_uniteRows_103 ?_
          refine z_eI (iI ((2 * R 0 i + R 1 i % 2 + R 1 i) >>> 1)) (iI_shr (s := 1) (by omega) (by omega) (by omega)) ?_
          refine z_sI (by exact rfl) dX4_uniteRows_104 vin ?_
          rw [cl]
          refine z_aload dX4_uniteRows_105 (by exact rfl) ?_
          refine z_iload dX4_uniteRows_107 (by exact rfl) ?_
          refine z_aload_n dX4_uniteRows_109 (by exact rfl) ?_
          refine z_iload dX4_uniteRows_110 (by exact rfl) ?_
          refine z_aI (by exact rfl) dX4_uniteRows_112 vin ?_
          refine z_eI (iI ((2 * R 0 i + R 1 i % 2 + R 1 i) >>> 1)) (by rw [cl]; exact zuI_at _ _ _ _) ?_
          refine z_aload dX4_uniteRows_113 (by exact rfl) ?_
          refine z_iload dX4_uniteRows_115 (by exact rfl) ?_
          refine z_aI (by exact rfl) dX4_uniteRows_117 vin ?_
          refine z_eI (iI (R 1 i)) (by rw [cl]; exact (zuI_ne (by omega)).trans g1) ?_
          refine z_isub dX4_uniteRows_118 ?_
          refine z_sI (by exact rfl) dX4_uniteRows_119 vin ?_
          rw [cl, iI_sub]
          exact z_at [(0, .ref 37), (1, .int (nI 10)), (2, .int (nI n)), (3, .ref 42), (4, .ref 43), (5, .int (nI i))] ⟨rfl, rfl, rfl, rfl, rfl, rfl, trivial⟩ (fin _ (fun c hc j hj => (zuI_ne (by omega)).trans (zuI_ne (by omega))) ((zuI_ne (by omega)).trans (zuI_at _ _ _ _)) (zuI_at _ _ _ _) ((hF.uI _ rfl).uI _ rfl))
  refine z_aload_n dX4_uniteRows_0 (by exact rfl) ?_
  refine z_gfA zfx_X4_38 (by exact rfl) dX4_uniteRows_1 ?_
  refine z_iconst dX4_uniteRows_4 ?_
  refine z_aald (j := 0) rfl dX4_uniteRows_5 (vp_in_nI (n := 0) (by omega) (by omega)) rfl rfl ?_
  refine z_astore_n dX4_uniteRows_6 (Nat.le_of_ble_eq_true rfl) ?_
  refine z_aload_n dX4_uniteRows_7 (by exact rfl) ?_
  refine z_gfA zfx_X4_38 (by exact rfl) dX4_uniteRows_8 ?_
  refine z_iconst dX4_uniteRows_11 ?_
  refine z_aald (j := 1) rfl dX4_uniteRows_12 (vp_in_nI (n := 1) (by omega) (by omega)) rfl rfl ?_
  refine z_astore dX4_uniteRows_13 (Nat.le_of_ble_eq_true rfl) ?_
  refine z_iconst dX4_uniteRows_15 ?_
  refine z_istore dX4_uniteRows_16 (Nat.le_of_ble_eq_true rfl) ?_
  exact z_at [(0, .ref 37), (1, .int (nI asg)), (2, .int (nI n)), (3, .ref 42), (4, .ref 43), (5, .int (nI 0))] ⟨rfl, rfl, rfl, rfl, rfl, rfl, trivial⟩ (lp n 0 D (by omega) (fun c hc j hj => by rw [if_neg (by omega)]; exact (hRw c hc j hj).1) zfr.rf)
theorem zac_row : ∀ c, c < 8 → zac (42 + c) = some (0, 256) := by decide
theorem z_rowsld {M : zM} {k pc : Nat} {L : zLo} {st : List Value} {D : zD} {Q : zQ} {c : Nat} (hc : c < 8) (hd : decode (zcc M) pc = .ok (.aaload, 1)) (kk : Z M k (pc + 1) L (.ref (42 + c) :: st) D Q) : Z M k pc L (.int (nI c) :: .ref 41 :: st) D Q := by
  refine z_aald (j := c) (rs := [42, 43, 44, 45, 46, 47, 48, 49]) rfl hd (vp_in_nI hc (by omega)) (nI_clamp (by omega)) ?_ kk
  have : ∀ c, c < 8 → ([42, 43, 44, 45, 46, 47, 48, 49] : List Nat)[c]? = some (42 + c) := by decide
  exact this c hc
/-- the first m numbers of the sound read -/
def smp8 (D : zD) (S : zRow) (m : Nat) : Prop := ∀ j, j < m → D.1 40 j = iI (S j)
def f40 (a _ : Nat) : Bool := a == 40
def fKeep (a k : Nat) : Bool := fAt a k || a == 40
theorem idx_inj {ch x y c e : Nat} (hc : c < ch) (he : e < ch) (h : x * ch + c = y * ch + e) : x = y ∧ c = e := by
  have h0 : 0 < ch := by omega
  have h1 : (x * ch + c) / ch = x := by
    rw [Nat.mul_comm, Nat.mul_add_div h0, Nat.div_eq_of_lt hc]
    rfl
  have h2 : (y * ch + e) / ch = y := by
    rw [Nat.mul_comm, Nat.mul_add_div h0, Nat.div_eq_of_lt he]
    rfl
  have h3 : x = y := by rw [← h1, ← h2, h]
  subst h3
  exact ⟨rfl, by omega⟩
theorem c_keepSamples {d first n ch bits it : Nat} {D : zD} {Q : zQ} {U : zRows} {S : zRow} (hch : D.1 39 0 = nI ch) (hbi : D.1 39 1 = nI bits) (hc : 1 ≤ ch ∧ ch ≤ 8) (hb : 4 ≤ bits ∧ bits ≤ 24) (hn : n ≤ 256) (hfn : (first + n) * ch ≤ 4096) (hit : D.1 37 8 = nI it) (hU : ∀ c, c < ch → row8w D (42 + c) (U c) n) (hS : smp8 D S (first * ch))
    (h1 : ∀ D', fitAll ch n bits U → smp8 D' (lay ch first n U S) ((first + n) * ch) → zfr f40 D D' → Q (.inl none) 0 D') (h0 : ∀ D', ¬ fitAll ch n bits U → bad8 D' 4 it → zfr fKeep D D' → Q (.inr zISE) 1 D') :
    ZM yX4_keepSamples iX4_keepSamples (d + 2) [.ref 37, .int (nI first), .int (nI n)] D Q := by
  refine z_method (by decide) rfl (Nat.le_of_ble_eq_true rfl) ?_
  refine z_at [(0, .ref 37), (1, .int (nI first)), (2, .int (nI n))] ⟨rfl, rfl, rfl, trivial⟩ ?_
  have hf4 : first ≤ 4096 := Nat.le_trans (Nat.le_trans (Nat.le_add_right _ _) (Nat.le_mul_of_pos_right _ (by omega))) hfn
  have inner : ∀ (c : Nat), c < ch → (∀ D1 : zD, (∀ c', c' < c + 1 → ∀ i', i' < n → inB bits (U c' i') ∧ D1.1 40 ((first + i') * ch + c') = iI (U c' i')) → (∀ j, j < first * ch → D1.1 40 j = D.1 40 j) → zfr f40 D D1 → Z (zmk iX4_keepSamples (d + 2)) 0 2 (zl [(0, .ref 37), (1, .int (nI first)), (2, .int (nI n)), (3, .int (nI (c + 1)))]) [] D1 Q) → ∀ (m i : Nat) (D1 : zD), i + m = n → (∀ c', c' < ch → ∀ i', i' < n → (c' < c ∨ (c' = c ∧ i' < i)) → inB bits (U c' i') ∧ D1.1 40 ((first + i') * ch + c') = iI (U c' i')) → (∀ j, j < first * ch → D1.1 40 j = D.1 40 j) → zfr f40 D D1 → Z (zmk iX4_keepSamples (d + 2)) 0 16 (zl [(0, .ref 37), (1, .int (nI first)), (2, .int (nI n)), (3, .int (nI c)), (4, .int (nI i))]) [] D1 Q := by
    intro c hcc next m
    induction m with
    | zero =>
      intro i D1 hi e1 e2 hF
      have hi : i = n := by omega
      subst hi
      refine z_iload dX4_keepSamples_16 (by exact rfl) ?_
      refine z_iload_n dX4_keepSamples_18 (by exact rfl) ?_
      refine z_icmp_ge (tgt := 81) dX4_keepSamples_19 (by decide) (fun _ => ?_) (fun q9 => absurd ((nI_le (Nat.le_refl _) (by omega))) q9)
      refine z_iinc dX4_keepSamples_81 (by exact rfl) ?_
      refine z_at [(0, .ref 37), (1, .int (nI first)), (2, .int (nI i)), (3, .int (nI (c + 1)))] ⟨rfl, rfl, rfl, congrArg (fun x => some (Value.int x)) (nI_1 c), trivial⟩ ?_
      refine z_goto (tgt := 2) dX4_keepSamples_84 (by decide) ?_
      exact next D1 (fun c' hc' i' hi' => e1 c' (by omega) i' hi' (by omega)) e2 hF
    | succ m ih =>
      intro i D1 hi e1 e2 hF
      obtain ⟨g1, g2⟩ := hU c hcc i (by omega)
      have g3 : D1.1 (42 + c) i = iI (U c i) := by
        rw [hF.1 (42 + c) i (by unfold f40; simp; omega)]
        exact g1
      unfold bd at g2
      have hlt : (first + i) * ch + c < 4096 := by
        have : (first + i + 1) * ch ≤ (first + n) * ch := Nat.mul_le_mul_right _ (by omega)
        rw [Nat.succ_mul] at this
        omega
      refine z_iload dX4_keepSamples_16 (by exact rfl) ?_
      refine z_iload_n dX4_keepSamples_18 (by exact rfl) ?_
      refine z_icmp_ge (tgt := 81) dX4_keepSamples_19 (by decide) (fun q9 => absurd q9 ((nI_ge (a := i) (b := n) (by omega) (by omega)))) (fun _ => ?_)
      refine z_aload_n dX4_keepSamples_22 (by exact rfl) ?_
      refine z_aload_n dX4_keepSamples_23 (by exact rfl) ?_
      refine z_gfA zfx_X4_38 (by exact rfl) dX4_keepSamples_24 ?_
      refine z_iload_n dX4_keepSamples_27 (by exact rfl) ?_
      refine z_rowsld (by omega) dX4_keepSamples_28 ?_
      refine z_iload dX4_keepSamples_29 (by exact rfl) ?_
      refine z_aI (zac_row c (by omega)) dX4_keepSamples_31 (vp_in_nI (by omega) (by omega)) ?_
      refine z_eI (iI (U c i)) (by rw [nI_clamp (n := i) (by omega)]; exact g3) ?_
      refine z_i2l dX4_keepSamples_32 ?_
      refine z_eJ (lI (U c i)) (iI_l (by omega) (by omega)) ?_
      refine z_aload_n dX4_keepSamples_33 (by exact rfl) ?_
      refine z_gfA zfx_X4_28 (by exact rfl) dX4_keepSamples_34 ?_
      refine z_gfI zfx_X4_138 (by exact rfl) dX4_keepSamples_37 ?_
      refine z_eI (nI bits) ((hF.1 39 1 rfl).trans hbi) ?_
      refine z_cN dX4_keepSamples_40 zk_X4_169 rfl (by exact rfl) (Nat.le_of_ble_eq_true rfl) (Nat.le_of_ble_eq_true rfl) (Nat.le_refl _) ?_
      refine c_fits8 (fun a40 b40 => ?_) (fun n40 => ?_)
      · have hin := (zlim_in (b := bits) (x := U c i) (by omega) (by omega) (by omega) (by omega)).mp ⟨a40, b40⟩
        refine z_iconst dX4_keepSamples_43 ?_
        refine z_cV dX4_keepSamples_44 zk_X4_119 (by exact rfl) (by exact rfl) (by exact rfl) (Nat.le_of_ble_eq_true rfl) (Nat.le_of_ble_eq_true rfl) (Nat.le_refl _) ?_
        refine c_fu (kind := 4) (it := it) ((hF.1 37 8 rfl).trans hit) (fun _ => ?_) (fun D4 q => absurd q (by decide))
        refine z_aload_n dX4_keepSamples_47 (by exact rfl) ?_
        refine z_gfA zfx_X4_32 (by exact rfl) dX4_keepSamples_48 ?_
        refine z_iload_n dX4_keepSamples_51 (by exact rfl) ?_
        refine z_iload dX4_keepSamples_52 (by exact rfl) ?_
        refine z_iadd dX4_keepSamples_54 ?_
        refine z_aload_n dX4_keepSamples_55 (by exact rfl) ?_
        refine z_gfA zfx_X4_28 (by exact rfl) dX4_keepSamples_56 ?_
        refine z_gfI zfx_X4_135 (by exact rfl) dX4_keepSamples_59 ?_
        refine z_eI (nI ch) ((hF.1 39 0 rfl).trans hch) ?_
        refine z_imul dX4_keepSamples_62 ?_
        refine z_iload_n dX4_keepSamples_63 (by exact rfl) ?_
        refine z_iadd dX4_keepSamples_64 ?_
        refine z_eI (nI ((first + i) * ch + c)) (by rw [nI_add, pk_mul, nI_add]) ?_
        refine z_aload_n dX4_keepSamples_65 (by exact rfl) ?_
        refine z_gfA zfx_X4_38 (by exact rfl) dX4_keepSamples_66 ?_
        refine z_iload_n dX4_keepSamples_69 (by exact rfl) ?_
        refine z_rowsld (by omega) dX4_keepSamples_70 ?_
        refine z_iload dX4_keepSamples_71 (by exact rfl) ?_
        refine z_aI (zac_row c (by omega)) dX4_keepSamples_73 (vp_in_nI (by omega) (by omega)) ?_
        refine z_eI (iI (U c i)) (by rw [nI_clamp (n := i) (by omega)]; exact g3) ?_
        refine z_sI (by exact rfl) dX4_keepSamples_74 (vp_in_nI hlt (by omega)) ?_
        rw [nI_clamp (n := (first + i) * ch + c) (by omega)]
        refine z_iinc dX4_keepSamples_75 (by exact rfl) ?_
        refine z_at [(0, .ref 37), (1, .int (nI first)), (2, .int (nI n)), (3, .int (nI c)), (4, .int (nI (i + 1)))] ⟨rfl, rfl, rfl, rfl, congrArg (fun x => some (Value.int x)) (nI_1 i), trivial⟩ ?_
        refine z_goto (tgt := 16) dX4_keepSamples_78 (by decide) ?_
        exact ih (i + 1) _ (by omega) (fun c' hc' i' hi' h9 => by
          by_cases he : c' = c ∧ i' = i
          · obtain ⟨rfl, rfl⟩ := he
            exact ⟨hin, zuI_at _ _ _ _⟩
          · obtain ⟨q1, q2⟩ := e1 c' hc' i' hi' (by omega)
            refine ⟨q1, (zuI_ne (fun q => he ?_)).trans q2⟩
            have := idx_inj hc' hcc q.2
            omega) (fun j hj => (zuI_ne (fun q => by
              have : first * ch ≤ (first + i) * ch := Nat.mul_le_mul_right _ (by omega)
              omega)).trans (e2 j hj)) (hF.uI _ rfl)
      · skip
        refine z_iconst dX4_keepSamples_43 ?_
        refine z_cV dX4_keepSamples_44 zk_X4_119 (by exact rfl) (by exact rfl) (by exact rfl) (Nat.le_of_ble_eq_true rfl) (Nat.le_of_ble_eq_true rfl) (Nat.le_refl _) ?_
        exact c_fu (kind := 4) (it := it) ((hF.1 37 8 rfl).trans hit) (fun q => absurd rfl q) (fun D3 _ hb3 hf => zx_out rfl (h0 D3 (fun q => n40 ((zlim_in (b := bits) (x := U c i) (by omega) (by omega) (by omega) (by omega)).mpr (q c hcc i (by omega)))) hb3 ((hF.wk (fun a k h => or_r h)).tr (hf.wk (fun a k h => or_l h)))))
  have outer : ∀ (m c : Nat) (D1 : zD), c + m = ch → (∀ c', c' < c → ∀ i', i' < n → inB bits (U c' i') ∧ D1.1 40 ((first + i') * ch + c') = iI (U c' i')) → (∀ j, j < first * ch → D1.1 40 j = D.1 40 j) → zfr f40 D D1 → Z (zmk iX4_keepSamples (d + 2)) 0 2 (zl [(0, .ref 37), (1, .int (nI first)), (2, .int (nI n)), (3, .int (nI c))]) [] D1 Q := by
    intro m
    induction m with
    | zero =>
      intro c D1 hm e1 e2 hF
      have hm : c = ch := by omega
      subst hm
      refine z_iload_n dX4_keepSamples_2 (by exact rfl) ?_
      refine z_aload_n dX4_keepSamples_3 (by exact rfl) ?_
      refine z_gfA zfx_X4_28 (by exact rfl) dX4_keepSamples_4 ?_
      refine z_gfI zfx_X4_135 (by exact rfl) dX4_keepSamples_7 ?_
      refine z_eI (nI c) ((hF.1 39 0 rfl).trans hch) ?_
      refine z_icmp_ge (tgt := 87) dX4_keepSamples_10 (by decide) (fun _ => ?_) (fun q9 => absurd ((nI_le (Nat.le_refl _) (by omega))) q9)
      exact z_vret (st := []) rfl dX4_keepSamples_87 (h1 D1 (fun c' hc' i' hi' => (e1 c' hc' i' hi').1) (fun j hj => by
        unfold lay
        by_cases h9 : first * c ≤ j
        · have hjd : first ≤ j / c := by
            rw [Nat.le_div_iff_mul_le (by omega)]
            exact h9
          have hjd2 : j / c < first + n := by
            rw [Nat.div_lt_iff_lt_mul (by omega)]
            exact hj
          have := (e1 (j % c) (Nat.mod_lt _ (by omega)) (j / c - first) (by omega)).2
          rw [show first + (j / c - first) = j / c by omega, Nat.mul_comm, Nat.div_add_mod] at this
          rw [if_pos ⟨h9, hj⟩]
          exact this
        · rw [if_neg (fun q => h9 q.1), e2 j (by omega)]
          exact hS j (by omega)) hF)
    | succ m ih =>
      intro c D1 hm e1 e2 hF
      refine z_iload_n dX4_keepSamples_2 (by exact rfl) ?_
      refine z_aload_n dX4_keepSamples_3 (by exact rfl) ?_
      refine z_gfA zfx_X4_28 (by exact rfl) dX4_keepSamples_4 ?_
      refine z_gfI zfx_X4_135 (by exact rfl) dX4_keepSamples_7 ?_
      refine z_eI (nI ch) ((hF.1 39 0 rfl).trans hch) ?_
      refine z_icmp_ge (tgt := 87) dX4_keepSamples_10 (by decide) (fun q9 => absurd q9 ((nI_ge (a := c) (b := ch) (by omega) (by omega)))) (fun _ => ?_)
      refine z_iconst dX4_keepSamples_13 ?_
      refine z_istore dX4_keepSamples_14 (Nat.le_of_ble_eq_true rfl) ?_
      exact z_at [(0, .ref 37), (1, .int (nI first)), (2, .int (nI n)), (3, .int (nI c)), (4, .int (nI 0))] ⟨rfl, rfl, rfl, rfl, rfl, trivial⟩ (inner c (by omega) (fun D2 f1 f2 hF2 => ih (c + 1) D2 (by omega) f1 f2 hF2) n 0 D1 (by omega) (fun c' hc' i' hi' h9 => e1 c' (by omega) i' hi') e2 hF)
  refine z_iconst dX4_keepSamples_0 ?_
  refine z_istore_n dX4_keepSamples_1 (Nat.le_of_ble_eq_true rfl) ?_
  exact z_at [(0, .ref 37), (1, .int (nI first)), (2, .int (nI n)), (3, .int (nI 0))] ⟨rfl, rfl, rfl, rfl, trivial⟩ (outer ch 0 D (by omega) (fun c' hc' => by omega) (fun j hj => rfl) zfr.rf)
