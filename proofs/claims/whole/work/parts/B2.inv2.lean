/-! ===== the ties through octet, feed, again, read ===== -/
theorem oct_eq {D : zD} {mb F mch : Nat} {B : Nat → Bool} (h : iMd D mb F mch B) {j : Nat} (hj : j < mb) : D.1 7 j &&& 255 = oct (D.2 54) j := by
  have hl : 8 * mb ≤ 160000 := h.1.le
  apply q_ext
  intro k hk
  have h255 : (255 : Int32) = (Int16.ofInt 255).toInt32 := rfl
  rw [h255, q_255 _ _ hk]
  by_cases h8 : k < 8
  · have hB : bt8 (D.1 7) (8 * j + (7 - k)) = B (8 * j + (7 - k)) := h.1.2.2.1 (8 * j + (7 - k)) (by omega)
    rw [oct_bit _ _ h8, h.2.1.2 _ (by omega), ← hB]
    unfold bt8
    rw [show (8 * j + (7 - k)) / 8 = j by omega, show 7 - (8 * j + (7 - k)) % 8 = k by omega]
    simp [h8]
  · have : (oct (D.2 54) j).toBitVec.getLsbD k = false := by
      unfold oct
      rw [h255]
      exact q_255b _ _ (by omega)
    rw [this]
    simp [h8]
/-- byte i of w: its bits -/
theorem wB_bit (w : Int64) {i k : Nat} (hi : i < 8) (hk : k < 8) : (wB w i).toBitVec.getLsbD k = w.toBitVec.getLsbD (56 - 8 * i + k) := by
  unfold wB
  rw [q_low8 _ hk, Int64.toBitVec_toInt32, BitVec.getLsbD_signExtend, q_lshr _ (by omega), BitVec.getLsbD_sshiftRight]
  simp [show k < 32 by omega, show k < 64 by omega, show ¬ 64 ≤ k by omega, show 56 - 8 * i + k < 64 by omega]
def fdT (T : Nat → Bool) (sz : Nat) (w : Int64) : Nat → Bool := fun i => if i < 8 * sz then T i else w.toBitVec.getLsbD (63 - (i - 8 * sz))
theorem apF_bit {f : Nat → Int32} {T : Nat → Bool} {sz n : Nat} {w : Int64} (hn : n ≤ 8) (hT : ∀ i, i < 8 * sz → bt8 f i = T i) : ∀ i, i < 8 * (sz + n) → bt8 (apF f sz n w) i = fdT T sz w i := fun i hi => by
  unfold fdT
  by_cases h : i < 8 * sz
  · rw [if_pos h, ← hT i h]
    unfold bt8 apF
    rw [if_neg (by omega)]
  · rw [if_neg h]
    unfold bt8 apF
    rw [if_pos (by omega), wB_bit w (by omega) (by omega)]
    congr 1
    omega
theorem q_m1bit : ∀ j, j < 64 → ((-1 : Int64)).toBitVec.getLsbD j = true := by decide
theorem q_255bit : ∀ j, j < 64 → ((255 : Int64)).toBitVec.getLsbD j = decide (j < 8) := by decide
theorem q_lxor (x y : Int64) (j : Nat) : (x ^^^ y).toBitVec.getLsbD j = (x.toBitVec.getLsbD j ^^ y.toBitVec.getLsbD j) := by
  rw [Int64.toBitVec_xor, BitVec.getLsbD_xor]
theorem ptB_bit {g : Nat → Int64} {p : Nat} {w : Int64} {i : Nat} (hi : i < 8) (x : Nat) : bt64 (ptB g p w i) x = if x / 8 = p then w.toBitVec.getLsbD (56 - 8 * i + (7 - x % 8)) else bt64 g x := by
  unfold bt64 ptB vp_updL
  by_cases hw : x / 64 = p / 8
  · rw [if_pos hw]
    have hs : 56 - 8 * (p % 8) < 64 := by omega
    rw [q_lor, q_land, q_lxor, q_m1bit _ (by omega), q_lshl _ hs, q_lshl _ hs, BitVec.getLsbD_shiftLeft, BitVec.getLsbD_shiftLeft, q_land]
    have e1 : 63 - x % 64 < 64 := by omega
    by_cases hp : x / 8 = p
    · rw [if_pos hp]
      have hge : ¬ 63 - x % 64 < 56 - 8 * (p % 8) := by omega
      have e2 : 63 - x % 64 - (56 - 8 * (p % 8)) = 7 - x % 8 := by omega
      rw [e2, q_255bit _ (by omega), q_lshr _ (by omega), BitVec.getLsbD_sshiftRight]
      simp [hge, e1, show 7 - x % 8 < 8 by omega, show ¬ 64 ≤ 7 - x % 8 by omega, show 56 - 8 * i + (7 - x % 8) < 64 by omega]
    · rw [if_neg hp, hw]
      by_cases hlt : 63 - x % 64 < 56 - 8 * (p % 8)
      · simp [hlt, e1]
      · rw [q_255bit _ (by omega)]
        have : ¬ 63 - x % 64 - (56 - 8 * (p % 8)) < 8 := by omega
        simp [hlt, e1, this]
  · rw [if_neg hw, if_neg (fun q => hw (by omega))]
theorem ptF_bit {g : Nat → Int64} {T : Nat → Bool} {sz : Nat} {w : Int64} (hT : ∀ i, i < 8 * sz → bt64 g i = T i) : ∀ (n : Nat), n ≤ 8 → ∀ i, i < 8 * (sz + n) → bt64 (ptF g sz w n) i = fdT T sz w i
  | 0, _, i, hi => by
    unfold fdT
    rw [if_pos (by omega)]
    exact hT i (by omega)
  | n + 1, hn, i, hi => by
    show bt64 (ptB (ptF g sz w n) (sz + n) w n) i = _
    rw [ptB_bit (by omega)]
    by_cases h : i / 8 = sz + n
    · rw [if_pos h]
      unfold fdT
      rw [if_neg (by omega)]
      congr 1
      omega
    · rw [if_neg h]
      exact ptF_bit hT n (by omega) i (by omega)
theorem inv_feed {D : zD} {sz : Nat} {T : Nat → Bool} {w : Int64} {j : Nat} (h : Inv D) (ht : iTp D sz T) (hj : j ≤ 8) (hs : sz + j ≤ 20000) : Inv (zuI (zuM (zuI (zuI (zuR D 38 (apF (D.1 38) sz j w)) 37 1 (nI (sz + j))) 19 0 (Int32.ofInt 0)) 60 (ptF (D.2 60) sz w j)) 19 20 (nI (sz + j))) := by
  obtain ⟨⟨h1, h2, h3⟩, h4, h5⟩ := ht
  obtain ⟨D', eD⟩ : ∃ D', D' = zuI (zuM (zuI (zuI (zuR D 38 (apF (D.1 38) sz j w)) 37 1 (nI (sz + j))) 19 0 (Int32.ofInt 0)) 60 (ptF (D.2 60) sz w j)) 19 20 (nI (sz + j)) := ⟨_, rfl⟩
  have hF : ∀ {F : Nat → Nat → Bool}, (∀ a k, F a k = false → ¬ a = 38 ∧ ¬ a = 60 ∧ (a = 37 → ¬ k = 1) ∧ (a = 19 → ¬ k = 0 ∧ ¬ k = 20)) → zfr F D D' := fun hn => by
    rw [eD]
    refine ⟨fun a k q => ?_, fun a k q => ?_⟩
    · have := hn a k q
      rw [zuI_ne (by omega)]
      show (zuI (zuI (zuR D 38 _) 37 1 _) 19 0 _).1 a k = _
      rw [zuI_ne (by omega), zuI_ne (by omega)]
      show (if a = 38 then _ else D.1 a) k = _
      rw [if_neg (by omega)]
    · have := hn a k q
      show (if a = 60 then _ else D.2 a) k = _
      rw [if_neg (by omega)]
  rw [← eD]
  refine ⟨h.k1 (hF (fun a k q => by unfold n1 at q; simp at q; omega)), h.k2 (hF (fun a k q => by unfold n2 at q; simp at q; omega)), h.k3 (hF (fun a k q => by unfold n3 at q; simp at q; omega)), ⟨sz + j, fdT T sz w, ⟨by rw [eD]; rfl, by rw [eD]; rfl, hs⟩, fun i hi => ?_, fun i hi => ?_⟩, h.k5 (hF (fun a k q => by unfold n5 at q; simp at q; omega))⟩
  · have e : D'.1 38 = apF (D.1 38) sz j w := by
      rw [eD]
      rfl
    rw [e]
    exact apF_bit hj h4 i hi
  · have e : D'.2 60 = ptF (D.2 60) sz w j := by
      rw [eD]
      rfl
    rw [e]
    exact ptF_bit h5 j hj i hi
theorem inv_again {D : zD} {mb F mch : Nat} {B : Nat → Bool} (h : Inv D) (hm : iMd D mb F mch B) : Inv (zuI (zuM (zuI (zuR (zuI D 37 1 (nI mb)) 38 (va_cpy (D.1 7) (D.1 38) 0 0 mb)) 19 0 (Int32.ofInt 0)) 60 (va_cpy (D.2 54) (D.2 60) 0 0 2500)) 19 20 (nI mb)) := by
  have hl : 8 * mb ≤ 160000 := hm.1.le
  obtain ⟨D', eD⟩ : ∃ D', D' = zuI (zuM (zuI (zuR (zuI D 37 1 (nI mb)) 38 (va_cpy (D.1 7) (D.1 38) 0 0 mb)) 19 0 (Int32.ofInt 0)) 60 (va_cpy (D.2 54) (D.2 60) 0 0 2500)) 19 20 (nI mb) := ⟨_, rfl⟩
  have hF : ∀ {F : Nat → Nat → Bool}, (∀ a k, F a k = false → ¬ a = 38 ∧ ¬ a = 60 ∧ (a = 37 → ¬ k = 1) ∧ (a = 19 → ¬ k = 0 ∧ ¬ k = 20)) → zfr F D D' := fun hn => by
    rw [eD]
    refine ⟨fun a k q => ?_, fun a k q => ?_⟩
    · have := hn a k q
      rw [zuI_ne (by omega)]
      show (zuI (zuR (zuI D 37 1 _) 38 _) 19 0 _).1 a k = _
      rw [zuI_ne (by omega)]
      show (if a = 38 then _ else (zuI D 37 1 _).1 a) k = _
      rw [if_neg (by omega), zuI_ne (by omega)]
    · have := hn a k q
      show (if a = 60 then _ else D.2 a) k = _
      rw [if_neg (by omega)]
  rw [← eD]
  refine ⟨h.k1 (hF (fun a k q => by unfold n1 at q; simp at q; omega)), h.k2 (hF (fun a k q => by unfold n2 at q; simp at q; omega)), h.k3 (hF (fun a k q => by unfold n3 at q; simp at q; omega)), ⟨mb, B, ⟨by rw [eD]; rfl, by rw [eD]; rfl, by omega⟩, fun i hi => ?_, fun i hi => ?_⟩, h.k5 (hF (fun a k q => by unfold n5 at q; simp at q; omega))⟩
  · have e : D'.1 38 = va_cpy (D.1 7) (D.1 38) 0 0 mb := by
      rw [eD]
      rfl
    have hB : bt8 (D.1 7) i = B i := hm.1.2.2.1 i (by omega)
    rw [e, ← hB]
    unfold bt8
    rw [pk_cpy_in (Nat.zero_le _) (by omega), Nat.zero_add, Nat.sub_zero]
  · have e : D'.2 60 = va_cpy (D.2 54) (D.2 60) 0 0 2500 := by
      rw [eD]
      rfl
    rw [e, ← hm.2.1.2 i hi]
    unfold bt64
    rw [pk_cpy_in (Nat.zero_le _) (by omega), Nat.zero_add, Nat.sub_zero]
/-- what was read fits -/
theorem sFrame_in {T : Nat → Bool} {e ch bits fr n p q : Nat} {U : zRows} (h : sFrame T e ch bits fr n p = .inr (U, q)) : fitAll ch n bits U := by
  unfold sFrame at h
  obtain ⟨asg, _, _, h⟩ | ⟨_, _, _, h⟩ := rbind_i h
  · obtain ⟨_, _, _, h⟩ | ⟨_, _, _, h⟩ := rbind_i h
    · obtain ⟨R, _, _, h⟩ | ⟨_, _, _, h⟩ := rbind_i h
      · obtain ⟨_, p4, _, h⟩ | ⟨_, _, _, h⟩ := rbind_i h
        · obtain ⟨_, p5, _, h⟩ | ⟨_, _, _, h⟩ := rbind_i h
          · rcases zif_i (P := fitAll ch n bits (unite asg R)) (a := (.inr (unite asg R, p5) : RT zRows)) (b := .inl (4, p4)) with ⟨hf, g⟩ | ⟨_, g⟩
            · have h := g.symm.trans h
              cases h
              exact hf
            · have h := g.symm.trans h
              cases h
          · cases h
        · cases h
      · cases h
    · cases h
  · cases h
theorem sRead_in {T : Nat → Bool} {e p q : Nat} {st : zSet} {S : zRow} (ho : okSet st) (h : sRead T e p = .inr ((st, S), q)) : ∀ j, j < st.2.2.2.2 * st.2.2.1 → inB st.2.2.2.1 (S j) := by
  unfold sRead at h
  obtain ⟨st', p1, _, h⟩ | ⟨_, _, _, h⟩ := rbind_i h
  · obtain ⟨S', p2, h2, h⟩ | ⟨_, _, _, h⟩ := rbind_i h
    · have he : st' = st ∧ S' = S := by
        split at h
        · cases h
          exact ⟨rfl, rfl⟩
        · cases h
      obtain ⟨rfl, rfl⟩ := he
      obtain ⟨bl, rt, ch, bi, mo⟩ := st'
      obtain ⟨o1, o2, o3, o4, o5⟩ := ho
      have h2 : rloop (fun f S => rbind (sFrame T e ch bi f (min bl (mo - f * bl))) fun U => rpure (lay ch (f * bl) (min bl (mo - f * bl)) U S)) 0 ((mo + bl - 1) / bl) (fun _ => 0) p1 = .inr (S', p2) := h2
      have o1 : 16 ≤ bl ∧ bl ≤ 256 := o1
      have o3 : 1 ≤ ch ∧ ch ≤ 8 := o3
      have key := rloop_inv (P := fun f S => ∀ j, j < min (f * bl) mo * ch → inB bi (S j)) (fun f S pp S2 qq hP hstep => by
        obtain ⟨U, p3, h3, h4⟩ | ⟨_, _, _, h4⟩ := rbind_i hstep
        · have h4 : (.inr (lay ch (f * bl) (min bl (mo - f * bl)) U S, p3) : RT zRow) = .inr (S2, qq) := h4
          cases h4
          have hfit := sFrame_in h3
          intro j hj
          show inB bi (lay ch (f * bl) (min bl (mo - f * bl)) U S j)
          unfold lay
          by_cases hc : f * bl * ch ≤ j ∧ j < (f * bl + min bl (mo - f * bl)) * ch
          · rw [if_pos hc]
            have h0 : 0 < ch := by omega
            have m1 : j % ch < ch := Nat.mod_lt _ h0
            have d1 : f * bl ≤ j / ch := (Nat.le_div_iff_mul_le h0).mpr hc.1
            have d2 : j / ch < f * bl + min bl (mo - f * bl) := (Nat.div_lt_iff_lt_mul h0).mpr hc.2
            exact hfit _ m1 _ (by omega)
          · rw [if_neg hc]
            refine hP j ?_
            have e1 : (f + 1) * bl = f * bl + bl := Nat.succ_mul _ _
            rw [e1] at hj
            rcases Nat.lt_or_ge mo (f * bl) with q | q
            · rw [show min (f * bl) mo = mo by omega]
              rw [show min (f * bl + bl) mo = mo by omega] at hj
              exact hj
            · rw [show min (f * bl) mo = f * bl by omega]
              rw [show min (f * bl + bl) mo = f * bl + min bl (mo - f * bl) by omega] at hj
              omega
        · cases h4) ((mo + bl - 1) / bl) 0 (fun _ => 0) p1 S' p2 (fun j hj => by
        rw [Nat.zero_mul, Nat.zero_min, Nat.zero_mul] at hj
        omega) h2
      intro j hj
      have hge : mo ≤ (mo + bl - 1) / bl * bl := by
        rcases Nat.lt_or_ge ((mo + bl - 1) / bl * bl) mo with q | q
        · have := (nf_lt (f := (mo + bl - 1) / bl) (m := mo) (bl := bl) (by omega)).mpr q
          omega
        · exact q
      refine key j ?_
      rw [Nat.zero_add, show min ((mo + bl - 1) / bl * bl) mo = mo by omega]
      exact hj
    · cases h
  · cases h
theorem inv_read {D D1 D2 : zD} {sz : Nat} {T : Nat → Bool} {st : zSet} {S : zRow} {q : Nat} {v : Int64} (h : Inv D) (hr : sRead T (8 * sz) 0 = .inr ((st, S), q)) (ho : okSet st) (a1 : D1.1 1 0 = nI st.2.2.1 ∧ D1.1 1 1 = nI st.2.2.2.1 ∧ D1.1 1 2 = nI st.1 ∧ D1.1 1 3 = nI st.2.1) (a2 : ∀ j, j < st.2.2.2.2 * st.2.2.1 → D1.1 4 j = iI (S j)) (a3 : D1.1 0 3 = nI (st.2.2.2.2 * st.2.2.1)) (a4 : D1.1 37 1 = 0) (a5 : D1.1 37 2 = 0) (a6 : D1.1 37 3 = Int32.ofInt (-1)) (a7 : zfr fRd8 D D1)
    (b1 : D2.1 19 1 = nI st.2.2.1 ∧ D2.1 19 2 = nI st.2.2.2.1 ∧ D2.1 19 3 = nI st.1 ∧ D2.1 19 4 = nI st.2.1) (b2 : ∀ j, j < st.2.2.2.2 * st.2.2.1 → D2.1 53 j = iI (S j)) (b3 : D2.1 19 8 = nI (st.2.2.2.2 * st.2.2.1)) (b4 : D2.1 19 20 = 0) (b5 : D2.1 19 22 = 0) (b6 : D2.1 19 23 = Int32.ofInt (-1)) (b7 : zfr fRd9 (zuL D1 18 0 v) D2) : Inv D2 := by
  have c1 : ∀ a k, fRd9 a k = false → D2.1 a k = D1.1 a k := fun a k q => b7.1 a k q
  have hx : ∀ {n : Nat → Nat → Bool}, (∀ a k, n a k = false → fRd8 a k = false ∧ n0 a k = false ∧ fRd9 a k = false) → zfr n D D2 := fun hn => ((a7.wk (fun a k q => (hn a k q).1)).tr ((zfr.rf.uL (F := n0) v rfl).wk (fun a k q => (hn a k q).2.1))).tr (b7.wk (fun a k q => (hn a k q).2.2))
  have hin := sRead_in ho hr
  obtain ⟨o1, o2, o3, o4, o5⟩ := ho
  refine ⟨⟨st.2.2.1, st.2.2.2.1, st.1, st.2.1, st.2.2.2.2 * st.2.2.1, S, ⟨(c1 1 0 rfl).trans a1.1, (c1 1 1 rfl).trans a1.2.1, (c1 1 2 rfl).trans a1.2.2.1, (c1 1 3 rfl).trans a1.2.2.2, (c1 0 3 rfl).trans a3, fun j hj => ⟨(c1 4 j rfl).trans (a2 j hj), hin j hj⟩⟩, ⟨b1.1, b1.2.1, b1.2.2.1, b1.2.2.2, b3, b2⟩, o3, o4, o1, o2, o5⟩, h.k2 (hx (fun a k q => ?_)), h.k3 (hx (fun a k q => ?_)), ⟨0, T, ⟨(c1 37 1 rfl).trans a4, b4, by omega⟩, fun i hi => absurd hi (Nat.not_lt_zero _), fun i hi => absurd hi (Nat.not_lt_zero _)⟩, ((c1 37 2 rfl).trans a5).trans b5.symm, ((c1 37 3 rfl).trans a6).trans b6.symm⟩
  · unfold n2 at q
    unfold fRd8 fAcc n0 fRd9
    simp at q ⊢
    omega
  · unfold n3 at q
    unfold fRd8 fAcc n0 fRd9
    simp at q ⊢
    omega
theorem inv_readX {D D1 D2 : zD} {k pl : Nat} (h : Inv D) (a4 : D1.1 37 1 = 0) (a5 : bad8 D1 k pl) (a7 : zfr fAcc D D1) (b4 : D2.1 19 20 = 0) (b5 : bad9 D2 k pl) (b7 : zfr (fun a k => fRd9 a k && !(a == 53 || (a == 19 && ((decide (1 ≤ k) && decide (k ≤ 4)) || k == 8)))) D1 D2) : Inv D2 := by
  have c1 : ∀ a k, fRd9 a k = false → D2.1 a k = D1.1 a k := fun a k q => b7.1 a k (by
    show (fRd9 a k && _) = false
    rw [q]
    rfl)
  have hx : ∀ {n : Nat → Nat → Bool}, (∀ a k, n a k = false → fAcc a k = false ∧ (fRd9 a k = false ∨ (a = 53 ∨ (a = 19 ∧ ((1 ≤ k ∧ k ≤ 4) ∨ k = 8))))) → zfr n D D2 := fun hn => (a7.wk (fun a k q => (hn a k q).1)).tr (b7.wk (fun a k q => by
    show (fRd9 a k && _) = false
    rcases (hn a k q).2 with e | e
    · rw [e]
      rfl
    · have : (a == 53 || (a == 19 && ((decide (1 ≤ k) && decide (k ≤ 4)) || k == 8))) = true := by
        simp
        omega
      rw [this]
      simp))
  refine ⟨h.k1 (hx (fun a k q => ?_)), h.k2 (hx (fun a k q => ?_)), h.k3 (hx (fun a k q => ?_)), ⟨0, fun _ => false, ⟨(c1 37 1 rfl).trans a4, b4, by omega⟩, fun i hi => absurd hi (Nat.not_lt_zero _), fun i hi => absurd hi (Nat.not_lt_zero _)⟩, ((c1 37 2 rfl).trans a5.1).trans b5.1.symm, ((c1 37 3 rfl).trans a5.2).trans b5.2.1.symm⟩
  · unfold n1 at q
    unfold fAcc fRd9
    simp at q ⊢
    omega
  · unfold n2 at q
    unfold fAcc fRd9
    simp at q ⊢
    omega
  · unfold n3 at q
    unfold fAcc fRd9
    simp at q ⊢
    omega
