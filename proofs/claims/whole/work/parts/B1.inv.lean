/-! ===== what ties class and reference ===== -/
def iSet (D : zD) (ch bits block rate m : Nat) (S : zRow) : Prop :=
  (D.1 1 0 = nI ch ∧ D.1 1 1 = nI bits ∧ D.1 1 2 = nI block ∧ D.1 1 3 = nI rate ∧ D.1 0 3 = nI m ∧ ∀ j, j < m → D.1 4 j = iI (S j) ∧ inB bits (S j)) ∧
  (D.1 19 1 = nI ch ∧ D.1 19 2 = nI bits ∧ D.1 19 3 = nI block ∧ D.1 19 4 = nI rate ∧ D.1 19 8 = nI m ∧ ∀ j, j < m → D.1 53 j = iI (S j)) ∧
  ((1 ≤ ch ∧ ch ≤ 8) ∧ (4 ≤ bits ∧ bits ≤ 24) ∧ (16 ≤ block ∧ block ≤ 256) ∧ (1 ≤ rate ∧ rate ≤ 655350) ∧ m ≤ 4096)
def iPr (D : zD) (o s : Nat) (cs : Nat → Int) : Prop := pred8 D 2 3 o s cs ∧ own9 D o s cs ∧ o ≤ 8 ∧ s ≤ 14
def iMd (D : zD) (mb F mch : Nat) (B : Nat → Bool) : Prop := penW D (8 * mb, B) ∧ (D.1 19 10 = nI mb ∧ ∀ i, i < 8 * mb → bt64 (D.2 54) i = B i) ∧ (D.1 5 1 = nI F ∧ D.1 5 2 = nI mch ∧ D.1 19 14 = nI F ∧ D.1 19 13 = nI mch) ∧ (F ≤ 256 ∧ mch ≤ 8 ∧ F * mch ≤ 264) ∧ ∀ f, f < F → ∀ c, c < mch → ∀ w, w < 5 → way8 D mch f c w = way9 D mch f c w
def iTp (D : zD) (sz : Nat) (T : Nat → Bool) : Prop := (D.1 37 1 = nI sz ∧ D.1 19 20 = nI sz ∧ sz ≤ 20000) ∧ (∀ i, i < 8 * sz → bt8 (D.1 38) i = T i) ∧ ∀ i, i < 8 * sz → bt64 (D.2 60) i = T i
def iFl (D : zD) : Prop := D.1 37 2 = D.1 19 22 ∧ D.1 37 3 = D.1 19 23
def n1 (a k : Nat) : Bool := !(a == 1 || ((a == 0 && k == 3) || (a == 4 || ((a == 19 && ((decide (1 ≤ k) && decide (k ≤ 4)) || k == 8)) || a == 53))))
def n2 (a k : Nat) : Bool := !(a == 2 || (a == 3 || (a == 52 || (a == 19 && (k == 5 || k == 6)))))
def n3 (a k : Nat) : Bool := !((decide (6 ≤ a) && decide (a ≤ 9)) || ((a == 5 && (k == 1 || k == 2)) || ((decide (54 ≤ a) && decide (a ≤ 59)) || (a == 19 && (k == 10 || (k == 13 || k == 14))))))
def n4 (a k : Nat) : Bool := !((a == 37 && k == 1) || (a == 38 || (a == 60 || (a == 19 && k == 20))))
def n5 (a k : Nat) : Bool := !((a == 37 && (k == 2 || k == 3)) || (a == 19 && (k == 22 || k == 23)))
theorem iSet.kp {D D' : zD} {ch bits block rate m : Nat} {S : zRow} (h : iSet D ch bits block rate m S) (hF : zfr n1 D D') : iSet D' ch bits block rate m S := by
  obtain ⟨⟨a1, a2, a3, a4, a5, a6⟩, ⟨b1, b2, b3, b4, b5, b6⟩, hr⟩ := h
  exact ⟨⟨(hF.1 1 0 rfl).trans a1, (hF.1 1 1 rfl).trans a2, (hF.1 1 2 rfl).trans a3, (hF.1 1 3 rfl).trans a4, (hF.1 0 3 rfl).trans a5, fun j hj => ⟨(hF.1 4 j rfl).trans (a6 j hj).1, (a6 j hj).2⟩⟩, ⟨(hF.1 19 1 rfl).trans b1, (hF.1 19 2 rfl).trans b2, (hF.1 19 3 rfl).trans b3, (hF.1 19 4 rfl).trans b4, (hF.1 19 8 rfl).trans b5, fun j hj => (hF.1 53 j rfl).trans (b6 j hj)⟩, hr⟩
theorem iPr.kp {D D' : zD} {o s : Nat} {cs : Nat → Int} (h : iPr D o s cs) (hF : zfr n2 D D') : iPr D' o s cs := ⟨h.1.fr hF (fun _ => rfl) (fun _ => rfl), h.2.1.fr hF rfl rfl (fun _ => rfl), h.2.2⟩
theorem iMd.kp {D D' : zD} {mb F mch : Nat} {B : Nat → Bool} (h : iMd D mb F mch B) (hF : zfr n3 D D') : iMd D' mb F mch B := by
  obtain ⟨h1, ⟨h2, h3⟩, ⟨g1, g2, g3, g4⟩, hr, hw⟩ := h
  refine ⟨h1.fr hF (fun _ => rfl) (fun _ => rfl), ⟨(hF.1 19 10 rfl).trans h2, fun i hi => ?_⟩, ⟨(hF.1 5 1 rfl).trans g1, (hF.1 5 2 rfl).trans g2, (hF.1 19 14 rfl).trans g3, (hF.1 19 13 rfl).trans g4⟩, hr, fun f hf c hc w hw5 => ?_⟩
  · rw [show D'.2 54 = D.2 54 from funext fun k => hF.2 54 k rfl]
    exact h3 i hi
  · have e : way8 D' mch f c w = way8 D mch f c w := by
      unfold way8
      rw [hF.1 8 f rfl, hF.1 9 _ rfl]
    have e2 : way9 D' mch f c w = way9 D mch f c w := by
      unfold way9
      rw [hF.1 55 _ rfl, hF.1 56 _ rfl, hF.1 57 _ rfl, hF.1 58 _ rfl, hF.1 59 _ rfl]
    rw [e, e2]
    exact hw f hf c hc w hw5
theorem iTp.kp {D D' : zD} {sz : Nat} {T : Nat → Bool} (h : iTp D sz T) (hF : zfr n4 D D') : iTp D' sz T := by
  obtain ⟨⟨h1, h2, h3⟩, h4, h5⟩ := h
  refine ⟨⟨(hF.1 37 1 rfl).trans h1, (hF.1 19 20 rfl).trans h2, h3⟩, fun i hi => ?_, fun i hi => ?_⟩
  · rw [show D'.1 38 = D.1 38 from funext fun k => hF.1 38 k rfl]
    exact h4 i hi
  · rw [show D'.2 60 = D.2 60 from funext fun k => hF.2 60 k rfl]
    exact h5 i hi
theorem iFl.kp {D D' : zD} (h : iFl D) (hF : zfr n5 D D') : iFl D' := ⟨((hF.1 37 2 rfl).trans h.1).trans (hF.1 19 22 rfl).symm, ((hF.1 37 3 rfl).trans h.2).trans (hF.1 19 23 rfl).symm⟩
def Inv (D : zD) : Prop := (∃ ch bits block rate m S, iSet D ch bits block rate m S) ∧ (∃ o s cs, iPr D o s cs) ∧ (∃ mb F mch B, iMd D mb F mch B) ∧ (∃ sz T, iTp D sz T) ∧ iFl D
theorem Inv.k1 {D D' : zD} (h : Inv D) (hF : zfr n1 D D') : ∃ ch bits block rate m S, iSet D' ch bits block rate m S := by
  obtain ⟨⟨ch, bits, block, rate, m, S, h⟩, _⟩ := h
  exact ⟨ch, bits, block, rate, m, S, h.kp hF⟩
theorem Inv.k2 {D D' : zD} (h : Inv D) (hF : zfr n2 D D') : ∃ o s cs, iPr D' o s cs := by
  obtain ⟨_, ⟨o, s, cs, h⟩, _⟩ := h
  exact ⟨o, s, cs, h.kp hF⟩
theorem Inv.k3 {D D' : zD} (h : Inv D) (hF : zfr n3 D D') : ∃ mb F mch B, iMd D' mb F mch B := by
  obtain ⟨_, _, ⟨mb, F, mch, B, h⟩, _⟩ := h
  exact ⟨mb, F, mch, B, h.kp hF⟩
theorem Inv.k4 {D D' : zD} (h : Inv D) (hF : zfr n4 D D') : ∃ sz T, iTp D' sz T := by
  obtain ⟨_, _, _, ⟨sz, T, h⟩, _⟩ := h
  exact ⟨sz, T, h.kp hF⟩
theorem Inv.k5 {D D' : zD} (h : Inv D) (hF : zfr n5 D D') : iFl D' := h.2.2.2.2.kp hF
/-- cells that no tie speaks of -/
def n0 (a k : Nat) : Bool := a == 18 || (a == 19 && k == 0)
theorem n0_1 (a k : Nat) (h : n1 a k = false) : n0 a k = false := by
  unfold n1 at h
  unfold n0
  simp at h ⊢
  omega
theorem n0_2 (a k : Nat) (h : n2 a k = false) : n0 a k = false := by
  unfold n2 at h
  unfold n0
  simp at h ⊢
  omega
theorem n0_3 (a k : Nat) (h : n3 a k = false) : n0 a k = false := by
  unfold n3 at h
  unfold n0
  simp at h ⊢
  omega
theorem n0_4 (a k : Nat) (h : n4 a k = false) : n0 a k = false := by
  unfold n4 at h
  unfold n0
  simp at h ⊢
  omega
theorem n0_5 (a k : Nat) (h : n5 a k = false) : n0 a k = false := by
  unfold n5 at h
  unfold n0
  simp at h ⊢
  omega
theorem Inv.k0 {D D' : zD} (h : Inv D) (hF : zfr n0 D D') : Inv D' := ⟨h.k1 (hF.wk n0_1), h.k2 (hF.wk n0_2), h.k3 (hF.wk n0_3), h.k4 (hF.wk n0_4), h.k5 (hF.wk n0_5)⟩
theorem nat_of {x : Int32} {lo hi : Nat} (hl : lo < 2 ^ 31) (hh : hi < 2 ^ 31) (h1 : lN lo ≤ x.toInt64) (h2 : x.toInt64 ≤ lN hi) : ∃ n, x = nI n ∧ lo ≤ n ∧ n ≤ hi := by
  have b1 := Int32.le_toInt x
  have b2 := Int32.toInt_lt x
  rw [i32_l, lI_N] at h1 h2
  have g1 := (lI_le (by omega) (by omega) (by omega) (by omega)).mp h1
  have g2 := (lI_le (by omega) (by omega) (by omega) (by omega)).mp h2
  refine ⟨x.toInt.toNat, ?_, by omega, by omega⟩
  rw [iI_N, Int.toNat_of_nonneg (by omega)]
  exact (Int32.ofInt_toInt x).symm
theorem inv_shape {D : zD} {c b bl r : Int32} (h : Inv D) (hk : okShape c b bl r) : Inv (zuI (zuI (zuI (zuI (zuI (zuI (zuI (zuI (zuI (zuI (zuI D 1 0 c) 1 1 b) 1 2 bl) 1 3 r) 0 3 (Int32.ofInt 0)) 19 0 (Int32.ofInt 0)) 19 1 c) 19 2 b) 19 3 bl) 19 4 r) 19 8 (Int32.ofInt 0)) := by
  obtain ⟨⟨k1, k2⟩, ⟨k3, k4⟩, ⟨k5, k6⟩, ⟨k7, k8⟩⟩ := hk
  obtain ⟨ch, rfl, c1⟩ := nat_of (lo := 1) (hi := 8) (by omega) (by omega) k1 k2
  obtain ⟨bits, rfl, c2⟩ := nat_of (lo := 4) (hi := 24) (by omega) (by omega) k3 k4
  obtain ⟨block, rfl, c3⟩ := nat_of (lo := 16) (hi := 256) (by omega) (by omega) k5 k6
  obtain ⟨rate, rfl, c4⟩ := nat_of (lo := 1) (hi := 655350) (by omega) (by omega) k7 k8
  have hF : ∀ {F : Nat → Nat → Bool}, F 1 0 = true → F 1 1 = true → F 1 2 = true → F 1 3 = true → F 0 3 = true → F 19 0 = true → F 19 1 = true → F 19 2 = true → F 19 3 = true → F 19 4 = true → F 19 8 = true → zfr F D (zuI (zuI (zuI (zuI (zuI (zuI (zuI (zuI (zuI (zuI (zuI D 1 0 (nI ch)) 1 1 (nI bits)) 1 2 (nI block)) 1 3 (nI rate)) 0 3 (Int32.ofInt 0)) 19 0 (Int32.ofInt 0)) 19 1 (nI ch)) 19 2 (nI bits)) 19 3 (nI block)) 19 4 (nI rate)) 19 8 (Int32.ofInt 0)) := fun a b c d e f g h i j k => ((((((((((zfr.rf.uI _ a).uI _ b).uI _ c).uI _ d).uI _ e).uI _ f).uI _ g).uI _ h).uI _ i).uI _ j).uI _ k
  refine ⟨⟨ch, bits, block, rate, 0, fun _ => 0, ⟨rfl, rfl, rfl, rfl, rfl, fun j hj => absurd hj (Nat.not_lt_zero _)⟩, ⟨rfl, rfl, rfl, rfl, rfl, fun j hj => absurd hj (Nat.not_lt_zero _)⟩, c1, c2, c3, c4, by omega⟩, h.k2 (hF rfl rfl rfl rfl rfl rfl rfl rfl rfl rfl rfl), h.k3 (hF rfl rfl rfl rfl rfl rfl rfl rfl rfl rfl rfl), h.k4 (hF rfl rfl rfl rfl rfl rfl rfl rfl rfl rfl rfl), h.k5 (hF rfl rfl rfl rfl rfl rfl rfl rfl rfl rfl rfl)⟩
theorem inv_predict {D : zD} {x : Int32} (h : Inv D) (hk : 0 ≤ x.toInt64 ∧ x.toInt64 ≤ 14) : Inv (zuI (zuI (zuI (zuI (zuI D 2 1 (Int32.ofInt 0)) 2 2 x) 19 0 (Int32.ofInt 0)) 19 5 x) 19 6 (Int32.ofInt 0)) := by
  obtain ⟨s, rfl, c1⟩ := nat_of (lo := 0) (hi := 14) (by omega) (by omega) hk.1 hk.2
  have hF : ∀ {F : Nat → Nat → Bool}, F 2 1 = true → F 2 2 = true → F 19 0 = true → F 19 5 = true → F 19 6 = true → zfr F D (zuI (zuI (zuI (zuI (zuI D 2 1 (Int32.ofInt 0)) 2 2 (nI s)) 19 0 (Int32.ofInt 0)) 19 5 (nI s)) 19 6 (Int32.ofInt 0)) := fun a b c d e => ((((zfr.rf.uI _ a).uI _ b).uI _ c).uI _ d).uI _ e
  exact ⟨h.k1 (hF rfl rfl rfl rfl rfl), ⟨0, s, fun _ => 0, ⟨rfl, rfl, fun j hj => absurd hj (Nat.not_lt_zero _)⟩, ⟨rfl, rfl, fun j hj => absurd hj (Nat.not_lt_zero _)⟩, by omega, c1.2⟩, h.k3 (hF rfl rfl rfl rfl rfl), h.k4 (hF rfl rfl rfl rfl rfl), h.k5 (hF rfl rfl rfl rfl rfl)⟩
theorem iI_self (x : Int32) : x = iI x.toInt := (Int32.ofInt_toInt x).symm
theorem inv_coefficient {D : zD} {o s : Nat} {cs : Nat → Int} {c : Int32} (h : Inv D) (hp : iPr D o s cs) (h1 : -zlim 15 ≤ c.toInt64) (h2 : c.toInt64 < zlim 15) (ho : o < 8) : Inv (zuI (zuI (zuI (zuI (zuI D 3 o c) 2 1 (nI (o + 1))) 19 0 (Int32.ofInt 0)) 52 o c) 19 6 (nI (o + 1))) := by
  have hF : ∀ {F : Nat → Nat → Bool}, (∀ k, F 3 k = true) → F 2 1 = true → F 19 0 = true → (∀ k, F 52 k = true) → F 19 6 = true → zfr F D (zuI (zuI (zuI (zuI (zuI D 3 o c) 2 1 (nI (o + 1))) 19 0 (Int32.ofInt 0)) 52 o c) 19 6 (nI (o + 1))) := fun a b c d e => ((((zfr.rf.uI _ (a _)).uI _ b).uI _ c).uI _ (d _)).uI _ e
  have hc : wtI c.toInt := by
    have h3 := (zlim_in (b := 15) (x := c.toInt) (by omega) (by omega) (by have := Int32.le_toInt c; omega) (by have := Int32.toInt_lt c; omega)).mp (by rw [← i32_l]; exact ⟨h1, h2⟩)
    unfold inB at h3
    unfold wtI bd
    have e : ((2 : Int) ^ (15 - 1)) = 16384 := rfl
    rw [e] at h3
    omega
  obtain ⟨⟨p1, p2, p3⟩, ⟨q1, q2, q3⟩, r1, r2⟩ := hp
  refine ⟨h.k1 (hF (fun _ => rfl) rfl rfl (fun _ => rfl) rfl), ⟨o + 1, s, uN cs o c.toInt, ⟨?_, ?_, fun j hj => ?_⟩, ⟨rfl, q2, fun j hj => ?_⟩, by omega, r2⟩, h.k3 (hF (fun _ => rfl) rfl rfl (fun _ => rfl) rfl), h.k4 (hF (fun _ => rfl) rfl rfl (fun _ => rfl) rfl), h.k5 (hF (fun _ => rfl) rfl rfl (fun _ => rfl) rfl)⟩
  · rw [zuI_ne (by omega), zuI_ne (by omega), zuI_ne (by omega), zuI_at]
  · rw [zuI_ne (by omega), zuI_ne (by omega), zuI_ne (by omega), zuI_ne (by omega), zuI_ne (by omega)]
    exact p2
  · rw [zuI_ne (by omega), zuI_ne (by omega), zuI_ne (by omega), zuI_ne (by omega)]
    by_cases e : j = o
    · subst e
      rw [zuI_at, uN_s]
      exact ⟨iI_self c, hc⟩
    · rw [zuI_ne (by omega), uN_n e]
      exact p3 j (by omega)
  · rw [zuI_ne (by omega)]
    by_cases e : j = o
    · subst e
      rw [zuI_at, uN_s]
      exact ⟨iI_self c, hc⟩
    · rw [zuI_ne (by omega), zuI_ne (by omega), zuI_ne (by omega), zuI_ne (by omega), uN_n e]
      exact q3 j (by omega)
theorem inv_push {D : zD} {ch bits block rate m : Nat} {S : zRow} {v : Int32} (h : Inv D) (hs : iSet D ch bits block rate m S) (h1 : -zlim (nI bits) ≤ v.toInt64) (h2 : v.toInt64 < zlim (nI bits)) (hm : m < 4096) : Inv (zuI (zuI (zuI (zuI (zuI D 4 m v) 0 3 (nI (m + 1))) 19 0 (Int32.ofInt 0)) 53 m v) 19 8 (nI (m + 1))) := by
  have hF : ∀ {F : Nat → Nat → Bool}, (∀ k, F 4 k = true) → F 0 3 = true → F 19 0 = true → (∀ k, F 53 k = true) → F 19 8 = true → zfr F D (zuI (zuI (zuI (zuI (zuI D 4 m v) 0 3 (nI (m + 1))) 19 0 (Int32.ofInt 0)) 53 m v) 19 8 (nI (m + 1))) := fun a b c d e => ((((zfr.rf.uI _ (a _)).uI _ b).uI _ c).uI _ (d _)).uI _ e
  obtain ⟨⟨a1, a2, a3, a4, a5, a6⟩, ⟨b1, b2, b3, b4, b5, b6⟩, r1, r2, r3, r4, r5⟩ := hs
  have hc : inB bits v.toInt := (zlim_in (b := bits) (x := v.toInt) (by omega) (by omega) (by have := Int32.le_toInt v; omega) (by have := Int32.toInt_lt v; omega)).mp (by rw [← i32_l]; exact ⟨h1, h2⟩)
  refine ⟨⟨ch, bits, block, rate, m + 1, uN S m v.toInt, ⟨a1, a2, a3, a4, rfl, fun j hj => ?_⟩, ⟨b1, b2, b3, b4, rfl, fun j hj => ?_⟩, r1, r2, r3, r4, by omega⟩, h.k2 (hF (fun _ => rfl) rfl rfl (fun _ => rfl) rfl), h.k3 (hF (fun _ => rfl) rfl rfl (fun _ => rfl) rfl), h.k4 (hF (fun _ => rfl) rfl rfl (fun _ => rfl) rfl), h.k5 (hF (fun _ => rfl) rfl rfl (fun _ => rfl) rfl)⟩
  · rw [zuI_ne (by omega), zuI_ne (by omega), zuI_ne (by omega), zuI_ne (by omega)]
    by_cases e : j = m
    · subst e
      rw [zuI_at, uN_s]
      exact ⟨iI_self v, hc⟩
    · rw [zuI_ne (by omega), uN_n e]
      exact a6 j (by omega)
  · rw [zuI_ne (by omega)]
    by_cases e : j = m
    · subst e
      rw [zuI_at, uN_s]
      exact iI_self v
    · rw [zuI_ne (by omega), zuI_ne (by omega), zuI_ne (by omega), zuI_ne (by omega), uN_n e]
      exact b6 j (by omega)
theorem way_eq {D8 D9 : zD} {S : zRow} {ch bits block mo o F : Nat} {pr : zPr} (h8 : toldF D8 S ch bits block mo pr o F) (h9 : told9 D9 S ch bits block mo pr o F) {f c w : Nat} (hf : f < F) (hc : c < ch) (hw : w < 5) : way8 D8 ch f c w = way9 D9 ch f c w := by
  obtain ⟨a1, a2⟩ := h8 f hf
  obtain ⟨b1, b2⟩ := h9 f hf
  obtain ⟨c1, c2, c3, c4⟩ := a2 c hc
  obtain ⟨d1, d2, d3, d4⟩ := b2 c hc
  unfold way8 way9
  rw [Nat.mul_comm 4] at c1 c2 c3 c4
  obtain e | e | e | e | e : w = 0 ∨ w = 1 ∨ w = 2 ∨ w = 3 ∨ w = 4 := by omega
  · subst e
    rw [if_neg (by omega), if_pos rfl, d1]
    exact c1
  · subst e
    rw [if_neg (by omega), if_neg (by omega), if_pos rfl, d2]
    exact c2
  · subst e
    rw [if_neg (by omega), if_neg (by omega), if_neg (by omega), if_pos rfl, d3]
    exact c3
  · subst e
    rw [if_neg (by omega), if_neg (by omega), if_neg (by omega), if_neg (by omega), if_pos rfl, d4]
    exact c4
  · subst e
    rw [if_pos rfl, if_neg (by omega), if_neg (by omega), if_neg (by omega), if_neg (by omega), a1, b1]
theorem inv_make {D D1 D2 : zD} {S : zRow} {ch bits block rate mo o s F m : Nat} {cs : Nat → Int} {v : Int64} (h : Inv D) (hc : 1 ≤ ch ∧ ch ≤ 8) (hbl : 16 ≤ block) (hm : m ≤ 4096) (e1 : m = mo * ch) (e2 : F = (mo + block - 1) / block) (h3 : penW D1 (wmade S ch bits block rate mo (s, cs) o)) (h4 : (wmade S ch bits block rate mo (s, cs) o).1 % 8 = 0) (h5 : D1.1 5 1 = nI F) (h6 : F ≤ 256) (h7 : D1.1 5 2 = nI ch) (h8 : toldF D1 S ch bits block mo (s, cs) o F) (h9 : zfr fMk D D1) (g3 : madW D2 (wmade S ch bits block rate mo (s, cs) o)) (g4 : D2.1 19 10 = nI ((wmade S ch bits block rate mo (s, cs) o).1 / 8)) (g5 : D2.1 19 14 = nI F) (g6 : D2.1 19 13 = nI ch) (g8 : told9 D2 S ch bits block mo (s, cs) o F) (g9 : zfr fMk9 (zuL D1 18 0 v) D2) : Inv D2 := by
  have hx : ∀ {n : Nat → Nat → Bool}, (∀ a k, n a k = false → fMk a k = false ∧ n0 a k = false ∧ fMk9 a k = false) → zfr n D D2 := fun hn => ((h9.wk (fun a k q => (hn a k q).1)).tr ((zfr.rf.uL (F := n0) v rfl).wk (fun a k q => (hn a k q).2.1))).tr (g9.wk (fun a k q => (hn a k q).2.2))
  have um : ∀ {n : Nat → Nat → Bool}, (∀ a k, n a k = false → ((a = 5 → ¬ k = 1 ∧ ¬ k = 2) ∧ ¬ (6 ≤ a ∧ a ≤ 9) ∧ ¬ (11 ≤ a ∧ a ≤ 18) ∧ ¬ (21 ≤ a ∧ a ≤ 36) ∧ ¬ (54 ≤ a ∧ a ≤ 59) ∧ ¬ a = 61 ∧ ¬ a = 62 ∧ (a = 19 → ¬ k = 0 ∧ ¬ k = 10 ∧ ¬ k = 12 ∧ ¬ k = 13 ∧ ¬ k = 14 ∧ ¬ k = 24 ∧ ¬ (27 ≤ k ∧ k ≤ 31)))) → zfr n D D2 := fun hn => hx (fun a k q => by
    have := hn a k q
    unfold fMk fAF n0 fMk9 fWF fMd fMs fMad
    simp
    omega)
  obtain ⟨mb, emb⟩ : ∃ mb, mb = (wmade S ch bits block rate mo (s, cs) o).1 / 8 := ⟨_, rfl⟩
  have e8 : (8 * mb, (wmade S ch bits block rate mo (s, cs) o).2) = wmade S ch bits block rate mo (s, cs) o := by
    rw [show 8 * mb = (wmade S ch bits block rate mo (s, cs) o).1 by omega]
  have hFc : F * ch ≤ 264 := by
    rcases Nat.eq_zero_or_pos F with q | q
    · rw [q]
      omega
    · have hlt : (F - 1) * block < mo := (nf_lt (f := F - 1) (m := mo) (bl := block) (by omega)).mp (by omega)
      have h1 : (F - 1) * 16 ≤ (F - 1) * block := Nat.mul_le_mul_left _ hbl
      have h2 : (F - 1) * 16 * ch ≤ mo * ch := Nat.mul_le_mul_right _ (by omega)
      have h3 : (F - 1) * 16 * ch = (F - 1) * ch * 16 := Nat.mul_right_comm _ _ _
      have h4 : F * ch = (F - 1) * ch + ch := by
        rw [← Nat.succ_mul]
        congr 1
        omega
      omega
  have h9b : ∀ a k, fMk9 a k = false → D2.1 a k = D1.1 a k := fun a k q => g9.1 a k q
  refine ⟨h.k1 (um (fun a k q => by unfold n1 at q; simp at q; omega)), h.k2 (um (fun a k q => by unfold n2 at q; simp at q; omega)), ⟨mb, F, ch, (wmade S ch bits block rate mo (s, cs) o).2, ?_, ⟨by rw [emb]; exact g4, fun i hi => g3.1.2.2.1 i (by omega)⟩, ⟨(h9b 5 1 rfl).trans h5, (h9b 5 2 rfl).trans h7, g5, g6⟩, ⟨h6, hc.2, hFc⟩, fun f hf c hc' w hw => ?_⟩, h.k4 (um (fun a k q => by unfold n4 at q; simp at q; omega)), h.k5 (um (fun a k q => by unfold n5 at q; simp at q; omega))⟩
  · rw [e8]
    exact h3.fr ((zfr.rf.uL (F := n0) v rfl |>.wk (F' := fun a k => fMk9 a k || n0 a k) (fun a k q => or_r q)).tr (g9.wk (fun a k q => or_l q))) (fun _ => rfl) (fun _ => rfl)
  · rw [← way_eq h8 g8 hf hc' hw]
    unfold way8
    rw [h9b 8 f rfl, h9b 9 _ rfl]
