/-! ===== Maker.addFrame ===== -/
theorem wst_lt {n b : Nat} {a : zRow} (hb : 1 ≤ b) (h : allB b n a) : wst n a < b := by
  rcases Classical.em (∃ w, isWaste n a w) with ⟨w, hw⟩ | hno
  · rw [wst_eq hw]
    rcases hw with ⟨_, h2⟩ | ⟨h1, i, hi, h2⟩
    · omega
    · rcases Nat.lt_or_ge w b with hl | hl
      · exact hl
      · exfalso
        apply h2
        have h4 : ((2 : Int) ^ b) ∣ 2 ^ w := ⟨2 ^ (w - b), by
          rw [← Int.pow_add]
          congr 1
          omega⟩
        have h5 : a i % 2 ^ b = 0 := Int.emod_eq_zero_of_dvd (Int.dvd_trans h4 (Int.dvd_of_emod_eq_zero (h1 i hi)))
        rw [inB_mod0 hb (h i hi) h5, Int.zero_emod]
  · unfold wst
    rw [dif_neg hno]
    omega
def okRow (ch w : Nat) : Prop := w < ch ∨ (ch = 2 ∧ (w = 8 ∨ w = 9))
theorem okRow.of {asg ch c : Nat} (h : okAsg asg ch) (hc : c < ch) : okRow ch (rowOfN asg c) := by
  rcases rowOf_cases h hc with ⟨_, e, _⟩ | ⟨hc2, h | h | h | h | h | h⟩
  · exact .inl (by omega)
  all_goals unfold okRow; omega
theorem rw_in {S : zRow} {ch bits first n w : Nat} (hb : 4 ≤ bits) (hch : ch ≤ 8) (hw : okRow ch w) (hS : ∀ j, j < (first + n) * ch → inB bits (S j)) : allB (bW bits w) n (rwW S ch first w) := fun i hi => by
  have key : ∀ c, c < ch → (first + i) * ch + c < (first + n) * ch := fun c hc => by
    have : (first + i + 1) * ch ≤ (first + n) * ch := Nat.mul_le_mul_right _ (by omega)
    rw [Nat.succ_mul] at this
    omega
  unfold bW rwW
  rcases hw with hw | ⟨h2, hw | hw⟩
  · rw [if_neg (by omega), if_neg (by omega), if_neg (by omega)]
    exact hS _ (key w hw)
  · subst h2
    subst hw
    rw [if_pos rfl, if_pos rfl]
    exact inB_side (by omega) (hS _ (key 0 (by omega))) (hS _ (key 1 (by omega)))
  · subst h2
    subst hw
    rw [if_neg (by omega), if_neg (by omega), if_pos rfl]
    exact inB_mid (hS _ (key 0 (by omega))) (hS _ (key 1 (by omega)))
theorem bW_le {bits w : Nat} (h : 4 ≤ bits ∧ bits ≤ 24) : 1 ≤ bW bits w ∧ bW bits w ≤ 25 := by
  unfold bW
  split <;> omega
theorem asgA_v (l r d m : Nat) : asgA l r d m = 1 ∨ asgA l r d m = 8 ∨ asgA l r d m = 9 ∨ asgA l r d m = 10 := by
  unfold asgA
  by_cases h3 : m + d < (if d + r < (if l + d < l + r then l + d else l + r) then d + r else if l + d < l + r then l + d else l + r)
  · exact .inr (.inr (.inr (if_pos h3)))
  · rw [if_neg h3]
    by_cases h2 : d + r < (if l + d < l + r then l + d else l + r)
    · exact .inr (.inr (.inl (if_pos h2)))
    · rw [if_neg h2]
      by_cases h1 : l + d < l + r
      · exact .inr (.inl (if_pos h1))
      · exact .inl (if_neg h1)
theorem asgW_ok {S : zRow} {ch bits : Nat} {pr : zPr} {o first n : Nat} (h : 1 ≤ ch ∧ ch ≤ 8) : okAsg (asgW S ch bits pr o first n) ch := by
  unfold asgW
  by_cases h2 : ch = 2
  · rw [if_pos h2]
    have := asgA_v (fsz S ch bits pr o first n 0) (fsz S ch bits pr o first n 1) (fsz S ch bits pr o first n 8) (fsz S ch bits pr o first n 9)
    unfold okAsg
    omega
  · rw [if_neg h2]
    exact .inl (by omega)
theorem i32_l (x : Int32) : x.toInt64 = lI x.toInt := by
  have h := iI_l (a := x.toInt) (Int32.le_toInt x) (Int32.toInt_lt x)
  have e : iI x.toInt = x := Int32.ofInt_toInt x
  rw [e] at h
  exact h
theorem whead_len (asg f n : Nat) : wlen (whead asg f n) (40 + if f < 128 then 8 else 16) := by
  have hn : wlen (wnumb f) (if f < 128 then 8 else 16) := by
    by_cases h : f < 128
    · intro s
      have e : wnumb f s = wp 8 (f : Nat) s := if_pos h
      rw [if_pos h, e]
      exact wp_len 8 _ s
    · intro s
      have e : wnumb f s = wp 8 ((128 + f % 64 : Nat) : Int) (wp 8 ((192 + f / 64 : Nat) : Int) s) := if_neg h
      rw [if_neg h, e]
      exact ((wp_len 8 _).tr (wp_len 8 _)) s
  exact ((((((((wp_len 14 _).tr (wp_len 2 _)).tr (wp_len 4 _)).tr (wp_len 4 _)).tr (wp_len 4 _)).tr (wp_len 4 _)).tr hn).tr (wp_len 8 _)).eq (by omega)
theorem wsum_len1 (w from0 : Nat) (s : WS) : (wsum w from0 s).1 = s.1 + w ∧ okW (wsum w from0 s) := ⟨rfl, apB_ok⟩
def preS (D : zD) (S : zRow) (ch bits first n w : Nat) : Prop := sf7 D (21 + 2 * sfI w) n (bW bits w) 0 ∧ sfW D (21 + 2 * sfI w) 0 none ∧ row8 D (21 + 2 * sfI w + 1) (rwW S ch first w) n
theorem preS.fr {D D' : zD} {F : Nat → Nat → Bool} {S : zRow} {ch bits first n w : Nat} (h : preS D S ch bits first n w) (hF : zfr F D D') (h1 : ∀ k, F (21 + 2 * sfI w) k = false) (h2 : ∀ k, F (21 + 2 * sfI w + 1) k = false) : preS D' S ch bits first n w := ⟨h.1.fr hF (fun k _ => h1 k), h.2.1.fr hF h1, h.2.2.fr hF h2⟩
/-- row s of the class's subframes -/
def wI (ch s : Nat) : Nat := if ch = 2 ∧ s = 2 then 8 else if ch = 2 ∧ s = 3 then 9 else s
def nR (ch : Nat) : Nat := if ch = 2 then 4 else ch
theorem wI_ok {ch s : Nat} (hch : ch ≤ 8) (hs : s < nR ch) : okRow ch (wI ch s) ∧ sfI (wI ch s) = s ∧ s < 8 := by
  unfold nR at hs
  unfold wI
  by_cases h2 : ch = 2
  · subst h2
    rw [if_pos rfl] at hs
    obtain e | e | e | e : s = 0 ∨ s = 1 ∨ s = 2 ∨ s = 3 := by omega
    · subst e
      exact ⟨.inl (by decide), rfl, by omega⟩
    · subst e
      exact ⟨.inl (by decide), rfl, by omega⟩
    · subst e
      exact ⟨.inr ⟨rfl, .inl rfl⟩, rfl, by omega⟩
    · subst e
      exact ⟨.inr ⟨rfl, .inr rfl⟩, rfl, by omega⟩
  · rw [if_neg h2] at hs
    rw [if_neg (by omega), if_neg (by omega)]
    refine ⟨.inl hs, ?_, by omega⟩
    unfold sfI
    rw [if_neg (by omega), if_neg (by omega)]
theorem wI_of {ch w : Nat} (hch : 1 ≤ ch ∧ ch ≤ 8) (h : okRow ch w) : ∃ s, s < nR ch ∧ wI ch s = w := by
  unfold nR wI
  rcases h with h | ⟨h2, h | h⟩
  · refine ⟨w, ?_, ?_⟩
    · split <;> omega
    · rw [if_neg (by omega), if_neg (by omega)]
  · subst h2
    subst h
    exact ⟨2, by decide, rfl⟩
  · subst h2
    subst h
    exact ⟨3, by decide, rfl⟩
theorem wI_lt {ch c : Nat} (h : c < ch) : wI ch c = c := by
  unfold wI
  rw [if_neg (by omega), if_neg (by omega)]
/-- the way of row w told at k -/
def wyF (D : zD) (S : zRow) (ch bits : Nat) (pr : zPr) (o first n k w : Nat) : Prop := wyAt D k (wayA n (bW bits w) (rwW S ch first w) pr o).1 (wst n (rwW S ch first w)) (wayA n (bW bits w) (rwW S ch first w) pr o).2.1 (fsz S ch bits pr o first n w)
theorem wyAt.fr {D D' : zD} {k t w z : Nat} {q : Int} (h : wyAt D k t w q z) (hF : ∀ i, 4 * k ≤ i → i < 4 * k + 4 → D'.1 9 i = D.1 9 i) : wyAt D' k t w q z := ⟨(hF _ (by omega) (by omega)).trans h.1, (hF _ (by omega) (by omega)).trans h.2.1, (hF _ (by omega) (by omega)).trans h.2.2.1, (hF _ (by omega) (by omega)).trans h.2.2.2⟩
def fAF (a k : Nat) : Bool := (a == 5 && k == 1) || ((decide (6 ≤ a) && decide (a ≤ 9)) || ((decide (11 ≤ a) && decide (a ≤ 17)) || (decide (21 ≤ a) && decide (a ≤ 36))))
theorem fAF_w (a k : Nat) (h : fAF a k = false) : fWr a k = false := by
  unfold fAF at h
  unfold fWr fPen
  simp at h ⊢
  omega
theorem fAF_p (a k : Nat) (h : fAF a k = false) : fPen a k = false := fWr_p a k (fAF_w a k h)
theorem fAF_9 (a k : Nat) (h : fAF a k = false) : (a == 9) = false := by
  unfold fAF at h
  simp at h ⊢
  omega
theorem fAF_sm (a k : Nat) (h : fAF a k = false) : fSm a k = false := by
  unfold fAF at h
  unfold fSm
  simp at h ⊢
  omega
theorem fAF_sf {X : Nat} (hX : 21 ≤ X ∧ X ≤ 35) (a k : Nat) (h : fAF a k = false) : fSf X a k = false := by
  unfold fAF at h
  unfold fSf
  simp at h ⊢
  omega
theorem fAF_ch {X : Nat} (hX : 21 ≤ X ∧ X ≤ 35) (a k : Nat) (h : fAF a k = false) : fCh X a k = false := by
  unfold fAF at h
  unfold fCh
  simp at h ⊢
  omega
