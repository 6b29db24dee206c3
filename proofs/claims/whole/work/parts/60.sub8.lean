/-! ===== what a row holds, by the reading's words ===== -/
theorem rloop_inv {α : Type} {f : Nat → α → RS α} (P : Nat → α → Prop) (h : ∀ i a p a' q, P i a → f i a p = .inr (a', q) → P (i + 1) a') : ∀ (m i : Nat) (a : α) (p : Nat) (a' : α) (q : Nat), P i a → rloop f i m a p = .inr (a', q) → P (i + m) a'
  | 0, i, a, p, a', q, h0, e => by
    cases e
    exact h0
  | m + 1, i, a, p, a', q, h0, e => by
    obtain ⟨b, r, e1, e2⟩ | ⟨k, pl, e1, e2⟩ := rbind_i e
    · rw [show i + (m + 1) = i + 1 + m by omega]
      exact rloop_inv P h m (i + 1) b r a' q (h i a p b r h0 e1) e2
    · cases e2
def allB (b n : Nat) (a : zRow) : Prop := ∀ i, i < n → inB b (a i)
theorem allB.up {b i : Nat} {a : zRow} {x : Int} (h : allB b i a) (hx : inB b x) : allB b (i + 1) (uN a i x) := fun j hj => by
  obtain q | q : j = i ∨ j < i := by omega
  · subst q
    rw [uN_s]
    exact hx
  · rw [uN_n (by omega)]
    exact h j q
theorem rit_lt {T : Nat → Bool} {e w p v q : Nat} {f : Nat → Nat} (h : rit T e w f p = .inr (v, q)) : v < 2 ^ w ∧ f v = 0 := by
  unfold rit at h
  split at h
  · split at h
    next hf =>
      cases h
      exact ⟨bv_lt T p w, hf⟩
    · cases h
  · cases h
theorem sNums_in {T : Nat → Bool} {e d m i p q : Nat} {a a' : zRow} (hd : 1 ≤ d) (h0 : allB d i a) (h : sNums T e d i m a p = .inr (a', q)) : allB d (i + m) a' :=
  rloop_inv (fun i a => allB d i a) (fun i a p a' q h0 e => by
    obtain ⟨v, r, e1, e2⟩ | ⟨k, pl, e1, e2⟩ := rbind_i e
    · cases e2
      exact h0.up (sgI_in (rit_lt e1).1 hd)
    · cases e2) m i a p a' q h0 h
theorem zif_i {α : Type} {P : Prop} {a b : α} : (P ∧ zif P a b = a) ∨ (¬ P ∧ zif P a b = b) := by
  rcases Classical.em P with h | h
  · exact .inl ⟨h, zif_p h⟩
  · exact .inr ⟨h, zif_n h⟩
theorem sOne_in {T : Nat → Bool} {e b o w i p q : Nat} {pr : zPr} {pl : Bool} {a a' : zRow} (h0 : allB b i a) (h : sOne T e b o pr pl w i a p = .inr (a', q)) : allB b (i + 1) a' := by
  obtain ⟨z, r, e1, e2⟩ | ⟨k, pl, e1, e2⟩ := rbind_i h
  · obtain ⟨v, r2, e3, e4⟩ | ⟨k, pl, e3, e4⟩ := rbind_i e2
    · rcases zif_i (P := inB b (fore pr.2 pr.1 o a i + (if pl = true then sgI w v else unfI (z * 2 ^ w + v)))) (a := (.inr (uN a i (fore pr.2 pr.1 o a i + (if pl = true then sgI w v else unfI (z * 2 ^ w + v))), r2) : RT zRow)) (b := .inl (2, p)) with ⟨g1, g2⟩ | ⟨g1, g2⟩
      · rw [g2] at e4
        cases e4
        exact h0.up g1
      · rw [g2] at e4
        cases e4
    · cases e4
  · cases e2
theorem sPart_in {T : Nat → Bool} {e b o kb from0 to p q : Nat} {pr : zPr} {a a' : zRow} (hft : from0 ≤ to) (h0 : allB b from0 a) (h : sPart T e b o pr kb from0 to a p = .inr (a', q)) : allB b to a' := by
  obtain ⟨k, r, e1, e2⟩ | ⟨k, pl, e1, e2⟩ := rbind_i h
  · have := rloop_inv (fun i a => allB b i a) (fun i a p a' q h0 e => sOne_in h0 e) _ _ _ _ _ _ h0 e2
    rw [show from0 + (to - from0) = to by omega] at this
    exact this
  · cases e2
theorem sRes_in {T : Nat → Bool} {e n b o p q : Nat} {pr : zPr} {a a' : zRow} (h0 : allB b o a) (h : sRes T e n b o pr a p = .inr (a', q)) : allB b n a' := by
  obtain ⟨me, r, e1, e2⟩ | ⟨k, pl, e1, e2⟩ := rbind_i h
  · obtain ⟨cu, r2, e3, e4⟩ | ⟨k, pl, e3, e4⟩ := rbind_i e2
    · have hk := (rit_lt e3).2
      unfold kCut at hk
      split at hk
      next hc =>
        have hn : 2 ^ cu * (n / 2 ^ cu) = n := by
          rw [Nat.mul_comm]
          exact Nat.div_mul_cancel (Nat.dvd_of_mod_eq_zero hc.1)
        have := rloop_inv (fun i a => allB b (if i = 0 then o else i * (n / 2 ^ cu)) a) (fun i a p a' q h0 e => by
          rw [if_neg (by omega)]
          refine sPart_in ?_ h0 e
          rw [Nat.succ_mul]
          split
          · omega
          · omega) _ _ _ _ _ _ (by rw [if_pos rfl]; exact h0) e4
        have h2 := Nat.two_pow_pos cu
        rw [Nat.zero_add, if_neg (by omega), hn] at this
        exact this
      next => cases hk
    · cases e4
  · cases e2
theorem sBody_in {T : Nat → Bool} {e n t d p q : Nat} {a : zRow} (hd : 1 ≤ d) (h : sBody T e n t d p = .inr (a, q)) : allB d n a := by
  unfold sBody at h
  split at h
  · obtain ⟨v, r, e1, e2⟩ | ⟨k, pl, e1, e2⟩ := rbind_i h
    · cases e2
      exact fun _ _ => sgI_in (rit_lt e1).1 hd
    · cases e2
  · split at h
    · have := sNums_in hd (fun i hi => by omega) h
      rw [Nat.zero_add] at this
      exact this
    · obtain ⟨a1, r, e1, e2⟩ | ⟨k, pl, e1, e2⟩ := rbind_i h
      · obtain ⟨pr, r2, e3, e4⟩ | ⟨k, pl, e3, e4⟩ := rbind_i e2
        · have := sNums_in hd (fun i hi => by omega) e1
          rw [Nat.zero_add] at this
          exact sRes_in this e4
        · cases e4
      · cases e2
theorem inB_shl {bits w : Nat} {x : Int} (hw : w < bits) (h : inB (bits - w) x) : inB bits (x * 2 ^ w) := by
  have e : bits - 1 = (bits - w - 1) + w := by omega
  have hp : (0 : Int) < 2 ^ w := by
    have := Nat.two_pow_pos w
    exact_mod_cast this
  unfold inB at h ⊢
  rw [e, Int.pow_add]
  constructor
  · have := Int.mul_le_mul_of_nonneg_right h.1 (Int.le_of_lt hp)
    rw [Int.neg_mul] at this
    exact this
  · exact Int.mul_lt_mul_of_pos_right h.2 hp
