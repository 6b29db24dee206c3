/-! ===== how many bits: of residuals, of a subframe ===== -/
theorem wone_len (u : Nat → Nat) (k i : Nat) : wlen (wone u k i) (u i / 2 ^ k + 1 + k) := ((wz_len _).tr (wp_len 1 1)).tr (wp_len k _)
theorem nsum_c (f : Nat → Nat) (c : Nat) : ∀ (m i : Nat), nsum (fun j => f j + c) i m = nsum f i m + m * c
  | 0, _ => by
    show 0 = 0 + 0 * c
    omega
  | m + 1, i => by
    show f i + c + nsum (fun j => f j + c) (i + 1) m = f i + nsum f (i + 1) m + (m + 1) * c
    rw [nsum_c f c m, Nat.succ_mul]
    omega
theorem cst_k (u : Nat → Nat) (i m k : Nat) : nsum (fun i => u i / 2 ^ k + 1 + k) i m = cst u i m k := by
  have e : (fun i => u i / 2 ^ k + 1 + k) = fun i => (fun i => u i / 2 ^ k) i + (1 + k) := by
    funext i
    exact Nat.add_assoc _ _ _
  rw [e, nsum_c]
  rfl
theorem wpart_len (u : Nat → Nat) (n o q p : Nat) : wlen (wpart u n o q p) (pC u n o q p) := by
  have h := (wp_len 4 (pK u n o q p : Nat)).tr (wl_len (g := fun i => u i / 2 ^ pK u n o q p + 1 + pK u n o q p) (pln n o q p) (pst n o q p) (fun j _ _ => wone_len u (pK u n o q p) j))
  rw [cst_k] at h
  exact h
theorem wres_len (u : Nat → Nat) (n o : Nat) : wlen (wres u n o) (lc u n o) := ((wp_len 2 0).tr ((wp_len 4 _).tr (wl_len (g := pC u n o (bq u n o)) (2 ^ bq u n o) 0 (fun j _ _ => wpart_len u n o _ j)))).eq (by
  unfold lc pcs
  omega)
theorem nsum_k (c : Nat) : ∀ (m i : Nat), nsum (fun _ => c) i m = m * c
  | 0, _ => by
    show 0 = 0 * c
    omega
  | m + 1, i => by
    show c + nsum (fun _ => c) (i + 1) m = (m + 1) * c
    rw [nsum_k c m, Nat.succ_mul]
    omega
theorem wnum_len (c : Nat) (a : zRow) (m : Nat) : wlen (wnum c a m) (m * c) := (wl_len (g := fun _ => c) m 0 (fun j _ _ => wp_len c _)).eq (nsum_k c m 0)
theorem wcoef_len (pr : zPr) (o : Nat) : wlen (wcoef pr o) (9 + 15 * o) := ((wp_len 4 14).tr ((wp_len 5 _).tr (wl_len (g := fun _ => 15) o 0 (fun j _ _ => wp_len 15 _)))).eq (by
  rw [nsum_k]
  omega)
/-- what the shortest way is -/
def wayP (n c : Nat) (a : zRow) (pr : zPr) (o : Nat) (w : zWay) : Prop := (w.1 = 0 ∧ w.2.1 = -1 ∧ w.2.2 = c) ∨ (w.1 = 1 ∧ w.2.1 = -1 ∧ w.2.2 = n * c) ∨ (∃ o', o' ≤ 4 ∧ o' ≤ n ∧ w.1 = 8 + o' ∧ w.2.1 = (bq (fxU o' a) n o' : Nat) ∧ w.2.2 = o' * c + lc (fxU o' a) n o') ∨ (1 ≤ o ∧ o ≤ n ∧ rsOk pr o n a ∧ w.1 = 31 + o ∧ w.2.1 = (bq (rsU pr o a) n o : Nat) ∧ w.2.2 = o * c + 9 + 15 * o + lc (rsU pr o a) n o)
def optP (P : zWay → Prop) (s : Option zWay) : Prop := ∀ w, s = some w → P w
theorem off_P {P : zWay → Prop} {t : Nat} {q : Int} {z : Nat} {s : Option zWay} (h : P (t, q, z)) (hs : optP P s) : optP P (off t q z s) := fun w e => by
  unfold off at e
  split at e
  · cases e
    exact h
  · split at e
    · cases e
      exact h
    · cases e
      exact hs _ rfl
theorem way_P {n c : Nat} {a : zRow} {pr : zPr} {o : Nat} : optP (wayP n c a pr o) (offA n c a pr o) := by
  have h0 : optP (wayP n c a pr o) (off0 n c a) := by
    unfold off0
    rcases zif_i (P := ∀ i, i < n → a i = a 0) (a := off 0 (-1) c none) (b := none) with ⟨_, e⟩ | ⟨_, e⟩
    · rw [e]
      exact off_P (.inl ⟨rfl, rfl, rfl⟩) (fun w e => by cases e)
    · rw [e]
      exact fun w e => by cases e
  have hf : ∀ m, m ≤ 5 → optP (wayP n c a pr o) (offFs n c a m (off0 n c a)) := by
    intro m
    induction m with
    | zero => exact fun _ => h0
    | succ m ih =>
      intro hm
      show optP _ (offF n c a m _)
      unfold offF
      by_cases hmn : m ≤ n
      · rw [if_pos hmn]
        exact off_P (.inr (.inr (.inl ⟨m, by omega, hmn, rfl, rfl, rfl⟩))) (ih (by omega))
      · rw [if_neg hmn]
        exact ih (by omega)
  have ho : optP (wayP n c a pr o) (offO n c a pr o (offFs n c a 5 (off0 n c a))) := by
    unfold offO
    rcases zif_i (P := 1 ≤ o ∧ o ≤ n ∧ rsOk pr o n a) (a := off (31 + o) (bq (rsU pr o a) n o) (o * c + 9 + 15 * o + lc (rsU pr o a) n o) (offFs n c a 5 (off0 n c a))) (b := offFs n c a 5 (off0 n c a)) with ⟨⟨h1, h2, h3⟩, e⟩ | ⟨_, e⟩
    · rw [e]
      exact off_P (.inr (.inr (.inr ⟨h1, h2, h3, rfl, rfl, rfl⟩))) (hf 5 (Nat.le_refl _))
    · rw [e]
      exact hf 5 (Nat.le_refl _)
  unfold offA
  exact off_P (.inr (.inl ⟨rfl, rfl, rfl⟩)) ho
theorem way_le {n c : Nat} {a : zRow} {pr : zPr} {o : Nat} : optP (fun w => w.2.2 ≤ n * c) (offA n c a pr o) := fun w e => by
  unfold offA at e
  generalize offO n c a pr o (offFs n c a 5 (off0 n c a)) = s at e
  unfold off at e
  split at e
  · cases e
    exact Nat.le_refl _
  · split at e
    · cases e
      exact Nat.le_refl _
    · cases e
      omega
theorem wayA_P {n b : Nat} {a : zRow} {pr : zPr} {o : Nat} : wayP n (b - wst n a) (shR (wst n a) a) pr o (wayA n b a pr o) := way_P _ offA_some
theorem wayA_le {n b : Nat} {a : zRow} {pr : zPr} {o : Nat} : (wayA n b a pr o).2.2 ≤ n * (b - wst n a) := way_le _ offA_some
theorem wbody_len {n c : Nat} {a : zRow} {pr : zPr} {o : Nat} {w : zWay} (h : wayP n c a pr o w) : wlen (wbody w.1 n c a pr o) w.2.2 := by
  rcases h with ⟨h1, h2, h3⟩ | ⟨h1, h2, h3⟩ | ⟨o', g1, g2, h1, h2, h3⟩ | ⟨g1, g2, g3, h1, h2, h3⟩
  · rw [h1, h3]
    exact (wnum_len c a 1).eq (Nat.one_mul c)
  · rw [h1, h3]
    exact wnum_len c a n
  · rw [h1, h3]
    have e : wbody (8 + o') n c a pr o = fun s => wres (fxU o' a) n o' (wnum c a o' s) := by
      funext s
      unfold wbody
      rw [if_neg (by omega), if_neg (by omega), if_pos (by omega), Nat.add_sub_cancel_left]
    rw [e]
    exact (wnum_len c a o').tr (wres_len _ n o')
  · rw [h1, h3]
    have e : wbody (31 + o) n c a pr o = fun s => wres (rsU pr o a) n o (wcoef pr o (wnum c a o s)) := by
      funext s
      unfold wbody
      rw [if_neg (by omega), if_neg (by omega), if_neg (by omega)]
    rw [e]
    exact ((wnum_len c a o).tr ((wcoef_len pr o).tr (wres_len _ n o))).eq (by omega)
theorem wsub_len {n b : Nat} {a : zRow} {pr : zPr} {o : Nat} : wlen (wsub n b a pr o) (wsz n b a pr o) := ((wp_len 1 0).tr ((wp_len 6 _).tr ((wp_len 1 _).tr ((wp_len (wst n a) 1).tr (wbody_len wayA_P))))).eq (by
  unfold wsz
  omega)
theorem wsz_le {n b : Nat} {a : zRow} {pr : zPr} {o : Nat} (hn : 1 ≤ n) (hw : wst n a ≤ b) : wsz n b a pr o ≤ 8 + n * b := by
  have h1 := wayA_le (n := n) (b := b) (a := a) (pr := pr) (o := o)
  have h2 : n * (b - wst n a) + n * wst n a = n * b := by
    rw [← Nat.mul_add, Nat.sub_add_cancel hw]
  have h3 : wst n a ≤ n * wst n a := Nat.le_mul_of_pos_left _ hn
  unfold wsz
  omega
theorem wl_ge {f : Nat → WS → WS} (h : ∀ j s, s.1 ≤ (f j s).1) : ∀ (m i : Nat) (s : WS), s.1 ≤ (wl f i m s).1
  | 0, _, _ => Nat.le_refl _
  | m + 1, i, s => Nat.le_trans (h i s) (wl_ge h m (i + 1) _)
theorem wlen.ge {f : WS → WS} {n : Nat} (h : wlen f n) (s : WS) : s.1 ≤ (f s).1 := by
  rw [(h s).1]
  omega
theorem wlen.ok {f : WS → WS} {n : Nat} {s : WS} (h : wlen f n) (hs : okW s) : okW (f s) := (h s).2 hs
