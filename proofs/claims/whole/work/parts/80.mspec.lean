/-! ===== MAKING, as the document has it: bits put behind each other; s.1: how many, s.2: which ===== -/
abbrev WS : Type := Nat × (Nat → Bool)
def okW (s : WS) : Prop := ∀ i, s.1 ≤ i → s.2 i = false
def wp (w : Nat) (x : Int) (s : WS) : WS := (s.1 + w, apB s.2 s.1 w (lI x))
def wz (m : Nat) (s : WS) : WS := (s.1 + m, s.2)
def wl (f : Nat → WS → WS) : Nat → Nat → WS → WS
  | _, 0, s => s
  | i, m + 1, s => wl f (i + 1) m (f i s)
/-- f puts n bits, wherever -/
def wlen (f : WS → WS) (n : Nat) : Prop := ∀ s, (f s).1 = s.1 + n ∧ (okW s → okW (f s))
theorem apB_ok {S : Nat → Bool} {n w : Nat} {v : Int64} : okW (n + w, apB S n w v) := fun i hi => by
  have hi : n + w ≤ i := hi
  show apB S n w v i = false
  unfold apB
  rw [if_neg (by omega), if_neg (by omega)]
theorem wp_len (w : Nat) (x : Int) : wlen (wp w x) w := fun s => ⟨rfl, fun _ => apB_ok⟩
theorem wz_len (m : Nat) : wlen (wz m) m := fun s => ⟨rfl, fun h i hi => h i (Nat.le_trans (Nat.le_add_right _ _) hi)⟩
theorem wlen.tr {f g : WS → WS} {m n : Nat} (hf : wlen f m) (hg : wlen g n) : wlen (fun s => g (f s)) (m + n) := fun s => ⟨by
  show (g (f s)).1 = _
  rw [(hg _).1, (hf _).1, Nat.add_assoc], fun h => (hg _).2 ((hf _).2 h)⟩
theorem wlen.eq {f : WS → WS} {m n : Nat} (h : wlen f m) (e : m = n) : wlen f n := e ▸ h
def nsum (f : Nat → Nat) : Nat → Nat → Nat
  | _, 0 => 0
  | i, m + 1 => f i + nsum f (i + 1) m
theorem nsum_r (f : Nat → Nat) : ∀ (m i : Nat), nsum f i (m + 1) = nsum f i m + f (i + m)
  | 0, i => by
    show f i + 0 = 0 + f (i + 0)
    rw [Nat.add_zero, Nat.zero_add, Nat.add_zero]
  | m + 1, i => by
    have := nsum_r f m (i + 1)
    show f i + nsum f (i + 1) (m + 1) = f i + nsum f (i + 1) m + f (i + (m + 1))
    rw [this, show i + 1 + m = i + (m + 1) by omega, Nat.add_assoc]
theorem nsum_add (f : Nat → Nat) (i m : Nat) : ∀ (n : Nat), nsum f i (m + n) = nsum f i m + nsum f (i + m) n
  | 0 => rfl
  | n + 1 => by
    rw [show m + (n + 1) = (m + n) + 1 by omega, nsum_r, nsum_r, nsum_add f i m n, show i + (m + n) = i + m + n by omega, Nat.add_assoc]
theorem nsum_congr {f g : Nat → Nat} : ∀ {m i : Nat}, (∀ j, i ≤ j → j < i + m → f j = g j) → nsum f i m = nsum g i m
  | 0, _, _ => rfl
  | m + 1, i, h => by
    show f i + _ = g i + _
    rw [h i (by omega) (by omega), nsum_congr (fun j h1 h2 => h j (by omega) (by omega))]
theorem nsum_le {f : Nat → Nat} {B : Nat} : ∀ {m i : Nat}, (∀ j, i ≤ j → j < i + m → f j ≤ B) → nsum f i m ≤ m * B
  | 0, _, _ => by
    show 0 ≤ _
    omega
  | m + 1, i, h => by
    have h1 := h i (by omega) (by omega)
    have h2 := nsum_le (f := f) (B := B) (m := m) (i := i + 1) (fun j h1 h2 => h j (by omega) (by omega))
    show f i + _ ≤ _
    rw [Nat.succ_mul]
    omega
theorem wl_len {f : Nat → WS → WS} {g : Nat → Nat} : ∀ (m i : Nat), (∀ j, i ≤ j → j < i + m → wlen (f j) (g j)) → wlen (wl f i m) (nsum g i m)
  | 0, _, _ => fun s => ⟨rfl, fun h => h⟩
  | m + 1, i, h => (h i (by omega) (by omega)).tr (wl_len m (i + 1) (fun j h1 h2 => h j (by omega) (by omega)))
theorem wl_s (f : Nat → WS → WS) (i m : Nat) (s : WS) : wl f i (m + 1) s = wl f (i + 1) m (f i s) := rfl
/-! a row's numbers, bits 0 at all their ends -/
def isWaste (n : Nat) (a : zRow) (w : Nat) : Prop := ((∀ i, i < n → a i = 0) ∧ w = 0) ∨ ((∀ i, i < n → a i % 2 ^ w = 0) ∧ ∃ i, i < n ∧ ¬ a i % 2 ^ (w + 1) = 0)
theorem isWaste_u {n w w' : Nat} {a : zRow} (h : isWaste n a w) (h' : isWaste n a w') : w = w' := by
  have key : ∀ (u v : Nat), (∀ i, i < n → a i % 2 ^ u = 0) → (∃ i, i < n ∧ ¬ a i % 2 ^ (v + 1) = 0) → u ≤ v := by
    intro u v h1 ⟨i, hi, h2⟩
    rcases Nat.lt_or_ge v u with hl | hl
    · exfalso
      apply h2
      have h3 := h1 i hi
      have h4 : ((2 : Int) ^ (v + 1)) ∣ 2 ^ u := ⟨2 ^ (u - (v + 1)), by
        rw [← Int.pow_add]
        congr 1
        omega⟩
      exact Int.emod_eq_zero_of_dvd (Int.dvd_trans h4 (Int.dvd_of_emod_eq_zero h3))
    · exact hl
  rcases h with ⟨h1, h2⟩ | ⟨h1, h2⟩
  · rcases h' with ⟨h3, h4⟩ | ⟨h3, i, hi, h4⟩
    · omega
    · rw [h1 i hi, Int.zero_emod] at h4
      exact absurd rfl h4
  · rcases h' with ⟨h3, h4⟩ | ⟨h3, h4⟩
    · obtain ⟨i, hi, h2⟩ := h2
      rw [h3 i hi, Int.zero_emod] at h2
      exact absurd rfl h2
    · have := key w w' h1 h4
      have := key w' w h3 h2
      omega
noncomputable def wst (n : Nat) (a : zRow) : Nat := @dite _ (∃ w, isWaste n a w) (Classical.propDecidable _) (fun h => Classical.choose h) (fun _ => 0)
theorem wst_eq {n w : Nat} {a : zRow} (h : isWaste n a w) : wst n a = w := by
  have hx : ∃ w, isWaste n a w := ⟨w, h⟩
  unfold wst
  rw [dif_pos hx]
  exact isWaste_u (Classical.choose_spec hx) h
/-- the row without them -/
def shR (w : Nat) (a : zRow) : zRow := fun i => a i >>> w
/-! residuals -/
def rsd (pr : zPr) (o : Nat) (a : zRow) (i : Nat) : Int := a i - fore pr.2 pr.1 o a i
def fd (e : Int) : Nat := (if e < 0 then -2 * e - 1 else 2 * e).toNat
def rsU (pr : zPr) (o : Nat) (a : zRow) : Nat → Nat := fun i => fd (rsd pr o a i)
def rsOk (pr : zPr) (o n : Nat) (a : zRow) : Prop := ∀ i, o ≤ i → i < n → bd 2147483647 (rsd pr o a i)
def ssum (u : Nat → Nat) (k : Nat) : Nat → Nat → Nat := nsum (fun i => u i / 2 ^ k)
def cst (u : Nat → Nat) (i m k : Nat) : Nat := ssum u k i m + m * (1 + k)
def bkR (f : Nat → Nat) : Nat → Nat
  | 0 => 0
  | m + 1 => if f (m + 1) < f (bkR f m) then m + 1 else bkR f m
def bk (u : Nat → Nat) (i m : Nat) : Nat := bkR (cst u i m) 14
/-- where part p of a row cut in 2 ^ q begins, how long it is -/
def pst (n o q p : Nat) : Nat := if p = 0 then o else p * (n / 2 ^ q)
def pln (n o q p : Nat) : Nat := (p + 1) * (n / 2 ^ q) - pst n o q p
def pK (u : Nat → Nat) (n o q p : Nat) : Nat := bk u (pst n o q p) (pln n o q p)
def pC (u : Nat → Nat) (n o q p : Nat) : Nat := 4 + cst u (pst n o q p) (pln n o q p) (pK u n o q p)
def pcs (u : Nat → Nat) (n o q : Nat) : Nat := 6 + nsum (pC u n o q) 0 (2 ^ q)
def vld (n o q : Nat) : Prop := n % 2 ^ q = 0 ∧ o < n / 2 ^ q
def bqR (u : Nat → Nat) (n o : Nat) : Nat → Nat
  | 0 => 0
  | m + 1 => if (n % 2 ^ (m + 1) = 0 ∧ o < n / 2 ^ (m + 1)) ∧ pcs u n o (m + 1) < pcs u n o (bqR u n o m) then m + 1 else bqR u n o m
def bq (u : Nat → Nat) (n o : Nat) : Nat := bqR u n o 3
def lc (u : Nat → Nat) (n o : Nat) : Nat := pcs u n o (bq u n o)
/-! the shortest way: type, order, size but for the head -/
abbrev zWay : Type := Nat × Int × Nat
def off (t : Nat) (q : Int) (z : Nat) (s : Option zWay) : Option zWay := match s with
  | none => some (t, q, z)
  | some s' => if z < s'.2.2 then some (t, q, z) else some s'
def fxU (o : Nat) (a : zRow) : Nat → Nat := rsU (0, fxC o) o a
def offF (n c : Nat) (a : zRow) (o : Nat) (s : Option zWay) : Option zWay := if o ≤ n then off (8 + o) (bq (fxU o a) n o) (o * c + lc (fxU o a) n o) s else s
def offFs (n c : Nat) (a : zRow) : Nat → Option zWay → Option zWay
  | 0, s => s
  | m + 1, s => offF n c a m (offFs n c a m s)
noncomputable def off0 (n c : Nat) (a : zRow) : Option zWay := zif (∀ i, i < n → a i = a 0) (off 0 (-1) c none) none
noncomputable def offO (n c : Nat) (a : zRow) (pr : zPr) (o : Nat) (s : Option zWay) : Option zWay := zif (1 ≤ o ∧ o ≤ n ∧ rsOk pr o n a) (off (31 + o) (bq (rsU pr o a) n o) (o * c + 9 + 15 * o + lc (rsU pr o a) n o) s) s
noncomputable def offA (n c : Nat) (a : zRow) (pr : zPr) (o : Nat) : Option zWay := off 1 (-1) (n * c) (offO n c a pr o (offFs n c a 5 (off0 n c a)))
/-- of the row a of n numbers of b bits, with its bits 0 at the end -/
noncomputable def wayA (n b : Nat) (a : zRow) (pr : zPr) (o : Nat) : zWay := (offA n (b - wst n a) (shR (wst n a) a) pr o).getD (0, 0, 0)
noncomputable def wsz (n b : Nat) (a : zRow) (pr : zPr) (o : Nat) : Nat := 8 + wst n a + (wayA n b a pr o).2.2
/-! writing -/
def wnum (c : Nat) (a : zRow) (m : Nat) : WS → WS := wl (fun i => wp c (a i)) 0 m
def wone (u : Nat → Nat) (k i : Nat) (s : WS) : WS := wp k (u i : Nat) (wp 1 1 (wz (u i / 2 ^ k) s))
def wpart (u : Nat → Nat) (n o q p : Nat) (s : WS) : WS := wl (wone u (pK u n o q p)) (pst n o q p) (pln n o q p) (wp 4 (pK u n o q p : Nat) s)
def wres (u : Nat → Nat) (n o : Nat) (s : WS) : WS := wl (wpart u n o (bq u n o)) 0 (2 ^ bq u n o) (wp 4 (bq u n o : Nat) (wp 2 0 s))
def wcoef (pr : zPr) (o : Nat) (s : WS) : WS := wl (fun j => wp 15 (pr.2 j)) 0 o (wp 5 (pr.1 : Nat) (wp 4 14 s))
def wbody (t n c : Nat) (a : zRow) (pr : zPr) (o : Nat) (s : WS) : WS :=
  if t = 0 then wnum c a 1 s else if t = 1 then wnum c a n s else if t ≤ 31 then wres (fxU (t - 8) a) n (t - 8) (wnum c a (t - 8) s)
  else wres (rsU pr o a) n o (wcoef pr o (wnum c a o s))
noncomputable def wsub (n b : Nat) (a : zRow) (pr : zPr) (o : Nat) (s : WS) : WS := wbody (wayA n b a pr o).1 n (b - wst n a) (shR (wst n a) a) pr o (wp (wst n a) 1 (wp 1 (if 0 < wst n a then 1 else 0) (wp 6 ((wayA n b a pr o).1 : Nat) (wp 1 0 s))))
/-! a frame: rows 0 to 7 the channels, 8 side, 9 middle -/
def rwW (S : zRow) (ch first : Nat) (w : Nat) : zRow := fun i => if w = 8 then S ((first + i) * ch) - S ((first + i) * ch + 1) else if w = 9 then (S ((first + i) * ch) + S ((first + i) * ch + 1)) >>> 1 else S ((first + i) * ch + w)
def bW (bits w : Nat) : Nat := if w = 8 then bits + 1 else bits
noncomputable def fsz (S : zRow) (ch bits : Nat) (pr : zPr) (o first n w : Nat) : Nat := wsz n (bW bits w) (rwW S ch first w) pr o
def rowOfN (asg c : Nat) : Nat := if asg < 8 then c else if asg = 9 then (if c = 0 then 8 else 1) else if c = 1 then 8 else if asg = 8 then 0 else 9
def asgA (l r d m : Nat) : Nat := if m + d < (if d + r < (if l + d < l + r then l + d else l + r) then d + r else if l + d < l + r then l + d else l + r) then 10 else if d + r < (if l + d < l + r then l + d else l + r) then 9 else if l + d < l + r then 8 else 1
noncomputable def asgW (S : zRow) (ch bits : Nat) (pr : zPr) (o first n : Nat) : Nat := if ch = 2 then asgA (fsz S ch bits pr o first n 0) (fsz S ch bits pr o first n 1) (fsz S ch bits pr o first n 8) (fsz S ch bits pr o first n 9) else ch - 1
def wnumb (f : Nat) (s : WS) : WS := if f < 128 then wp 8 (f : Nat) s else wp 8 ((128 + f % 64 : Nat) : Int) (wp 8 ((192 + f / 64 : Nat) : Int) s)
def whead (asg f n : Nat) (s : WS) : WS := wp 8 ((n - 1 : Nat) : Int) (wnumb f (wp 4 0 (wp 4 (asg : Nat) (wp 4 0 (wp 4 6 (wp 2 0 (wp 14 16382 s)))))))
/-- the sum of w bits over all from byte from0 on -/
def wsum (w from0 : Nat) (s : WS) : WS := wp w (crc w (crPoly w) s.2 (8 * from0) (s.1 - 8 * from0)).toInt s
def wfill (s : WS) : WS := (8 * ((s.1 + 7) / 8), s.2)
noncomputable def wsubs (S : zRow) (ch bits : Nat) (pr : zPr) (o first n asg : Nat) : Nat → Nat → WS → WS := wl fun c => wsub n (bW bits (rowOfN asg c)) (rwW S ch first (rowOfN asg c)) pr o
noncomputable def wframe (S : zRow) (ch bits : Nat) (pr : zPr) (o f first n : Nat) (s : WS) : WS := wsum 16 (s.1 / 8) (wfill (wsubs S ch bits pr o first n (asgW S ch bits pr o first n) 0 ch (wsum 8 (s.1 / 8) (whead (asgW S ch bits pr o first n) f n s))))
def wbegin (ch bits block rate mo : Nat) (s : WS) : WS := wz 128 (wp 36 (mo : Nat) (wp 5 ((bits - 1 : Nat) : Int) (wp 3 ((ch - 1 : Nat) : Int) (wp 20 (rate : Nat) (wz 48 (wp 16 (block : Nat) (wp 16 (block : Nat) (wp 24 34 (wp 7 0 (wp 1 1 (wp 32 1716281667 s)))))))))))
noncomputable def wall (S : zRow) (ch bits block rate mo : Nat) (pr : zPr) (o : Nat) : Nat → Nat → WS → WS := wl fun f => wframe S ch bits pr o f (f * block) (min block (mo - f * block))
