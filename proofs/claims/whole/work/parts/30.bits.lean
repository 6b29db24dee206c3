/-! ===== bits of rows of bytes and of longs; streams as functions ===== -/
def bt8 (f : Nat → Int32) (i : Nat) : Bool := (f (i / 8)).toBitVec.getLsbD (7 - i % 8)
def bt64 (g : Nat → Int64) (i : Nat) : Bool := (g (i / 64)).toBitVec.getLsbD (63 - i % 64)
/-- the stream S of n bits, and w bits of v behind it -/
def apB (S : Nat → Bool) (n w : Nat) (v : Int64) : Nat → Bool := fun i => if i < n then S i else if i < n + w then v.toBitVec.getLsbD (w - 1 - (i - n)) else false
theorem q_low8 (y : Int32) {j : Nat} (hj : j < 8) : (y.toInt8.toInt32).toBitVec.getLsbD j = y.toBitVec.getLsbD j := by
  rw [Int8.toBitVec_toInt32, Int32.toBitVec_toInt8, BitVec.getLsbD_signExtend, BitVec.getLsbD_signExtend]
  simp [hj, show j < 32 by omega]
theorem q_or (x y : Int32) (j : Nat) : (x ||| y).toBitVec.getLsbD j = (x.toBitVec.getLsbD j || y.toBitVec.getLsbD j) := by
  rw [Int32.toBitVec_or, BitVec.getLsbD_or]
theorem q_and (x y : Int32) (j : Nat) : (x &&& y).toBitVec.getLsbD j = (x.toBitVec.getLsbD j && y.toBitVec.getLsbD j) := by
  rw [Int32.toBitVec_and, BitVec.getLsbD_and]
theorem q_shl : ∀ s, s < 32 → ∀ (x : Int32), (x <<< (nI s &&& 31)).toBitVec = x.toBitVec <<< s := by
  intro s hs x
  have e : ((nI s &&& 31).toBitVec.smod 32).toNat = s := by
    have h := pk_andN (n := s) (by omega) (m := 31) 5 (by decide)
    rw [h, Nat.mod_eq_of_lt (by omega)]
    clear h
    revert s
    decide
  have h := Int32.toBitVec_shiftLeft x (nI s &&& 31)
  rw [h]
  show x.toBitVec <<< ((nI s &&& 31).toBitVec.smod 32) = _
  rw [BitVec.shiftLeft_eq', e]
theorem q_lshr : ∀ s, s < 64 → ∀ (x : Int64), (x >>> ((nI s).toInt64 &&& 63)).toBitVec = x.toBitVec.sshiftRight s := by
  intro s hs x
  have e : (((nI s).toInt64 &&& 63).toBitVec.smod 64).toNat = s := by
    revert s
    decide
  have h := Int64.toBitVec_shiftRight x ((nI s).toInt64 &&& 63)
  rw [h]
  show BitVec.sshiftRight' _ _ = _
  rw [BitVec.sshiftRight', e]
theorem q_mask : ∀ t, t ≤ 8 → ∀ j, j < 32 → (((1 : Int32) <<< (nI t &&& 31)) - 1).toBitVec.getLsbD j = decide (j < t) := by decide
/-- nothing has changed but where F says so -/
def zfr (F : Nat → Nat → Bool) (D D' : zD) : Prop := (∀ a k, F a k = false → D'.1 a k = D.1 a k) ∧ ∀ a k, F a k = false → D'.2 a k = D.2 a k
theorem zfr.rf {F : Nat → Nat → Bool} {D : zD} : zfr F D D := ⟨fun _ _ _ => rfl, fun _ _ _ => rfl⟩
theorem zfr.tr {F : Nat → Nat → Bool} {D D' D'' : zD} (h : zfr F D D') (h' : zfr F D' D'') : zfr F D D'' := ⟨fun a k q => (h'.1 a k q).trans (h.1 a k q), fun a k q => (h'.2 a k q).trans (h.2 a k q)⟩
theorem zfr.wk {F F' : Nat → Nat → Bool} {D D' : zD} (h : zfr F D D') (hF : ∀ a k, F' a k = false → F a k = false) : zfr F' D D' := ⟨fun a k q => h.1 a k (hF a k q), fun a k q => h.2 a k (hF a k q)⟩
theorem zfr.uI {F : Nat → Nat → Bool} {D D' : zD} (h : zfr F D D') {a k : Nat} (v : Int32) (hF : F a k = true) : zfr F D (zuI D' a k v) := by
  refine ⟨fun b j q => ?_, h.2⟩
  rw [← h.1 b j q]
  show (if b = a then upd (D'.1 a) k v else D'.1 b) j = D'.1 b j
  split
  next hb =>
    subst hb
    unfold upd
    split
    next hj => subst hj; rw [hF] at q; cases q
    next => rfl
  next => rfl
theorem zfr.uL {F : Nat → Nat → Bool} {D D' : zD} (h : zfr F D D') {a k : Nat} (v : Int64) (hF : F a k = true) : zfr F D (zuL D' a k v) := by
  refine ⟨h.1, fun b j q => ?_⟩
  rw [← h.2 b j q]
  show (if b = a then vp_updL (D'.2 a) k v else D'.2 b) j = D'.2 b j
  split
  next hb =>
    subst hb
    unfold vp_updL
    split
    next hj => subst hj; rw [hF] at q; cases q
    next => rfl
  next => rfl
/-- the pen has written the stream S of n bits; behind them its bytes are 0 -/
def penR (D : zD) (n : Nat) (S : Nat → Bool) : Prop := D.1 6 1 = nI n ∧ n ≤ 160000 ∧ (∀ i, i < 160000 → bt8 (D.1 7) i = S i) ∧ (∀ i, n ≤ i → S i = false) ∧ okB D 7 20000
def cutB (T : Nat → Bool) (p : Nat) : Nat → Bool := fun i => decide (i < p) && T i
def fPen (a _ : Nat) : Bool := a == 6 || a == 7
theorem fits_byte (y : Int32) : fits .byte (.int y.toInt8.toInt32) = true := pk_fb y
/-- one piece: tk bits at p, out of x, of which left are still to come -/
theorem put_bits {f : Nat → Int32} {T : Nat → Bool} {x : Int64} {n w p left tk : Nat} (hT : ∀ i, p ≤ i → i < n + w → T i = x.toBitVec.getLsbD (w - 1 - (i - n))) (hnp : n ≤ p) (hpl : p + left = n + w) (hw : w ≤ 63) (htk : tk ≤ left) (htk0 : 0 < tk) (htf : tk ≤ 8 - p % 8)
    (hf : ∀ i, i < 160000 → bt8 f i = cutB T p i) (hend : p + tk ≤ 160000) {y : Int32} (hy : ∀ j, j < 8 → y.toBitVec.getLsbD j = ((f (p / 8)).toBitVec.getLsbD j || (decide (8 - p % 8 - tk ≤ j) && (decide (j - (8 - p % 8 - tk) < tk) && x.toBitVec.getLsbD (left - tk + (j - (8 - p % 8 - tk))))))) :
    ∀ i, i < 160000 → bt8 (upd f (p / 8) y) i = cutB T (p + tk) i := by
  intro i hi
  have h1 := hf i hi
  unfold bt8 at h1 ⊢
  unfold cutB at h1 ⊢
  unfold upd
  by_cases hb : i / 8 = p / 8
  · rw [if_pos hb, hy _ (by omega), ← hb, h1]
    by_cases hip : i < p
    · have e1 : ¬ (7 - i % 8 - (8 - p % 8 - tk) < tk) := by omega
      simp [hip, e1, show i < p + tk by omega]
    · by_cases hit : i < p + tk
      · have e1 : 8 - p % 8 - tk ≤ 7 - i % 8 := by omega
        have e2 : 7 - i % 8 - (8 - p % 8 - tk) < tk := by omega
        have e3 : left - tk + (7 - i % 8 - (8 - p % 8 - tk)) = w - 1 - (i - n) := by omega
        simp [hip, hit, e1, e2, e3, hT i (by omega) (by omega)]
      · have e1 : ¬ (8 - p % 8 - tk ≤ 7 - i % 8) := by omega
        simp [hip, hit, e1]
  · rw [if_neg hb, h1]
    by_cases hip : i < p
    · simp [hip, show i < p + tk by omega]
    · simp [hip, show ¬ i < p + tk by omega]
