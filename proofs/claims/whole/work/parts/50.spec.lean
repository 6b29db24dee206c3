/-! ===== READING, as the document has it: from a bit on, a fault and its place, or a value and the next bit; e: where the tape T ends ===== -/
abbrev RS (α : Type) : Type := Nat → (Nat × Nat) ⊕ (α × Nat)
def rpure {α : Type} (a : α) : RS α := fun p => .inr (a, p)
def rbind {α β : Type} (m : RS α) (f : α → RS β) : RS β := fun p => match m p with
  | .inl x => .inl x
  | .inr (a, q) => f a q
/-- an item of w bits; f: its fault, 0 without -/
def rit (T : Nat → Bool) (e w : Nat) (f : Nat → Nat) : RS Nat := fun p => if p + w ≤ e then (if f (bv T p w) = 0 then .inr (bv T p w, p + w) else .inl (f (bv T p w), p)) else .inl (1, p)
def rpass (e w : Nat) : RS Unit := fun p => if p + w ≤ e then .inr ((), p + w) else .inl (1, p)
def kEq (due : Nat) : Nat → Nat := fun v => if v = due then 0 else 2
def kAny : Nat → Nat := fun _ => 0
theorem rbind_l {α β : Type} {m : RS α} {f : α → RS β} {p : Nat} {x : Nat × Nat} (h : m p = .inl x) : rbind m f p = .inl x := by
  unfold rbind
  rw [h]
theorem rbind_r {α β : Type} {m : RS α} {f : α → RS β} {p q : Nat} {a : α} (h : m p = .inr (a, q)) : rbind m f p = f a q := by
  unfold rbind
  rw [h]
theorem rit_1 {T : Nat → Bool} {e w p : Nat} {f : Nat → Nat} (h : ¬ p + w ≤ e) : rit T e w f p = .inl (1, p) := by
  unfold rit
  rw [if_neg h]
theorem rit_k {T : Nat → Bool} {e w p k : Nat} {f : Nat → Nat} (h : p + w ≤ e) (hk : f (bv T p w) = k) (h0 : ¬ k = 0) : rit T e w f p = .inl (k, p) := by
  unfold rit
  rw [if_pos h, hk, if_neg h0]
theorem rit_r {T : Nat → Bool} {e w p : Nat} {f : Nat → Nat} (h : p + w ≤ e) (h0 : f (bv T p w) = 0) : rit T e w f p = .inr (bv T p w, p + w) := by
  unfold rit
  rw [if_pos h, if_pos h0]
theorem rpass_1 {e w p : Nat} (h : ¬ p + w ≤ e) : rpass e w p = .inl (1, p) := by
  unfold rpass
  rw [if_neg h]
theorem rpass_r {e w p : Nat} (h : p + w ≤ e) : rpass e w p = .inr ((), p + w) := by
  unfold rpass
  rw [if_pos h]
/-- the first byte of frame fr's number, the second -/
def kN1 (fr : Nat) : Nat → Nat := fun v => if v ≤ 127 ∨ (192 ≤ v ∧ v ≤ 223) then (if v = (if fr < 128 then fr else 192 + fr / 64) then 0 else 4) else 2
def kN2 (fr : Nat) : Nat → Nat := fun v => if 128 ≤ v ∧ v ≤ 191 then (if v = 128 + fr % 64 then 0 else 4) else 2
def sNumber (T : Nat → Bool) (e fr : Nat) : RS Unit := rbind (rit T e 8 (kN1 fr)) fun _ => if fr < 128 then rpure () else rbind (rit T e 8 (kN2 fr)) fun _ => rpure ()
/-- a frame's assignment, of so many channels -/
def kAsg (ch : Nat) : Nat → Nat := fun a => if (ch = 2 ∧ 8 ≤ a ∧ a ≤ 10) ∨ a + 1 = ch then 0 else 2
def sHeader (T : Nat → Bool) (e ch fr n : Nat) : RS Nat :=
  rbind (rit T e 14 (kEq 16382)) fun _ => rbind (rit T e 2 (kEq 0)) fun _ => rbind (rit T e 4 (kEq 6)) fun _ => rbind (rit T e 4 (kEq 0)) fun _ =>
  rbind (rit T e 4 (kAsg ch)) fun a => rbind (rit T e 4 (kEq 0)) fun _ => rbind (sNumber T e fr) fun _ => rbind (rit T e 8 (fun v => if v + 1 = n then 0 else 4)) fun _ => rpure a
/-- a sum of w bits over the frame that began at byte from0 -/
def sSum (T : Nat → Bool) (e w from0 : Nat) : RS Nat := fun p => rit T e w (fun v => if (v : Int) = (crc w (crPoly w) T (8 * from0) (p - 8 * from0)).toInt then 0 else 3) p
def kIn (lo hi : Nat) : Nat → Nat := fun v => if lo ≤ v ∧ v ≤ hi then 0 else 2
/-- BLOCK, RATE, CHANNELS, BITS, moments -/
abbrev zSet : Type := Nat × Nat × Nat × Nat × Nat
def sSettings (T : Nat → Bool) (e : Nat) : RS zSet :=
  rbind (rit T e 16 (kIn 16 256)) fun bl => rbind (rit T e 16 (kEq bl)) fun _ => rbind (rpass e 24) fun _ => rbind (rpass e 24) fun _ => rbind (rit T e 20 (kIn 1 655350)) fun rt =>
  rbind (rit T e 3 kAny) fun c => rbind (rit T e 5 (kIn 3 23)) fun b => rbind (rit T e 36 (fun m => if m * (c + 1) ≤ 4096 then 0 else 4)) fun m => rbind (rpass e 128) fun _ => rpure (bl, rt, c + 1, b + 1, m)
