/-! ===== READING, the rest: rows, frames, the stream ===== -/
abbrev RT (α : Type) : Type := (Nat × Nat) ⊕ (α × Nat)
def rloop {α : Type} (f : Nat → α → RS α) : Nat → Nat → α → RS α
  | _, 0, a => rpure a
  | i, m + 1, a => rbind (f i a) (rloop f (i + 1) m)
abbrev zRow : Type := Nat → Int
def uN (a : zRow) (i : Nat) (x : Int) : zRow := fun j => if j = i then x else a j
theorem uN_s (a : zRow) (i : Nat) (x : Int) : uN a i x i = x := if_pos rfl
theorem uN_n {a : zRow} {i j : Nat} {x : Int} (h : ¬ j = i) : uN a i x j = a j := if_neg h
/-- a row of zeros up to a one -/
def sRunA (T : Nat → Bool) : Nat → Nat → Option Nat
  | 0, _ => none
  | n + 1, p => if T p = true then some 0 else (sRunA T n (p + 1)).map (· + 1)
def sRun (T : Nat → Bool) (e : Nat) : RS Nat := fun p => match sRunA T (e - p) p with
  | none => .inl (1, p)
  | some z => .inr (z, p + z + 1)
theorem sRunA_r {T : Nat → Bool} : ∀ {z n p : Nat}, z < n → (∀ i, i < z → T (p + i) = false) → T (p + z) = true → sRunA T n p = some z
  | 0, n + 1, p, _, _, h => by
    unfold sRunA
    exact if_pos h
  | z + 1, n + 1, p, hz, h0, h => by
    unfold sRunA
    have := h0 0 (by omega)
    rw [Nat.add_zero] at this
    rw [if_neg (by rw [this]; decide), sRunA_r (z := z) (n := n) (p := p + 1) (by omega) (fun i hi => by
      have := h0 (i + 1) (by omega)
      rw [show p + 1 + i = p + (i + 1) by omega]
      exact this) (by
      rw [show p + 1 + z = p + (z + 1) by omega]
      exact h)]
    rfl
theorem sRunA_l {T : Nat → Bool} : ∀ {n p : Nat}, (∀ i, p ≤ i → i < p + n → T i = false) → sRunA T n p = none
  | 0, _, _ => rfl
  | n + 1, p, h => by
    unfold sRunA
    rw [if_neg (by rw [h p (by omega) (by omega)]; decide), sRunA_l (fun i h1 h2 => h i (by omega) (by omega))]
    rfl
theorem sRun_r {T : Nat → Bool} {e p z : Nat} (hz : p + z < e) (h0 : ∀ i, i < z → T (p + i) = false) (h : T (p + z) = true) : sRun T e p = .inr (z, p + z + 1) := by
  unfold sRun
  rw [sRunA_r (z := z) (by omega) h0 h]
theorem sRun_l {T : Nat → Bool} {e p : Nat} (h0 : ∀ i, p ≤ i → i < e → T i = false) : sRun T e p = .inl (1, p) := by
  unfold sRun
  rw [sRunA_l (fun i h1 h2 => h0 i h1 (by omega))]
def sWords (T : Nat → Bool) (e : Nat) : Nat → Nat → RS Unit
  | 0, _ => rpure ()
  | n + 1, l => if l = 1 then rpure () else rbind (rit T e 1 kAny) fun l' => rbind (rit T e 7 (kIn 1 126)) fun _ => rbind (rit T e 24 kAny) fun len => rbind (rpass e (8 * len)) fun _ => sWords T e n l'
def sOpen (T : Nat → Bool) (e : Nat) : RS zSet :=
  rbind (rit T e 32 (kEq 1716281667)) fun _ => rbind (rit T e 1 kAny) fun l => rbind (rit T e 7 (kEq 0)) fun _ => rbind (rit T e 24 (kEq 34)) fun _ => rbind (sSettings T e) fun s => rbind (sWords T e 5000 l) fun _ => rpure s
def sNums (T : Nat → Bool) (e d : Nat) : Nat → Nat → zRow → RS zRow := rloop fun i a => rbind (rit T e d kAny) fun v => rpure (uN a i (sgI d v))
def ordN (t : Nat) : Nat := if t < 2 then 0 else if t < 32 then t - 8 else t - 31
def kType (n : Nat) : Nat → Nat := fun t => if t < 2 ∨ (8 ≤ t ∧ t ≤ 12 ∧ t - 8 ≤ n) ∨ (32 ≤ t ∧ t - 31 ≤ n) then 0 else 2
def sWaste (T : Nat → Bool) (e b : Nat) : RS Nat := rbind (rit T e 1 kAny) fun v => if v = 1 then (fun p => rbind (sRun T e) (fun z q => if z + 1 < b then .inr (z + 1, q) else .inl (2, p)) p) else rpure 0
def sm (f : Nat → Int) : Nat → Int
  | 0 => 0
  | n + 1 => sm f n + f n
/-- what o weights c and a shift foretell of a's number i -/
def fore (c : Nat → Int) (s o : Nat) (a : zRow) (i : Nat) : Int := sm (fun j => c j * a (i - 1 - j)) o >>> s
def fxC (o j : Nat) : Int := match o, j with
  | 1, 0 => 1
  | 2, 0 => 2
  | 2, 1 => -1
  | 3, 0 => 3
  | 3, 1 => -3
  | 3, 2 => 1
  | 4, 0 => 4
  | 4, 1 => -6
  | 4, 2 => 4
  | 4, 3 => -1
  | _, _ => 0
/-- shift, weights -/
abbrev zPr : Type := Nat × (Nat → Int)
def sPred (T : Nat → Bool) (e t : Nat) : RS zPr := if t ≤ 31 then rpure (0, fxC (t - 8)) else rbind (rit T e 4 (kIn 0 14)) fun pr => rbind (rit T e 5 (kIn 0 15)) fun sh => rbind (sNums T e (pr + 1) 0 (t - 31) (fun _ => 0)) fun c => rpure (sh, c)
def sKey (T : Nat → Bool) (e kb : Nat) : RS (Bool × Nat) := rbind (rit T e kb kAny) fun key => if key = 2 ^ kb - 1 then rbind (rit T e 5 kAny) fun w => rpure (true, w) else rpure (false, key)
noncomputable def zif {α : Type} (P : Prop) (a b : α) : α := @ite α P (Classical.propDecidable P) a b
theorem zif_p {α : Type} {P : Prop} {a b : α} (h : P) : zif P a b = a := by
  unfold zif
  rw [if_pos h]
theorem zif_n {α : Type} {P : Prop} {a b : α} (h : ¬ P) : zif P a b = b := by
  unfold zif
  rw [if_neg h]
noncomputable def sOne (T : Nat → Bool) (e b o : Nat) (pr : zPr) (pl : Bool) (w i : Nat) (a : zRow) : RS zRow := fun p0 => rbind (if pl = true then rpure 0 else sRun T e) (fun z => rbind (rit T e w kAny) fun r q =>
  zif (inB b (fore pr.2 pr.1 o a i + (if pl = true then sgI w r else unfI (z * 2 ^ w + r)))) (.inr (uN a i (fore pr.2 pr.1 o a i + (if pl = true then sgI w r else unfI (z * 2 ^ w + r))), q)) (.inl (2, p0))) p0
noncomputable def sPart (T : Nat → Bool) (e b o : Nat) (pr : zPr) (kb from0 to : Nat) (a : zRow) : RS zRow := rbind (sKey T e kb) fun k => rloop (sOne T e b o pr k.1 k.2) from0 (to - from0) a
def kCut (n o : Nat) : Nat → Nat := fun q => if n % 2 ^ q = 0 ∧ o ≤ n / 2 ^ q then 0 else 2
noncomputable def sRes (T : Nat → Bool) (e n b o : Nat) (pr : zPr) (a : zRow) : RS zRow := rbind (rit T e 2 (kIn 0 1)) fun me => rbind (rit T e 4 (kCut n o)) fun q => rloop (fun part => sPart T e b o pr (4 + me) (if part = 0 then o else part * (n / 2 ^ q)) ((part + 1) * (n / 2 ^ q))) 0 (2 ^ q) a
noncomputable def sBody (T : Nat → Bool) (e n t d : Nat) : RS zRow := if t = 0 then (rbind (rit T e d kAny) fun v => rpure (fun _ => sgI d v)) else if t = 1 then sNums T e d 0 n (fun _ => 0) else
  rbind (sNums T e d 0 (ordN t) (fun _ => 0)) fun a => rbind (sPred T e t) fun pr => sRes T e n d (ordN t) pr a
noncomputable def sSub (T : Nat → Bool) (e n bits : Nat) : RS zRow := rbind (rit T e 1 (kEq 0)) fun _ => rbind (rit T e 6 (kType n)) fun t => rbind (sWaste T e bits) fun w => rbind (sBody T e n t (bits - w)) fun a => rpure (fun i => a i * 2 ^ w)
def side (asg c : Nat) : Bool := (asg == 9 && c == 0) || ((asg == 8 || asg == 10) && c == 1)
abbrev zRows : Type := Nat → zRow
noncomputable def sRows (T : Nat → Bool) (e n bits asg : Nat) : Nat → Nat → zRows → RS zRows := rloop fun c R => rbind (sSub T e n (bits + if side asg c = true then 1 else 0)) fun a => rpure (fun j => if j = c then a else R j)
/-- the channels of a frame, out of its rows -/
def unite (asg : Nat) (R : zRows) (c i : Nat) : Int :=
  if asg = 8 then (if c = 1 then R 0 i - R 1 i else R c i)
  else if asg = 9 then (if c = 0 then R 0 i + R 1 i else R c i)
  else if asg = 10 then (if c = 0 then (2 * R 0 i + R 1 i % 2 + R 1 i) >>> 1 else if c = 1 then (2 * R 0 i + R 1 i % 2 + R 1 i) >>> 1 - R 1 i else R c i)
  else R c i
def fitAll (ch n bits : Nat) (U : zRows) : Prop := ∀ c, c < ch → ∀ i, i < n → inB bits (U c i)
noncomputable def sFrame (T : Nat → Bool) (e ch bits fr n : Nat) : RS zRows := fun p0 => rbind (sHeader T e ch fr n) (fun asg => rbind (sSum T e 8 (p0 / 8)) fun _ => rbind (sRows T e n bits asg 0 ch (fun _ _ => 0)) fun R => rbind (fun p => rit T e ((8 - p % 8) % 8) (kEq 0) p) fun _ => fun p =>
  rbind (sSum T e 16 (p0 / 8)) (fun _ q => zif (fitAll ch n bits (unite asg R)) (.inr (unite asg R, q)) (.inl (4, p))) p) p0
/-- a frame's numbers at their places in the sound -/
def lay (ch first n : Nat) (U : zRows) (S : zRow) : zRow := fun j => if first * ch ≤ j ∧ j < (first + n) * ch then U (j % ch) (j / ch - first) else S j
noncomputable def sFrames (T : Nat → Bool) (e : Nat) (st : zSet) : RS zRow := rloop (fun f S => rbind (sFrame T e st.2.2.1 st.2.2.2.1 f (min st.1 (st.2.2.2.2 - f * st.1))) fun U => rpure (lay st.2.2.1 (f * st.1) (min st.1 (st.2.2.2.2 - f * st.1)) U S)) 0 ((st.2.2.2.2 + st.1 - 1) / st.1) (fun _ => 0)
noncomputable def sRead (T : Nat → Bool) (e : Nat) : RS (zSet × zRow) := rbind (sOpen T e) fun st => rbind (sFrames T e st) fun S p => if p = e then .inr ((st, S), p) else .inl (2, p)
/-! ===== the Reader's calls, by what is left of the reading: K, whose end sp is given ===== -/
theorem c_numK {β : Type} {d w p sz : Nat} {D : zD} {T : Nat → Bool} {Q : zQ} {f : Nat → Nat} {K : Nat → RS β} {sp : RT β} (hw : w ≤ 62) (hR : rd8 D T sz p) (hK : rbind (rit T (8 * sz) w f) K p = sp) (h0 : ∀ D', sp = .inl (1, p) → bad8 D' 1 p → zfr fAt D D' → Q (.inr zISE) 1 D')
    (h1 : ∀ D' v, v < 2 ^ w → (f v = 0 → K v (p + w) = sp) → (¬ f v = 0 → sp = .inl (f v, p)) → rd8 D' T sz (p + w) → D'.1 37 8 = nI p → zfr fAt D D' → Q (.inl (some (.long (lN v)))) 0 D') :
    ZM yX4_number iX4_number (d + 1) [.ref 37, .int (nI w)] D Q :=
  c_num hw hR (fun D' hle hR' hit hF => h1 D' _ (bv_lt T p w) (fun h => (rbind_r (rit_r hle h)).symm.trans hK) (fun h => hK.symm.trans (rbind_l (rit_k hle rfl h))) hR' hit hF) (fun D' hn hb hF => h0 D' (hK.symm.trans (rbind_l (rit_1 hn))) hb hF)
theorem c_numA {β : Type} {d w p sz : Nat} {D : zD} {T : Nat → Bool} {Q : zQ} {K : Nat → RS β} {sp : RT β} (hw : w ≤ 62) (hR : rd8 D T sz p) (hK : rbind (rit T (8 * sz) w kAny) K p = sp) (h0 : ∀ D', sp = .inl (1, p) → bad8 D' 1 p → zfr fAt D D' → Q (.inr zISE) 1 D')
    (h1 : ∀ D' v, v < 2 ^ w → K v (p + w) = sp → rd8 D' T sz (p + w) → D'.1 37 8 = nI p → zfr fAt D D' → Q (.inl (some (.long (lN v)))) 0 D') :
    ZM yX4_number iX4_number (d + 1) [.ref 37, .int (nI w)] D Q :=
  c_numK hw hR hK h0 (fun D' v hv hk _ => h1 D' v hv (hk rfl))
theorem c_expK {β : Type} {d w p sz due : Nat} {D : zD} {T : Nat → Bool} {Q : zQ} {dl : Int64} {K : Nat → RS β} {sp : RT β} (hw : w ≤ 62) (hdl : dl = lN due) (hdue : due < 2 ^ 62) (hR : rd8 D T sz p) (hK : rbind (rit T (8 * sz) w (kEq due)) K p = sp) (h0 : ∀ D' k, sp = .inl (k, p) → bad8 D' k p → zfr fAt D D' → Q (.inr zISE) 1 D')
    (h1 : ∀ D' v, K v (p + w) = sp → rd8 D' T sz (p + w) → D'.1 37 8 = nI p → zfr fAt D D' → Q (.inl none) 0 D') :
    ZM yX4_expect iX4_expect (d + 2) [.ref 37, .int (nI w), .long dl] D Q :=
  c_exp hw hdl hdue hR (fun D' hr hR' hit hF => h1 D' _ ((rbind_r hr).symm.trans hK) hR' hit hF) (fun D' k hr hb hF => h0 D' k (hK.symm.trans (rbind_l hr)) hb hF)
theorem c_psK {β : Type} {d w p sz : Nat} {D : zD} {T : Nat → Bool} {Q : zQ} {K : Unit → RS β} {sp : RT β} (hw : w < 2 ^ 30) (hR : rd8 D T sz p) (hK : rbind (rpass (8 * sz) w) K p = sp) (h0 : ∀ D', sp = .inl (1, p) → bad8 D' 1 p → zfr fAt D D' → Q (.inr zISE) 1 D')
    (h1 : ∀ D', K () (p + w) = sp → rd8 D' T sz (p + w) → zfr fAt D D' → Q (.inl none) 0 D') :
    ZM yX4_pass iX4_pass (d + 1) [.ref 37, .int (nI w)] D Q :=
  c_ps hw hR (fun D' hr hR' hF => h1 D' ((rbind_r hr).symm.trans hK) hR' hF) (fun D' hr hb hF => h0 D' (hK.symm.trans (rbind_l hr)) hb hF)
theorem rbind_i {α β : Type} {m : RS α} {f : α → RS β} {p : Nat} {sp : RT β} (h : rbind m f p = sp) : (∃ a q, m p = .inr (a, q) ∧ f a q = sp) ∨ (∃ k pl, m p = .inl (k, pl) ∧ sp = .inl (k, pl)) := by
  rcases hm : m p with ⟨k, pl⟩ | ⟨a, q⟩
  · exact .inr ⟨k, pl, rfl, h.symm.trans (rbind_l hm)⟩
  · exact .inl ⟨a, q, rfl, (rbind_r hm).symm.trans h⟩
theorem or_l {a b : Bool} (h : (a || b) = false) : a = false := (Bool.or_eq_false_iff.mp h).1
theorem or_r {a b : Bool} (h : (a || b) = false) : b = false := (Bool.or_eq_false_iff.mp h).2
