/-! ===== the world of the system as one shape, its numbers as two functions; a judgement Z over it (no cell is named by its address) ===== -/
/-- the numbers of the system: ints (also bytes) and longs, by cell and by place in it -/
abbrev zD : Type := (Nat → Nat → Int32) × (Nat → Nat → Int64)
/-- a cell's shape: 0, 1, 2: an array of ints, longs, bytes, of so many; 3, 4: an array of references to these cells; 5: an object of this class, its fields 0: int, 1: long, r + 2: a reference to cell r -/
abbrev zS : Type := Nat × Nat × List Nat
abbrev zcl : List vw_C := [(RX0, TX0, 2), (RX1, TX1, 7), (RX2, TX2, 2), (RX3, TX3, 3), (RX4, TX4, 11), (RX5, TX5, 8), (RX6, TX6, 4), (RX7, TX7, 7), (RX8, TX8, 6), (RX9, TX9, 44)]
def zSH : List zS := [
  (5, 8, [3, 4, 6, 0, 7, 39]), (5, 6, [0, 0, 0, 0]), (5, 3, [5, 0, 0]), (0, 8, []), (0, 4096, []),
  (5, 1, [8, 0, 0, 10, 11, 12, 22]), (5, 2, [9, 0]), (2, 20000, []), (0, 256, []), (0, 1056, []),
  (5, 0, [13, 15]), (5, 3, [14, 0, 0]), (0, 4, []), (5, 5, [16, 0, 0, 17, 18, 19, 0, 1]), (1, 256, []),
  (1, 120, []), (0, 8, []), (0, 8, []), (1, 1, []), (5, 9, [0, 0, 0, 0, 0, 0, 0, 54, 0, 55, 0, 56, 1, 0, 0, 57, 58, 59, 60, 61, 0, 62, 0, 0, 0, 63, 64, 0, 0, 0, 1, 0, 1, 1, 0, 0, 0, 0, 1, 0, 65, 66, 67, 0]),
  (4, 8, [21, 23, 25, 27, 29, 31, 33, 35]),
  (5, 7, [24, 0, 0, 0, 0, 0, 1]), (0, 256, []), (5, 7, [26, 0, 0, 0, 0, 0, 1]), (0, 256, []), (5, 7, [28, 0, 0, 0, 0, 0, 1]), (0, 256, []), (5, 7, [30, 0, 0, 0, 0, 0, 1]), (0, 256, []),
  (5, 7, [32, 0, 0, 0, 0, 0, 1]), (0, 256, []), (5, 7, [34, 0, 0, 0, 0, 0, 1]), (0, 256, []), (5, 7, [36, 0, 0, 0, 0, 0, 1]), (0, 256, []), (5, 7, [38, 0, 0, 0, 0, 0, 1]), (0, 256, []),
  (5, 4, [40, 0, 0, 0, 41, 0, 42, 0, 0, 43, 52]), (2, 20000, []), (5, 6, [0, 0, 0, 0]), (0, 4096, []), (3, 8, [42, 43, 44, 45, 46, 47, 48, 49]),
  (0, 256, []), (0, 256, []), (0, 256, []), (0, 256, []), (0, 256, []), (0, 256, []), (0, 256, []), (0, 256, []), (5, 3, [53, 0, 0]), (0, 32, []),
  (0, 8, []), (0, 4096, []), (1, 2500, []), (0, 264, []), (0, 264, []), (0, 264, []), (0, 264, []), (0, 256, []), (1, 2500, []), (1, 256, []), (1, 256, []), (0, 4096, []), (1, 2048, []), (0, 32, [])]
def zv (ad : Nat → Nat) : Value → Value
  | .ref k => .ref (ad k)
  | v => v
def zfv (ad : Nat → Nat) (D : zD) (a k c : Nat) : Value := match c with
  | 0 => .int (D.1 a k)
  | 1 => .long (D.2 a k)
  | r + 2 => .ref (ad r)
def zcell (ad : Nat → Nat) (cA : Nat → ClassId) (D : zD) (a : Nat) (sh : zS) : va_E := match sh.1 with
  | 0 => .inl (cA 0, sh.2.1, .inl (D.1 a))
  | 1 => .inl (cA 1, sh.2.1, .inr (.inl (D.2 a)))
  | 2 => .inl (cA 2, sh.2.1, .inl (D.1 a))
  | 3 => .inl (cA 3, sh.2.1, .inr (.inr (.inr (.inr (fun i => (sh.2.2[i]?).map ad)))))
  | 4 => .inl (cA 4, sh.2.1, .inr (.inr (.inr (.inr (fun i => (sh.2.2[i]?).map ad)))))
  | _ => .inr (sh.2.1, sh.2.2.mapIdx (fun k c => zfv ad D a k c))
def zws (ad : Nat → Nat) (cA : Nat → ClassId) (D : zD) : va_W := zSH.mapIdx (fun a sh => (ad a, zcell ad cA D a sh))
abbrev ztys (cA : Nat → ClassId) : List (ClassId × FieldType) := [(cA 0, .int), (cA 1, .long), (cA 2, .byte), (cA 3, .array .int), (cA 4, .object "SoundPacker$Subframe")]
def zuI (D : zD) (a k : Nat) (v : Int32) : zD := (fun b => if b = a then upd (D.1 a) k v else D.1 b, D.2)
def zuL (D : zD) (a k : Nat) (v : Int64) : zD := (D.1, fun b => if b = a then vp_updL (D.2 a) k v else D.2 b)
/-- a whole row of ints anew -/
def zuR (D : zD) (a : Nat) (f : Nat → Int32) : zD := (fun b => if b = a then f else D.1 b, D.2)
def zuM (D : zD) (a : Nat) (f : Nat → Int64) : zD := (D.1, fun b => if b = a then f else D.2 b)
theorem zws_at {ad : Nat → Nat} {cA : Nat → ClassId} {D : zD} {a : Nat} {sh : zS} (h : zSH[a]? = some sh) : (zws ad cA D)[a]? = some (ad a, zcell ad cA D a sh) := by
  unfold zws
  rw [List.getElem?_mapIdx, h]
  rfl
theorem zws_set {ad : Nat → Nat} {cA : Nat → ClassId} {D D' : zD} {a : Nat} {sh : zS} {e : va_E} (h : zSH[a]? = some sh) (he : zcell ad cA D' a sh = e) (h1 : ∀ b, b ≠ a → D'.1 b = D.1 b) (h2 : ∀ b, b ≠ a → D'.2 b = D.2 b) : (zws ad cA D).set a (ad a, e) = zws ad cA D' := by
  apply List.ext_getElem?
  intro j
  unfold zws
  by_cases hj : j = a
  · subst hj
    have hl : j < (List.mapIdx (fun a sh => (ad a, zcell ad cA D a sh)) zSH).length := by
      rw [List.length_mapIdx]
      exact (List.getElem?_eq_some_iff.mp h).1
    rw [List.getElem?_set_self hl, List.getElem?_mapIdx, h]
    show _ = some (ad j, zcell ad cA D' j sh)
    rw [he]
  · rw [List.getElem?_set_ne (Ne.symm hj), List.getElem?_mapIdx, List.getElem?_mapIdx]
    congr 1
    funext sh'
    have e1 : zcell ad cA D' j sh' = zcell ad cA D j sh' := by
      unfold zcell zfv
      rw [h1 j hj, h2 j hj]
    rw [e1]
theorem zws_uI {ad : Nat → Nat} {cA : Nat → ClassId} {D : zD} {a k ci : Nat} {fl : List Nat} {v : Int32} (h : zSH[a]? = some (5, ci, fl)) (hk : fl[k]? = some 0) : (zws ad cA D).set a (ad a, .inr (ci, (fl.mapIdx (fun k c => zfv ad D a k c)).set k (.int v))) = zws ad cA (zuI D a k v) := by
  refine zws_set h ?_ (fun b hb => if_neg hb) (fun _ _ => rfl)
  show (Sum.inr (ci, fl.mapIdx (fun j c => zfv ad (zuI D a k v) a j c)) : va_E) = _
  congr 2
  apply List.ext_getElem?
  intro j
  have hlk : k < fl.length := (List.getElem?_eq_some_iff.mp hk).1
  by_cases hj : j = k
  · subst hj
    rw [List.getElem?_set_self (by rw [List.length_mapIdx]; exact hlk), List.getElem?_mapIdx, hk]
    simp [zfv, zuI, upd]
  · rw [List.getElem?_set_ne (Ne.symm hj), List.getElem?_mapIdx, List.getElem?_mapIdx]
    congr 1
    funext c
    unfold zfv
    simp [zuI, upd, hj]
theorem zws_uL {ad : Nat → Nat} {cA : Nat → ClassId} {D : zD} {a k ci : Nat} {fl : List Nat} {v : Int64} (h : zSH[a]? = some (5, ci, fl)) (hk : fl[k]? = some 1) : (zws ad cA D).set a (ad a, .inr (ci, (fl.mapIdx (fun k c => zfv ad D a k c)).set k (.long v))) = zws ad cA (zuL D a k v) := by
  refine zws_set h ?_ (fun _ _ => rfl) (fun b hb => if_neg hb)
  show (Sum.inr (ci, fl.mapIdx (fun j c => zfv ad (zuL D a k v) a j c)) : va_E) = _
  congr 2
  apply List.ext_getElem?
  intro j
  have hlk : k < fl.length := (List.getElem?_eq_some_iff.mp hk).1
  by_cases hj : j = k
  · subst hj
    rw [List.getElem?_set_self (by rw [List.length_mapIdx]; exact hlk), List.getElem?_mapIdx, hk]
    simp [zfv, zuL, vp_updL]
  · rw [List.getElem?_set_ne (Ne.symm hj), List.getElem?_mapIdx, List.getElem?_mapIdx]
    congr 1
    funext c
    unfold zfv
    simp [zuL, vp_updL, hj]
/-- locals: what is known of them, by place -/
abbrev zLo : Type := Nat → Option Value
def zno2 : Option Value → Option Value
  | some (.long _) => none
  | some (.double _) => none
  | x => x
def zset (L : zLo) (i : Nat) (v : Value) : zLo := fun j => if j = i then some v else if j + 1 = i then zno2 (L j) else L j
def zset2 (L : zLo) (i : Nat) (v : Value) : zLo := fun j => if j = i then some v else if j = i + 1 then none else if j + 1 = i then zno2 (L j) else L j
/-- a local forgotten (a caught exception lies there) -/
def zdel (L : zLo) (i : Nat) : zLo := fun j => if j = i then none else if j + 1 = i then zno2 (L j) else L j
def zL (ad : Nat → Nat) (L : zLo) (nL : Nat) (ls : Array Slot) : Prop := ls.size = nL ∧ lv_wf ls ∧ ∀ (i : Nat) (v : Value), L i = some v → ls[i]? = some (.val (zv ad v))
def zlist (ad : Nat → Nat) (L : zLo) (nL : Nat) : List (Nat × Value) := (List.range nL).filterMap (fun i => (L i).map (fun v => (i, zv ad v)))
theorem zlist_mem {ad : Nat → Nat} {L : zLo} {nL i : Nat} {w : Value} : (i, w) ∈ zlist ad L nL ↔ i < nL ∧ ∃ v, L i = some v ∧ w = zv ad v := by
  unfold zlist
  rw [List.mem_filterMap]
  constructor
  · rintro ⟨j, hj, he⟩
    cases hL : L j with
    | none => rw [hL] at he; cases he
    | some v =>
      rw [hL] at he
      cases he
      exact ⟨List.mem_range.mp hj, v, hL, rfl⟩
  · rintro ⟨hi, v, hv, rfl⟩
    exact ⟨i, List.mem_range.mpr hi, by rw [hv]; rfl⟩
theorem zL.has {ad : Nat → Nat} {L : zLo} {nL : Nat} {ls : Array Slot} (h : zL ad L nL ls) : lv_has ls nL (zlist ad L nL) :=
  ⟨h.1, h.2.1, fun q hq => by
    obtain ⟨i, w⟩ := q
    obtain ⟨-, v, hv, rfl⟩ := zlist_mem.mp hq
    exact h.2.2 i v hv⟩
theorem zL.lt {ad : Nat → Nat} {L : zLo} {nL : Nat} {ls : Array Slot} (h : zL ad L nL ls) {i : Nat} {v : Value} (hv : L i = some v) : i < nL := by
  rw [← h.1]
  exact lv_lt (h.2.2 i v hv)
theorem zv_cat (ad : Nat → Nat) (v : Value) : (zv ad v).category = v.category := by cases v <;> rfl
theorem zno2_some {o : Option Value} {v : Value} (h : zno2 o = some v) : o = some v ∧ ¬ v.category = 2 := by
  cases o with
  | none => cases h
  | some w => cases w <;> first | (cases h; done) | (cases h; exact ⟨rfl, by simp [Value.category]⟩)
theorem zset_has {ad : Nat → Nat} {L : zLo} {nL i : Nat} {v : Value} {ls ls' : Array Slot} (h0 : zL ad L nL ls)
    (h : lv_has ls' nL ((i, zv ad v) :: (zlist ad L nL).filter (fun q => !(q.1 == i) && !(q.1 + 1 == i && q.2.category == 2)))) : zL ad (zset L i v) nL ls' := by
  refine ⟨h.1, h.2.1, fun j w hj => ?_⟩
  unfold zset at hj
  by_cases e1 : j = i
  · rw [if_pos e1] at hj
    cases hj
    rw [e1]
    exact h.2.2 (i, zv ad v) List.mem_cons_self
  · rw [if_neg e1] at hj
    have key : L j = some w ∧ (j + 1 = i → ¬ w.category = 2) := by
      by_cases e2 : j + 1 = i
      · rw [if_pos e2] at hj
        exact ⟨(zno2_some hj).1, fun _ => (zno2_some hj).2⟩
      · rw [if_neg e2] at hj
        exact ⟨hj, fun q => absurd q e2⟩
    refine h.2.2 (j, zv ad w) (List.mem_cons_of_mem _ (List.mem_filter.mpr ⟨zlist_mem.mpr ⟨h0.lt key.1, w, key.1, rfl⟩, ?_⟩))
    by_cases e2 : j + 1 = i
    · have := key.2 e2
      simp [e1, e2, zv_cat, this]
    · simp [e1, e2]
theorem zset2_has {ad : Nat → Nat} {L : zLo} {nL i : Nat} {v : Value} {ls ls' : Array Slot} (h0 : zL ad L nL ls)
    (h : lv_has ls' nL ((i, zv ad v) :: (zlist ad L nL).filter (fun q => !(q.1 == i) && (!(q.1 == i + 1) && !(q.1 + 1 == i && q.2.category == 2))))) : zL ad (zset2 L i v) nL ls' := by
  refine ⟨h.1, h.2.1, fun j w hj => ?_⟩
  unfold zset2 at hj
  by_cases e1 : j = i
  · rw [if_pos e1] at hj
    cases hj
    rw [e1]
    exact h.2.2 (i, zv ad v) List.mem_cons_self
  · rw [if_neg e1] at hj
    by_cases e3 : j = i + 1
    · rw [if_pos e3] at hj
      cases hj
    rw [if_neg e3] at hj
    have key : L j = some w ∧ (j + 1 = i → ¬ w.category = 2) := by
      by_cases e2 : j + 1 = i
      · rw [if_pos e2] at hj
        exact ⟨(zno2_some hj).1, fun _ => (zno2_some hj).2⟩
      · rw [if_neg e2] at hj
        exact ⟨hj, fun q => absurd q e2⟩
    refine h.2.2 (j, zv ad w) (List.mem_cons_of_mem _ (List.mem_filter.mpr ⟨zlist_mem.mpr ⟨h0.lt key.1, w, key.1, rfl⟩, ?_⟩))
    by_cases e2 : j + 1 = i
    · have := key.2 e2
      simp [e1, e2, e3, zv_cat, this]
    · simp [e1, e2, e3]
theorem zdel_has {ad : Nat → Nat} {L : zLo} {nL i : Nat} {x : Value} {ls ls' : Array Slot} (h0 : zL ad L nL ls)
    (h : lv_has ls' nL ((i, x) :: (zlist ad L nL).filter (fun q => !(q.1 == i) && !(q.1 + 1 == i && q.2.category == 2)))) : zL ad (zdel L i) nL ls' := by
  refine ⟨h.1, h.2.1, fun j w hj => ?_⟩
  unfold zdel at hj
  by_cases e1 : j = i
  · rw [if_pos e1] at hj
    cases hj
  · rw [if_neg e1] at hj
    have key : L j = some w ∧ (j + 1 = i → ¬ w.category = 2) := by
      by_cases e2 : j + 1 = i
      · rw [if_pos e2] at hj
        exact ⟨(zno2_some hj).1, fun _ => (zno2_some hj).2⟩
      · rw [if_neg e2] at hj
        exact ⟨hj, fun q => absurd q e2⟩
    refine h.2.2 (j, zv ad w) (List.mem_cons_of_mem _ (List.mem_filter.mpr ⟨zlist_mem.mpr ⟨h0.lt key.1, w, key.1, rfl⟩, ?_⟩))
    by_cases e2 : j + 1 = i
    · have := key.2 e2
      simp [e1, e2, zv_cat, this]
    · simp [e1, e2]
/-- a method: the owner's name, its bytes, its locals, what it answers, its table of handlers; how deep calls below it go; how many exceptions it may make; the cells and slots that were there -/
abbrev zM : Type := String × ByteArray × Nat × Option FieldType × List (Nat × Nat × Nat × Nat) × Nat × Nat × Nat × Nat
abbrev zown (M : zM) : String := M.1
abbrev zcc (M : zM) : ByteArray := M.2.1
abbrev znL (M : zM) : Nat := M.2.2.1
abbrev zret (M : zM) : Option FieldType := M.2.2.2.1
abbrev zhh (M : zM) : List (Nat × Nat × Nat × Nat) := M.2.2.2.2.1
abbrev zdep (M : zM) : Nat := M.2.2.2.2.2.1
abbrev zcap (M : zM) : Nat := M.2.2.2.2.2.2.1
abbrev zb1 (M : zM) : Nat := M.2.2.2.2.2.2.2.1
abbrev zb2 (M : zM) : Nat := M.2.2.2.2.2.2.2.2
/-- how a method ends: it answers, or throws an object of a class; with so many exceptions made, and these numbers -/
abbrev zQ : Type := Option Value ⊕ String → Nat → zD → Prop
def zfix (j : Nat) : Value := .int (([1, 2, -1, 3, -3, 1, 4, -6, 4, -1] : List Int32).getD j 0)
abbrev zIAE : String := "java/lang/IllegalArgumentException"
abbrev zISE : String := "java/lang/IllegalStateException"
