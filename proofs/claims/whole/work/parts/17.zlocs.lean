/-! ===== locals as a list, for stretches that are laid by program ===== -/
def zl : List (Nat × Value) → zLo
  | [], _ => none
  | q :: r, i => if q.1 = i then some q.2 else zl r i
def zlall (L : zLo) : List (Nat × Value) → Prop
  | [] => True
  | q :: r => L q.1 = some q.2 ∧ zlall L r
theorem zlall_get {L : zLo} : ∀ {l : List (Nat × Value)}, zlall L l → ∀ {i : Nat} {v : Value}, zl l i = some v → L i = some v
  | [], _, _, _, h => by cases h
  | q :: r, ha, i, v, h => by
    unfold zl at h
    split at h
    next e => cases h; subst e; exact ha.1
    next => exact zlall_get ha.2 h
section ZLOCS
variable {M : zM} {k pc : Nat} {L : zLo} {st : List Value} {D : zD} {Q : zQ}
/-- at a place with these locals known, and perhaps more -/
theorem z_at (l : List (Nat × Value)) (h : zlall L l) (kk : Z M k pc (zl l) st D Q) : Z M k pc L st D Q := z_loc kk (fun _ _ hv => zlall_get h hv)
theorem z_gfI {a ci f t idx : Nat} (hx : zfx (zown M) idx = some (ci, f, t)) (hc : zfc a ci f = some 0) (hd : decode (zcc M) pc = .ok (.getfield idx, 3)) (kk : Z M k (pc + 3) L (.int (D.1 a f) :: st) D Q) : Z M k pc L (.ref a :: st) D Q := by
  obtain ⟨fl, h1, h2⟩ := zfc_ok hc
  exact z_getI (zfx_ok hx).1 h1 h2 hd kk
theorem z_gfL {a ci f t idx : Nat} (hx : zfx (zown M) idx = some (ci, f, t)) (hc : zfc a ci f = some 1) (hd : decode (zcc M) pc = .ok (.getfield idx, 3)) (kk : Z M k (pc + 3) L (.long (D.2 a f) :: st) D Q) : Z M k pc L (.ref a :: st) D Q := by
  obtain ⟨fl, h1, h2⟩ := zfc_ok hc
  exact z_getL (zfx_ok hx).1 h1 h2 hd kk
theorem z_gfA {a ci f t idx r : Nat} (hx : zfx (zown M) idx = some (ci, f, t)) (hc : zfc a ci f = some (r + 2)) (hd : decode (zcc M) pc = .ok (.getfield idx, 3)) (kk : Z M k (pc + 3) L (.ref r :: st) D Q) : Z M k pc L (.ref a :: st) D Q := by
  obtain ⟨fl, h1, h2⟩ := zfc_ok hc
  exact z_getA (zfx_ok hx).1 h1 h2 hd kk
theorem z_pfI {a ci f idx : Nat} {x : Int32} (hx : zfx (zown M) idx = some (ci, f, 0)) (hc : zfc a ci f = some 0) (hd : decode (zcc M) pc = .ok (.putfield idx, 3)) (kk : Z M k (pc + 3) L st (zuI D a f x) Q) : Z M k pc L (.int x :: .ref a :: st) D Q := by
  obtain ⟨fl, h1, h2⟩ := zfc_ok hc
  exact z_putI ((zfx_ok hx).2.1 rfl) h1 h2 hd kk
theorem z_pfL {a ci f idx : Nat} {x : Int64} (hx : zfx (zown M) idx = some (ci, f, 1)) (hc : zfc a ci f = some 1) (hd : decode (zcc M) pc = .ok (.putfield idx, 3)) (kk : Z M k (pc + 3) L st (zuL D a f x) Q) : Z M k pc L (.long x :: .ref a :: st) D Q := by
  obtain ⟨fl, h1, h2⟩ := zfc_ok hc
  exact z_putL ((zfx_ok hx).2.2 rfl) h1 h2 hd kk
theorem z_ldcI {i : Nat} {v : Int32} (hd : decode (zcc M) pc = .ok (.ldc i, 2)) (hc : zcix (zown M) i = some v) (kk : Z M k (pc + 2) L (.int v :: st) D Q) : Z M k pc L st D Q := z_ldc hd (zcix_ok hc) kk
theorem z_ldcL {i : Nat} {v : Int64} (hd : decode (zcc M) pc = .ok (.ldc2_w i, 3)) (hc : zclx (zown M) i = some v) (kk : Z M k (pc + 3) L (.long v :: st) D Q) : Z M k pc L st D Q := z_ldc2 hd (zclx_ok hc) kk
theorem z_aI {a n : Nat} {i : Int32} (hs : zac a = some (0, n)) (hd : decode (zcc M) pc = .ok (.iaload, 1)) (hin : vp_in i n) (kk : Z M k (pc + 1) L (.int (D.1 a i.toNatClampNeg) :: st) D Q) : Z M k pc L (.int i :: .ref a :: st) D Q := by
  obtain ⟨r, h⟩ := zac_ok hs
  exact z_iald h hd hin kk
theorem z_aB {a n : Nat} {i : Int32} (hs : zac a = some (2, n)) (hd : decode (zcc M) pc = .ok (.baload, 1)) (hin : vp_in i n) (kk : Z M k (pc + 1) L (.int (D.1 a i.toNatClampNeg) :: st) D Q) : Z M k pc L (.int i :: .ref a :: st) D Q := by
  obtain ⟨r, h⟩ := zac_ok hs
  exact z_bald h hd hin kk
theorem z_aJ {a n : Nat} {i : Int32} (hs : zac a = some (1, n)) (hd : decode (zcc M) pc = .ok (.laload, 1)) (hin : vp_in i n) (kk : Z M k (pc + 1) L (.long (D.2 a i.toNatClampNeg) :: st) D Q) : Z M k pc L (.int i :: .ref a :: st) D Q := by
  obtain ⟨r, h⟩ := zac_ok hs
  exact z_lald h hd hin kk
theorem z_sI {a n : Nat} {i x : Int32} (hs : zac a = some (0, n)) (hd : decode (zcc M) pc = .ok (.iastore, 1)) (hin : vp_in i n) (kk : Z M k (pc + 1) L st (zuI D a i.toNatClampNeg x) Q) : Z M k pc L (.int x :: .int i :: .ref a :: st) D Q := by
  obtain ⟨r, h⟩ := zac_ok hs
  exact z_iast h hd hin kk
theorem z_sB {a n : Nat} {i x : Int32} (hs : zac a = some (2, n)) (hd : decode (zcc M) pc = .ok (.bastore, 1)) (hin : vp_in i n) (kk : Z M k (pc + 1) L st (zuI D a i.toNatClampNeg x.toInt8.toInt32) Q) : Z M k pc L (.int x :: .int i :: .ref a :: st) D Q := by
  obtain ⟨r, h⟩ := zac_ok hs
  exact z_bast h hd hin kk
theorem z_sJ {a n : Nat} {i : Int32} {x : Int64} (hs : zac a = some (1, n)) (hd : decode (zcc M) pc = .ok (.lastore, 1)) (hin : vp_in i n) (kk : Z M k (pc + 1) L st (zuL D a i.toNatClampNeg x) Q) : Z M k pc L (.long x :: .int i :: .ref a :: st) D Q := by
  obtain ⟨r, h⟩ := zac_ok hs
  exact z_last h hd hin kk
/-- a computed number gets a name -/
theorem z_nI {x : Int32} (kk : ∀ y : Int32, y = x → Z M k pc L (.int y :: st) D Q) : Z M k pc L (.int x :: st) D Q := kk x rfl
theorem z_nJ {x : Int64} (kk : ∀ y : Int64, y = x → Z M k pc L (.long y :: st) D Q) : Z M k pc L (.long x :: st) D Q := kk x rfl
/-- .. or another form -/
theorem z_eI {x : Int32} (y : Int32) (h : x = y) (kk : Z M k pc L (.int y :: st) D Q) : Z M k pc L (.int x :: st) D Q := h ▸ kk
theorem z_eJ {x : Int64} (y : Int64) (h : x = y) (kk : Z M k pc L (.long y :: st) D Q) : Z M k pc L (.long x :: st) D Q := h ▸ kk
end ZLOCS
