/-! ===== the judgement, its context, its end ===== -/
/-- the nest links that calls of the outer class's own static methods go by, and what the constructors of exceptions declare -/
def znk : Cond → Bool
  | .methodLinkNest .. => true
  | .declares _ => true
  | _ => false
def znest : List Cond := lw_tbl.filter znk
/-- what else holds of the machine: the two statics that an exception's constructor reads, the classes of exceptions, the nest links, the static row of fixed coefficients -/
def zO (A : Nat → Prop) (ad : Nat → Nat) (s : State) (H : Heap) : Prop :=
  vx_Zq Bundle.tN "UNASSIGNED_STACK" Bundle.steD A s H ∧ vx_Zq Bundle.tN "SUPPRESSED_SENTINEL" Bundle.listD A s H ∧
  va_Nw (.castable zIAE zIAE) s ∧ va_Nw (.castable zISE zISE) s ∧ va_Nc zISE zIAE s ∧ (∀ w ∈ znest, va_Nw w s) ∧
  va_Z RX3 "FIXED_COEFFICIENTS" "[I" (.ref (ad 66)) A s H ∧ va_T .int (ad 66) 10 zfix A s H
theorem znk_is {w : Cond} (h : znk w = true) : (∃ a i x b, w = .methodLinkNest a i x b) ∨ ∃ x, w = .declares x := by
  cases w <;> first | (cases h; done) | exact Or.inl ⟨_, _, _, _, rfl⟩ | exact Or.inr ⟨_, rfl⟩
theorem znk_tab {w : Cond} (h : znk w = true) : w.onTables = true := by
  rcases znk_is h with ⟨a, i, x, b, rfl⟩ | ⟨x, rfl⟩ <;> rfl
theorem zO.warm {A : Nat → Prop} {ad : Nat → Nat} {s U : State} {H : Heap} (h : zO A ad s H) (hW : s.WarmedH U.vm) : zO A ad U H := by
  obtain ⟨h1, h2, h3, h4, h5, h6, h7, h8⟩ := h
  refine ⟨h1.moved hW.alike, h2.moved hW.alike, va_Nw.warmC hW h3, va_Nw.warmC hW h4, h5.moved hW.alike, fun w hw => ?_, h7.moved hW.alike, h8.moved hW.alike⟩
  have h9 := h6 w hw
  rcases znk_is (List.mem_filter.mp hw).2 with ⟨a, i, x, b, rfl⟩ | ⟨x, rfl⟩
  · exact va_Nw.warmM hW h9
  · exact va_Nw.warmD hW h9
theorem zO.same {A : Nat → Prop} {ad : Nat → Nat} {s U : State} {H : Heap} (h : zO A ad s H) (hv : s.vm = U.vm) : zO A ad U H := by
  obtain ⟨h1, h2, h3, h4, h5, h6, h7, h8⟩ := h
  have hal : s.vm.Alike U.vm := by rw [hv]; exact Vm.Alike.refl _
  refine ⟨h1.moved hal, h2.moved hal, va_Nw.same rfl hv h3, va_Nw.same rfl hv h4, h5.moved hal, fun w hw => ?_, h7.moved hal, h8.moved hal⟩
  exact va_Nw.same (znk_tab (List.mem_filter.mp hw).2) hv (h6 w hw)
theorem zO.kept {A : Nat → Prop} {ad : Nat → Nat} {s : State} {H H1 : Heap} (h : zO A ad s H) (hq : ∀ a : Nat, a < H.size → ¬ A a → H1[a]? = H[a]?) : zO A ad s H1 := by
  obtain ⟨h1, h2, h3, h4, h5, h6, h7, h8⟩ := h
  exact ⟨h1.kept hq, h2.kept hq, h3, h4, h5, h6, h7.kept hq, h8.kept hq⟩
theorem zO.narrow {A B : Nat → Prop} {ad : Nat → Nat} {s : State} {H : Heap} (h : zO A ad s H) (hAB : ∀ q, B q → A q) : zO B ad s H := by
  obtain ⟨h1, h2, h3, h4, h5, h6, h7, h8⟩ := h
  exact ⟨h1.narrow hAB, h2.narrow hAB, h3, h4, h5, h6, h7.narrow hAB, h8.narrow hAB⟩
def zG (l : Launch) (ad : Nat → Nat) (cA : Nat → ClassId) (G : va_G) (A : Nat → Prop) (args : Array Value) (s : State) : Prop :=
  (∀ w ∈ lw_tbl, goodWord w = true → w.before args s = true) ∧ l.stackTraces = false ∧ va_K G zcl (ztys cA) s ∧ zO A ad s s.heap ∧ (∀ q, s.heap.size ≤ q → A q)
def zC (p : Program) (l : Launch) (R : Room) (s : State) (m : MethodId) (args : Array Value) (meth : Method) (c : Code) (ad : Nat → Nat) (cA : Nat → ClassId) (G : va_G) (A : Nat → Prop) (M : zM) : Prop :=
  p.tables.exec = Jvm.exec ∧ c.code = zcc M ∧ meth.sig.returnType = zret M ∧ c.maxLocals = znL M ∧ c.exceptionTable.toList = tableOf (zhh M) ∧ meth.locks = false ∧ s.vm.findClass (zown M) = some m.cls ∧
  (zdep M + 8 ≤ R.frames ∧ 64 * zdep M + 150 ≤ R.locals ∧ zb1 M + zcap M ≤ R.cells ∧ zb2 M + 6 * zcap M ≤ R.slots) ∧ zG l ad cA G A args s
def zH (ad : Nat → Nat) (cA : Nat → ClassId) (G : va_G) (A : Nat → Prop) (s : State) (D : zD) (H : Heap) (locs : List Loc) : Prop :=
  va_P G zcl (zws ad cA D) H ∧ va_D A (zws ad cA D) ∧ va_S A s.heap H locs
def zOut (ad : Nat → Nat) (s t : State) (Q : zQ) (o : Outcome) (k : Nat) (D : zD) : Prop :=
  (∃ v : Option Value, o = .returned (v.map (zv ad)) ∧ Q (.inl v) k D) ∨
  (∃ (q : Addr) (E : String) (ce : Cell), o = .threw q ∧ t.heap[q]? = some ce ∧ ce.vm = .none ∧ s.vm.findClass E = some ce.cls ∧ Q (.inr E) k D)
def zPost (ad : Nat → Nat) (cA : Nat → ClassId) (G : va_G) (A : Nat → Prop) (b1 b2 : Nat) (Q : zQ) : Array Value → State → Outcome → State → Prop := fun _ s o t =>
  ∃ (k : Nat) (D : zD) (L : List Loc), zOut ad s t Q o k D ∧ va_P G zcl (zws ad cA D) t.heap ∧ va_D A (zws ad cA D) ∧ va_F A s t ∧ s.WarmedH t.vm ∧ s.sameButNew ({ t with vm := s.vm } : State) L (b1 + k) (b2 + 6 * k) ∧ ∀ z ∈ L, A z.base
def zEnd (below : List Frame) (args : Array Value) (s : State) (ad : Nat → Nat) (cA : Nat → ClassId) (G : va_G) (A : Nat → Prop) (M : zM) (Q : zQ) : State → Prop := fun t =>
  ∃ o, t.status = .running ∧ Ended t below o ∧ zPost ad cA G A (zb1 M) (zb2 M) Q args s o t
/-- from pc on, with these locals, this stack and these numbers, k exceptions made so far: the method ends, and Q -/
def Z (M : zM) (k pc : Nat) (L : zLo) (st : List Value) (D : zD) (Q : zQ) : Prop :=
  ∀ (p : Program) (l : Launch) (e : Env) (R : Room) (s : State) (m : MethodId) (args : Array Value) (below : List Frame) (meth : Method) (c : Code) (ad : Nat → Nat) (cA : Nat → ClassId) (G : va_G) (A : Nat → Prop) (H : Heap) (locs : List Loc) (ls : Array Slot),
    zC p l R s m args meth c ad cA G A M → zH ad cA G A s D H locs → zL ad L (znL M) ls →
    W p l e R s m args below meth c H locs (zb1 M + k) (zb2 M + 6 * k) (zEnd below args s ad cA G A M Q) (F0 m pc ls (st.map (zv ad)))
/-- .. and with an exception of class E over its frame -/
def ZX (M : zM) (k pc : Nat) (L : zLo) (E : String) (D : zD) (Q : zQ) : Prop :=
  ∀ (p : Program) (l : Launch) (e : Env) (R : Room) (s : State) (m : MethodId) (args : Array Value) (below : List Frame) (meth : Method) (c : Code) (ad : Nat → Nat) (cA : Nat → ClassId) (G : va_G) (A : Nat → Prop) (H : Heap) (locs : List Loc) (ls : Array Slot) (rest : List Value) (q : Addr) (ce : Cell),
    zC p l R s m args meth c ad cA G A M → zH ad cA G A s D H locs → zL ad L (znL M) ls → H[q]? = some ce → ce.vm = .none → s.vm.findClass E = some ce.cls →
    vx_W p l e R s m args below meth c H locs (zb1 M + k) (zb2 M + 6 * k) (zEnd below args s ad cA G A M Q) (F0 m pc ls rest) q
theorem W.mono {p : Program} {l : Launch} {e : Env} {R : Room} {s : State} {m : MethodId} {args : Array Value} {below : List Frame} {meth : Method} {c : Code} {H : Heap} {locs : List Loc} {cells slots : Nat} {Q Q' : State → Prop} {g : JFrame} (h : W p l e R s m args below meth c H locs cells slots Q g) (hq : ∀ t, Q t → Q' t) : W p l e R s m args below meth c H locs cells slots Q' g := fun T hT X => by
  obtain ⟨t, h1, h2⟩ := h T hT X
  exact ⟨t, h1, hq t h2⟩
theorem z_mono {M : zM} {k pc : Nat} {L : zLo} {st : List Value} {D : zD} {Q Q' : zQ} (h : Z M k pc L st D Q) (hq : ∀ o k D, Q o k D → Q' o k D) : Z M k pc L st D Q' := by
  intro p l e R s m args below meth c ad cA G A H locs ls C hH hl
  refine (h p l e R s m args below meth c ad cA G A H locs ls C hH hl).mono (fun t ht => ?_)
  obtain ⟨o, h1, h2, k', D', L', hO, hr⟩ := ht
  refine ⟨o, h1, h2, k', D', L', ?_, hr⟩
  rcases hO with ⟨v, a1, a2⟩ | ⟨q, E, ce, a1, a2, a3, a4, a5⟩
  · exact Or.inl ⟨v, a1, hq _ _ _ a2⟩
  · exact Or.inr ⟨q, E, ce, a1, a2, a3, a4, hq _ _ _ a5⟩
/-- fewer locals known -/
theorem z_loc {M : zM} {k pc : Nat} {L L' : zLo} {st : List Value} {D : zD} {Q : zQ} (h : Z M k pc L' st D Q) (hL : ∀ i v, L' i = some v → L i = some v) : Z M k pc L st D Q := by
  intro p l e R s m args below meth c ad cA G A H locs ls C hH hl
  exact h p l e R s m args below meth c ad cA G A H locs ls C hH ⟨hl.1, hl.2.1, fun i v hv => hl.2.2 i v (hL i v hv)⟩
