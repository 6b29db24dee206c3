/-! ===== new int[8][256]: an outer array, then eight rows, each put in its place as it is made ===== -/
def mqO (c : ClassId) (h i : Nat) : Cell := arrV c 8 (fun j => va_rf (if j < i then some (h + 1 + j) else none))
def mqI (ci : ClassId) : Cell := arrV ci 256 (fun _ => .int 0)
def mqF (s : State) (c ci : ClassId) : Nat → State
  | 0 => s.pushCell (mqO c s.heap.size 0)
  | i + 1 => ((mqF s c ci i).pushCell (mqI ci)).setCell s.heap.size (mqO c s.heap.size (i + 1))
theorem mqO_next (c : ClassId) (h i : Nat) : (mqO c h i).setSlot i (.ref (h + 1 + i)) = mqO c h (i + 1) := by
  unfold mqO
  rw [arrV_store]
  refine congrArg (arrV c 8) (funext fun j => ?_)
  unfold updV
  by_cases e : j = i
  · subst e
    rw [if_pos rfl, if_pos (Nat.lt_succ_self j)]
    rfl
  · rw [if_neg e]
    show va_rf (if j < i then some (h + 1 + j) else none) = va_rf (if j < i + 1 then some (h + 1 + j) else none)
    by_cases h9 : j < i
    · rw [if_pos h9, if_pos (Nat.lt_succ_of_lt h9)]
    · rw [if_neg h9, if_neg (by omega)]
theorem mqO_size (c : ClassId) (h i : Nat) : (mqO c h i).slots.size = 8 := arrV_size _ _ _
theorem mqI_size (c : ClassId) : (mqI c).slots.size = 256 := arrV_size _ _ _
theorem mqF_is (s : State) (c ci : ClassId) : ∀ i, (mqF s c ci i).heap.size = s.heap.size + 1 + i ∧ (mqF s c ci i).heap[s.heap.size]? = some (mqO c s.heap.size i) ∧ (mqF s c ci i).vm = s.vm ∧ (mqF s c ci i).slotsUsed = s.slotsUsed + 8 + i * 256
  | 0 => ⟨by simp [mqF], by simp [mqF], rfl, by
      show s.slotsUsed + (mqO c s.heap.size 0).slots.size = _
      rw [mqO_size]⟩
  | i + 1 => by
    obtain ⟨h1, h2, h3, h4⟩ := mqF_is s c ci i
    have hl : s.heap.size < (mqF s c ci i).heap.size := by omega
    have h2' : ((mqF s c ci i).pushCell (mqI ci)).heap[s.heap.size]? = some (mqO c s.heap.size i) := by rw [State.heap_pushCell_of_lt (h := hl)]; exact h2
    refine ⟨?_, State.heap_setCell_self h2', by simp [mqF, h3], ?_⟩
    · simp [mqF, State.setCell, h1]; omega
    · show (mqF s c ci i).slotsUsed + (mqI ci).slots.size = _
      rw [mqI_size, h4]
      omega
theorem mqF_top (s : State) (f : JFrame) (c ci : ClassId) : ∀ i, mqF (s.setTop f) c ci i = (mqF s c ci i).setTop f
  | 0 => rfl
  | i + 1 => by simp only [mqF, mqF_top s f c ci i, State.heap_setTop, State.pushCell_setTop, State.setCell_setTop]
theorem mqF_old (s : State) (c ci : ClassId) {a : Nat} (ha : a < s.heap.size) : ∀ i, (mqF s c ci i).heap[a]? = s.heap[a]?
  | 0 => State.heap_pushCell_of_lt _ _ ha
  | i + 1 => by
    have h1 := (mqF_is s c ci i).1
    have hl : a < (mqF s c ci i).heap.size := by omega
    show (((mqF s c ci i).pushCell (mqI ci)).setCell s.heap.size _).heap[a]? = _
    rw [State.heap_setCell_other (Nat.ne_of_gt ha), State.heap_pushCell_of_lt (h := hl)]
    exact mqF_old s c ci ha i
theorem mqF_row (s : State) (c ci : ClassId) : ∀ i j, j < i → (mqF s c ci i).heap[s.heap.size + 1 + j]? = some (mqI ci)
  | 0, _, h => absurd h (Nat.not_lt_zero _)
  | i + 1, j, h => by
    have h1 := (mqF_is s c ci i).1
    show (((mqF s c ci i).pushCell (mqI ci)).setCell s.heap.size _).heap[s.heap.size + 1 + j]? = _
    rw [State.heap_setCell_other (show s.heap.size ≠ s.heap.size + 1 + j by omega)]
    by_cases hj : j < i
    · have hl : s.heap.size + 1 + j < (mqF s c ci i).heap.size := by omega
      rw [State.heap_pushCell_of_lt (h := hl)]
      exact mqF_row s c ci i j hj
    · have e : j = i := by omega
      subst e
      rw [← h1]
      exact State.heap_pushCell_size _ _
section MQ1
variable {E : CtlPost} {e : Env} {d : Bool} {acts : List Action} {s : State}
/-- one array of defaults -/
theorem mq_new {c comp : ClassId} {k : Class} {type : FieldType} {len : Nat} {v : Value} (hk : s.vm.classes[c]? = some k) (hkind : k.kind = .array comp type)
    (h1 : ¬ len > e.platform.arrayLengthLimit) (h2 : ¬ len * componentBytes type > e.platform.maxHeapBytes) (hfit : fits type v = true) (hdef : v.isDefault = true)
    (h3 : s.heap.size < e.platform.maxCells) (h4 : s.slotsUsed + len ≤ e.platform.maxSlots) {Q : Addr → Pre} (hq : Q s.heap.size d acts (s.pushCell (arrV c len (fun _ => v)))) : Jvm.Sem.wp (Jvm.newArray c len v) Q E e d acts s := by
  have f1 : ∀ i x, (Array.replicate len v)[i]? = some x → s.fitsSlot c .none i x = true := fun i x hx => by
    rw [Array.getElem?_replicate] at hx
    split at hx
    · cases hx; simp [State.fitsSlot, State.slotType?, hk, hkind, hfit]
    · cases hx
  have f2 : allocActs (Array.replicate len v) s.heap.size acts = acts := by
    have f3 : ((Array.replicate len v).all (·.isDefault)) = true := by
      rw [Array.all_replicate]; split <;> simp [hdef]
    unfold allocActs; rw [if_pos f3]
  rw [← arrV_new] at hq
  simp only [Jvm.newArray, Jvm.arrayFits, wp_bind', W.ask, W.ite, h1, if_false, wp_pure', W.theClass, hk, hkind, h2, W.alloc, W.stop, Option.some.injEq, exists_eq_left', Array.size_replicate, f2]
  rw [if_neg (by omega)]
  exact ⟨h3, h4, f1, hq⟩
theorem mq_make {c ci cc : ClassId} {k kc : Class} (hk : s.vm.classes[c]? = some k) (hkind : k.kind = .array ci (.array .int)) (hkc : s.vm.classes[ci]? = some kc) (hkindc : kc.kind = .array cc .int)
    (h1 : ¬ 256 > e.platform.arrayLengthLimit) (h2 : ¬ 1024 > e.platform.maxHeapBytes) (h3 : s.heap.size + 9 ≤ e.platform.maxCells) (h4 : s.slotsUsed + 2056 ≤ e.platform.maxSlots)
    {Q : Addr → Pre} (hq : ∀ d' acts', Q s.heap.size d' acts' (mqF s c ci 8)) : Jvm.Sem.wp (multianewarray.make c [8, 256]) Q E e d acts s := by
  have g1 : ¬ ((8 : Int32) < 0) := by decide
  have g2 : ¬ ((256 : Int32) < 0) := by decide
  have g3 : (8 : Int32).toNatClampNeg = 8 := by decide
  have g4 : (256 : Int32).toNatClampNeg = 256 := by decide
  have hfind : ([(256 : Int32)].find? (· < 0)) = none := by simp [g2]
  rw [multianewarray.make]
  simp only [wp_bind', W.ite, g1, if_false, wp_pure', W.theClass, hk, hkind, Option.some.injEq, exists_eq_left', g3]
  refine mq_new hk hkind (by omega) (by show ¬ 8 * 4 > _; omega) rfl rfl (by omega) (by omega) ?_
  simp only [hfind]
  rw [ite_self, wp_bind', Std.Legacy.Range.forIn_eq_forIn_range']
  have hsz : ([:8] : Std.Legacy.Range).size = 8 := by simp [Std.Legacy.Range.size]
  rw [hsz]
  show Jvm.Sem.wp (forIn (List.range' 0 8 1) PUnit.unit _) _ E e d acts _
  have e0 : s.pushCell (arrV c 8 (fun _ => .null)) = mqF s c ci 0 := by
    show _ = s.pushCell (mqO c s.heap.size 0)
    unfold mqO
    congr 2
  rw [e0]
  refine wp_forIn_inv (fun rest s' => ∃ i, i ≤ 8 ∧ rest = List.range' i (8 - i) ∧ s' = mqF s c ci i) _ _ ⟨0, Nat.zero_le _, rfl, rfl⟩ ?_ ?_
  · rintro x rest s' d' acts' Q' ⟨i, hi, hl, rfl⟩ hnext
    have hlt : i < 8 := by
      rcases Nat.lt_or_ge i 8 with h | h
      · exact h
      · rw [show 8 - i = 0 by omega] at hl; cases hl
    rw [show 8 - i = (8 - (i + 1)) + 1 by omega, List.range'_succ] at hl
    obtain ⟨rfl, hrest⟩ := List.cons.inj hl
    obtain ⟨f1, f2, f3, f4⟩ := mqF_is s c ci x
    simp only [wp_bind']
    rw [multianewarray.make]
    simp only [wp_bind', W.ite, g2, if_false, wp_pure', W.theClass, f3, hkc, hkindc, Option.some.injEq, exists_eq_left', g4]
    refine mq_new (by rw [f3]; exact hkc) hkindc (by omega) (by show ¬ 256 * 4 > _; omega) rfl rfl (by rw [f1]; omega) (by rw [f4]; omega) ?_
    have hl0 : s.heap.size < (mqF s c ci x).heap.size := by rw [f1]; omega
    simp only [wp_bind', W.writeLoc, wp_pure']
    refine ⟨mqO c s.heap.size x, by rw [State.heap_pushCell_of_lt (h := hl0)]; exact f2, (fun h => by cases h), by rw [mqO_size]; exact hlt, ?_, hnext _ _ _ ⟨x + 1, hlt, hrest, ?_⟩⟩
    · show State.fitsSlot _ c .none x _ = true
      simp [State.fitsSlot, State.slotType?, f3, hk, hkind, fits]
    · rw [f1, mqO_next]; rfl
  · rintro s' d' acts' ⟨i, hi, hl, rfl⟩
    have e8 : i = 8 := by
      rcases Nat.lt_or_ge i 8 with h | h
      · rw [show 8 - i = (8 - (i + 1)) + 1 by omega, List.range'_succ] at hl; cases hl
      · omega
    subst e8
    simp only [wp_pure']
    exact hq _ _
end MQ1
section MQ2
variable {p : Program} {l : Launch} {e : Env} {R : Room} {s : State} {m : MethodId} {args : Array Value} {below : List Frame} {meth : Method} {c : Code} {T : State} {locs : List Loc} {cells slots : Nat}
theorem mq_stand (X : Stand p l e R s m args below meth c T locs cells slots) (cA cI : ClassId) : ∀ i, Stand p l e R s m args below meth c (mqF T cA cI i) locs (cells + 1 + i) (slots + 8 + i * 256)
  | 0 => by
    have h := X.pushed (mqO cA T.heap.size 0)
    rw [mqO_size] at h
    simpa [mqF] using h
  | i + 1 => by
    have Xi := mq_stand X cA cI i
    obtain ⟨f1, f2, f3, f4⟩ := mqF_is T cA cI i
    have hl0 : T.heap.size < (mqF T cA cI i).heap.size := by rw [f1]; omega
    have hcell : ((mqF T cA cI i).pushCell (mqI cI)).heap[T.heap.size]? = some (mqO cA T.heap.size i) := by rw [State.heap_pushCell_of_lt (h := hl0)]; exact f2
    have h := (Xi.pushed (mqI cI)).stored hcell i (.ref (T.heap.size + 1 + i))
    rw [mqI_size, mqO_next] at h
    have h2 := h.dropFresh (fun x hx => by rw [List.mem_singleton.mp hx]; exact X.heapGrown)
    have e3 : slots + 8 + (i + 1) * 256 = slots + 8 + i * 256 + 256 := by omega
    rw [e3]
    exact h2
theorem mq_step (X : Stand p l e R s m args below meth c T locs cells slots) (hexec : p.tables.exec = Jvm.exec) {own : String} {index : Nat} {cA cI : ClassId} {kA kC : Class} {cc : ClassId} (hown : s.vm.findClass own = some m.cls)
    (hclink : (Cond.classLink own index "[[I").before args s = true) (hnA : s.vm.findClass "[[I" = some cA) (hkA : s.vm.classes[cA]? = some kA) (hkindA : kA.kind = .array cI (.array .int)) (hkC : s.vm.classes[cI]? = some kC) (hkindC : kC.kind = .array cc .int)
    {g : JFrame} (hg : g.method = m) (hdg : decode c.code g.pc = .ok (.multianewarray index 2, 4)) {rest : List Value} (hstack : g.stack = .int 256 :: .int 8 :: rest) (hcells : cells + 9 ≤ R.cells) (hslots : slots + 2056 ≤ R.slots) :
    ∃ vm₁ : Vm, Stand p l e R s m args below meth c (mqF (T.setVm vm₁) cA cI 8) locs (cells + 9) (slots + 2056) ∧
      ∀ target, Steps p.tables e below ((mqF (T.setVm vm₁) cA cI 8).setTop { g with pc := g.pc + 4, stack := .ref T.heap.size :: rest }) target → Steps p.tables e below (T.setTop g) target := by
  subst hg
  have hpl : e.platform.magicAccessors = ({} : Platform).magicAccessors := by rw [X.admits.platform]
  obtain ⟨c0, hfc0, hcl⟩ := Cond.classLink_spec hown hclink e.platform hpl
  cases hnA.symm.trans hfc0
  obtain ⟨hg₁, hwarm₁, -⟩ := State.classEntry (e := e) X.warmed hcl
  generalize T.vm.noted g.method.cls index (.cls cA) = vm₁ at hg₁ hwarm₁
  obtain ⟨kA₁, hkA₁, heA⟩ := hwarm₁.alike.2.2 _ _ hkA
  obtain ⟨kC₁, hkC₁, heC⟩ := hwarm₁.alike.2.2 _ _ hkC
  have X₁ := X.noted hwarm₁
  obtain ⟨hr1, hr2⟩ := X.roomAbove hcells hslots
  have XF := mq_stand X₁ cA cI 8
  refine ⟨vm₁, XF, fun target hrest => ?_⟩
  have h1 : ¬ 256 > e.platform.arrayLengthLimit := by rw [Launch.admits_arrayLengthLimit X.admits]; omega
  have h2 : ¬ 1024 > e.platform.maxHeapBytes := by rw [Launch.admits_maxHeapBytes X.admits]; omega
  jvm_step X.here [hexec, hdg]
  simp only [multianewarray.sem, wp_bind', W.resolveClassAt_links (State.method?_setTop g X.here.top) hg₁]
  rw [W.popN, if_neg (by decide)]
  refine ⟨g, State.topJava?_setTop' (s := T.setVm vm₁) g X.here.top, [.int 8, .int 256], rest, rfl, hstack, ?_⟩
  simp only [List.mapM_cons, List.mapM_nil, wp_bind', wp_pure']
  refine mq_make (k := kA₁) (kc := kC₁) (ci := cI) (cc := cc) hkA₁ (by rw [heA]; exact hkindA) hkC₁ (by rw [heC]; exact hkindC) h1 h2 (by show T.heap.size + 9 ≤ _; omega) (by show T.slotsUsed + 2056 ≤ _; omega) (fun d' acts' => ?_)
  have eS : ((T.setTop g).setVm vm₁).setTop { g with stack := rest } = (T.setVm vm₁).setTop { g with stack := rest } := by
    show ((T.setVm vm₁).setTop g).setTop _ = _
    rw [State.setTop_setTop]
  rw [eS, mqF_top]
  simp only [wp_bind', W.mark, W.pushRef, State.topJava?_setTop' _ XF.here.top, Option.some.injEq, exists_eq_left', State.setTop_setTop, State.heap_setTop]
  intro acts
  simp [jvm, XF.here.top]
  exact hrest
end MQ2
