/-! ===== constructors by contract: the cell o at h0 becomes the world F ===== -/
abbrev nPre (av : List Value) (o : va_E) (cA : Nat → ClassId) (G : va_G) (h0 sz : Nat) : Array Value → State → Prop :=
  va_Pc (.ref h0 :: av) (fun U => U.heap.size = sz ∧ va_P G zcl [(h0, o)] U.heap ∧ va_K G zcl (ztys cA) U ∧ va_D (fun _ => True) [(h0, o)] ∧ nAO cA U)
abbrev nPost (F : (Nat → ClassId) → (Nat → Nat) → va_W) (cA : Nat → ClassId) (G : va_G) (A : Nat → Prop) (h0 : Nat) : Array Value → State → Outcome → State → Prop :=
  va_Qv (fun a : Nat → Nat => a 0 = h0) (fun a t => va_P G zcl (F cA a) t.heap ∧ va_D A (F cA a)) A
def NM (y : MethodName) (I : zI) (rm : Room) (av : List Value) (o : va_E) (F : (Nat → ClassId) → (Nat → Nat) → va_W) : Prop :=
  ∀ (l : Launch) (cA : Nat → ClassId) (G : va_G) (h0 sz : Nat), Met l y (Cond.code y I.2.1 I.2.2.1 none :: zT) rm (nPre av o cA G h0 sz) (nPost F cA G (va_A [(h0, o)] sz) h0) rm.cells rm.slots (va_A [(h0, o)] sz)
theorem n_method {y : MethodName} {I : zI} {rm : Room} {av : List Value} {o : va_E} {F : (Nat → ClassId) → (Nat → Nat) → va_W} (hy : plainName y.cls = true) (ho : y.cls = I.1) (hi : y.name = "<init>") (hn : ∀ h0 : Nat, (lg_sl (.ref h0 :: av)).length ≤ I.2.2.1)
    (h : ∀ (p : Program) (l : Launch) (e : Env) (s : State) (m : MethodId) (args : Array Value) (below : List Frame) (meth : Method) (c : Code) (cA : Nat → ClassId) (G : va_G) (A : Nat → Prop) (h0 : Nat), Nc p rm s m args meth c cA G A I → meth.name = "<init>" → meth.sig.returnType = none → meth.locks = false →
      N p l e rm s m args below meth c G A (MQ below (nPost F cA G A h0) args s rm.cells rm.slots A) I 0 0 0 (lv_args 0 (.ref h0 :: av)) [] [(h0, o)]) : NM y I rm av o F := by
  intro l cA G h0 sz
  refine Met.ofW (cc := I.2.1) (maxL := I.2.2.1) (ret := none) hy rfl ?_
  intro p e s m args below meth c s₁ B hml hv
  obtain ⟨rfl, hsz, hP, hK, hD0, hAO⟩ := hv
  have hts := atoms_spec (ws := Cond.code y I.2.1 I.2.2.1 none :: zT) B.pre
  have hown : s.vm.findClass I.1 = some m.cls := by rw [← ho]; exact findClass_of_methodNamed B.named
  have hin : meth.name = "<init>" := by rw [← hi]; exact (name_of_methodNamed B.named B.method).1
  subst hsz
  have hD := hD0.self (sz := s.heap.size)
  have hl := lv_entry (.ref h0 :: av) (n := I.2.2.1) (hn h0)
  rw [lg_entry_eq]
  exact h p l e s m _ below meth c cA G (va_A [(h0, o)] s.heap.size) h0 ⟨B.exec, B.bytes, hml, hown, fun w hw => hts w (List.mem_cons_of_mem _ hw), hK, fun q hq => Or.inr hq, hAO⟩ hin B.returns B.notSynchronized s.heap [] _ hP hD va_S.rf hl
theorem nd_range' : ∀ (n a : Nat), va_nd (List.range' a n) = true
  | 0, _ => rfl
  | n + 1, a => by
    rw [List.range'_succ]
    show (decide (a ∉ List.range' (a + 1) n) && va_nd (List.range' (a + 1) n)) = true
    rw [nd_range' n (a + 1), Bool.and_true, decide_eq_true_eq]
    intro h
    have := (List.mem_range'_1.mp h).1
    omega
theorem nd_range (n : Nat) : va_nd (List.range n) = true := by
  rw [List.range_eq_range']
  exact nd_range' n 0
section NK
variable {p : Program} {l : Launch} {e : Env} {R : Room} {s : State} {m : MethodId} {args : Array Value} {below : List Frame} {meth : Method} {c : Code} {cA : Nat → ClassId} {G : va_G} {A : Nat → Prop} {Q : State → Prop} {M : zI} {k n pc : Nat} {lv : List (Nat × Value)} {st : List Value} {ws : va_W}
theorem n_ret (C : Nc p R s m args meth c cA G A M) (hr : meth.sig.returnType = none) (hlk : meth.locks = false) {F : (Nat → ClassId) → (Nat → Nat) → va_W} {h0 : Nat} (a : Nat → Nat) (hd : decode M.2.1 pc = .ok (.return_, 1)) (ha : a 0 = h0) (hw : ws = F cA a) (hk : k ≤ R.cells) (hn : n ≤ R.slots) :
    N p l e R s m args below meth c G A (MQ below (nPost F cA G A h0) args s R.cells R.slots A) M k n pc lv [] ws := by
  intro H locs ls hP hD hS hl
  subst hw
  refine W.widen hk hn ?_
  exact W.vret C.1 C.2.1 hr (fun t ht hW => ⟨⟨a, rfl, ha, by rw [ht]; exact hP, hD⟩, hS.F ht⟩) hS.2.2 hd hlk
/-- the words of a constructor's call -/
def nchk (is : List Nat) (own : String) (idx : Nat) (y : MethodName) (I : zI) (n : Nat) : Bool :=
  lwi (is.getD 0 0) (Cond.code y I.2.1 I.2.2.1 none) && lwi (is.getD 1 0) (Cond.initialized y.cls) && lwi (is.getD 2 0) (Cond.methodLink own idx y) && lwi (is.getD 3 0) (Cond.instanceMethod y) && decide (y.name = "<init>") &&
  decide (y.cls ≠ "java/lang/invoke/MethodHandle" ∧ y.cls ≠ "java/lang/invoke/VarHandle" ∧ (parseMethodDescriptor y.desc).map (fun d => d.parameters.length) = some n)
theorem n_call (C : Nc p R s m args meth c cA G A M) {y : MethodName} {I : zI} {rm : Room} {av : List Value} {o : va_E} {F : (Nat → ClassId) → (Nat → Nat) → va_W} (hM : NM y I rm av o F) {i : Nat} (is : List Nat) (hchk : nchk is M.1 i y I av.length = true) (hd : decode M.2.1 pc = .ok (.invokespecial i, 3)) {b : Nat} {X : va_W} {st9 : List Value} (hst : st9 = av.reverse ++ .ref b :: st) (hw : ws = X ++ [(b, o)])
    (hcat : (st.map fun v => v.category).sum ≤ 8) (hR : rm.frames + 1 ≤ R.frames ∧ 8 + (I.2.2.1 + 11) + rm.locals ≤ R.locals) (hf : k + rm.cells ≤ R.cells ∧ n + rm.slots ≤ R.slots)
    (h : ∀ a : Nat → Nat, a 0 = b → N p l e R s m args below meth c G A Q M (k + rm.cells) (n + rm.slots) (pc + 3) lv st (X ++ F cA a)) : N p l e R s m args below meth c G A Q M k n pc lv st9 ws := by
  intro H locs ls hP hD hS hl
  subst hw
  subst hst
  obtain ⟨hx, hb, hml, hown, hts, hK, hA, hAO⟩ := C
  unfold nchk at hchk
  simp only [Bool.and_eq_true, decide_eq_true_eq] at hchk
  obtain ⟨⟨⟨⟨⟨w1, w2⟩, w3⟩, w4⟩, hy1⟩, hy2⟩ := hchk
  have hC : [X.length].map (fun i => (X ++ [(b, o)])[i]?) = [(b, o)].map some := by simp
  have hRr : (List.range X.length).map (fun i => (X ++ [(b, o)])[i]?) = X.map some := by
    apply List.ext_getElem?
    intro j
    rw [List.getElem?_map, List.getElem?_map]
    by_cases hj : j < X.length
    · rw [List.getElem?_range hj]
      show some ((X ++ [(b, o)])[j]?) = _
      rw [List.getElem?_append_left hj, List.getElem?_eq_getElem hj]
      rfl
    · rw [List.getElem?_eq_none (by rw [List.length_range]; omega), List.getElem?_eq_none (by omega)]
      rfl
  have hPc : va_P G zcl [(b, o)] H := fun j q hq => by
    have h0 : j < 1 := (List.getElem?_eq_some_iff.mp hq).1
    rw [show j = 0 by omega] at hq
    cases hq
    exact hP X.length _ (by simp)
  have hDc : va_D (fun _ => True) [(b, o)] := ⟨fun i j x y hx hy _ => by
    have h0 : i < 1 := (List.getElem?_eq_some_iff.mp hx).1
    have h1 : j < 1 := (List.getElem?_eq_some_iff.mp hy).1
    omega, fun _ _ _ => trivial⟩
  have hFc := va_free (wc := [(b, o)]) hD hS hA [X.length] hC
  have hG : GoodIn zT (Cond.code y I.2.1 I.2.2.1 none :: zT) := fun w hw => by
    rcases List.mem_cons.mp hw with rfl | hw
    · exact ⟨zT_of (lwi_mem w1) rfl, good_of_word rfl⟩
    · exact ⟨hw, good_of_word (List.mem_filter.mp hw).2⟩
  refine va_callv (va_runI (As := av) (rest := st) ⟨hx, hb, hml, hown, hts⟩ (hM l cA G b H.size) (cwI av.length hts hG rfl rfl rfl (hts _ (zT_of (lwi_mem w2) rfl)) (hts _ (zT_of (lwi_mem w3) rfl)) (hts _ (zT_of (lwi_mem w4) rfl)) hy1 hy2 hR) ⟨fun a U g mk q => by obtain ⟨q0, q1, qP, qK, qD, qA⟩ := q; exact ⟨q0, q1, qP, va_K.moved (u := U) (U := U.calling g mk a) (Vm.Alike.refl U.vm) qK, qD, qA.moved (u := U) (U := U.calling g mk a) (Vm.Alike.refl U.vm)⟩, fun U hU hW => ⟨rfl, by rw [hU], by rw [hU]; exact hPc, va_K.moved hW.alike hK, hDc, hAO.moved hW.alike⟩⟩ rfl rfl hl.1 rfl (lv_room hcat) hd hf) hS (fun q _ h => hFc q h) hFc (fun u t H1 locs ht hvm hw hB hz1 hk1 hS => ?_)
  obtain ⟨hP1, hD1⟩ := hB
  rw [ht] at hP1
  obtain ⟨hP2, hD2⟩ := va_join (wr := X) (w1 := F cA u) hP hD [X.length] (List.range X.length) hC hRr (nd_range _) (fun i hi hi2 => by
      rw [List.mem_singleton.mp hi2] at hi
      exact absurd (List.mem_range.mp hi) (Nat.lt_irrefl _)) hk1 hFc hP1 hD1
  exact h u hw H1 locs ls hP2 hD2 hS hl
end NK
