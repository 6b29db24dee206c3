/-! ===== methods by contract, calls, throws ===== -/
/-- a method's own: owner, bytes, locals, answer, handlers -/
abbrev zI : Type := String × ByteArray × Nat × Option FieldType × List (Nat × Nat × Nat × Nat)
abbrev zmk (I : zI) (d : Nat) : zM := (I.1, I.2.1, I.2.2.1, I.2.2.2.1, I.2.2.2.2, d, 2, 0, 0)
def zcw (y : MethodName) (I : zI) : Cond := match I.2.2.2.2 with
  | [] => .code y I.2.1 I.2.2.1 I.2.2.2.1
  | hh => .codeWith y I.2.1 I.2.2.1 I.2.2.2.1 hh
def zroom (d : Nat) : Room := { frames := d + 8, cells := 2, slots := 12, locals := 64 * d + 150 }
def zA (ad : Nat → Nat) (sz : Nat) : Nat → Prop := fun q => (∃ k, k < 66 ∧ q = ad k) ∨ sz ≤ q
theorem zSH_len : zSH.length = 66 := by decide +kernel
def zPre (l : Launch) (ad : Nat → Nat) (cA : Nat → ClassId) (G : va_G) (sz : Nat) (av : List Value) (D : zD) : Array Value → State → Prop := fun v U =>
  v = (av.map (zv ad)).toArray ∧ U.heap.size = sz ∧ l.stackTraces = false ∧ va_K G zcl (ztys cA) U ∧ zO (zA ad sz) ad U U.heap ∧ va_P G zcl (zws ad cA D) U.heap ∧ va_D (zA ad sz) (zws ad cA D)
/-- the method y, called with these values and numbers, ends, and Q -/
def ZM (y : MethodName) (I : zI) (d : Nat) (av : List Value) (D : zD) (Q : zQ) : Prop :=
  ∀ (l : Launch) (ad : Nat → Nat) (cA : Nat → ClassId) (G : va_G) (sz : Nat), MetFree l y (headSpec (zcw y I :: zT) (zroom d)) (zPre l ad cA G sz av D) (fun _ _ _ _ _ => True) (zPost ad cA G (zA ad sz) 0 0 Q)
def zargs (av : List Value) : zLo := fun i => ((lv_args 0 av).find? (fun q => q.1 == i)).map (·.2)
theorem lv_args_map (ad : Nat → Nat) : ∀ (av : List Value) (i : Nat), lv_args i (av.map (zv ad)) = (lv_args i av).map (fun q => (q.1, zv ad q.2))
  | [], _ => rfl
  | v :: av, i => by
    show (i, zv ad v) :: lv_args (if (zv ad v).category = 2 then i + 2 else i + 1) (av.map (zv ad)) = _
    rw [zv_cat, lv_args_map ad av]
    rfl
theorem zcw_code {y : MethodName} {I : zI} {args : Array Value} {s : State} {mk : MethodId} (h : (zcw y I).before args s = true) (hn : s.methodNamed? y = some mk) :
    ∃ meth c, s.vm.method? mk = some meth ∧ meth.code = some c ∧ c.code = I.2.1 ∧ c.maxLocals = I.2.2.1 ∧ meth.sig.returnType = I.2.2.2.1 ∧ meth.locks = false ∧ c.exceptionTable.toList = tableOf I.2.2.2.2 := by
  unfold zcw at h
  split at h
  next h0 =>
    obtain ⟨meth, c, h1, h2, h3, h4, h5, h6, h7, -⟩ := Cond.code_spec hn h
    refine ⟨meth, c, h1, h2, h3, h4, h5, h6, ?_⟩
    rw [h0, Array.isEmpty_iff.mp h7]
    rfl
  next hh h0 =>
    obtain ⟨m9, meth, c, hn9, h1, h2, h3, h4, h6, h5, h7, -⟩ := Cond.codeWith_spec h
    cases hn.symm.trans hn9
    refine ⟨meth, c, h1, h2, h3, h4, h5, h7, ?_⟩
    rw [← h6, table_eq]
theorem z_method {y : MethodName} {I : zI} {d : Nat} {av : List Value} {D : zD} {Q : zQ} (hy : plainName y.cls = true) (ho : y.cls = I.1) (hn : (lg_sl av).length ≤ I.2.2.1)
    (h : Z (zmk I d) 0 0 (zargs av) [] D Q) : ZM y I d av D Q := by
  intro l ad cA G sz
  refine MetFree.of_bodyS (code := I.2.1) (maxLocals := I.2.2.1) (ret := I.2.2.2.1) hy ?_ ?_
  · intro args s m hp hnm
    obtain ⟨meth, c, h1, h2, h3, h4, h5, h6, -⟩ := zcw_code (atoms_spec (ws := zcw y I :: zT) hp _ List.mem_cons_self) hnm
    exact ⟨meth, c, h1, h2, h3, h4, h5, h6⟩
  · intro p e s m args below meth c s₁ B hml hP _
    obtain ⟨rfl, hsz, htr, hK, hO, hPP, hDD⟩ := hP
    have hh0 : s₁.heap = s.heap := by rw [B.state]; rfl
    have hts := atoms_spec (ws := zcw y I :: zT) B.pre
    obtain ⟨meth9, c9, h1, h2, h3, h4, h5, h6, h7⟩ := zcw_code (hts _ List.mem_cons_self) B.named
    cases Option.some.inj (h1.symm.trans B.method)
    cases Option.some.inj (h2.symm.trans (Stand.of_body B).code)
    have hown : s.vm.findClass I.1 = some m.cls := by rw [← ho]; exact findClass_of_methodNamed B.named
    have hC : zC p l (zroom d) s m (av.map (zv ad)).toArray meth c ad cA G (zA ad sz) (zmk I d) :=
      ⟨B.exec, B.bytes, B.returns, hml, h7, B.notSynchronized, hown, ⟨Nat.le_refl _, Nat.le_refl _, Nat.le_refl _, Nat.le_refl _⟩,
        fun w hw hg => hts w (List.mem_cons_of_mem _ (zT_of hw hg)), htr, hK, hO, fun q hq => Or.inr (by rw [← hsz]; exact hq)⟩
    have hl := lv_entry (av.map (zv ad)) (n := I.2.2.1) (by
      have e1 : (lg_sl (av.map (zv ad))).length = (lg_sl av).length := by
        clear hn h hPP hDD hts hC B hml hO
        induction av with
        | nil => rfl
        | cons v av ih =>
          simp only [lg_sl, List.map_cons, List.flatMap_cons, List.length_append, zv_cat] at ih ⊢
          rw [ih]
          by_cases hc : v.category = 2
          · simp [hc]
          · simp [hc]
      rw [e1]; exact hn)
    rw [lg_entry_eq]
    have hL : zL ad (zargs av) I.2.2.1 (lg_sl (av.map (zv ad)) ++ List.replicate (I.2.2.1 - (lg_sl (av.map (zv ad))).length) Slot.unset).toArray := by
      refine ⟨hl.1, hl.2.1, fun i v hv => ?_⟩
      unfold zargs at hv
      cases hf : (lv_args 0 av).find? (fun q => q.1 == i) with
      | none => rw [hf] at hv; cases hv
      | some q =>
        rw [hf] at hv
        cases hv
        have e1 : q.1 = i := by simpa using List.find?_some hf
        have e2 := List.mem_of_find?_eq_some hf
        have e3 : (q.1, zv ad q.2) ∈ lv_args 0 (av.map (zv ad)) := by
          rw [lv_args_map]
          exact List.mem_map.mpr ⟨q, e2, rfl⟩
        rw [← e1]
        exact hl.2.2 _ e3
    obtain ⟨t, a1, o, b1, b2, b3⟩ := h p l e (zroom d) s m _ below meth c ad cA G (zA ad sz) s.heap [] _ hC ⟨hPP, hDD, va_S.rf⟩ hL s₁ hh0 (Stand.of_body B)
    exact ⟨t, o, a1, b1, b2, b3⟩
