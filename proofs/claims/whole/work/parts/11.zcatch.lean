/-! ===== a handler's search, where its classes may be linked by it first ===== -/
section ZFIND
/-- a row that covers the place: its class is linked, and asked -/
theorem zrow {Qh : Handler → Pre} {Eh : CtlPost} {e : Env} {d : Bool} {acts : List Action} {S : State} {f : JFrame} {a : Addr} {x : ExceptionTableEntry} {t : List ExceptionTableEntry} {c : ClassId} {cell : Cell} (hx : covers x f.pc = true) (h0 : x.catchType ≠ 0)
    (hl : S.vm.ClassLinks e.platform f.method.cls x.catchType c) (hcell : S.heap[a]? = some cell) (hobj : ∀ k, cell.vm ≠ .statics k) (hk : ∃ k, S.vm.classes[cell.cls]? = some k) (hc : ∃ k, S.vm.classes[c]? = some k) :
    (S.vm.assignable cell.cls c = true → (wp (findHandler.go f a (x :: t)) Qh Eh e d acts S ↔ Qh (.found x.handlerPc) d acts (S.setVm (S.vm.noted f.method.cls x.catchType (.cls c))))) ∧
    (S.vm.assignable cell.cls c = false → (wp (findHandler.go f a (x :: t)) Qh Eh e d acts S ↔ wp (findHandler.go f a t) Qh Eh e d acts (S.setVm (S.vm.noted f.method.cls x.catchType (.cls c))))) := by
  have hcov : covers x f.pc = true := hx
  unfold covers at hx
  have hop := (resolveClass_links e.toSetting hl).op (op := VmOp.resolveClass f.method.cls x.catchType) rfl
  obtain ⟨v1, v2⟩ := hop
  have hal : S.vm.Alike (S.vm.noted f.method.cls x.catchType (.cls c)) := (Vm.Alike.refl S.vm).noted _ _ _
  obtain ⟨ka, hka⟩ := hk
  obtain ⟨kb, hkb⟩ := hc
  obtain ⟨ka', ga, -⟩ := hal.2.2 _ _ hka
  obtain ⟨kb', gb, -⟩ := hal.2.2 _ _ hkb
  constructor
  · intro has
    have has' : (S.vm.noted f.method.cls x.catchType (.cls c)).assignable cell.cls c = true := by rw [hal.assignable]; exact has
    simp [findHandler.go, hx, h0, v1, v2, hcell, hobj, ga, gb, has', VmOp.dirties, VmOp.acts]
  · intro has
    have has' : (S.vm.noted f.method.cls x.catchType (.cls c)).assignable cell.cls c = false := by rw [hal.assignable]; exact has
    simp [findHandler.go, hx, h0, v1, v2, hcell, hobj, ga, gb, has', VmOp.dirties, VmOp.acts]
/-- the search ends at a handler, with these tables -/
def zfinds (e : Env) (S : State) (f : JFrame) (a : Addr) (pc : Nat) (vm' : Vm) : Prop := ∀ (Qh : Handler → Pre) (Eh : CtlPost) (d : Bool) (acts : List Action), wp (findHandler f a) Qh Eh e d acts S ↔ Qh (.found pc) d acts (S.setVm vm')
theorem zcaught {tb : Tables} {e : Env} {s target : State} {g : JFrame} {c : Code} {below : List Frame} {a : Addr} (h : At s g.method c below) {pc : Nat} {vm' : Vm} (hf : zfinds e ((s.setTop g).pushFrame (.throwing a)) g a pc vm')
    (hrest : Steps tb e below ((s.setVm vm').setTop { g with pc := pc, stack := [.ref a] }) target) : Steps tb e below ((s.setTop g).pushFrame (.throwing a)) target := by
  have hstep : (stepThrowing e ((s.setTop g).pushFrame (.throwing a)) a (.java g :: s.frames.tail)).Is ((((s.setTop g).pushFrame (.throwing a)).setVm vm').setFrames (.java { g with pc := pc, stack := [.ref a] } :: s.frames.tail)) [] := by
    simp only [stepThrowing, searchFrame, vmDo]
    generalize hr : Sem.go _ e false [] ((s.setTop g).pushFrame (.throwing a)) = res
    obtain ⟨as, rfl, ha⟩ := Sem.eq_ok_of hr (a := Handler.found pc) (s' := ((s.setTop g).pushFrame (.throwing a)).setVm vm') (acts' := []) (by simp [hf _ _ _ _])
    exact ⟨rfl, ha⟩
  obtain ⟨hgo, hw⟩ := h.throwing a
  refine Steps.head hgo hw ?_
  rw [stepThread_throwing (frames_entered h.top _), hstep.1]
  obtain ⟨g₀, hg⟩ := Option.isSome_iff_exists.mp h.top
  obtain ⟨r, hr⟩ := State.topJava?_eq_some.mp hg
  have hr2 : (s.setVm vm').frames = .java g₀ :: r := hr
  have key : ∀ (u : State) (F K : List Frame), ((u.setFrames F).setVm vm').setFrames K = (u.setVm vm').setFrames K := fun u F K => by
    show ((u.setVm vm').setFrames F).setFrames K = _
    rw [State.setFrames_setFrames]
  rw [State.setTop_of_frames _ hr2] at hrest
  rw [hr, List.tail_cons, State.pushFrame, key, State.setTop_of_frames _ hr, key]
  exact hrest
end ZFIND
section ZCATCH
variable {M : zM} {k pc : Nat} {L : zLo} {D : zD} {Q : zQ} {i len : Nat}
/-- the handler's first instruction puts the exception away: what is caught isn't looked at -/
def zputs (cc : ByteArray) (h i len : Nat) : Prop := (∃ n : Fin 4, (n : Nat) = i ∧ len = 1 ∧ decode cc h = .ok (.astore_n n, 1)) ∨ (len = 2 ∧ decode cc h = .ok (.astore i, 2))
theorem zhandler {p : Program} {l : Launch} {e : Env} {R : Room} {s : State} {m : MethodId} {args : Array Value} {below : List Frame} {meth : Method} {c : Code} {ad : Nat → Nat} {cA : Nat → ClassId} {G : va_G} {A : Nat → Prop} {H : Heap} {locs : List Loc} {ls : Array Slot} {q : Addr} {h : Nat}
    (hp : zputs (zcc M) h i len) (hi : i < znL M) (kk : Z M k (h + len) (zdel L i) [] D Q) (C : zC p l R s m args meth c ad cA G A M) (hH : zH ad cA G A s D H locs) (hl : zL ad L (znL M) ls) :
    W p l e R s m args below meth c H locs (zb1 M + k) (zb2 M + 6 * k) (zEnd below args s ad cA G A M Q) (F0 m h ls [.ref q]) := by
  rcases hp with ⟨n, rfl, rfl, hd⟩ | ⟨rfl, hd⟩
  · exact lv_astore_n C.1 C.2.1 hd rfl hl.has hi rfl (fun ls' hl' => kk p l e R s m args below meth c ad cA G A H locs ls' C hH (zdel_has hl hl'))
  · exact lv_astore C.1 C.2.1 hd hl.has hi rfl (fun ls' hl' => kk p l e R s m args below meth c ad cA G A H locs ls' C hH (zdel_has hl hl'))
theorem zself {G : va_G} {A : Nat → Prop} {l : Launch} {ad : Nat → Nat} {cA : Nat → ClassId} {args : Array Value} {s : State} {E : String} (hG : zG l ad cA G A args s) (hE : E = zIAE ∨ E = zISE) : (Cond.castable E E).before args s = true := by
  rcases hE with rfl | rfl
  · exact va_Nw.use rfl hG.2.2.2.1.2.2.1
  · exact va_Nw.use rfl hG.2.2.2.1.2.2.2.1
/-- caught by the table's first row -/
theorem zx_catch {E : String} {x : Nat × Nat × Nat × Nat} {hs : List (Nat × Nat × Nat × Nat)} (hE : E = zIAE ∨ E = zISE) (hh : zhh M = x :: hs) (hcov : x.1 ≤ pc ∧ pc < x.2.1) (h0 : x.2.2.2 ≠ 0) (hlk : Cond.classLink (zown M) x.2.2.2 E ∈ lw_tbl) (hp : zputs (zcc M) x.2.2.1 i len) (hi : i < znL M)
    (kk : Z M k (x.2.2.1 + len) (zdel L i) [] D Q) : ZX M k pc L E D Q := by
  intro p l e R s m args below meth c ad cA G A H locs ls rest q ce C hH hl h1 h2 h3 T hT X
  obtain ⟨hx, hb, -, hml, htab, hlocks, ho, -, hG⟩ := id C
  have hpl : e.platform.magicAccessors = ({} : Platform).magicAccessors := by rw [X.admits.platform]
  obtain ⟨c3, c4, hc3, hc4, hasg⟩ := Cond.castable_spec (zself hG hE)
  cases Option.some.inj (hc3.symm.trans hc4)
  cases Option.some.inj (hc3.symm.trans h3)
  obtain ⟨c5, hc5, hcl5⟩ := Cond.classLink_spec ho (hG.1 _ hlk rfl) e.platform hpl
  cases Option.some.inj (hc3.symm.trans hc5)
  obtain ⟨dk, _, _, kt, hdk, _, _, _, _, hkt, _, hopen⟩ := hcl5.here
  have hlT : T.vm.ClassLinks e.platform m.cls x.2.2.2 ce.cls := X.warmed.classLinks hcl5
  obtain ⟨kt', hkt', -⟩ := X.warmed.alike.2.2 _ _ hkt
  have hW2 : s.WarmedH (T.vm.noted m.cls x.2.2.2 (.cls ce.cls)) := X.warmed.noted hdk hopen (State.rightAt_cls hcl5)
  have hv : ∀ kk, ce.vm ≠ .statics kk := fun kk hk => by rw [h2] at hk; cases hk
  have hf : zfinds e ((T.setTop (F0 m pc ls rest)).pushFrame (.throwing q)) (F0 m pc ls rest) q x.2.2.1 (T.vm.noted m.cls x.2.2.2 (.cls ce.cls)) := by
    intro Qh Eh d acts
    rw [W.findHandler_eq (meth := meth) (code := c) X.method' X.code, htab, hh]
    exact (zrow (x := ⟨x.1, x.2.1, x.2.2.1, x.2.2.2⟩) (f := F0 m pc ls rest) (S := (T.setTop (F0 m pc ls rest)).pushFrame (.throwing q)) (c := ce.cls) (cell := ce) (by simp [covers, hcov.1, hcov.2]) h0 hlT (by show T.heap[q]? = _; rw [hT]; exact h1) hv ⟨kt', hkt'⟩ ⟨kt', hkt'⟩).1 (by
      show T.vm.assignable ce.cls ce.cls = true
      rw [X.warmed.alike.assignable]
      exact hasg)
  have X2 := X.noted hW2
  obtain ⟨t, a1, b1⟩ := zhandler (e := e) (below := below) (q := q) hp hi kk C hH hl (T.setVm (T.vm.noted m.cls x.2.2.2 (.cls ce.cls))) hT X2
  exact ⟨t, zcaught X.here hf a1, b1⟩
/-- passed by the table's first row, which names IllegalArgumentException; caught by its second -/
theorem zx_catch2 {x z : Nat × Nat × Nat × Nat} {hs : List (Nat × Nat × Nat × Nat)} (hh : zhh M = x :: z :: hs) (hcov : x.1 ≤ pc ∧ pc < x.2.1) (hcov2 : z.1 ≤ pc ∧ pc < z.2.1) (h0 : x.2.2.2 ≠ 0) (h02 : z.2.2.2 ≠ 0) (hlk : Cond.classLink (zown M) x.2.2.2 zIAE ∈ lw_tbl) (hlk2 : Cond.classLink (zown M) z.2.2.2 zISE ∈ lw_tbl) (hp : zputs (zcc M) z.2.2.1 i len) (hi : i < znL M)
    (kk : Z M k (z.2.2.1 + len) (zdel L i) [] D Q) : ZX M k pc L zISE D Q := by
  intro p l e R s m args below meth c ad cA G A H locs ls rest q ce C hH hl h1 h2 h3 T hT X
  obtain ⟨hx, hb, -, hml, htab, hlocks, ho, -, hG⟩ := id C
  have hpl : e.platform.magicAccessors = ({} : Platform).magicAccessors := by rw [X.admits.platform]
  obtain ⟨c3, c4, hc3, hc4, hasg⟩ := Cond.castable_spec (zself hG (Or.inr rfl))
  cases Option.some.inj (hc3.symm.trans hc4)
  cases Option.some.inj (hc3.symm.trans h3)
  obtain ⟨a8, b8, n1, n2, n3⟩ := hG.2.2.2.1.2.2.2.2.1
  cases Option.some.inj (n1.symm.trans h3)
  obtain ⟨c6, hc6, hcl6⟩ := Cond.classLink_spec ho (hG.1 _ hlk rfl) e.platform hpl
  cases Option.some.inj (n2.symm.trans hc6)
  obtain ⟨c5, hc5, hcl5⟩ := Cond.classLink_spec ho (hG.1 _ hlk2 rfl) e.platform hpl
  cases Option.some.inj (hc3.symm.trans hc5)
  obtain ⟨dk, _, _, kt, hdk, _, _, _, _, hkt, _, hopen⟩ := hcl5.here
  obtain ⟨dk6, _, _, kt6, hdk6, _, _, _, _, hkt6, _, hopen6⟩ := hcl6.here
  obtain ⟨kt', hkt', -⟩ := X.warmed.alike.2.2 _ _ hkt
  obtain ⟨kt6', hkt6', -⟩ := X.warmed.alike.2.2 _ _ hkt6
  have hW6 : s.WarmedH (T.vm.noted m.cls x.2.2.2 (.cls b8)) := X.warmed.noted hdk6 hopen6 (State.rightAt_cls hcl6)
  obtain ⟨kt'', hkt'', -⟩ := hW6.alike.2.2 _ _ hkt
  have hW2 : s.WarmedH ((T.vm.noted m.cls x.2.2.2 (.cls b8)).noted m.cls z.2.2.2 (.cls ce.cls)) := hW6.noted hdk hopen (State.rightAt_cls hcl5)
  have hv : ∀ kk, ce.vm ≠ .statics kk := fun kk hk => by rw [h2] at hk; cases hk
  have hcell : ((T.setTop (F0 m pc ls rest)).pushFrame (.throwing q)).heap[q]? = some ce := by show T.heap[q]? = _; rw [hT]; exact h1
  have hf : zfinds e ((T.setTop (F0 m pc ls rest)).pushFrame (.throwing q)) (F0 m pc ls rest) q z.2.2.1 ((T.vm.noted m.cls x.2.2.2 (.cls b8)).noted m.cls z.2.2.2 (.cls ce.cls)) := by
    intro Qh Eh d acts
    rw [W.findHandler_eq (meth := meth) (code := c) X.method' X.code, htab, hh]
    refine ((zrow (x := ⟨x.1, x.2.1, x.2.2.1, x.2.2.2⟩) (f := F0 m pc ls rest) (S := (T.setTop (F0 m pc ls rest)).pushFrame (.throwing q)) (c := b8) (cell := ce) (by simp [covers, hcov.1, hcov.2]) h0 (X.warmed.classLinks hcl6) hcell hv ⟨kt', hkt'⟩ ⟨kt6', hkt6'⟩).2 (by
      show T.vm.assignable ce.cls b8 = false
      rw [X.warmed.alike.assignable]
      exact n3)).trans ?_
    exact (zrow (x := ⟨z.1, z.2.1, z.2.2.1, z.2.2.2⟩) (f := F0 m pc ls rest) (S := ((T.setTop (F0 m pc ls rest)).pushFrame (.throwing q)).setVm (T.vm.noted m.cls x.2.2.2 (.cls b8))) (c := ce.cls) (cell := ce) (by simp [covers, hcov2.1, hcov2.2]) h02 (hW6.classLinks hcl5) hcell hv ⟨kt'', hkt''⟩ ⟨kt'', hkt''⟩).1 (by
      show (T.vm.noted m.cls x.2.2.2 (.cls b8)).assignable ce.cls ce.cls = true
      rw [hW6.alike.assignable]
      exact hasg)
  have X2 := X.noted hW2
  obtain ⟨t, a1, b1⟩ := zhandler (e := e) (below := below) (q := q) hp hi kk C hH hl (T.setVm ((T.vm.noted m.cls x.2.2.2 (.cls b8)).noted m.cls z.2.2.2 (.cls ce.cls))) hT X2
  exact ⟨t, zcaught X.here hf a1, b1⟩
end ZCATCH
