/-! ===== a call: the callee answers or throws ===== -/
def zBpre (R : Room) (Pc : Array Value → State → Prop) : Pt → Array Value → Prop := fun A a => A.cells + 2 ≤ R.cells ∧ A.slots + 12 ≤ R.slots ∧ Pc a A.U
/-- what is known behind a call, whichever way it ended -/
def zBk (ad : Nat → Nat) (cA : Nat → ClassId) (G : va_G) (F : Nat → Prop) (Q : zQ) (o : Outcome) (A : Pt) (B : Pt) : Prop :=
  ∃ (st₀ t : State) (k : Nat) (D : zD) (L : List Loc), st₀.heap = A.U.heap ∧ st₀.vm = A.U.vm ∧ B.U.heap = t.heap ∧ B.U.vm = t.vm ∧ zOut ad st₀ t Q o k D ∧ va_P G zcl (zws ad cA D) t.heap ∧ va_D F (zws ad cA D) ∧ va_F F st₀ t ∧ B.locs = A.locs ++ L ∧ (∀ z ∈ L, F z.base) ∧ B.cells = A.cells + k ∧ B.slots = A.slots + 6 * k
section ZBACK
variable {l : Launch} {R : Room} {p : Program} {e : Env} {below : List Frame} {s : State} {sargs : Array Value} {y : MethodName} {len : Nat}
theorem zback {I : zI} {d sz : Nat} {av : List Value} {D : zD} {Q : zQ} {ad : Nat → Nat} {cA : Nat → ClassId} {G : va_G}
    (hM : ZM y I d av D Q) (hframes : d + 9 ≤ R.frames) (hlocals : 8 + (I.2.2.1 + 11) + (64 * d + 150) ≤ R.locals)
    (hws : ∀ w ∈ zcw y I :: zT, ∀ a' U, s.WarmedH U.vm → w.before a' U = true) (hinit : ∀ a' U, s.WarmedH U.vm → (Cond.initialized y.cls).before a' U = true) :
    vx_Back l R p e below s sargs y len 8 (zBpre R (zPre l ad cA G sz av D)) (fun A _ v B => zBk ad cA G (zA ad sz) Q (.returned v) A B) (fun A _ q B => zBk ad cA G (zA ad sz) Q (.threw q) A B) := by
  intro m meth c A g ig mk a X hg hsize hdg hW hn hp
  have h1 : (headSpec (zcw y I :: zT) (zroom d)).pre.before a A.U = true := atoms_intro fun w hw => hws w hw _ _ X.warmed
  have h2 : (zcw y I).before a A.U = true := hws _ List.mem_cons_self _ _ X.warmed
  have h3 : (Cond.initialized y.cls).before a A.U = true := hinit _ _ X.warmed
  have h4 : A.cells + (headSpec (zcw y I :: zT) (zroom d)).room.cells ≤ R.cells := hp.1
  have h5 : A.slots + (headSpec (zcw y I :: zT) (zroom d)).room.slots ≤ R.slots := hp.2.1
  have hPc : zPre l ad cA G sz av D a (A.U.calling g mk a) := by
    obtain ⟨q1, q2, q3, q4, q5, q6, q7⟩ := hp.2.2
    exact ⟨q1, q2, q3, va_K.moved (u := A.U) (U := A.U.calling g mk a) (Vm.Alike.refl A.U.vm) q4, q5.same rfl, q6, q7⟩
  obtain ⟨U, Ls, c0, s0⟩ := A
  dsimp only [Pt.U, Pt.locs, Pt.cells, Pt.slots] at h1 h2 h3 h4 h5 X hn hPc ⊢
  obtain ⟨methY, cY, hmY, hcY, -, hlY, -, -, -⟩ := zcw_code h2 hn
  obtain ⟨kY, hkY, -⟩ := className_of_methodNamed hn
  have hinitY : kY.init = .initialized := Cond.initialized_spec (findClass_of_methodNamed hn) hkY h3
  have h : At U g.method c below := by rw [hg]; exact X.here
  have happ : (headSpec (zcw y I :: zT) (zroom d)).appliesLoose y e.platform (U.calling g mk a) = true :=
    Spec.appliesLoose_calling (g := g) h hdg hn hkY hinitY
      (X.room_calling (g := g) (R' := (headSpec (zcw y I :: zT) (zroom d)).room) hsize hmY hcY hframes (by
        rw [hlY]
        show _ + (64 * d + 150) ≤ _
        omega) h4 h5) h1
  obtain ⟨mid, hmid⟩ := h.above
  have hfr : (U.setTop g).frames = (.java g :: mid) ++ below := by rw [State.frames_setTop' g h.top, hmid]; rfl
  obtain ⟨o, s₂, hsteps, -, hend, hq⟩ := Steps.callFree (hM l ad cA G sz) p X.admits X.cas X.clock (acts := []) hfr happ hPc trivial
  rw [State.frames_setTop' g h.top] at hend
  obtain ⟨g₀, hg0⟩ := Option.isSome_iff_exists.mp h.top
  obtain ⟨r, hr⟩ := State.topJava?_eq_some.mp hg0
  have hr' : (({ U with heap := s₂.heap, slotsUsed := s₂.slotsUsed } : State).setVm s₂.vm).frames = .java g₀ :: r := hr
  have hq' : zPost ad cA G (zA ad sz) 0 0 Q a (U.calling g mk a) o s₂ := hq
  obtain ⟨k, D', L, hO, hP2, hD2, hF2, hW₂, hsm, hL⟩ := hq'
  rw [Nat.zero_add, Nat.zero_add] at hsm
  obtain ⟨e2, q2, q3, q4, q5, q6⟩ := id hsm
  have e3 : s₂ = ({ (U.calling g mk a).setFrames s₂.frames with heap := s₂.heap, slotsUsed := s₂.slotsUsed } : State).setVm s₂.vm := by
    have : s₂ = ({ s₂ with vm := (U.calling g mk a).vm } : State).setVm s₂.vm := rfl
    rw [e2] at this
    exact this
  have hW' : U.WarmedH s₂.vm := hW₂
  have hsame : U.sameButNew ({ U with heap := s₂.heap, slotsUsed := s₂.slotsUsed } : State) L k (6 * k) := by
    refine ⟨?_, q2, q3, q4, q5, q6⟩
    obtain ⟨t, ht, -⟩ := State.frames_cons hr
    show ({ U with heap := s₂.heap, slotsUsed := s₂.slotsUsed } : State) = { U.setFrames U.frames with heap := s₂.heap, slotsUsed := s₂.slotsUsed }
    rw [State.setFrames_self ht]
  cases o with
  | returned v =>
    obtain ⟨c₂, i₂, len₂, hc₂, hd₂, hf₂⟩ := hend
    have hcc : c₂ = c := by
      have h1 : s₂.code? g.method = U.code? g.method := by
        rw [State.code?_eq, State.code?_eq, hW'.alike.method?]
      exact Option.some.inj (hc₂.symm.trans (h1.trans h.code))
    subst hcc
    have hlen : len₂ = len := by rw [hdg] at hd₂; cases hd₂; rfl
    subst hlen
    have hs₂ : s₂ = (({ U with heap := s₂.heap, slotsUsed := s₂.slotsUsed } : State).setVm s₂.vm).setTop { g with pc := g.pc + len₂, stack := v.toList ++ g.stack } := by
      refine e3.trans ?_
      rw [hf₂, State.calling_eq h.top, State.setFrames_setFrames, State.setTop_of_frames _ hr', hr]
      rfl
    subst hg
    refine Or.inl ⟨v, ⟨(({ U with heap := s₂.heap, slotsUsed := s₂.slotsUsed } : State).setVm s₂.vm), Ls ++ L, c0 + k, s0 + 6 * k⟩,
      ⟨X.admits, X.cas, X.clock, X.frames, X.room, X.hears, X.method, X.code, (X.here.setHeapUsed s₂.heap s₂.slotsUsed).setVm hW'.alike, X.tail, State.WarmedH.trans X.warmed hW', X.limits, X.bytes, X.same.trans (hsame.setVm s.vm)⟩,
      ⟨U.calling g mk a, s₂, k, D', L, rfl, rfl, rfl, rfl, hO, hP2, hD2, hF2, rfl, hL, rfl, rfl⟩, ?_⟩
    show Steps p.tables e below _ ((({ U with heap := s₂.heap, slotsUsed := s₂.slotsUsed } : State).setVm s₂.vm).setTop { g with pc := g.pc + len₂, stack := v.toList ++ g.stack })
    rw [← hs₂]
    exact hsteps
  | threw q =>
    have hf₂ : s₂.frames = .throwing q :: .java g :: U.frames.tail := hend
    have hs₂ : s₂ = ((({ U with heap := s₂.heap, slotsUsed := s₂.slotsUsed } : State).setVm s₂.vm).setTop g).pushFrame (.throwing q) := by
      refine e3.trans ?_
      rw [hf₂, State.calling_eq h.top, State.setFrames_setFrames, State.pushFrame, State.frames_setTop _ hr', State.setTop_of_frames _ hr', State.setFrames_setFrames, hr]
      rfl
    subst hg
    refine Or.inr ⟨q, ⟨(({ U with heap := s₂.heap, slotsUsed := s₂.slotsUsed } : State).setVm s₂.vm), Ls ++ L, c0 + k, s0 + 6 * k⟩,
      ⟨X.admits, X.cas, X.clock, X.frames, X.room, X.hears, X.method, X.code, (X.here.setHeapUsed s₂.heap s₂.slotsUsed).setVm hW'.alike, X.tail, State.WarmedH.trans X.warmed hW', X.limits, X.bytes, X.same.trans (hsame.setVm s.vm)⟩,
      ⟨U.calling g mk a, s₂, k, D', L, rfl, rfl, rfl, rfl, hO, hP2, hD2, hF2, rfl, hL, rfl, rfl⟩, ?_⟩
    show Steps p.tables e below _ (((({ U with heap := s₂.heap, slotsUsed := s₂.slotsUsed } : State).setVm s₂.vm).setTop g).pushFrame (.throwing q))
    rw [← hs₂]
    exact hsteps
end ZBACK
/-- the callee's side of a call, as the caller's context gives it -/
theorem zpre_of {p : Program} {l : Launch} {R : Room} {s : State} {m : MethodId} {args : Array Value} {meth : Method} {c : Code} {ad : Nat → Nat} {cA : Nat → ClassId} {G : va_G} {A : Nat → Prop} {M : zM} {D : zD} {H : Heap} {locs : List Loc}
    (C : zC p l R s m args meth c ad cA G A M) (hH : zH ad cA G A s D H locs) (av : List Value) {U : State} (hU : U.heap = H) (hW : s.WarmedH U.vm) : zPre l ad cA G H.size av D (av.map (zv ad)).toArray U := by
  obtain ⟨-, -, -, -, -, -, -, -, hG⟩ := C
  obtain ⟨-, htr, hK, hO, hA⟩ := hG
  have hin : ∀ q, zA ad H.size q → A q := by
    intro q hq
    rcases hq with ⟨j, hj, rfl⟩ | hq
    · have hj2 : j < zSH.length := by rw [zSH_len]; exact hj
      exact hH.2.1.2 j _ (zws_at (List.getElem?_eq_getElem hj2))
    · exact hA q (Nat.le_trans hH.2.2.1 hq)
  refine ⟨rfl, by rw [hU], htr, hK.moved hW.alike, ?_, by rw [hU]; exact hH.1, ⟨hH.2.1.1, fun j q hq => ?_⟩⟩
  · rw [hU]
    exact ((hO.kept (fun a h1 h2 => hH.2.2.2.1 a h1 h2)).warm hW).narrow hin
  · have hj2 : j < 66 := by
      rw [← zSH_len]
      have h3 := (List.getElem?_eq_some_iff.mp hq).1
      unfold zws at h3
      rw [List.length_mapIdx] at h3
      exact h3
    have hj3 : j < zSH.length := by rw [zSH_len]; exact hj2
    rw [zws_at (List.getElem?_eq_getElem hj3)] at hq
    cases hq
    exact Or.inl ⟨j, hj2, rfl⟩
theorem zin {p : Program} {l : Launch} {R : Room} {s : State} {m : MethodId} {args : Array Value} {meth : Method} {c : Code} {ad : Nat → Nat} {cA : Nat → ClassId} {G : va_G} {A : Nat → Prop} {M : zM} {D : zD} {H : Heap} {locs : List Loc}
    (C : zC p l R s m args meth c ad cA G A M) (hH : zH ad cA G A s D H locs) : ∀ q, zA ad H.size q → A q := by
  intro q hq
  rcases hq with ⟨j, hj, rfl⟩ | hq
  · have hj2 : j < zSH.length := by rw [zSH_len]; exact hj
    exact hH.2.1.2 j _ (zws_at (List.getElem?_eq_getElem hj2))
  · exact C.2.2.2.2.2.2.2.2.2.2.2.2 q (Nat.le_trans hH.2.2.1 hq)
/-- the caller's world behind a call -/
theorem zafter {p : Program} {l : Launch} {R : Room} {s : State} {m : MethodId} {args : Array Value} {meth : Method} {c : Code} {ad : Nat → Nat} {cA : Nat → ClassId} {G : va_G} {A : Nat → Prop} {M : zM} {D D' : zD} {H : Heap} {locs L : List Loc} {st₀ t : State}
    (C : zC p l R s m args meth c ad cA G A M) (hH : zH ad cA G A s D H locs) (h0 : st₀.heap = H) (hP : va_P G zcl (zws ad cA D') t.heap) (hD : va_D (zA ad H.size) (zws ad cA D')) (hF : va_F (zA ad H.size) st₀ t) (hL : ∀ z ∈ L, zA ad H.size z.base) : zH ad cA G A s D' t.heap (locs ++ L) := by
  have hin := zin C hH
  refine ⟨hP, hD.weaken (fun _ q _ h => hin _ h), ?_, ?_, ?_⟩
  · have := hF.1
    rw [h0] at this
    exact Nat.le_trans hH.2.2.1 this
  · intro q h1 h2
    have h3 := hF.2 q (by rw [h0]; exact Nat.lt_of_lt_of_le h1 hH.2.2.1) (fun z => h2 (hin q z))
    rw [h3, h0]
    exact hH.2.2.2.1 q h1 h2
  · intro z hz
    rcases List.mem_append.mp hz with h | h
    · exact hH.2.2.2.2 z h
    · exact hin _ (hL z h)
/-- the words of a call (kind 0: an object's method, 1: a static one, 2: a nest mate's static one), each at its place -/
def zchk (is : List Nat) (own : String) (idx : Nat) (kind : Nat) (y : MethodName) (I : zI) (n : Nat) : Bool :=
  lwi (is.getD 0 0) (zcw y I) && goodWord (zcw y I) && lwi (is.getD 1 0) (Cond.initialized y.cls) && decide (I.2.2.1 ≤ 45) && decide (y.cls ≠ "java/lang/invoke/MethodHandle") && decide (y.cls ≠ "java/lang/invoke/VarHandle") &&
  decide ((parseMethodDescriptor y.desc).map (fun d => d.parameters.length) = some n) && match kind with
  | 0 => lwi (is.getD 2 0) (Cond.methodLink own idx y) && lwi (is.getD 3 0) (Cond.instanceMethod y) && lwi (is.getD 4 0) (Cond.selects y.cls y y)
  | 1 => lwi (is.getD 2 0) (Cond.methodLink own idx y) && lwi (is.getD 3 0) (Cond.static y)
  | _ => lwi (is.getD 2 0) (Cond.methodLinkNest own idx y RX8) && lwi (is.getD 3 0) (Cond.static y)
def zcall (own : String) (idx : Nat) (kind : Nat) (y : MethodName) (I : zI) (n : Nat) : Prop := ∃ is : List Nat, zchk is own idx kind y I n = true
theorem zcall_spec {own : String} {idx kind : Nat} {y : MethodName} {I : zI} {n : Nat} (h : zcall own idx kind y I n) :
    zcw y I ∈ lw_tbl ∧ goodWord (zcw y I) = true ∧ Cond.initialized y.cls ∈ lw_tbl ∧ I.2.2.1 ≤ 45 ∧ (y.cls ≠ "java/lang/invoke/MethodHandle" ∧ y.cls ≠ "java/lang/invoke/VarHandle") ∧ (∀ sig, parseMethodDescriptor y.desc = some sig → n = sig.parameters.length) ∧
    (kind = 0 → Cond.methodLink own idx y ∈ lw_tbl ∧ Cond.instanceMethod y ∈ lw_tbl ∧ Cond.selects y.cls y y ∈ lw_tbl) ∧ (kind = 1 → Cond.methodLink own idx y ∈ lw_tbl ∧ Cond.static y ∈ lw_tbl) ∧ (kind = 2 → Cond.methodLinkNest own idx y RX8 ∈ lw_tbl ∧ Cond.static y ∈ lw_tbl) := by
  obtain ⟨is, h⟩ := h
  unfold zchk at h
  simp only [Bool.and_eq_true, decide_eq_true_eq] at h
  obtain ⟨⟨⟨⟨⟨⟨⟨h1, h2⟩, h3⟩, h4⟩, h5⟩, h6⟩, h7⟩, h8⟩ := h
  refine ⟨lwi_mem h1, h2, lwi_mem h3, h4, ⟨h5, h6⟩, fun sig hs => ?_, fun hk => ?_, fun hk => ?_, fun hk => ?_⟩
  · rw [hs] at h7
    exact (Option.some.inj h7).symm
  · subst hk
    simp only [Bool.and_eq_true] at h8
    exact ⟨lwi_mem h8.1.1, lwi_mem h8.1.2, lwi_mem h8.2⟩
  · subst hk
    simp only [Bool.and_eq_true] at h8
    exact ⟨lwi_mem h8.1, lwi_mem h8.2⟩
  · subst hk
    simp only [Bool.and_eq_true] at h8
    exact ⟨lwi_mem h8.1, lwi_mem h8.2⟩
theorem zcw_cases (y : MethodName) (I : zI) : (I.2.2.2.2 = [] ∧ zcw y I = .code y I.2.1 I.2.2.1 I.2.2.2.1) ∨ zcw y I = .codeWith y I.2.1 I.2.2.1 I.2.2.2.1 I.2.2.2.2 := by
  unfold zcw
  split
  next h => exact Or.inl ⟨h, rfl⟩
  next hh h => exact Or.inr rfl
theorem zcategory_map (ad : Nat → Nat) (st : List Value) : ((st.map (zv ad)).map fun v => v.category).sum = (st.map fun v => v.category).sum := by
  rw [List.map_map]
  congr 1
  apply List.map_congr_left
  intro v _
  exact zv_cat ad v
section ZCALLS
variable {M : zM} {k pc : Nat} {L : zLo} {st stk : List Value} {D : zD} {Q Q' : zQ} {y : MethodName} {I : zI} {d idx n : Nat} {av : List Value}
theorem zgo {p : Program} {l : Launch} {e : Env} {R : Room} {s : State} {m : MethodId} {args : Array Value} {below : List Frame} {meth : Method} {c : Code} {ad : Nat → Nat} {cA : Nat → ClassId} {G : va_G} {A : Nat → Prop} {H : Heap} {locs : List Loc} {ls : Array Slot} {T : State} {argsL : Array Value}
    (hk : k + 2 ≤ zcap M) (kr : ∀ v k' D', Q' (.inl v) k' D' → Z M (k + k') (pc + 3) L (v.toList ++ st) D' Q) (kx : ∀ E k' D', Q' (.inr E) k' D' → ZX M (k + k') pc L E D' Q)
    (C : zC p l R s m args meth c ad cA G A M) (hH : zH ad cA G A s D H locs) (hl : zL ad L (znL M) ls) (hT : T.heap = H) (X : Stand p l e R s m args below meth c T locs (zb1 M + k) (zb2 M + 6 * k)) {g : JFrame} (hg : g = F0 m pc ls (stk.map (zv ad)))
    (h : (∃ (v : Option Value) (vm₁ : Vm) (B : Pt), s.WarmedH vm₁ ∧ Stand p l e R s m args below meth c B.U B.locs B.cells B.slots ∧ zBk ad cA G (zA ad H.size) Q' (.returned v) ⟨T.setVm vm₁, locs, zb1 M + k, zb2 M + 6 * k⟩ B ∧
      ∀ target, Steps p.tables e below (B.U.setTop { g with pc := g.pc + 3, stack := v.toList ++ st.map (zv ad) }) target → Steps p.tables e below (T.setTop g) target) ∨
    (∃ (q : Addr) (vm₁ : Vm) (B : Pt), s.WarmedH vm₁ ∧ Stand p l e R s m args below meth c B.U B.locs B.cells B.slots ∧ zBk ad cA G (zA ad H.size) Q' (.threw q) ⟨T.setVm vm₁, locs, zb1 M + k, zb2 M + 6 * k⟩ B ∧
      Steps p.tables e below (T.setTop g) ((B.U.setTop { g with stack := st.map (zv ad) }).pushFrame (.throwing q)))) :
    ∃ t, Steps p.tables e below (T.setTop g) t ∧ zEnd below args s ad cA G A M Q t := by
  subst hg
  rcases h with ⟨v, vm₁, ⟨U, l2, c2, s2⟩, hW₁, X', ⟨st₀, t, k', D', Lo, h0, hv0, e1, e2, hO, hP, hD, hF, r1, r2, r3, r4⟩, hs⟩ | ⟨q, vm₁, ⟨U, l2, c2, s2⟩, hW₁, X', ⟨st₀, t, k', D', Lo, h0, hv0, e1, e2, hO, hP, hD, hF, r1, r2, r3, r4⟩, hs⟩
  · dsimp only [Pt.U, Pt.locs, Pt.cells, Pt.slots] at X' h0 hv0 e1 e2 r1 r3 r4 hs
    subst r1; subst r3; subst r4
    rcases hO with ⟨v', hv, hq⟩ | ⟨q, E, ce, hv, -⟩
    · cases hv
      have hH' := zafter C hH (show st₀.heap = H from h0.trans hT) hP hD hF r2
      have hst : (Option.map (zv ad) v').toList ++ st.map (zv ad) = (v'.toList ++ st).map (zv ad) := by cases v' <;> rfl
      rw [hst] at hs
      obtain ⟨t2, a1, b1⟩ := kr v' k' D' hq p l e R s m args below meth c ad cA G A t.heap (locs ++ Lo) ls C hH' hl U e1 (by
        rw [← Nat.add_assoc, Nat.mul_add, ← Nat.add_assoc]
        exact X')
      exact ⟨t2, hs t2 a1, b1⟩
    · cases hv
  · dsimp only [Pt.U, Pt.locs, Pt.cells, Pt.slots] at X' h0 hv0 e1 e2 r1 r3 r4 hs
    subst r1; subst r3; subst r4
    rcases hO with ⟨v', hv, -⟩ | ⟨q', E, ce, hv, hc1, hc2, hc3, hq⟩
    · cases hv
    · cases hv
      have hH' := zafter C hH (show st₀.heap = H from h0.trans hT) hP hD hF r2
      have hcl : s.vm.findClass E = some ce.cls := by
        rw [hv0] at hc3
        exact vx_cls (T := T) hW₁ hc3
      obtain ⟨t2, a1, b1⟩ := kx E k' D' hq p l e R s m args below meth c ad cA G A t.heap (locs ++ Lo) ls (st.map (zv ad)) q ce C hH' hl hc1 hc2 hcl U e1 (by
        rw [← Nat.add_assoc, Nat.mul_add, ← Nat.add_assoc]
        exact X')
      exact ⟨t2, hs.trans a1, b1⟩
theorem z_callV {a ci : Nat} {fl : List Nat} {Tt : u_T} {N : Nat} (hM : ZM y I d (.ref a :: av) D Q') (hd : decode (zcc M) pc = .ok (.invokevirtual idx, 3)) (hw : zcall (zown M) idx 0 y I n) (ha : zSH[a]? = some (5, ci, fl)) (hcl : zcl[ci]? = some (y.cls, Tt, N)) (hn : av.length = n) (hstk : stk = av.reverse ++ .ref a :: st)
    (hst : (st.map fun v => v.category).sum ≤ 8) (hk : k + 2 ≤ zcap M) (hdep : d + 1 ≤ zdep M) (kr : ∀ v k' D', Q' (.inl v) k' D' → Z M (k + k') (pc + 3) L (v.toList ++ st) D' Q) (kx : ∀ E k' D', Q' (.inr E) k' D' → ZX M (k + k') pc L E D' Q) : Z M k pc L stk D Q := by
  intro p l e R s m args below meth c ad cA G A H locs ls C hH hl T hT X
  obtain ⟨hx, hb, -, hml, -, -, ho, ⟨f1, f2, f3, f4⟩, hG⟩ := id C
  obtain ⟨w1, w2, w3, w4, w5, w6, w7, -, -⟩ := zcall_spec hw
  obtain ⟨w7, w8, w9⟩ := w7 rfl
  have hK := zback (l := l) (R := R) (p := p) (e := e) (below := below) (s := s) (sargs := args) (len := 3) (sz := H.size) (ad := ad) (cA := cA) (G := G) hM (by omega) (by omega) (fun w hw9 a' U hW => by
    rcases List.mem_cons.mp hw9 with h9 | h9
    · rw [h9]; exact word_at hW (good_of_word w2) (hG.1 _ w1 w2)
    · exact word_at hW (good_of_word (List.mem_filter.mp h9).2) (hG.ts _ h9)) (fun a' U hW => word_at hW (Or.inl rfl) (hG.1 _ w3 rfl))
  obtain ⟨cellB, hcB, hoB, hclB⟩ := va_recv (q := (y.cls, Tt, N)) hG.2.2.1 hH.1 hcl (zws_at ha)
  have hstack : (F0 m pc ls (stk.map (zv ad))).stack = (av.map (zv ad)).reverse ++ .ref (ad a) :: st.map (zv ad) := by
    show stk.map (zv ad) = _
    rw [hstk, List.map_append, List.map_reverse]
    rfl
  have hpre : ∀ vm₁, s.WarmedH vm₁ → zBpre R (zPre l ad cA G H.size (.ref a :: av) D) ⟨T.setVm vm₁, locs, zb1 M + k, zb2 M + 6 * k⟩ (Value.ref (ad a) :: av.map (zv ad)).toArray := fun vm₁ hW₁ =>
    ⟨by show zb1 M + k + 2 ≤ _; omega, by show zb2 M + 6 * k + 12 ≤ _; omega, zpre_of C hH (.ref a :: av) (U := T.setVm vm₁) hT hW₁⟩
  have hroom : 2 * (F0 m pc ls (stk.map (zv ad))).monitorRoom + ((st.map (zv ad)).map fun v => v.category).sum ≤ 8 := lv_room (by rw [zcategory_map]; exact hst)
  refine zgo (argsL := args) hk kr kx C hH hl hT X rfl ?_
  rcases zcw_cases y I with ⟨-, hcw⟩ | hcw
  · exact vx_callV X hx (C := y.cls) (bytes := I.2.1) (maxL := I.2.2.1) (ret := I.2.2.2.1) ho (hG.1 _ w7 rfl) (hG.1 _ w8 rfl) (hG.1 _ w9 rfl) (by rw [← hcw]; exact hG.1 _ w1 w2) w5 hK (by rw [hT]; exact hcB) hoB hclB rfl (hl.1.trans hml.symm) (argsL := av.map (zv ad)) (rest := st.map (zv ad)) (fun sig h => by rw [List.length_map, hn]; exact w6 sig h) hstack hroom (by rw [hb]; exact hd) hpre
  · exact vx_callVX X hx (C := y.cls) (bytes := I.2.1) (maxL := I.2.2.1) (ret := I.2.2.2.1) (hh := I.2.2.2.2) ho (hG.1 _ w7 rfl) (hG.1 _ w8 rfl) (hG.1 _ w9 rfl) (by rw [← hcw]; exact hG.1 _ w1 w2) w5 hK (by rw [hT]; exact hcB) hoB hclB rfl (hl.1.trans hml.symm) (argsL := av.map (zv ad)) (rest := st.map (zv ad)) (fun sig h => by rw [List.length_map, hn]; exact w6 sig h) hstack hroom (by rw [hb]; exact hd) hpre
theorem z_callS (hM : ZM y I d av D Q') (hd : decode (zcc M) pc = .ok (.invokestatic idx, 3)) (hw : zcall (zown M) idx 1 y I n) (hn : av.length = n) (hstk : stk = av.reverse ++ st)
    (hst : (st.map fun v => v.category).sum ≤ 8) (hk : k + 2 ≤ zcap M) (hdep : d + 1 ≤ zdep M) (kr : ∀ v k' D', Q' (.inl v) k' D' → Z M (k + k') (pc + 3) L (v.toList ++ st) D' Q) (kx : ∀ E k' D', Q' (.inr E) k' D' → ZX M (k + k') pc L E D' Q) : Z M k pc L stk D Q := by
  intro p l e R s m args below meth c ad cA G A H locs ls C hH hl T hT X
  obtain ⟨hx, hb, -, hml, -, -, ho, ⟨f1, f2, f3, f4⟩, hG⟩ := id C
  obtain ⟨w1, w2, w3, w4, w5, w6, -, w7, -⟩ := zcall_spec hw
  obtain ⟨w7, w8⟩ := w7 rfl
  have hK := zback (l := l) (R := R) (p := p) (e := e) (below := below) (s := s) (sargs := args) (len := 3) (sz := H.size) (ad := ad) (cA := cA) (G := G) hM (by omega) (by omega) (fun w hw9 a' U hW => by
    rcases List.mem_cons.mp hw9 with h9 | h9
    · rw [h9]; exact word_at hW (good_of_word w2) (hG.1 _ w1 w2)
    · exact word_at hW (good_of_word (List.mem_filter.mp h9).2) (hG.ts _ h9)) (fun a' U hW => word_at hW (Or.inl rfl) (hG.1 _ w3 rfl))
  have hstack : (F0 m pc ls (stk.map (zv ad))).stack = (av.map (zv ad)).reverse ++ st.map (zv ad) := by
    show stk.map (zv ad) = _
    rw [hstk, List.map_append, List.map_reverse]
  have hpre : ∀ vm₁, s.WarmedH vm₁ → zBpre R (zPre l ad cA G H.size av D) ⟨T.setVm vm₁, locs, zb1 M + k, zb2 M + 6 * k⟩ (av.map (zv ad)).toArray := fun vm₁ hW₁ =>
    ⟨by show zb1 M + k + 2 ≤ _; omega, by show zb2 M + 6 * k + 12 ≤ _; omega, zpre_of C hH av (U := T.setVm vm₁) hT hW₁⟩
  have hroom : 2 * (F0 m pc ls (stk.map (zv ad))).monitorRoom + ((st.map (zv ad)).map fun v => v.category).sum ≤ 8 := lv_room (by rw [zcategory_map]; exact hst)
  refine zgo (argsL := args) hk kr kx C hH hl hT X rfl ?_
  rcases zcw_cases y I with ⟨-, hcw⟩ | hcw
  · exact vx_callS X hx (bytes := I.2.1) (maxL := I.2.2.1) (ret := I.2.2.2.1) ho (hG.1 _ w7 rfl) (hG.1 _ w8 rfl) (hG.1 _ w3 rfl) (by rw [← hcw]; exact hG.1 _ w1 w2) w5 hK rfl (hl.1.trans hml.symm) (argsL := av.map (zv ad)) (rest := st.map (zv ad)) (fun sig h => by rw [List.length_map, hn]; exact w6 sig h) hstack hroom (by rw [hb]; exact hd) hpre
  · exact vx_callSX X hx (bytes := I.2.1) (maxL := I.2.2.1) (ret := I.2.2.2.1) (hh := I.2.2.2.2) ho (hG.1 _ w7 rfl) (hG.1 _ w8 rfl) (hG.1 _ w3 rfl) (by rw [← hcw]; exact hG.1 _ w1 w2) w5 hK rfl (hl.1.trans hml.symm) (argsL := av.map (zv ad)) (rest := st.map (zv ad)) (fun sig h => by rw [List.length_map, hn]; exact w6 sig h) hstack hroom (by rw [hb]; exact hd) hpre
/-- a static method of the outer class, called by a class inside it -/
theorem z_callN (hM : ZM y I d av D Q') (hd : decode (zcc M) pc = .ok (.invokestatic idx, 3)) (hw : zcall (zown M) idx 2 y I n) (hI : I.2.2.2.2 = []) (hn : av.length = n) (hstk : stk = av.reverse ++ st)
    (hst : (st.map fun v => v.category).sum ≤ 8) (hk : k + 2 ≤ zcap M) (hdep : d + 1 ≤ zdep M) (kr : ∀ v k' D', Q' (.inl v) k' D' → Z M (k + k') (pc + 3) L (v.toList ++ st) D' Q) (kx : ∀ E k' D', Q' (.inr E) k' D' → ZX M (k + k') pc L E D' Q) : Z M k pc L stk D Q := by
  intro p l e R s m args below meth c ad cA G A H locs ls C hH hl T hT X
  obtain ⟨hx, hb, -, hml, -, -, ho, ⟨f1, f2, f3, f4⟩, hG⟩ := id C
  obtain ⟨w1, w2, w3, w4, w5, w6, -, -, w7⟩ := zcall_spec hw
  obtain ⟨w7, w8⟩ := w7 rfl
  have hK := zback (l := l) (R := R) (p := p) (e := e) (below := below) (s := s) (sargs := args) (len := 3) (sz := H.size) (ad := ad) (cA := cA) (G := G) hM (by omega) (by omega) (fun w hw9 a' U hW => by
    rcases List.mem_cons.mp hw9 with h9 | h9
    · rw [h9]; exact word_at hW (good_of_word w2) (hG.1 _ w1 w2)
    · exact word_at hW (good_of_word (List.mem_filter.mp h9).2) (hG.ts _ h9)) (fun a' U hW => word_at hW (Or.inl rfl) (hG.1 _ w3 rfl))
  have hstack : (F0 m pc ls (stk.map (zv ad))).stack = (av.map (zv ad)).reverse ++ st.map (zv ad) := by
    show stk.map (zv ad) = _
    rw [hstk, List.map_append, List.map_reverse]
  have hpre : ∀ vm₁, s.WarmedH vm₁ → zBpre R (zPre l ad cA G H.size av D) ⟨T.setVm vm₁, locs, zb1 M + k, zb2 M + 6 * k⟩ (av.map (zv ad)).toArray := fun vm₁ hW₁ =>
    ⟨by show zb1 M + k + 2 ≤ _; omega, by show zb2 M + 6 * k + 12 ≤ _; omega, zpre_of C hH av (U := T.setVm vm₁) hT hW₁⟩
  have hroom : 2 * (F0 m pc ls (stk.map (zv ad))).monitorRoom + ((st.map (zv ad)).map fun v => v.category).sum ≤ 8 := lv_room (by rw [zcategory_map]; exact hst)
  refine zgo (argsL := args) hk kr kx C hH hl hT X rfl ?_
  have hcode : (Cond.code y I.2.1 I.2.2.1 I.2.2.2.1).before args s = true := by
    have h9 := hG.1 _ w1 w2
    unfold zcw at h9
    rw [hI] at h9
    exact h9
  have hlink : (Cond.methodLinkNest (zown M) idx y RX8).before args s = true := va_Nw.use rfl (hG.2.2.2.1.2.2.2.2.2.1 _ (List.mem_filter.mpr ⟨w7, rfl⟩))
  obtain ⟨mk, hnamed⟩ := Cond.code_named hcode
  obtain ⟨methM, cM, hmethM, -, -, -, -, -, -, hsigM⟩ := Cond.code_spec hnamed hcode
  have hstatic : methM.isStatic = true := Cond.static_spec hnamed hmethM (hG.1 _ w8 rfl)
  obtain ⟨kP, hkP, -⟩ := className_of_methodNamed hnamed
  have hinitP : kP.init = .initialized := Cond.initialized_spec (findClass_of_methodNamed hnamed) hkP (hG.1 _ w3 rfl)
  have hdg : decode c.code (F0 m pc ls (stk.map (zv ad))).pc = .ok (.invokestatic idx, 3) := by rw [hb]; exact hd
  obtain ⟨vm₁, X₁, hstep₁⟩ := X.invokestaticNest hx ho hlink hnamed hmethM hstatic hkP hinitP w5 (g := F0 m pc ls (stk.map (zv ad))) rfl (argsL := av.map (zv ad)) (rest := st.map (zv ad)) (by rw [List.length_map, hn]; exact w6 _ hsigM) hstack hdg
  rcases hK m meth c ⟨T.setVm vm₁, locs, zb1 M + k, zb2 M + 6 * k⟩ { (F0 m pc ls (stk.map (zv ad))) with stack := st.map (zv ad) } (.invokestatic idx) mk (av.map (zv ad)).toArray X₁ rfl (hl.1.trans hml.symm) hdg hroom (X₁.named hnamed) (hpre vm₁ X₁.warmed) with ⟨v, B, X', hpost, hsteps⟩ | ⟨q, B, X', hpost, hsteps⟩
  · exact Or.inl ⟨v, vm₁, B, X₁.warmed, X', hpost, fun target h => hstep₁ _ fun acts => by rw [doInvoke_state]; exact hsteps.trans h⟩
  · exact Or.inr ⟨q, vm₁, B, X₁.warmed, X', hpost, hstep₁ _ fun acts => by rw [doInvoke_state]; exact hsteps⟩
end ZCALLS
