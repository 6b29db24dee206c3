/-! ===== constructors: a judgement over worlds that grow, the addresses as they come ===== -/
def nAO (cA : Nat → ClassId) (U : State) : Prop := va_AO "SoundPacker$Subframe" U ∧ ∃ kA : Class, U.vm.classes[cA 3]? = some kA ∧ kA.kind = .array (cA 0) (.array .int)
theorem nAO.moved {cA : Nat → ClassId} {u U : State} (hvm : u.vm.Alike U.vm) (h : nAO cA u) : nAO cA U := by
  obtain ⟨h1, kA, h2, h3⟩ := h
  obtain ⟨k', hk', he⟩ := hvm.2.2 _ _ h2
  exact ⟨h1.moved hvm, k', hk', by rw [he]; exact h3⟩
def Nc (p : Program) (R : Room) (s : State) (m : MethodId) (args : Array Value) (meth : Method) (c : Code) (cA : Nat → ClassId) (G : va_G) (A : Nat → Prop) (M : zI) : Prop :=
  p.tables.exec = Jvm.exec ∧ c.code = M.2.1 ∧ c.maxLocals = M.2.2.1 ∧ s.vm.findClass M.1 = some m.cls ∧ (∀ w ∈ zT, w.before args s = true) ∧ va_K G zcl (ztys cA) s ∧ (∀ q, s.heap.size ≤ q → A q) ∧ nAO cA s
def N (p : Program) (l : Launch) (e : Env) (R : Room) (s : State) (m : MethodId) (args : Array Value) (below : List Frame) (meth : Method) (c : Code) (G : va_G) (A : Nat → Prop) (Q : State → Prop) (M : zI) (k n pc : Nat) (lv : List (Nat × Value)) (st : List Value) (ws : va_W) : Prop :=
  ∀ (H : Heap) (locs : List Loc) (ls : Array Slot), va_P G zcl ws H → va_D A ws → va_S A s.heap H locs → lv_has ls M.2.2.1 lv → W p l e R s m args below meth c H locs k n Q (F0 m pc ls st)
theorem zK_cls {G : va_G} {cA : Nat → ClassId} {s : State} (hK : va_K G zcl (ztys cA) s) (t : Nat) {q : ClassId × FieldType} (h : (ztys cA)[t]? = some q) : ArrOfT s q.1 q.2 ∧ va_RA s q.1 q.2 := hK.2 t q h
section NR
variable {p : Program} {l : Launch} {e : Env} {R : Room} {s : State} {m : MethodId} {args : Array Value} {below : List Frame} {meth : Method} {c : Code} {cA : Nat → ClassId} {G : va_G} {A : Nat → Prop} {Q : State → Prop} {M : zI} {k n pc : Nat} {lv : List (Nat × Value)} {st : List Value} {ws : va_W}
theorem n_aload (C : Nc p R s m args meth c cA G A M) {i : Fin 4} {a : Nat} (hd : decode M.2.1 pc = .ok (.aload_n i, 1)) (j : Nat) (hv : lv[j]? = some ((i : Nat), .ref a)) (h : N p l e R s m args below meth c G A Q M k n (pc + 1) lv (.ref a :: st) ws) : N p l e R s m args below meth c G A Q M k n pc lv st ws :=
  fun H locs ls hP hD hS hl => lv_aload_n C.1 C.2.1 hd rfl (lv_at hl j hv) (h H locs ls hP hD hS hl)
theorem n_iload (C : Nc p R s m args meth c cA G A M) {i : Fin 4} {a : Int32} (hd : decode M.2.1 pc = .ok (.iload_n i, 1)) (j : Nat) (hv : lv[j]? = some ((i : Nat), .int a)) (h : N p l e R s m args below meth c G A Q M k n (pc + 1) lv (.int a :: st) ws) : N p l e R s m args below meth c G A Q M k n pc lv st ws :=
  fun H locs ls hP hD hS hl => lv_iload_n C.1 C.2.1 hd rfl (lv_at hl j hv) (h H locs ls hP hD hS hl)
theorem n_iconst (C : Nc p R s m args meth c cA G A M) {z : Int} {v : Int32} (hd : decode M.2.1 pc = .ok (.iconst z, 1)) (hv : Int32.ofInt z = v) (h : N p l e R s m args below meth c G A Q M k n (pc + 1) lv (.int v :: st) ws) : N p l e R s m args below meth c G A Q M k n pc lv st ws :=
  fun H locs ls hP hD hS hl => lv_iconst C.1 C.2.1 hd hv (h H locs ls hP hD hS hl)
theorem n_bipush (C : Nc p R s m args meth c cA G A M) {z : Int} {v : Int32} (hd : decode M.2.1 pc = .ok (.bipush z, 2)) (hv : (Int8.ofInt z).toInt32 = v) (h : N p l e R s m args below meth c G A Q M k n (pc + 2) lv (.int v :: st) ws) : N p l e R s m args below meth c G A Q M k n pc lv st ws :=
  fun H locs ls hP hD hS hl => lv_bipush C.1 C.2.1 hd hv (h H locs ls hP hD hS hl)
theorem n_sipush (C : Nc p R s m args meth c cA G A M) {z : Int} {v : Int32} (hd : decode M.2.1 pc = .ok (.sipush z, 3)) (hv : (Int16.ofInt z).toInt32 = v) (h : N p l e R s m args below meth c G A Q M k n (pc + 3) lv (.int v :: st) ws) : N p l e R s m args below meth c G A Q M k n pc lv st ws :=
  fun H locs ls hP hD hS hl => lv_sipush C.1 C.2.1 hd hv (h H locs ls hP hD hS hl)
theorem n_ldc (C : Nc p R s m args meth c cA G A M) {i : Nat} {v : Int32} (hd : decode M.2.1 pc = .ok (.ldc i, 2)) (hc : zcix M.1 i = some v) (h : N p l e R s m args below meth c G A Q M k n (pc + 2) lv (.int v :: st) ws) : N p l e R s m args below meth c G A Q M k n pc lv st ws :=
  fun H locs ls hP hD hS hl => lv_ldc C.1 C.2.1 C.2.2.2.1 (C.2.2.2.2.1 _ (zT_of (zcix_ok hc) rfl)) hd (h H locs ls hP hD hS hl)
theorem n_dup (C : Nc p R s m args meth c cA G A M) {v : Value} (hd : decode M.2.1 pc = .ok (.dup, 1)) (hv : v.category = 1) (h : N p l e R s m args below meth c G A Q M k n (pc + 1) lv (v :: v :: st) ws) : N p l e R s m args below meth c G A Q M k n pc lv (v :: st) ws :=
  fun H locs ls hP hD hS hl => lv_dup C.1 C.2.1 hd hv (h H locs ls hP hD hS hl)
theorem n_istore (C : Nc p R s m args meth c cA G A M) {i : Fin 4} {x : Int32} {lv' : List (Nat × Value)} (hd : decode M.2.1 pc = .ok (.istore_n i, 1)) (hn : (i : Nat) < M.2.2.1) (hl' : ((i : Nat), Value.int x) :: lv.filter (fun q => !(q.1 == (i : Nat)) && !(q.1 + 1 == (i : Nat) && q.2.category == 2)) = lv') (h : N p l e R s m args below meth c G A Q M k n (pc + 1) lv' st ws) : N p l e R s m args below meth c G A Q M k n pc lv (.int x :: st) ws :=
  fun H locs ls hP hD hS hl => lv_istore_n C.1 C.2.1 hd rfl hl hn hl' (fun ls hl => h H locs ls hP hD hS hl)
theorem n_istore4 (C : Nc p R s m args meth c cA G A M) {i : Nat} {x : Int32} {lv' : List (Nat × Value)} (hd : decode M.2.1 pc = .ok (.istore i, 2)) (hn : i < M.2.2.1) (hl' : (i, Value.int x) :: lv.filter (fun q => !(q.1 == i) && !(q.1 + 1 == i && q.2.category == 2)) = lv') (h : N p l e R s m args below meth c G A Q M k n (pc + 2) lv' st ws) : N p l e R s m args below meth c G A Q M k n pc lv (.int x :: st) ws :=
  fun H locs ls hP hD hS hl => lv_istore C.1 C.2.1 hd hl hn hl' (fun ls hl => h H locs ls hP hD hS hl)
theorem n_astore (C : Nc p R s m args meth c cA G A M) {i : Fin 4} {x : Nat} {lv' : List (Nat × Value)} (hd : decode M.2.1 pc = .ok (.astore_n i, 1)) (hn : (i : Nat) < M.2.2.1) (hl' : ((i : Nat), Value.ref x) :: lv.filter (fun q => !(q.1 == (i : Nat)) && !(q.1 + 1 == (i : Nat) && q.2.category == 2)) = lv') (h : N p l e R s m args below meth c G A Q M k n (pc + 1) lv' st ws) : N p l e R s m args below meth c G A Q M k n pc lv (.ref x :: st) ws :=
  fun H locs ls hP hD hS hl => lv_astore_n C.1 C.2.1 hd rfl hl hn hl' (fun ls hl => h H locs ls hP hD hS hl)
theorem n_iinc (C : Nc p R s m args meth c cA G A M) {i j : Nat} {z : Int} {x v : Int32} {lv' : List (Nat × Value)} (hd : decode M.2.1 pc = .ok (.iinc i z, 3)) (hk : lv[j]? = some (i, .int x)) (hv : x + Int32.ofInt z = v) (hn : i < M.2.2.1) (hl' : (i, Value.int v) :: lv.filter (fun q => !(q.1 == i) && !(q.1 + 1 == i && q.2.category == 2)) = lv') (h : N p l e R s m args below meth c G A Q M k n (pc + 3) lv' st ws) : N p l e R s m args below meth c G A Q M k n pc lv st ws :=
  fun H locs ls hP hD hS hl => lv_iinc C.1 C.2.1 hd hl hk hv hn hl' (fun ls hl => h H locs ls hP hD hS hl)
theorem n_goto (C : Nc p R s m args meth c cA G A M) {off : Int} {tgt : Nat} (hd : decode M.2.1 pc = .ok (.goto off, 3)) (ht : (pc : Int) + off = (tgt : Int)) (h : N p l e R s m args below meth c G A Q M k n tgt lv st ws) : N p l e R s m args below meth c G A Q M k n pc lv st ws :=
  fun H locs ls hP hD hS hl => lv_goto C.1 C.2.1 hd ht (h H locs ls hP hD hS hl)
theorem n_ge (C : Nc p R s m args meth c cA G A M) {x y : Int32} {off : Int} {tgt : Nat} (hd : decode M.2.1 pc = .ok (.if_icmp .ge off, 3)) (ht : (pc : Int) + off = (tgt : Int)) (h1 : y ≤ x → N p l e R s m args below meth c G A Q M k n tgt lv st ws) (h2 : ¬ y ≤ x → N p l e R s m args below meth c G A Q M k n (pc + 3) lv st ws) : N p l e R s m args below meth c G A Q M k n pc lv (.int y :: .int x :: st) ws :=
  fun H locs ls hP hD hS hl => lv_icmp_ge C.1 C.2.1 hd ht (fun q => h1 q H locs ls hP hD hS hl) (fun q => h2 q H locs ls hP hD hS hl)
theorem n_obj (C : Nc p R s m args meth c cA G A M) {i a x : Nat} (hd : decode M.2.1 pc = .ok (.invokespecial i, 3)) (h1 : lwi x (.methodLink M.1 i objectInit) = true) (hf : 1 ≤ R.frames ∧ (st.map fun v => v.category).sum + 12 ≤ R.locals) (h : N p l e R s m args below meth c G A Q M k n (pc + 3) lv st ws) : N p l e R s m args below meth c G A Q M k n pc lv (.ref a :: st) ws :=
  fun H locs ls hP hD hS hl => by
    refine W.objInit C.1 C.2.1 C.2.2.2.1 (C.2.2.2.2.1 _ (zT_of (lwi_mem h1) rfl)) (C.2.2.2.2.1 _ (zT_of (lwi_mem (i := 103) (by decide +kernel)) rfl)) (C.2.2.2.2.1 _ (zT_of (lwi_mem (i := 104) (by decide +kernel)) rfl)) rfl (by rw [C.2.2.1]; exact hl.1) rfl hd hf.1 ?_ (h H locs ls hP hD hS hl)
    show 2 * 0 + _ + 12 ≤ _
    omega
theorem n_put (C : Nc p R s m args meth c cA G A M) {i ci f ty0 a : Nat} {fs : List Value} {v : Value} {ws' : va_W} (hd : decode M.2.1 pc = .ok (.putfield i, 3)) (hx : zfx M.1 i = some (ci, f, ty0)) (q0 : Nat) (he : ws[q0]? = some (a, .inr (ci, fs))) (hl0 : f < fs.length) (hin : meth.name = "<init>")
    (hok : ∃ (T : u_T) (n9 : Nat) (ty : FieldType), zcl[ci]? = some (M.1, T, n9) ∧ (T f).1 = M.1 ∧ parseFieldDescriptor (T f).2.2.1 = some ty ∧ narrow ty v = v ∧ fits ty v = true) (hw : ws.set q0 (a, .inr (ci, fs.set f v)) = ws')
    (h : N p l e R s m args below meth c G A Q M k n (pc + 3) lv st ws') : N p l e R s m args below meth c G A Q M k n pc lv (v :: .ref a :: st) ws := by
  intro H locs ls hP hD hS hl
  subst hw
  obtain ⟨⟨C9, T, n9, hc, hf, hlk⟩, -⟩ := zfx_ok hx
  obtain ⟨T', n', ty, hc', ho, hty, hn, hft⟩ := hok
  cases hc.symm.trans hc'
  obtain ⟨g1, ⟨ty1, g2⟩, g3⟩ := zcl_F hc
  cases hfin : (T f).2.2.2 with
  | false => exact va_put (D := G) (cl := zcl) C.1 C.2.1 C.2.2.2.2.1 g1 ty1 g2 g3 C.2.2.2.1 C.2.2.2.2.2.1 hP hD hS q0 he hc f hf (C.2.2.2.2.1 _ (zT_of hlk rfl)) (fun _ h9 => h9) hfin hty hn hft hl0 hd (fun H1 locs1 hP1 hD1 hS1 => h H1 locs1 ls hP1 hD1 hS1 hl)
  | true => exact va_putF (D := G) (cl := zcl) C.1 C.2.1 C.2.2.2.2.1 g1 ty1 g2 g3 C.2.2.2.1 C.2.2.2.2.2.1 hP hD hS q0 he hc f hf (C.2.2.2.2.1 _ (zT_of hlk rfl)) (fun _ h9 => h9) hfin hin ho hty hn hft hl0 hd (fun H1 locs1 hP1 hD1 hS1 => h H1 locs1 ls hP1 hD1 hS1 hl)
theorem n_get (C : Nc p R s m args meth c cA G A M) {i ci f ty0 a : Nat} {fs : List Value} {v : Value} (hd : decode M.2.1 pc = .ok (.getfield i, 3)) (hx : zfx M.1 i = some (ci, f, ty0)) (q0 : Nat) (he : ws[q0]? = some (a, .inr (ci, fs))) (hv : fs[f]? = some v)
    (h : N p l e R s m args below meth c G A Q M k n (pc + 3) lv (v :: st) ws) : N p l e R s m args below meth c G A Q M k n pc lv (.ref a :: st) ws := by
  intro H locs ls hP hD hS hl
  obtain ⟨⟨C9, T, n9, hc, hf, hlk⟩, -⟩ := zfx_ok hx
  obtain ⟨g1, ⟨ty1, g2⟩, g3⟩ := zcl_F hc
  exact va_get (D := G) (cl := zcl) C.1 C.2.1 C.2.2.2.2.1 g1 C.2.2.2.1 C.2.2.2.2.2.1 hP q0 he hc f hf (C.2.2.2.2.1 _ (zT_of hlk rfl)) (fun _ h9 => h9) hv hd (h H locs ls hP hD hS hl)
theorem n_newa (C : Nc p R s m args meth c cA G A M) {at9 : ArrayType} {ty : FieldType} {z : Int32} {n' : Nat} {a0 : vp_A} (t x : Nat) (hd : decode M.2.1 pc = .ok (.newarray at9, 2)) (hw : lwi x (.arrayClass (newarray.typeOf at9)) = true) (hty : newarray.typeOf at9 = ty) (ht : (ztys cA)[t]? = some (cA t, ty)) (hno : ∀ C : String, ty ≠ .object C) (ha : ∀ cA : ClassId, vp_cell cA a0 = arrV cA n' (fun _ => defaultValue ty)) (hn : ¬ z < 0) (hN : z.toNatClampNeg = n') (hby : n' * componentBytes ty ≤ 536870912) (hc : k + 1 ≤ R.cells) (hs : n + n' ≤ R.slots)
    (h : ∀ q : Nat, N p l e R s m args below meth c G A Q M (k + 1) (n + n') (pc + 2) lv (.ref q :: st) (ws ++ [(q, .inl (cA t, a0))])) : N p l e R s m args below meth c G A Q M k n pc lv (.int z :: st) ws := by
  intro H locs ls hP hD hS hl
  refine va_newa (D := G) (cl := zcl) (tys := ztys cA) C.1 C.2.1 (C.2.2.2.2.1 _ (zT_of (lwi_mem hw) rfl)) hty C.2.2.2.2.2.1 hP hD hS C.2.2.2.2.2.2.1 ha hn hN hby hc hs hd (fun q c9 H1 hK1 hP1 hD1 hS1 => ?_)
  have e1 := (hK1.2 (ztys cA).length (c9, ty) (List.getElem?_concat_length)).2
  have e2 := (C.2.2.2.2.2.1.2 t _ ht).2
  have e3 : c9 = cA t := by
    cases ty with
    | object C9 => exact absurd rfl (hno C9)
    | _ => exact Option.some.inj (Eq.trans (Eq.symm e1) e2)
  subst e3
  exact h q H1 locs ls hP1 hD1 hS1 hl
theorem n_newq (C : Nc p R s m args meth c cA G A M) {i x : Nat} {z : Int32} {n' : Nat} (hd : decode M.2.1 pc = .ok (.anewarray i, 3)) (hw : lwi x (.classLink M.1 i "SoundPacker$Subframe") = true) (hn : ¬ z < 0) (hN : z.toNatClampNeg = n') (hby : n' * 4 ≤ 536870912) (hc : k + 1 ≤ R.cells) (hs : n + n' ≤ R.slots)
    (h : ∀ q : Nat, N p l e R s m args below meth c G A Q M (k + 1) (n + n') (pc + 3) lv (.ref q :: st) (ws ++ [(q, .inl (cA 4, n', .inr (.inr (.inr (.inr (fun _ => none))))))])) : N p l e R s m args below meth c G A Q M k n pc lv (.int z :: st) ws := by
  intro H locs ls hP hD hS hl
  refine va_newq (D := G) (cl := zcl) (tys := ztys cA) C.1 C.2.1 C.2.2.2.1 (C.2.2.2.2.1 _ (zT_of (lwi_mem hw) rfl)) C.2.2.2.2.2.2.2.1 C.2.2.2.2.2.1 hP hD hS C.2.2.2.2.2.2.1 hn hN hby hc hs hd (fun q c9 H1 hK1 hP1 hD1 hS1 => ?_)
  obtain ⟨_, _, -, -, -, e1⟩ := (hK1.2 (ztys cA).length (c9, .object "SoundPacker$Subframe") (List.getElem?_concat_length)).2
  obtain ⟨_, _, -, -, -, e2⟩ := (C.2.2.2.2.2.1.2 4 (cA 4, .object "SoundPacker$Subframe") rfl).2
  have e3 : c9 = cA 4 := Option.some.inj (e1.symm.trans e2)
  subst e3
  exact h q H1 locs ls hP1 hD1 hS1 hl
theorem n_aast (C : Nc p R s m args meth c cA G A M) {a v n' : Nat} {vs : List Value} {f : Nat → Option Nat} {z : Int32} {ws' : va_W} (q0 qk : Nat) (hd : decode M.2.1 pc = .ok (.aastore, 1)) (ha : ws[q0]? = some (a, .inl (cA 4, n', .inr (.inr (.inr (.inr f)))))) (hv : ws[qk]? = some (v, .inr (7, vs))) (hin : vp_in z n') (hw : ws.set q0 (a, .inl (cA 4, n', .inr (.inr (.inr (.inr (va_up f z.toNatClampNeg (some v))))))) = ws')
    (h : N p l e R s m args below meth c G A Q M k n (pc + 1) lv st ws') : N p l e R s m args below meth c G A Q M k n pc lv (.ref v :: .int z :: .ref a :: st) ws := by
  intro H locs ls hP hD hS hl
  subst hw
  exact va_astq (D := G) (cl := zcl) (tys := ztys cA) (r := (RX7, TX7, 7)) C.1 C.2.1 C.2.2.2.2.2.1 hP hD hS q0 4 qk 7 ha rfl hv rfl hin hd (fun H1 locs1 hP1 hD1 hS1 => h H1 locs1 ls hP1 hD1 hS1 hl)
theorem n_new (C : Nc p R s m args meth c cA G A M) {i ci : Nat} {Cn : String} {T : u_T} {n' : Nat} {fs : List Value} {x1 x2 x3 : Nat} (ty : Nat → FieldType) (hd : decode M.2.1 pc = .ok (.new i, 3)) (hci : zcl[ci]? = some (Cn, T, n')) (hty : ∀ k, k < n' → parseFieldDescriptor (T k).2.2.1 = some (ty k)) (hfs : ∀ j, j < n' → defaultValue (ty j) = vp_V fs j) (w1 : lwi x1 (.classLink M.1 i Cn) = true) (w2 : lwi x2 (.instantiable Cn n') = true) (w3 : lwi x3 (.initialized Cn) = true) (hc : k + 1 ≤ R.cells) (hs : n + n' ≤ R.slots)
    (h : ∀ q : Nat, N p l e R s m args below meth c G A Q M (k + 1) (n + n') (pc + 3) lv (.ref q :: st) (ws ++ [(q, .inr (ci, fs))])) : N p l e R s m args below meth c G A Q M k n pc lv st ws := by
  intro H locs ls hP hD hS hl
  obtain ⟨g1, -, -⟩ := zcl_F hci
  exact va_new (cl := zcl) (tys := ztys cA) C.1 C.2.1 C.2.2.2.2.1 g1 ty hty C.2.2.2.1 (C.2.2.2.2.1 _ (zT_of (lwi_mem w1) rfl)) (C.2.2.2.2.1 _ (zT_of (lwi_mem w2) rfl)) (C.2.2.2.2.1 _ (zT_of (lwi_mem w3) rfl)) C.2.2.2.2.2.1 hP hD hS C.2.2.2.2.2.2.1 hci hfs hc hs hd (fun q H1 hP1 hD1 hS1 => h q H1 locs ls hP1 hD1 hS1 hl)
theorem n_mna (C : Nc p R s m args meth c cA G A M) {i x : Nat} (hd : decode M.2.1 pc = .ok (.multianewarray i 2, 4)) (hw : lwi x (.classLink M.1 i "[[I") = true) (hc : k + 9 ≤ R.cells) (hs : n + 2056 ≤ R.slots)
    (h : ∀ q : Nat, N p l e R s m args below meth c G A Q M (k + 9) (n + 2056) (pc + 4) lv (.ref q :: st) (ws ++ ((q, .inl (cA 3, 8, .inr (.inr (.inr (.inr (fun i => if i < 8 then some (q + 1 + i) else none)))))) :: (List.range 8).map (fun j => (q + 1 + j, .inl (cA 0, 256, .inl (fun _ => 0))))))) : N p l e R s m args below meth c G A Q M k n pc lv (.int 256 :: .int 8 :: st) ws := by
  intro H locs ls hP hD hS hl
  obtain ⟨hx, hb, -, hown, hts, hK, hA, -, kA, hkA, hkindA⟩ := C
  have hnA : s.vm.findClass "[[I" = some (cA 3) := (hK.2 3 (cA 3, .array .int) rfl).2
  obtain ⟨-, kC, hkC, cc, hkindC⟩ := (hK.2 0 (cA 0, .int) rfl).1 0 (fun _ => .int 0)
  intro T hT X
  obtain ⟨vm₁, X', st9⟩ := mq_step X hx hown (hts _ (zT_of (lwi_mem hw) rfl)) hnA hkA hkindA hkC hkindC (g := F0 m pc ls (.int 256 :: .int 8 :: st)) rfl (by rw [hb]; exact hd) rfl hc hs
  have hTh : (T.setVm vm₁).heap = H := hT
  obtain ⟨f1, f2, -, -⟩ := mqF_is (T.setVm vm₁) (cA 3) (cA 0) 8
  have hold : ∀ a : Nat, a < H.size → (mqF (T.setVm vm₁) (cA 3) (cA 0) 8).heap[a]? = H[a]? := fun a ha => by
    have := mqF_old (T.setVm vm₁) (cA 3) (cA 0) (a := a) (by rw [hTh]; exact ha) 8
    rw [hTh] at this
    exact this
  have hrow : ∀ j : Nat, j < 8 → (mqF (T.setVm vm₁) (cA 3) (cA 0) 8).heap[H.size + 1 + j]? = some (mqI (cA 0)) := fun j hj => by
    have := mqF_row (T.setVm vm₁) (cA 3) (cA 0) 8 j hj
    rw [hTh] at this
    exact this
  rw [hTh] at f1 f2
  generalize hF : mqF (T.setVm vm₁) (cA 3) (cA 0) 8 = F at X' st9 f1 f2 hold hrow
  have hP0 : va_P G zcl ws F.heap := hP.kept (fun k9 x hx => hold x.1 ((hP k9 x hx).lt))
  have hrg : ∀ (j : Nat) (q : Nat × va_E), ((List.range 8).map (fun j => ((H.size + 1 + j, .inl (cA 0, 256, .inl (fun _ => 0))) : Nat × va_E)))[j]? = some q → j < 8 ∧ q = (H.size + 1 + j, .inl (cA 0, 256, .inl (fun _ => 0))) := fun j q hq => by
    rw [List.getElem?_map] at hq
    by_cases hj : j < 8
    · rw [List.getElem?_range hj] at hq
      cases hq
      exact ⟨hj, rfl⟩
    · rw [List.getElem?_eq_none (by rw [List.length_range]; omega)] at hq
      cases hq
  have hat : ∀ (j : Nat) (q : Nat × va_E), (((H.size, .inl (cA 3, 8, .inr (.inr (.inr (.inr (fun i => if i < 8 then some (H.size + 1 + i) else none)))))) : Nat × va_E) :: (List.range 8).map (fun j => (H.size + 1 + j, .inl (cA 0, 256, .inl (fun _ => 0)))))[j]? = some q → q.1 = H.size + j ∧ va_at G zcl q F.heap := fun j q hq => by
    cases j with
    | zero => cases hq; exact ⟨rfl, f2⟩
    | succ j =>
      rw [List.getElem?_cons_succ] at hq
      obtain ⟨hj, rfl⟩ := hrg j q hq
      exact ⟨by show H.size + 1 + j = _; omega, hrow j hj⟩
  have hP1 := hP0.app (fun j q hq => (hat j q hq).2)
  have hD1 := hD.app (w2 := ((H.size, .inl (cA 3, 8, .inr (.inr (.inr (.inr (fun i => if i < 8 then some (H.size + 1 + i) else none)))))) : Nat × va_E) :: (List.range 8).map (fun j => (H.size + 1 + j, .inl (cA 0, 256, .inl (fun _ => 0))))) ⟨fun i j a b ha hb hab => by
      have e1 := (hat i a ha).1
      have e2 := (hat j b hb).1
      omega, fun j q hq => hA _ (by rw [(hat j q hq).1]; exact Nat.le_trans hS.1 (Nat.le_add_right _ _))⟩ (fun i j a b ha hb hab => by
      have e1 := (hP i a ha).lt
      have e2 := (hat j b hb).1
      omega)
  obtain ⟨t, a1, b1⟩ := h H.size F.heap locs ls hP1 hD1 ⟨by rw [f1]; exact Nat.le_trans hS.1 (by omega), fun q h1 h2 => by rw [hold q (Nat.lt_of_lt_of_le h1 hS.1)]; exact hS.2.1 q h1 h2, hS.2.2⟩ hl F rfl X'
  refine ⟨t, st9 t ?_, b1⟩
  rw [hT]
  exact a1
end NR
