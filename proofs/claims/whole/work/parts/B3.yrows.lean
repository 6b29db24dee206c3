/-! ===== the law's own walk: contexts that hold the script, its ints sx, sn of them, at the cell ad 67 ===== -/
def yB1 : Nat := 100
def yB2 : Nat := 100000
def Yc (p : Program) (l : Launch) (s : State) (m : MethodId) (meth : Method) (c : Code) (ad : Nat → Nat) (cA : Nat → ClassId) (G : va_G) (A : Nat → Prop) (b sn : Nat) (sx : Nat → Int32) : Prop :=
  p.tables.exec = Jvm.exec ∧ c.code = cL_law ∧ meth.sig.returnType = ret ∧ c.maxLocals = 7 ∧ meth.locks = false ∧ s.vm.findClass RL = some m.cls ∧ zG l ad cA G A #[Value.ref b] s ∧ va_X b sn sx s s.heap ∧ b < s.heap.size ∧ ¬ A b ∧ ad 67 = b ∧ ∀ q, A q → s.heap.size ≤ q
def Y (sn : Nat) (sx : Nat → Int32) (k pc : Nat) (L : zLo) (st : List Value) (D : zD) : Prop :=
  ∀ (p : Program) (l : Launch) (e : Env) (s : State) (m : MethodId) (below : List Frame) (meth : Method) (c : Code) (ad : Nat → Nat) (cA : Nat → ClassId) (G : va_G) (A : Nat → Prop) (b : Nat) (H : Heap) (locs : List Loc) (ls : Array Slot),
    Yc p l s m meth c ad cA G A b sn sx → zH ad cA G A s D H locs → zL ad L 7 ls →
    W p l e room_1 s m #[Value.ref b] below meth c H locs (yB1 + k) (yB2 + 6 * k) (lw_Z below #[Value.ref b] s) (F0 m pc ls (st.map (zv ad)))
abbrev zML : zM := (RL, cL_law, 7, ret, [], 12, 1026, 100, 100000)
theorem Yc.z {p : Program} {l : Launch} {s : State} {m : MethodId} {meth : Method} {c : Code} {ad : Nat → Nat} {cA : Nat → ClassId} {G : va_G} {A : Nat → Prop} {b sn : Nat} {sx : Nat → Int32} (h : Yc p l s m meth c ad cA G A b sn sx) : zC p l room_1 s m #[Value.ref b] meth { c with exceptionTable := #[] } ad cA G A zML :=
  ⟨h.1, h.2.1, h.2.2.1, h.2.2.2.1, rfl, h.2.2.2.2.1, h.2.2.2.2.2.1, ⟨by decide, by decide, by decide, by decide⟩, h.2.2.2.2.2.2.1⟩
theorem y_iadd {sn : Nat} {sx : Nat → Int32} {k pc : Nat} {L : zLo} {st : List Value} {D : zD} {x y : Int32} (hd : decode cL_law pc = .ok (.iadd, 1))  (kk : Y sn sx k (pc + 1) L (.int (x + y) :: st) D) : Y sn sx k pc L (.int y :: .int x :: st) D := fun p l e s m below meth c ad cA G A b H locs ls C hH hl => lv_iadd C.1 C.2.1 hd (kk p l e s m below meth c ad cA G A b H locs ls C hH hl)
theorem y_isub {sn : Nat} {sx : Nat → Int32} {k pc : Nat} {L : zLo} {st : List Value} {D : zD} {x y : Int32} (hd : decode cL_law pc = .ok (.isub, 1))  (kk : Y sn sx k (pc + 1) L (.int (x - y) :: st) D) : Y sn sx k pc L (.int y :: .int x :: st) D := fun p l e s m below meth c ad cA G A b H locs ls C hH hl => lv_isub C.1 C.2.1 hd (kk p l e s m below meth c ad cA G A b H locs ls C hH hl)
theorem y_iand {sn : Nat} {sx : Nat → Int32} {k pc : Nat} {L : zLo} {st : List Value} {D : zD} {x y : Int32} (hd : decode cL_law pc = .ok (.iand, 1))  (kk : Y sn sx k (pc + 1) L (.int (x &&& y) :: st) D) : Y sn sx k pc L (.int y :: .int x :: st) D := fun p l e s m below meth c ad cA G A b H locs ls C hH hl => lv_iand C.1 C.2.1 hd (kk p l e s m below meth c ad cA G A b H locs ls C hH hl)
theorem y_land {sn : Nat} {sx : Nat → Int32} {k pc : Nat} {L : zLo} {st : List Value} {D : zD} {x y : Int64} (hd : decode cL_law pc = .ok (.land, 1))  (kk : Y sn sx k (pc + 1) L (.long (x &&& y) :: st) D) : Y sn sx k pc L (.long y :: .long x :: st) D := fun p l e s m below meth c ad cA G A b H locs ls C hH hl => lv_land C.1 C.2.1 hd (kk p l e s m below meth c ad cA G A b H locs ls C hH hl)
theorem y_lor {sn : Nat} {sx : Nat → Int32} {k pc : Nat} {L : zLo} {st : List Value} {D : zD} {x y : Int64} (hd : decode cL_law pc = .ok (.lor, 1))  (kk : Y sn sx k (pc + 1) L (.long (x ||| y) :: st) D) : Y sn sx k pc L (.long y :: .long x :: st) D := fun p l e s m below meth c ad cA G A b H locs ls C hH hl => lv_lor C.1 C.2.1 hd (kk p l e s m below meth c ad cA G A b H locs ls C hH hl)
theorem y_i2l {sn : Nat} {sx : Nat → Int32} {k pc : Nat} {L : zLo} {st : List Value} {D : zD} {x : Int32} (hd : decode cL_law pc = .ok (.i2l, 1))  (kk : Y sn sx k (pc + 1) L (.long x.toInt64 :: st) D) : Y sn sx k pc L (.int x :: st) D := fun p l e s m below meth c ad cA G A b H locs ls C hH hl => lv_i2l C.1 C.2.1 hd rfl (kk p l e s m below meth c ad cA G A b H locs ls C hH hl)
theorem y_lshl {sn : Nat} {sx : Nat → Int32} {k pc : Nat} {L : zLo} {st : List Value} {D : zD} {x : Int64} {y : Int32} (hd : decode cL_law pc = .ok (.lshl, 1))  (kk : Y sn sx k (pc + 1) L (.long (x <<< (y.toInt64 &&& 63)) :: st) D) : Y sn sx k pc L (.int y :: .long x :: st) D := fun p l e s m below meth c ad cA G A b H locs ls C hH hl => lv_lshl C.1 C.2.1 hd rfl (kk p l e s m below meth c ad cA G A b H locs ls C hH hl)
theorem y_lcmp {sn : Nat} {sx : Nat → Int32} {k pc : Nat} {L : zLo} {st : List Value} {D : zD} {x y : Int64} (hd : decode cL_law pc = .ok (.lcmp, 1))  (kk : Y sn sx k (pc + 1) L (.int (lg_cmp x y) :: st) D) : Y sn sx k pc L (.long y :: .long x :: st) D := fun p l e s m below meth c ad cA G A b H locs ls C hH hl => W.lcmp C.1 C.2.1 hd (kk p l e s m below meth c ad cA G A b H locs ls C hH hl)
theorem y_iconst {sn : Nat} {sx : Nat → Int32} {k pc : Nat} {L : zLo} {st : List Value} {D : zD} {n : Int} (hd : decode cL_law pc = .ok (.iconst n, 1))  (kk : Y sn sx k (pc + 1) L (.int (Int32.ofInt n) :: st) D) : Y sn sx k pc L (st) D := fun p l e s m below meth c ad cA G A b H locs ls C hH hl => lv_iconst C.1 C.2.1 hd rfl (kk p l e s m below meth c ad cA G A b H locs ls C hH hl)
theorem y_bipush {sn : Nat} {sx : Nat → Int32} {k pc : Nat} {L : zLo} {st : List Value} {D : zD} {n : Int} (hd : decode cL_law pc = .ok (.bipush n, 2))  (kk : Y sn sx k (pc + 2) L (.int (Int8.ofInt n).toInt32 :: st) D) : Y sn sx k pc L (st) D := fun p l e s m below meth c ad cA G A b H locs ls C hH hl => lv_bipush C.1 C.2.1 hd rfl (kk p l e s m below meth c ad cA G A b H locs ls C hH hl)
theorem y_iload {sn : Nat} {sx : Nat → Int32} {k pc : Nat} {L : zLo} {st : List Value} {D : zD} {i : Nat} {x : Int32} (hd : decode cL_law pc = .ok (.iload i, 2)) (hv : L i = some (.int x)) (kk : Y sn sx k (pc + 2) L (.int x :: st) D) : Y sn sx k pc L (st) D := fun p l e s m below meth c ad cA G A b H locs ls C hH hl => lv_iload C.1 C.2.1 hd (hl.2.2 _ _ hv) (kk p l e s m below meth c ad cA G A b H locs ls C hH hl)
theorem y_aload_n {sn : Nat} {sx : Nat → Int32} {k pc : Nat} {L : zLo} {st : List Value} {D : zD} {n : Fin 4} {x : Nat} (hd : decode cL_law pc = .ok (.aload_n n, 1)) (hv : L (n : Nat) = some (.ref x)) (kk : Y sn sx k (pc + 1) L (.ref x :: st) D) : Y sn sx k pc L (st) D := fun p l e s m below meth c ad cA G A b H locs ls C hH hl => lv_aload_n C.1 C.2.1 hd rfl (hl.2.2 _ _ hv) (kk p l e s m below meth c ad cA G A b H locs ls C hH hl)
theorem y_istore {sn : Nat} {sx : Nat → Int32} {k pc : Nat} {L : zLo} {st : List Value} {D : zD} {i : Nat} {x : Int32} (hd : decode cL_law pc = .ok (.istore i, 2)) (hn : i < 7) (kk : Y sn sx k (pc + 2) (zset L i (.int x)) st D) : Y sn sx k pc L (.int x :: st) D := fun p l e s m below meth c ad cA G A b H locs ls C hH hl => lv_istore C.1 C.2.1 hd hl.has hn rfl (fun ls' hl' => kk p l e s m below meth c ad cA G A b H locs ls' C hH (zset_has (v := .int x) hl hl'))
theorem y_iinc {sn : Nat} {sx : Nat → Int32} {k pc : Nat} {L : zLo} {st : List Value} {D : zD} {i : Nat} {n : Int} {x : Int32} (hd : decode cL_law pc = .ok (.iinc i n, 3)) (hv : L i = some (.int x)) (kk : Y sn sx k (pc + 3) (zset L i (.int (x + Int32.ofInt n))) st D) : Y sn sx k pc L st D := fun p l e s m below meth c ad cA G A b H locs ls C hH hl => by
  obtain ⟨j, hj⟩ := List.getElem?_of_mem (zlist_mem.mpr ⟨hl.lt hv, .int x, hv, rfl⟩ : (i, zv ad (.int x)) ∈ zlist ad L (7))
  exact lv_iinc (k := j) C.1 C.2.1 hd hl.has hj rfl (hl.lt hv) rfl (fun ls' hl' => kk p l e s m below meth c ad cA G A b H locs ls' C hH (zset_has (v := .int (x + Int32.ofInt n)) hl hl'))
theorem y_if_eq {sn : Nat} {sx : Nat → Int32} {k pc : Nat} {L : zLo} {st : List Value} {D : zD} {x : Int32} {off : Int} {tgt : Nat} (hd : decode cL_law pc = .ok (.ifCond .eq off, 3)) (ht : (pc : Int) + off = (tgt : Int)) (kt : x = 0 → Y sn sx k tgt L st D) (kf : ¬ x = 0 → Y sn sx k (pc + 3) L st D) : Y sn sx k pc L (.int x :: st) D := fun p l e s m below meth c ad cA G A b H locs ls C hH hl => lv_if_eq C.1 C.2.1 hd ht (fun h => kt h p l e s m below meth c ad cA G A b H locs ls C hH hl) (fun h => kf h p l e s m below meth c ad cA G A b H locs ls C hH hl)
theorem y_icmp_eq {sn : Nat} {sx : Nat → Int32} {k pc : Nat} {L : zLo} {st : List Value} {D : zD} {x y : Int32} {off : Int} {tgt : Nat} (hd : decode cL_law pc = .ok (.if_icmp .eq off, 3)) (ht : (pc : Int) + off = (tgt : Int)) (kt : x = y → Y sn sx k tgt L st D) (kf : ¬ x = y → Y sn sx k (pc + 3) L st D) : Y sn sx k pc L (.int y :: .int x :: st) D := fun p l e s m below meth c ad cA G A b H locs ls C hH hl => lv_icmp_eq C.1 C.2.1 hd ht (fun h => kt h p l e s m below meth c ad cA G A b H locs ls C hH hl) (fun h => kf h p l e s m below meth c ad cA G A b H locs ls C hH hl)
theorem y_if_ne {sn : Nat} {sx : Nat → Int32} {k pc : Nat} {L : zLo} {st : List Value} {D : zD} {x : Int32} {off : Int} {tgt : Nat} (hd : decode cL_law pc = .ok (.ifCond .ne off, 3)) (ht : (pc : Int) + off = (tgt : Int)) (kt : ¬ x = 0 → Y sn sx k tgt L st D) (kf : x = 0 → Y sn sx k (pc + 3) L st D) : Y sn sx k pc L (.int x :: st) D := fun p l e s m below meth c ad cA G A b H locs ls C hH hl => lv_if_ne C.1 C.2.1 hd ht (fun h => kt h p l e s m below meth c ad cA G A b H locs ls C hH hl) (fun h => kf h p l e s m below meth c ad cA G A b H locs ls C hH hl)
theorem y_if_lt {sn : Nat} {sx : Nat → Int32} {k pc : Nat} {L : zLo} {st : List Value} {D : zD} {x : Int32} {off : Int} {tgt : Nat} (hd : decode cL_law pc = .ok (.ifCond .lt off, 3)) (ht : (pc : Int) + off = (tgt : Int)) (kt : x < 0 → Y sn sx k tgt L st D) (kf : ¬ x < 0 → Y sn sx k (pc + 3) L st D) : Y sn sx k pc L (.int x :: st) D := fun p l e s m below meth c ad cA G A b H locs ls C hH hl => lv_if_lt C.1 C.2.1 hd ht (fun h => kt h p l e s m below meth c ad cA G A b H locs ls C hH hl) (fun h => kf h p l e s m below meth c ad cA G A b H locs ls C hH hl)
theorem y_if_ge {sn : Nat} {sx : Nat → Int32} {k pc : Nat} {L : zLo} {st : List Value} {D : zD} {x : Int32} {off : Int} {tgt : Nat} (hd : decode cL_law pc = .ok (.ifCond .ge off, 3)) (ht : (pc : Int) + off = (tgt : Int)) (kt : 0 ≤ x → Y sn sx k tgt L st D) (kf : ¬ 0 ≤ x → Y sn sx k (pc + 3) L st D) : Y sn sx k pc L (.int x :: st) D := fun p l e s m below meth c ad cA G A b H locs ls C hH hl => lv_if_ge C.1 C.2.1 hd ht (fun h => kt h p l e s m below meth c ad cA G A b H locs ls C hH hl) (fun h => kf h p l e s m below meth c ad cA G A b H locs ls C hH hl)
theorem y_if_gt {sn : Nat} {sx : Nat → Int32} {k pc : Nat} {L : zLo} {st : List Value} {D : zD} {x : Int32} {off : Int} {tgt : Nat} (hd : decode cL_law pc = .ok (.ifCond .gt off, 3)) (ht : (pc : Int) + off = (tgt : Int)) (kt : 0 < x → Y sn sx k tgt L st D) (kf : ¬ 0 < x → Y sn sx k (pc + 3) L st D) : Y sn sx k pc L (.int x :: st) D := fun p l e s m below meth c ad cA G A b H locs ls C hH hl => lv_if_gt C.1 C.2.1 hd ht (fun h => kt h p l e s m below meth c ad cA G A b H locs ls C hH hl) (fun h => kf h p l e s m below meth c ad cA G A b H locs ls C hH hl)
theorem y_icmp_gt {sn : Nat} {sx : Nat → Int32} {k pc : Nat} {L : zLo} {st : List Value} {D : zD} {x y : Int32} {off : Int} {tgt : Nat} (hd : decode cL_law pc = .ok (.if_icmp .gt off, 3)) (ht : (pc : Int) + off = (tgt : Int)) (kt : y < x → Y sn sx k tgt L st D) (kf : ¬ y < x → Y sn sx k (pc + 3) L st D) : Y sn sx k pc L (.int y :: .int x :: st) D := fun p l e s m below meth c ad cA G A b H locs ls C hH hl => lv_icmp_gt C.1 C.2.1 hd ht (fun h => kt h p l e s m below meth c ad cA G A b H locs ls C hH hl) (fun h => kf h p l e s m below meth c ad cA G A b H locs ls C hH hl)
theorem y_if_le {sn : Nat} {sx : Nat → Int32} {k pc : Nat} {L : zLo} {st : List Value} {D : zD} {x : Int32} {off : Int} {tgt : Nat} (hd : decode cL_law pc = .ok (.ifCond .le off, 3)) (ht : (pc : Int) + off = (tgt : Int)) (kt : x ≤ 0 → Y sn sx k tgt L st D) (kf : ¬ x ≤ 0 → Y sn sx k (pc + 3) L st D) : Y sn sx k pc L (.int x :: st) D := fun p l e s m below meth c ad cA G A b H locs ls C hH hl => lv_if_le C.1 C.2.1 hd ht (fun h => kt h p l e s m below meth c ad cA G A b H locs ls C hH hl) (fun h => kf h p l e s m below meth c ad cA G A b H locs ls C hH hl)
theorem y_goto {sn : Nat} {sx : Nat → Int32} {k pc : Nat} {L : zLo} {st : List Value} {D : zD} {off : Int} {tgt : Nat} (hd : decode cL_law pc = .ok (.goto off, 3)) (ht : (pc : Int) + off = (tgt : Int)) (kk : Y sn sx k tgt L st D) : Y sn sx k pc L st D := fun p l e s m below meth c ad cA G A b H locs ls C hH hl => lv_goto C.1 C.2.1 hd ht (kk p l e s m below meth c ad cA G A b H locs ls C hH hl)
theorem y_tableIn {sn : Nat} {sx : Nat → Int32} {k pc : Nat} {L : zLo} {st : List Value} {D : zD} {dflt lo hi : Int} {offs : Array Int} {len : Nat} {x : Int32} {off : Int} {tgt : Nat} (hd : decode cL_law pc = .ok (.tableswitch dflt lo hi offs, len)) (h1 : ¬ x.toInt < lo) (h2 : ¬ hi < x.toInt) (ho : offs[(x.toInt - lo).toNat]? = some off) (ht : (pc : Int) + off = (tgt : Int)) (kk : Y sn sx k tgt L st D) : Y sn sx k pc L (.int x :: st) D := fun p l e s m below meth c ad cA G A b H locs ls C hH hl => lv_tableIn C.1 C.2.1 hd h1 h2 ho ht (kk p l e s m below meth c ad cA G A b H locs ls C hH hl)
theorem y_tableOut {sn : Nat} {sx : Nat → Int32} {k pc : Nat} {L : zLo} {st : List Value} {D : zD} {dflt lo hi : Int} {offs : Array Int} {len : Nat} {x : Int32} {tgt : Nat} (hd : decode cL_law pc = .ok (.tableswitch dflt lo hi offs, len)) (h : x.toInt < lo ∨ hi < x.toInt) (ht : (pc : Int) + dflt = (tgt : Int)) (kk : Y sn sx k tgt L st D) : Y sn sx k pc L (.int x :: st) D := fun p l e s m below meth c ad cA G A b H locs ls C hH hl => lv_tableOut C.1 C.2.1 hd h ht (kk p l e s m below meth c ad cA G A b H locs ls C hH hl)
section YROWS
variable {sn : Nat} {sx : Nat → Int32} {k pc : Nat} {L : zLo} {st stk : List Value} {D : zD} {Q' : zQ} {y : MethodName} {I : zI} {d idx n : Nat} {av : List Value}
theorem y_at (q : List (Nat × Value)) (hL : zlall L q) (kk : Y sn sx k pc (zl q) st D) : Y sn sx k pc L st D := by
  intro p l e s m below meth c ad cA G A b H locs ls C hH hl
  exact kk p l e s m below meth c ad cA G A b H locs ls C hH ⟨hl.1, hl.2.1, fun i v hv => hl.2.2 i v (zlall_get hL hv)⟩
theorem y_eI {x : Int32} (y : Int32) (h : x = y) (kk : Y sn sx k pc L (.int y :: st) D) : Y sn sx k pc L (.int x :: st) D := h ▸ kk
theorem y_eJ {x : Int64} (y : Int64) (h : x = y) (kk : Y sn sx k pc L (.long y :: st) D) : Y sn sx k pc L (.long x :: st) D := h ▸ kk
theorem y_ldcL {i : Nat} {v : Int64} (hd : decode cL_law pc = .ok (.ldc2_w i, 3)) (hc : zclx RL i = some v) (kk : Y sn sx k (pc + 3) L (.long v :: st) D) : Y sn sx k pc L st D := by
  intro p l e s m below meth c ad cA G A b H locs ls C hH hl
  exact lv_ldc2 C.1 C.2.1 C.2.2.2.2.2.1 (C.2.2.2.2.2.2.1.1 _ (zclx_ok hc) rfl) hd (kk p l e s m below meth c ad cA G A b H locs ls C hH hl)
theorem y_aJ {a n : Nat} {i : Int32} (hs : zac a = some (1, n)) (hd : decode cL_law pc = .ok (.laload, 1)) (hin : vp_in i n) (kk : Y sn sx k (pc + 1) L (.long (D.2 a i.toNatClampNeg) :: st) D) : Y sn sx k pc L (.int i :: .ref a :: st) D := by
  obtain ⟨r, h⟩ := zac_ok hs
  intro p l e s m below meth c ad cA G A b H locs ls C hH hl
  exact va_lald (D := G) (ws := zws ad cA D) C.1 C.2.1 C.2.2.2.2.2.2.1.2.2.1 hH.1 a 1 (zws_at h) rfl hin hd (kk p l e s m below meth c ad cA G A b H locs ls C hH hl)
theorem y_aI {i : Int32} (hd : decode cL_law pc = .ok (.iaload, 1)) (hin : vp_in i sn) (kk : Y sn sx k (pc + 1) L (.int (sx i.toNatClampNeg) :: st) D) : Y sn sx k pc L (.int i :: .ref 67 :: st) D := by
  intro p l e s m below meth c ad cA G A b H locs ls C hH hl
  obtain ⟨hx, hb, -, -, -, -, -, hX, hbl, hbA, he, -⟩ := id C
  have e9 : (Value.int i :: Value.ref 67 :: st).map (zv ad) = .int i :: .ref b :: st.map (zv ad) := by
    show Value.int i :: Value.ref (ad 67) :: _ = _
    rw [he]
  rw [e9]
  exact va_sld hx hb hX hbl hbA hH.2.2 hin hd (kk p l e s m below meth c ad cA G A b H locs ls C hH hl)
theorem y_slen (hd : decode cL_law pc = .ok (.arraylength, 1)) (kk : Y sn sx k (pc + 1) L (.int (nI sn) :: st) D) : Y sn sx k pc L (.ref 67 :: st) D := by
  intro p l e s m below meth c ad cA G A b H locs ls C hH hl
  obtain ⟨hx, hb, -, -, -, -, -, hX, hbl, hbA, he, -⟩ := id C
  have e9 : (Value.ref 67 :: st).map (zv ad) = .ref b :: st.map (zv ad) := by
    show Value.ref (ad 67) :: _ = _
    rw [he]
  rw [e9]
  exact va_slen hx hb hX hbl hbA hH.2.2 hd (kk p l e s m below meth c ad cA G A b H locs ls C hH hl)
/-- the law's end -/
theorem y_end (hk : k ≤ 1026) (hd : decode cL_law pc = .ok (.ireturn, 1)) : Y sn sx k pc L [.int 1] D := by
  intro p l e s m below meth c ad cA G A b H locs ls C hH hl
  obtain ⟨hx, hb, hr, -, hlocks, -⟩ := id C
  refine va_forget (fun q hq => ?_) ?_
  · exact C.2.2.2.2.2.2.2.2.2.2.2 _ (hH.2.2.2.2 q hq)
  · refine W.widen (k := 601024) (n := 7293034) (by unfold yB1; omega) (by unfold yB2; omega) ?_
    exact lw_ret hx hb hr hlocks hd
theorem ygo {p : Program} {l : Launch} {e : Env} {s : State} {m : MethodId} {below : List Frame} {meth : Method} {c : Code} {ad : Nat → Nat} {cA : Nat → ClassId} {G : va_G} {A : Nat → Prop} {b : Nat} {H : Heap} {locs : List Loc} {ls : Array Slot} {T : State}
    (kr : ∀ v k' D', Q' (.inl v) k' D' → Y sn sx (k + k') (pc + 3) L (v.toList ++ st) D') (kx : ∀ E k' D', ¬ Q' (.inr E) k' D')
    (C : Yc p l s m meth c ad cA G A b sn sx) (hH : zH ad cA G A s D H locs) (hl : zL ad L 7 ls) (hT : T.heap = H) (X : Stand p l e room_1 s m #[Value.ref b] below meth c T locs (yB1 + k) (yB2 + 6 * k)) {g : JFrame} (hg : g = F0 m pc ls (stk.map (zv ad)))
    (h : (∃ (v : Option Value) (vm₁ : Vm) (B : Pt), s.WarmedH vm₁ ∧ Stand p l e room_1 s m #[Value.ref b] below meth c B.U B.locs B.cells B.slots ∧ zBk ad cA G (zA ad H.size) Q' (.returned v) ⟨T.setVm vm₁, locs, yB1 + k, yB2 + 6 * k⟩ B ∧
      ∀ target, Steps p.tables e below (B.U.setTop { g with pc := g.pc + 3, stack := v.toList ++ st.map (zv ad) }) target → Steps p.tables e below (T.setTop g) target) ∨
    (∃ (q : Addr) (vm₁ : Vm) (B : Pt), s.WarmedH vm₁ ∧ Stand p l e room_1 s m #[Value.ref b] below meth c B.U B.locs B.cells B.slots ∧ zBk ad cA G (zA ad H.size) Q' (.threw q) ⟨T.setVm vm₁, locs, yB1 + k, yB2 + 6 * k⟩ B ∧
      Steps p.tables e below (T.setTop g) ((B.U.setTop { g with stack := st.map (zv ad) }).pushFrame (.throwing q)))) :
    ∃ t, Steps p.tables e below (T.setTop g) t ∧ lw_Z below #[Value.ref b] s t := by
  subst hg
  rcases h with ⟨v, vm₁, ⟨U, l2, c2, s2⟩, hW₁, X', ⟨st₀, t, k', D', Lo, h0, hv0, e1, e2, hO, hP, hD, hF, r1, r2, r3, r4⟩, hs⟩ | ⟨q, vm₁, ⟨U, l2, c2, s2⟩, hW₁, X', ⟨st₀, t, k', D', Lo, h0, hv0, e1, e2, hO, hP, hD, hF, r1, r2, r3, r4⟩, hs⟩
  · dsimp only [Pt.U, Pt.locs, Pt.cells, Pt.slots] at X' h0 hv0 e1 e2 r1 r3 r4 hs
    subst r1; subst r3; subst r4
    rcases hO with ⟨v', hv, hq⟩ | ⟨q, E, ce, hv, -⟩
    · cases hv
      have hH' := zafter C.z hH (show st₀.heap = H from h0.trans hT) hP hD hF r2
      have hst : (Option.map (zv ad) v').toList ++ st.map (zv ad) = (v'.toList ++ st).map (zv ad) := by cases v' <;> rfl
      rw [hst] at hs
      obtain ⟨t2, a1, b1⟩ := kr v' k' D' hq p l e s m below meth c ad cA G A b t.heap (locs ++ Lo) ls C hH' hl U e1 (by
        rw [← Nat.add_assoc, Nat.mul_add, ← Nat.add_assoc]
        exact X')
      exact ⟨t2, hs t2 a1, b1⟩
    · cases hv
  · dsimp only [Pt.U, Pt.locs, Pt.cells, Pt.slots] at X' h0 hv0 e1 e2 r1 r3 r4 hs
    rcases hO with ⟨v', hv, -⟩ | ⟨q', E, ce, hv, hc1, hc2, hc3, hq⟩
    · cases hv
    · exact absurd hq (kx E k' D')
/-- behind a call of the law at pc -/
abbrev ycont (sn : Nat) (sx : Nat → Int32) (k pc : Nat) (L : zLo) (st : List Value) : zQ := fun o k' D' => match o with
  | .inl v => Y sn sx (k + k') (pc + 3) L (v.toList ++ st) D'
  | .inr _ => False
theorem y_cV {a ci : Nat} {fl : List Nat} {Tt : u_T} {N : Nat} (hd : decode cL_law pc = .ok (.invokevirtual idx, 3)) (hw : zcall RL idx 0 y I n) (hp : zpop (n + 1) stk [] = some (.ref a :: av, st)) (ha : zSH[a]? = some (5, ci, fl)) (hcl : zcl[ci]? = some (y.cls, Tt, N))
    (hst : (st.map fun v => v.category).sum ≤ 8) (hk : k + 2 ≤ 1026) (hdep : d + 1 ≤ 12) (hM : ZM y I d (.ref a :: av) D (ycont sn sx k pc L st)) : Y sn sx k pc L stk D := by
  have h1 := zpop_eq hp
  have hn : av.length = n := by
    have := h1.2
    simp at this
    omega
  have hstk : stk = av.reverse ++ .ref a :: st := by
    have := h1.1
    simp only [List.reverse_nil, List.nil_append, List.reverse_cons, List.append_assoc] at this
    exact this
  intro p l e s m below meth c ad cA G A b H locs ls C hH hl T hT X
  obtain ⟨hx, hb, -, hml, -, ho, hG, -⟩ := id C
  obtain ⟨w1, w2, w3, w4, w5, w6, w7, -, -⟩ := zcall_spec hw
  obtain ⟨w7, w8, w9⟩ := w7 rfl
  have hK := zback (l := l) (R := room_1) (p := p) (e := e) (below := below) (s := s) (sargs := #[Value.ref b]) (len := 3) (sz := H.size) (ad := ad) (cA := cA) (G := G) hM (by show d + 9 ≤ 2048; omega) (by show 8 + (I.2.2.1 + 11) + (64 * d + 150) ≤ 84000; omega) (fun w hw9 a' U hW => by
    rcases List.mem_cons.mp hw9 with h9 | h9
    · rw [h9]; exact word_at hW (good_of_word w2) (hG.1 _ w1 w2)
    · exact word_at hW (good_of_word (List.mem_filter.mp h9).2) (hG.ts _ h9)) (fun a' U hW => word_at hW (Or.inl rfl) (hG.1 _ w3 rfl))
  obtain ⟨cellB, hcB, hoB, hclB⟩ := va_recv (q := (y.cls, Tt, N)) hG.2.2.1 hH.1 hcl (zws_at ha)
  have hstack : (F0 m pc ls (stk.map (zv ad))).stack = (av.map (zv ad)).reverse ++ .ref (ad a) :: st.map (zv ad) := by
    show stk.map (zv ad) = _
    rw [hstk, List.map_append, List.map_reverse]
    rfl
  have hpre : ∀ vm₁, s.WarmedH vm₁ → zBpre room_1 (zPre l ad cA G H.size (.ref a :: av) D) ⟨T.setVm vm₁, locs, yB1 + k, yB2 + 6 * k⟩ (Value.ref (ad a) :: av.map (zv ad)).toArray := fun vm₁ hW₁ =>
    ⟨by show yB1 + k + 2 ≤ 601024; unfold yB1; omega, by show yB2 + 6 * k + 12 ≤ 7293034; unfold yB2; omega, zpre_of C.z hH (.ref a :: av) (U := T.setVm vm₁) hT hW₁⟩
  have hroom : 2 * (F0 m pc ls (stk.map (zv ad))).monitorRoom + ((st.map (zv ad)).map fun v => v.category).sum ≤ 8 := lv_room (by rw [zcategory_map]; exact hst)
  refine ygo (Q' := ycont sn sx k pc L st) (fun v k' D' h => h) (fun E k' D' h => h) C hH hl hT X rfl ?_
  rcases zcw_cases y I with ⟨-, hcw⟩ | hcw
  · exact vx_callV X hx (C := y.cls) (bytes := I.2.1) (maxL := I.2.2.1) (ret := I.2.2.2.1) ho (hG.1 _ w7 rfl) (hG.1 _ w8 rfl) (hG.1 _ w9 rfl) (by rw [← hcw]; exact hG.1 _ w1 w2) w5 hK (by rw [hT]; exact hcB) hoB hclB rfl (hl.1.trans hml.symm) (argsL := av.map (zv ad)) (rest := st.map (zv ad)) (fun sig h => by rw [List.length_map, hn]; exact w6 sig h) hstack hroom (by rw [hb]; exact hd) hpre
  · exact vx_callVX X hx (C := y.cls) (bytes := I.2.1) (maxL := I.2.2.1) (ret := I.2.2.2.1) (hh := I.2.2.2.2) ho (hG.1 _ w7 rfl) (hG.1 _ w8 rfl) (hG.1 _ w9 rfl) (by rw [← hcw]; exact hG.1 _ w1 w2) w5 hK (by rw [hT]; exact hcB) hoB hclB rfl (hl.1.trans hml.symm) (argsL := av.map (zv ad)) (rest := st.map (zv ad)) (fun sig h => by rw [List.length_map, hn]; exact w6 sig h) hstack hroom (by rw [hb]; exact hd) hpre
theorem y_cS (hd : decode cL_law pc = .ok (.invokestatic idx, 3)) (hw : zcall RL idx 1 y I n) (hp : zpop n stk [] = some (av, st))
    (hst : (st.map fun v => v.category).sum ≤ 8) (hk : k + 2 ≤ 1026) (hdep : d + 1 ≤ 12) (hM : ZM y I d av D (ycont sn sx k pc L st)) : Y sn sx k pc L stk D := by
  have h1 := zpop_eq hp
  have hn : av.length = n := by
    have := h1.2
    simpa using this
  have hstk : stk = av.reverse ++ st := by simpa using h1.1
  intro p l e s m below meth c ad cA G A b H locs ls C hH hl T hT X
  obtain ⟨hx, hb, -, hml, -, ho, hG, -⟩ := id C
  obtain ⟨w1, w2, w3, w4, w5, w6, -, w7, -⟩ := zcall_spec hw
  obtain ⟨w7, w8⟩ := w7 rfl
  have hK := zback (l := l) (R := room_1) (p := p) (e := e) (below := below) (s := s) (sargs := #[Value.ref b]) (len := 3) (sz := H.size) (ad := ad) (cA := cA) (G := G) hM (by show d + 9 ≤ 2048; omega) (by show 8 + (I.2.2.1 + 11) + (64 * d + 150) ≤ 84000; omega) (fun w hw9 a' U hW => by
    rcases List.mem_cons.mp hw9 with h9 | h9
    · rw [h9]; exact word_at hW (good_of_word w2) (hG.1 _ w1 w2)
    · exact word_at hW (good_of_word (List.mem_filter.mp h9).2) (hG.ts _ h9)) (fun a' U hW => word_at hW (Or.inl rfl) (hG.1 _ w3 rfl))
  have hstack : (F0 m pc ls (stk.map (zv ad))).stack = (av.map (zv ad)).reverse ++ st.map (zv ad) := by
    show stk.map (zv ad) = _
    rw [hstk, List.map_append, List.map_reverse]
  have hpre : ∀ vm₁, s.WarmedH vm₁ → zBpre room_1 (zPre l ad cA G H.size av D) ⟨T.setVm vm₁, locs, yB1 + k, yB2 + 6 * k⟩ (av.map (zv ad)).toArray := fun vm₁ hW₁ =>
    ⟨by show yB1 + k + 2 ≤ 601024; unfold yB1; omega, by show yB2 + 6 * k + 12 ≤ 7293034; unfold yB2; omega, zpre_of C.z hH av (U := T.setVm vm₁) hT hW₁⟩
  have hroom : 2 * (F0 m pc ls (stk.map (zv ad))).monitorRoom + ((st.map (zv ad)).map fun v => v.category).sum ≤ 8 := lv_room (by rw [zcategory_map]; exact hst)
  refine ygo (Q' := ycont sn sx k pc L st) (fun v k' D' h => h) (fun E k' D' h => h) C hH hl hT X rfl ?_
  rcases zcw_cases y I with ⟨-, hcw⟩ | hcw
  · exact vx_callS X hx (bytes := I.2.1) (maxL := I.2.2.1) (ret := I.2.2.2.1) ho (hG.1 _ w7 rfl) (hG.1 _ w8 rfl) (hG.1 _ w3 rfl) (by rw [← hcw]; exact hG.1 _ w1 w2) w5 hK rfl (hl.1.trans hml.symm) (argsL := av.map (zv ad)) (rest := st.map (zv ad)) (fun sig h => by rw [List.length_map, hn]; exact w6 sig h) hstack hroom (by rw [hb]; exact hd) hpre
  · exact vx_callSX X hx (bytes := I.2.1) (maxL := I.2.2.1) (ret := I.2.2.2.1) (hh := I.2.2.2.2) ho (hG.1 _ w7 rfl) (hG.1 _ w8 rfl) (hG.1 _ w3 rfl) (by rw [← hcw]; exact hG.1 _ w1 w2) w5 hK rfl (hl.1.trans hml.symm) (argsL := av.map (zv ad)) (rest := st.map (zv ad)) (fun sig h => by rw [List.length_map, hn]; exact w6 sig h) hstack hroom (by rw [hb]; exact hd) hpre
/-- two longs compared, and a jump -/
theorem y_eq {x y : Int64} {off : Int} {tgt : Nat} (d1 : decode cL_law pc = .ok (.lcmp, 1)) (d2 : decode cL_law (pc + 1) = .ok (.ifCond .eq off, 3)) (ht : ((pc + 1 : Nat) : Int) + off = (tgt : Int)) (kt : x = y → Y sn sx k tgt L st D) (kf : ¬ x = y → Y sn sx k (pc + 4) L st D) : Y sn sx k pc L (.long y :: .long x :: st) D :=
  y_lcmp d1 (y_if_eq d2 ht (fun h => kt ((lg_cmp_eq x y).mp h)) (fun h => kf (fun q => h ((lg_cmp_eq x y).mpr q))))
end YROWS
