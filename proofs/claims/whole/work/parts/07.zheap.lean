/-! ===== fields and arrays ===== -/
def zT : List Cond := lw_tbl.filter goodWord
theorem zT_of {w : Cond} (h : w ∈ lw_tbl) (hg : goodWord w = true) : w ∈ zT := List.mem_filter.mpr ⟨h, hg⟩
theorem zG.ts {l : Launch} {ad : Nat → Nat} {cA : Nat → ClassId} {G : va_G} {A : Nat → Prop} {args : Array Value} {s : State} (h : zG l ad cA G A args s) : ∀ w ∈ zT, w.before args s = true := fun w hw => h.1 w (List.mem_filter.mp hw).1 (List.mem_filter.mp hw).2
/-- the word at a place of the tables -/
def lwi (i : Nat) (w : Cond) : Bool := decide (lw_tbl[i]? = some w)
theorem lwi_mem {i : Nat} {w : Cond} (h : lwi i w = true) : w ∈ lw_tbl := List.mem_of_getElem? (of_decide_eq_true h)
def lwis : List Nat → List Cond → Bool
  | _, [] => true
  | i :: is, w :: ws => lwi i w && goodWord w && lwis is ws
  | [], _ :: _ => false
theorem lwis_mem : ∀ {is : List Nat} {ws : List Cond}, lwis is ws = true → ∀ w ∈ ws, w ∈ lw_tbl ∧ goodWord w = true
  | _, [], _, w, hw => by cases hw
  | [], _ :: _, h, _, _ => by cases h
  | i :: is, v :: ws, h, w, hw => by
    simp only [lwis, Bool.and_eq_true] at h
    rcases List.mem_cons.mp hw with rfl | hw
    · exact ⟨lwi_mem h.1.1, h.1.2⟩
    · exact lwis_mem h.2 w hw
def zclsOK (is : List Nat) (q : vw_C) : Bool := lwis is (u_ws q.1 q.2.1 q.2.2)
set_option maxRecDepth 100000 in
theorem zcl_ok0 : zclsOK [227, 229] (RX0, TX0, 2) = true := by decide +kernel
set_option maxRecDepth 100000 in
theorem zcl_ok1 : zclsOK [281, 283, 285, 287, 289, 291, 293] (RX1, TX1, 7) = true := by decide +kernel
set_option maxRecDepth 100000 in
theorem zcl_ok2 : zclsOK [177, 179] (RX2, TX2, 2) = true := by decide +kernel
set_option maxRecDepth 100000 in
theorem zcl_ok3 : zclsOK [152, 154, 156] (RX3, TX3, 3) = true := by decide +kernel
set_option maxRecDepth 100000 in
theorem zcl_ok4 : zclsOK [325, 327, 329, 331, 333, 335, 337, 339, 341, 343, 345] (RX4, TX4, 11) = true := by decide +kernel
set_option maxRecDepth 100000 in
theorem zcl_ok5 : zclsOK [207, 209, 211, 213, 215, 217, 219, 221] (RX5, TX5, 8) = true := by decide +kernel
set_option maxRecDepth 100000 in
theorem zcl_ok6 : zclsOK [128, 130, 132, 134] (RX6, TX6, 4) = true := by decide +kernel
set_option maxRecDepth 100000 in
theorem zcl_ok7 : zclsOK [256, 258, 260, 262, 264, 266, 268] (RX7, TX7, 7) = true := by decide +kernel
set_option maxRecDepth 100000 in
theorem zcl_ok8 : zclsOK [354, 356, 358, 360, 362, 364] (RX8, TX8, 6) = true := by decide +kernel
set_option maxRecDepth 100000 in
theorem zcl_ok9 : zclsOK [1169, 1171, 1173, 1175, 1177, 1179, 1181, 1183, 1185, 1187, 1189, 1191, 1193, 1195, 1197, 1199, 1201, 1203, 1205, 1207, 1209, 1211, 1213, 1215, 1217, 1219, 1221, 1223, 1225, 1227, 1229, 1231, 1233, 1235, 1237, 1239, 1241, 1243, 1245, 1247, 1249, 1251, 1253, 1255] (RX9, TX9, 44) = true := by decide +kernel
theorem zclsOK_in {is : List Nat} {C : String} {T : u_T} {N : Nat} (h : zclsOK is (C, T, N) = true) : ∀ w ∈ u_ws C T N, w ∈ zT := fun w hw => zT_of (lwis_mem h w hw).1 (lwis_mem h w hw).2
/-- what a class's fields keep to -/
def zclsF (C : String) (T : u_T) (N : Nat) : Prop := (∀ w ∈ u_ws C T N, w ∈ zT) ∧ (∃ ty0 : Nat → FieldType, ∀ k, k < N → parseFieldDescriptor (T k).2.2.1 = some (ty0 k)) ∧ ∀ a, a < N → ∀ b, b < N → a ≠ b → (T a).2.1 ≠ (T b).2.1
theorem zcl_F {ci : Nat} {C : String} {T : u_T} {N : Nat} (h : zcl[ci]? = some (C, T, N)) : zclsF C T N := by
  match ci, h with
  | 0, h => cases h; exact ⟨zclsOK_in zcl_ok0, ⟨tyX0, tyX0_ok⟩, nmX0⟩
  | 1, h => cases h; exact ⟨zclsOK_in zcl_ok1, ⟨tyX1, tyX1_ok⟩, nmX1⟩
  | 2, h => cases h; exact ⟨zclsOK_in zcl_ok2, ⟨tyX2, tyX2_ok⟩, nmX2⟩
  | 3, h => cases h; exact ⟨zclsOK_in zcl_ok3, ⟨tyX3, tyX3_ok⟩, nmX3⟩
  | 4, h => cases h; exact ⟨zclsOK_in zcl_ok4, ⟨tyX4, tyX4_ok⟩, nmX4⟩
  | 5, h => cases h; exact ⟨zclsOK_in zcl_ok5, ⟨tyX5, tyX5_ok⟩, nmX5⟩
  | 6, h => cases h; exact ⟨zclsOK_in zcl_ok6, ⟨tyX6, tyX6_ok⟩, nmX6⟩
  | 7, h => cases h; exact ⟨zclsOK_in zcl_ok7, ⟨tyX7, tyX7_ok⟩, nmX7⟩
  | 8, h => cases h; exact ⟨zclsOK_in zcl_ok8, ⟨tyX8, tyX8_ok⟩, nmX8⟩
  | 9, h => cases h; exact ⟨zclsOK_in zcl_ok9, ⟨tyX9, tyX9_ok⟩, nmX9⟩
  | k + 10, h => simp at h
/-- the pool's entry idx of class own is field f of class ci -/
def zfk (own : String) (idx ci f : Nat) : Prop := ∃ (C : String) (T : u_T) (N : Nat), zcl[ci]? = some (C, T, N) ∧ f < N ∧ Cond.fieldLink own idx (T f).1 (T f).2.1 (T f).2.2.1 ∈ lw_tbl
/-- .. which isn't final, and of this type -/
def zfp (own : String) (idx ci f : Nat) (ty : FieldType) : Prop := ∃ (C : String) (T : u_T) (N : Nat), zcl[ci]? = some (C, T, N) ∧ f < N ∧ Cond.fieldLink own idx (T f).1 (T f).2.1 (T f).2.2.1 ∈ lw_tbl ∧ (T f).2.2.2 = false ∧ parseFieldDescriptor (T f).2.2.1 = some ty
theorem zfk_spec {own : String} {idx ci f : Nat} (h : zfk own idx ci f) : ∃ (C : String) (T : u_T) (N : Nat), zcl[ci]? = some (C, T, N) ∧ f < N ∧ Cond.fieldLink own idx (T f).1 (T f).2.1 (T f).2.2.1 ∈ lw_tbl := h
theorem zfp_spec {own : String} {idx ci f : Nat} {ty : FieldType} (h : zfp own idx ci f ty) : ∃ (C : String) (T : u_T) (N : Nat), zcl[ci]? = some (C, T, N) ∧ f < N ∧ Cond.fieldLink own idx (T f).1 (T f).2.1 (T f).2.2.1 ∈ lw_tbl ∧ (T f).2.2.2 = false ∧ parseFieldDescriptor (T f).2.2.1 = some ty := h
def zfchk (i : Nat) (own : String) (idx ci f t : Nat) : Bool := match zcl[ci]? with
  | some q => decide (f < q.2.2) && lwi i (Cond.fieldLink own idx (q.2.1 f).1 (q.2.1 f).2.1 (q.2.1 f).2.2.1) && (match t with
    | 0 => !(q.2.1 f).2.2.2 && decide (parseFieldDescriptor (q.2.1 f).2.2.1 = some .int)
    | 1 => !(q.2.1 f).2.2.2 && decide (parseFieldDescriptor (q.2.1 f).2.2.1 = some .long)
    | _ => true)
  | none => false
theorem zfchk_spec {i : Nat} {own : String} {idx ci f t : Nat} (h : zfchk i own idx ci f t = true) : zfk own idx ci f ∧ (t = 0 → zfp own idx ci f .int) ∧ (t = 1 → zfp own idx ci f .long) := by
  unfold zfchk at h
  cases hc : zcl[ci]? with
  | none => rw [hc] at h; cases h
  | some q =>
    rw [hc] at h
    obtain ⟨C, T, N⟩ := q
    simp only [Bool.and_eq_true, decide_eq_true_eq] at h
    obtain ⟨⟨h1, h2⟩, h3⟩ := h
    refine ⟨⟨C, T, N, hc, h1, lwi_mem h2⟩, fun ht => ?_, fun ht => ?_⟩
    · subst ht
      simp only [Bool.and_eq_true, decide_eq_true_eq, Bool.not_eq_true'] at h3
      exact ⟨C, T, N, hc, h1, lwi_mem h2, h3.1, h3.2⟩
    · subst ht
      simp only [Bool.and_eq_true, decide_eq_true_eq, Bool.not_eq_true'] at h3
      exact ⟨C, T, N, hc, h1, lwi_mem h2, h3.1, h3.2⟩
theorem zuI_s (D : zD) (a k : Nat) (v : Int32) : (zuI D a k v).1 a = upd (D.1 a) k v := if_pos rfl
theorem zuL_s (D : zD) (a k : Nat) (v : Int64) : (zuL D a k v).2 a = vp_updL (D.2 a) k v := if_pos rfl
theorem zuR_s (D : zD) (a : Nat) (f : Nat → Int32) : (zuR D a f).1 a = f := if_pos rfl
theorem zuM_s (D : zD) (a : Nat) (f : Nat → Int64) : (zuM D a f).2 a = f := if_pos rfl
section ZHEAP
variable {M : zM} {k pc : Nat} {L : zLo} {st : List Value} {D : zD} {Q : zQ}
theorem z_get {a ci f idx c : Nat} {fl : List Nat} {v : Value} (hf : zfk (zown M) idx ci f) (hs : zSH[a]? = some (5, ci, fl)) (hk : fl[f]? = some c) (hv : ∀ ad, zfv ad D a f c = zv ad v) (hd : decode (zcc M) pc = .ok (.getfield idx, 3)) (kk : Z M k (pc + 3) L (v :: st) D Q) : Z M k pc L (.ref a :: st) D Q := by
  intro p l e R s m args below meth c ad cA G A H locs ls C hH hl
  obtain ⟨hx, hb, -, -, -, -, ho, -, hG⟩ := id C
  obtain ⟨Cn, T, N, h1, h2, h3⟩ := zfk_spec hf
  refine va_get (D := G) (ws := zws ad cA D) (Ts := zT) hx hb hG.ts (zcl_F h1).1 ho hG.2.2.1 hH.1 a (zws_at hs) h1 f h2 (hG.1 _ h3 rfl) (fun _ h => h) (v := zv ad v) ?_ hd (kk p l e R s m args below meth c ad cA G A H locs ls C hH hl)
  show (fl.mapIdx (fun k c => zfv ad D a k c))[f]? = _
  rw [List.getElem?_mapIdx, hk, ← hv ad]
  rfl
theorem z_getI {a ci f idx : Nat} {fl : List Nat} (hf : zfk (zown M) idx ci f) (hs : zSH[a]? = some (5, ci, fl)) (hk : fl[f]? = some 0) (hd : decode (zcc M) pc = .ok (.getfield idx, 3)) (kk : Z M k (pc + 3) L (.int (D.1 a f) :: st) D Q) : Z M k pc L (.ref a :: st) D Q := z_get hf hs hk (fun _ => rfl) hd kk
theorem z_getL {a ci f idx : Nat} {fl : List Nat} (hf : zfk (zown M) idx ci f) (hs : zSH[a]? = some (5, ci, fl)) (hk : fl[f]? = some 1) (hd : decode (zcc M) pc = .ok (.getfield idx, 3)) (kk : Z M k (pc + 3) L (.long (D.2 a f) :: st) D Q) : Z M k pc L (.ref a :: st) D Q := z_get hf hs hk (fun _ => rfl) hd kk
theorem z_getA {a ci f idx r : Nat} {fl : List Nat} (hf : zfk (zown M) idx ci f) (hs : zSH[a]? = some (5, ci, fl)) (hk : fl[f]? = some (r + 2)) (hd : decode (zcc M) pc = .ok (.getfield idx, 3)) (kk : Z M k (pc + 3) L (.ref r :: st) D Q) : Z M k pc L (.ref a :: st) D Q := z_get hf hs hk (fun _ => rfl) hd kk
theorem z_putI {a ci f idx : Nat} {fl : List Nat} {x : Int32} (hf : zfp (zown M) idx ci f .int) (hs : zSH[a]? = some (5, ci, fl)) (hk : fl[f]? = some 0) (hd : decode (zcc M) pc = .ok (.putfield idx, 3)) (kk : Z M k (pc + 3) L st (zuI D a f x) Q) : Z M k pc L (.int x :: .ref a :: st) D Q := by
  intro p l e R s m args below meth c ad cA G A H locs ls C hH hl
  obtain ⟨hx, hb, -, -, -, -, ho, -, hG⟩ := id C
  obtain ⟨Cn, T, N, h1, h2, h3, h4, h5⟩ := zfp_spec hf
  obtain ⟨w1, ⟨ty0, w2⟩, w3⟩ := zcl_F h1
  refine va_put (D := G) (ws := zws ad cA D) (Ts := zT) (v := .int x) (ty := .int) hx hb hG.ts w1 ty0 w2 w3 ho hG.2.2.1 hH.1 hH.2.1 hH.2.2 a (zws_at hs) h1 f h2 (hG.1 _ h3 rfl) (fun _ h => h) h4 h5 rfl rfl (by show f < (fl.mapIdx _).length; rw [List.length_mapIdx]; exact (List.getElem?_eq_some_iff.mp hk).1) hd (fun H1 locs1 g1 g2 g3 => ?_)
  have e1 := zws_uI (ad := ad) (cA := cA) (D := D) (v := x) hs hk
  refine kk p l e R s m args below meth c ad cA G A H1 locs1 ls C ⟨?_, ?_, g3⟩ hl
  · rw [← e1]; exact g1
  · rw [← e1]; exact g2
theorem z_putL {a ci f idx : Nat} {fl : List Nat} {x : Int64} (hf : zfp (zown M) idx ci f .long) (hs : zSH[a]? = some (5, ci, fl)) (hk : fl[f]? = some 1) (hd : decode (zcc M) pc = .ok (.putfield idx, 3)) (kk : Z M k (pc + 3) L st (zuL D a f x) Q) : Z M k pc L (.long x :: .ref a :: st) D Q := by
  intro p l e R s m args below meth c ad cA G A H locs ls C hH hl
  obtain ⟨hx, hb, -, -, -, -, ho, -, hG⟩ := id C
  obtain ⟨Cn, T, N, h1, h2, h3, h4, h5⟩ := zfp_spec hf
  obtain ⟨w1, ⟨ty0, w2⟩, w3⟩ := zcl_F h1
  refine va_put (D := G) (ws := zws ad cA D) (Ts := zT) (v := .long x) (ty := .long) hx hb hG.ts w1 ty0 w2 w3 ho hG.2.2.1 hH.1 hH.2.1 hH.2.2 a (zws_at hs) h1 f h2 (hG.1 _ h3 rfl) (fun _ h => h) h4 h5 rfl rfl (by show f < (fl.mapIdx _).length; rw [List.length_mapIdx]; exact (List.getElem?_eq_some_iff.mp hk).1) hd (fun H1 locs1 g1 g2 g3 => ?_)
  have e1 := zws_uL (ad := ad) (cA := cA) (D := D) (v := x) hs hk
  refine kk p l e R s m args below meth c ad cA G A H1 locs1 ls C ⟨?_, ?_, g3⟩ hl
  · rw [← e1]; exact g1
  · rw [← e1]; exact g2
theorem z_iald {a n : Nat} {r : List Nat} {i : Int32} (hs : zSH[a]? = some (0, n, r)) (hd : decode (zcc M) pc = .ok (.iaload, 1)) (hin : vp_in i n) (kk : Z M k (pc + 1) L (.int (D.1 a i.toNatClampNeg) :: st) D Q) : Z M k pc L (.int i :: .ref a :: st) D Q := by
  intro p l e R s m args below meth c ad cA G A H locs ls C hH hl
  exact va_iald (D := G) (ws := zws ad cA D) C.1 C.2.1 C.2.2.2.2.2.2.2.2.2.2.1 hH.1 a 0 (zws_at hs) rfl hin hd (kk p l e R s m args below meth c ad cA G A H locs ls C hH hl)
theorem z_bald {a n : Nat} {r : List Nat} {i : Int32} (hs : zSH[a]? = some (2, n, r)) (hd : decode (zcc M) pc = .ok (.baload, 1)) (hin : vp_in i n) (kk : Z M k (pc + 1) L (.int (D.1 a i.toNatClampNeg) :: st) D Q) : Z M k pc L (.int i :: .ref a :: st) D Q := by
  intro p l e R s m args below meth c ad cA G A H locs ls C hH hl
  exact va_bald (D := G) (ws := zws ad cA D) C.1 C.2.1 C.2.2.2.2.2.2.2.2.2.2.1 hH.1 a 2 (zws_at hs) rfl hin hd (kk p l e R s m args below meth c ad cA G A H locs ls C hH hl)
theorem z_lald {a n : Nat} {r : List Nat} {i : Int32} (hs : zSH[a]? = some (1, n, r)) (hd : decode (zcc M) pc = .ok (.laload, 1)) (hin : vp_in i n) (kk : Z M k (pc + 1) L (.long (D.2 a i.toNatClampNeg) :: st) D Q) : Z M k pc L (.int i :: .ref a :: st) D Q := by
  intro p l e R s m args below meth c ad cA G A H locs ls C hH hl
  exact va_lald (D := G) (ws := zws ad cA D) C.1 C.2.1 C.2.2.2.2.2.2.2.2.2.2.1 hH.1 a 1 (zws_at hs) rfl hin hd (kk p l e R s m args below meth c ad cA G A H locs ls C hH hl)
theorem z_iast {a n : Nat} {r : List Nat} {i x : Int32} (hs : zSH[a]? = some (0, n, r)) (hd : decode (zcc M) pc = .ok (.iastore, 1)) (hin : vp_in i n) (kk : Z M k (pc + 1) L st (zuI D a i.toNatClampNeg x) Q) : Z M k pc L (.int x :: .int i :: .ref a :: st) D Q := by
  intro p l e R s m args below meth c ad cA G A H locs ls C hH hl
  refine va_iast (D := G) (ws := zws ad cA D) C.1 C.2.1 C.2.2.2.2.2.2.2.2.2.2.1 hH.1 hH.2.1 hH.2.2 a 0 (zws_at hs) rfl hin hd (fun H1 locs1 g1 g2 g3 => ?_)
  have e1 := zws_set (ad := ad) (cA := cA) (D := D) (D' := zuI D a i.toNatClampNeg x) (e := .inl (cA 0, n, .inl (upd (D.1 a) i.toNatClampNeg x))) hs (by show (Sum.inl (cA 0, n, Sum.inl ((zuI D a i.toNatClampNeg x).1 a)) : va_E) = _; rw [zuI_s]) (fun b hb => if_neg hb) (fun _ _ => rfl)
  refine kk p l e R s m args below meth c ad cA G A H1 locs1 ls C ⟨?_, ?_, g3⟩ hl
  · rw [← e1]; exact g1
  · rw [← e1]; exact g2
theorem z_bast {a n : Nat} {r : List Nat} {i x : Int32} (hs : zSH[a]? = some (2, n, r)) (hd : decode (zcc M) pc = .ok (.bastore, 1)) (hin : vp_in i n) (kk : Z M k (pc + 1) L st (zuI D a i.toNatClampNeg x.toInt8.toInt32) Q) : Z M k pc L (.int x :: .int i :: .ref a :: st) D Q := by
  intro p l e R s m args below meth c ad cA G A H locs ls C hH hl
  refine va_bast (D := G) (ws := zws ad cA D) C.1 C.2.1 C.2.2.2.2.2.2.2.2.2.2.1 hH.1 hH.2.1 hH.2.2 a 2 (zws_at hs) rfl hin hd (fun H1 locs1 g1 g2 g3 => ?_)
  rw [vp_nar_byte] at g1 g2
  have e1 := zws_set (ad := ad) (cA := cA) (D := D) (D' := zuI D a i.toNatClampNeg x.toInt8.toInt32) (e := .inl (cA 2, n, .inl (upd (D.1 a) i.toNatClampNeg x.toInt8.toInt32))) hs (by show (Sum.inl (cA 2, n, Sum.inl ((zuI D a i.toNatClampNeg x.toInt8.toInt32).1 a)) : va_E) = _; rw [zuI_s]) (fun b hb => if_neg hb) (fun _ _ => rfl)
  refine kk p l e R s m args below meth c ad cA G A H1 locs1 ls C ⟨?_, ?_, g3⟩ hl
  · rw [← e1]; exact g1
  · rw [← e1]; exact g2
theorem z_last {a n : Nat} {r : List Nat} {i : Int32} {x : Int64} (hs : zSH[a]? = some (1, n, r)) (hd : decode (zcc M) pc = .ok (.lastore, 1)) (hin : vp_in i n) (kk : Z M k (pc + 1) L st (zuL D a i.toNatClampNeg x) Q) : Z M k pc L (.long x :: .int i :: .ref a :: st) D Q := by
  intro p l e R s m args below meth c ad cA G A H locs ls C hH hl
  refine va_last (D := G) (ws := zws ad cA D) C.1 C.2.1 C.2.2.2.2.2.2.2.2.2.2.1 hH.1 hH.2.1 hH.2.2 a 1 (zws_at hs) rfl hin hd (fun H1 locs1 g1 g2 g3 => ?_)
  have e1 := zws_set (ad := ad) (cA := cA) (D := D) (D' := zuL D a i.toNatClampNeg x) (e := .inl (cA 1, n, .inr (.inl (vp_updL (D.2 a) i.toNatClampNeg x)))) hs (by show (Sum.inl (cA 1, n, Sum.inr (Sum.inl ((zuL D a i.toNatClampNeg x).2 a))) : va_E) = _; rw [zuL_s]) (fun _ _ => rfl) (fun b hb => if_neg hb)
  refine kk p l e R s m args below meth c ad cA G A H1 locs1 ls C ⟨?_, ?_, g3⟩ hl
  · rw [← e1]; exact g1
  · rw [← e1]; exact g2
theorem z_alen {a n : Nat} {r : List Nat} {v : Int32} (hs : zSH[a]? = some (0, n, r)) (hd : decode (zcc M) pc = .ok (.arraylength, 1)) (hv : Int32.ofNat n = v) (kk : Z M k (pc + 1) L (.int v :: st) D Q) : Z M k pc L (.ref a :: st) D Q := by
  intro p l e R s m args below meth c ad cA G A H locs ls C hH hl
  exact va_alen (D := G) (ws := zws ad cA D) C.1 C.2.1 C.2.2.2.2.2.2.2.2.2.2.1 hH.1 a 0 (zws_at hs) (ty := .int) rfl hv hd (kk p l e R s m args below meth c ad cA G A H locs ls C hH hl)
theorem z_aald {a n j r : Nat} {rs : List Nat} {i : Int32} (hs : zSH[a]? = some (3, n, rs)) (hd : decode (zcc M) pc = .ok (.aaload, 1)) (hin : vp_in i n) (hj : i.toNatClampNeg = j) (hr : rs[j]? = some r) (kk : Z M k (pc + 1) L (.ref r :: st) D Q) : Z M k pc L (.int i :: .ref a :: st) D Q := by
  intro p l e R s m args below meth c ad cA G A H locs ls C hH hl
  have hlt : i.toNatClampNeg < n := Nat.not_le.mp fun q => hin (Or.inr q)
  have hcell : H[ad a]? = some (vp_cell (cA 3) (n, .inr (.inr (.inr (.inr (fun i => (rs[i]?).map ad)))))) := hH.1 a _ (zws_at hs)
  refine W.aald (v := .ref (ad r)) (ty := .array .int) C.1 C.2.1 hcell ((C.2.2.2.2.2.2.2.2.2.2.1.2 3 _ rfl).1 n (fun j => va_rf ((rs[j]?).map ad))) rfl (fun q => by cases q) (by show ¬ (i < 0 ∨ (arrV _ _ _).slots.size ≤ _); rw [arrV_size]; exact hin) (by show (arrV _ _ _).slots[_]? = _; rw [arrV_read _ _ hlt, hj]; show some (va_rf ((rs[j]?).map ad)) = _; rw [hr]; rfl) rfl rfl hd (kk p l e R s m args below meth c ad cA G A H locs ls C hH hl)
theorem z_oald {a n j r : Nat} {rs : List Nat} {i : Int32} (hs : zSH[a]? = some (4, n, rs)) (hd : decode (zcc M) pc = .ok (.aaload, 1)) (hin : vp_in i n) (hj : i.toNatClampNeg = j) (hr : rs[j]? = some r) (kk : Z M k (pc + 1) L (.ref r :: st) D Q) : Z M k pc L (.int i :: .ref a :: st) D Q := by
  intro p l e R s m args below meth c ad cA G A H locs ls C hH hl
  have hlt : i.toNatClampNeg < n := Nat.not_le.mp fun q => hin (Or.inr q)
  have hcell : H[ad a]? = some (vp_cell (cA 4) (n, .inr (.inr (.inr (.inr (fun i => (rs[i]?).map ad)))))) := hH.1 a _ (zws_at hs)
  refine W.aald (v := .ref (ad r)) (ty := .object "SoundPacker$Subframe") C.1 C.2.1 hcell ((C.2.2.2.2.2.2.2.2.2.2.1.2 4 _ rfl).1 n (fun j => va_rf ((rs[j]?).map ad))) rfl (fun q => by cases q) (by show ¬ (i < 0 ∨ (arrV _ _ _).slots.size ≤ _); rw [arrV_size]; exact hin) (by show (arrV _ _ _).slots[_]? = _; rw [arrV_read _ _ hlt, hj]; show some (va_rf ((rs[j]?).map ad)) = _; rw [hr]; rfl) rfl rfl hd (kk p l e R s m args below meth c ad cA G A H locs ls C hH hl)
theorem z_gets {idx : Nat} (hf : Cond.fieldLink (zown M) idx RX3 "FIXED_COEFFICIENTS" "[I" ∈ lw_tbl) (hd : decode (zcc M) pc = .ok (.getstatic idx, 3)) (kk : Z M k (pc + 3) L (.ref 66 :: st) D Q) : Z M k pc L st D Q := by
  intro p l e R s m args below meth c ad cA G A H locs ls C hH hl
  obtain ⟨hx, hb, -, -, -, -, ho, -, hG⟩ := id C
  exact va_gets hx hb hG.2.2.2.1.2.2.2.2.2.2.1 hH.2.2 ho (hG.1 _ hf rfl) (fun _ h => h) hd (kk p l e R s m args below meth c ad cA G A H locs ls C hH hl)
theorem z_ifix {i : Int32} (hd : decode (zcc M) pc = .ok (.iaload, 1)) (hin : vp_in i 10) (kk : Z M k (pc + 1) L (.int (([1, 2, -1, 3, -3, 1, 4, -6, 4, -1] : List Int32).getD i.toNatClampNeg 0) :: st) D Q) : Z M k pc L (.int i :: .ref 66 :: st) D Q := by
  intro p l e R s m args below meth c ad cA G A H locs ls C hH hl
  obtain ⟨hx, hb, -, -, -, -, ho, -, hG⟩ := id C
  exact va_ti hx hb hG.2.2.2.1.2.2.2.2.2.2.2 hH.2.2 hin rfl hd (kk p l e R s m args below meth c ad cA G A H locs ls C hH hl)
end ZHEAP
