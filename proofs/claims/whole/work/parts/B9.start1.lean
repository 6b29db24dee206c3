/-! ===== what the law's start gives ===== -/
theorem sO {p : Program} {s : State} {m : MethodId} {meth : Method} {c : Code} {b L : Nat} {xs : Nat → Int32} (C0 : lw_At p s m meth c b L xs) :
    ∃ t : Nat, ∀ ad : Nat → Nat, ad 66 = t → zO (fun q => s.heap.size ≤ q) ad s s.heap := by
  obtain ⟨-, -, -, -, -, hts, -, -, -, hgv⟩ := C0
  have hs := flat_of_before _ hgv
  have hA : ∀ a : Nat, a < s.heap.size → ¬ (fun q => s.heap.size ≤ q) a := fun a h => Nat.not_le.mpr h
  have wl : ∀ {i : Nat} {w : Cond}, lwi i w = true → w.before #[Value.ref b] s = true := fun h => hts _ (lwi_mem h)
  have n1 : (Cond.isRef (.static "java/lang/Throwable" "UNASSIGNED_STACK" "[Ljava/lang/StackTraceElement;")).before #[Value.ref b] s = true := hs _ (by decide +kernel)
  have n2 : (Cond.isRef (.static "java/lang/Throwable" "SUPPRESSED_SENTINEL" "Ljava/util/List;")).before #[Value.ref b] s = true := hs _ (by decide +kernel)
  have n3 : (Cond.not (.castable zISE zIAE)).before #[Value.ref b] s = true := hs _ (by decide +kernel)
  have a0 : (Cond.arrayOf (.static RX3 "FIXED_COEFFICIENTS" "[I") .int).before #[Value.ref b] s = true := hs _ (by decide +kernel)
  have a1 : (Cond.eq (.length (.static RX3 "FIXED_COEFFICIENTS" "[I")) (.int 10)).before #[Value.ref b] s = true := hs _ (by decide +kernel)
  have e0 : (Cond.eq (.elem (.static RX3 "FIXED_COEFFICIENTS" "[I") (.int 0)) (.int 1)).before #[Value.ref b] s = true := hs _ (by decide +kernel)
  have e1 : (Cond.eq (.elem (.static RX3 "FIXED_COEFFICIENTS" "[I") (.int 1)) (.int 2)).before #[Value.ref b] s = true := hs _ (by decide +kernel)
  have e2 : (Cond.eq (.elem (.static RX3 "FIXED_COEFFICIENTS" "[I") (.int 2)) (.int (-1))).before #[Value.ref b] s = true := hs _ (by decide +kernel)
  have e3 : (Cond.eq (.elem (.static RX3 "FIXED_COEFFICIENTS" "[I") (.int 3)) (.int 3)).before #[Value.ref b] s = true := hs _ (by decide +kernel)
  have e4 : (Cond.eq (.elem (.static RX3 "FIXED_COEFFICIENTS" "[I") (.int 4)) (.int (-3))).before #[Value.ref b] s = true := hs _ (by decide +kernel)
  have e5 : (Cond.eq (.elem (.static RX3 "FIXED_COEFFICIENTS" "[I") (.int 5)) (.int 1)).before #[Value.ref b] s = true := hs _ (by decide +kernel)
  have e6 : (Cond.eq (.elem (.static RX3 "FIXED_COEFFICIENTS" "[I") (.int 6)) (.int 4)).before #[Value.ref b] s = true := hs _ (by decide +kernel)
  have e7 : (Cond.eq (.elem (.static RX3 "FIXED_COEFFICIENTS" "[I") (.int 7)) (.int (-6))).before #[Value.ref b] s = true := hs _ (by decide +kernel)
  have e8 : (Cond.eq (.elem (.static RX3 "FIXED_COEFFICIENTS" "[I") (.int 8)) (.int 4)).before #[Value.ref b] s = true := hs _ (by decide +kernel)
  have e9 : (Cond.eq (.elem (.static RX3 "FIXED_COEFFICIENTS" "[I") (.int 9)) (.int (-1))).before #[Value.ref b] s = true := hs _ (by decide +kernel)
  obtain ⟨t, ht, hT⟩ := va_Tof (N := 10) (f := zfix) (A := fun q => s.heap.size ≤ q) (by decide) a0 (va_eqt a1) (fun j hj => by
    match j, hj with
    | 0, _ => exact va_eqt e0
    | 1, _ => exact va_eqt e1
    | 2, _ => exact va_eqt e2
    | 3, _ => exact va_eqt e3
    | 4, _ => exact va_eqt e4
    | 5, _ => exact va_eqt e5
    | 6, _ => exact va_eqt e6
    | 7, _ => exact va_eqt e7
    | 8, _ => exact va_eqt e8
    | 9, _ => exact va_eqt e9
    | j + 10, h => exact absurd h (by omega)) hA
  refine ⟨t, fun ad had => ⟨vx_Zqof (wl (i := 451) (by decide +kernel)) (wl (i := 81) (by decide +kernel)) n1 hA, vx_Zqof (wl (i := 453) (by decide +kernel)) (wl (i := 81) (by decide +kernel)) n2 hA, va_Nw.of rfl (wl (i := 426) (by decide +kernel)), va_Nw.of rfl (wl (i := 512) (by decide +kernel)), va_Nc.of n3, fun w hw => va_Nw.of (znk_tab (List.mem_filter.mp hw).2) (hts _ (List.mem_filter.mp hw).1), ?_, ?_⟩⟩
  · rw [had]
    exact va_Zof (wl (i := 857) (by decide +kernel)) (wl (i := 73) (by decide +kernel)) ht hA
  · rw [had]
    exact hT
/-- the classes, the arrays' classes -/
theorem sK {p : Program} {s : State} {m : MethodId} {meth : Method} {c : Code} {b L : Nat} {xs : Nat → Int32} (C0 : lw_At p s m meth c b L xs) :
    ∃ (G : va_G) (cA : Nat → ClassId), va_K G zcl (ztys cA) s ∧ nAO cA s := by
  obtain ⟨-, -, -, -, -, hts, -, -, -, -⟩ := C0
  have hzT : ∀ w ∈ zT, w.before #[Value.ref b] s = true := fun w hw => hts w (List.mem_filter.mp hw).1
  have wl : ∀ {i : Nat} {w : Cond}, lwi i w = true → w.before #[Value.ref b] s = true := fun h => hts _ (lwi_mem h)
  have hk : ∀ ci : Nat, ∃ (cC : ClassId) (iS : Nat → Nat), ∀ q : vw_C, zcl[ci]? = some q → u_Kn s q.1 q.2.1 q.2.2 cC iS := fun ci => by
    cases hq : zcl[ci]? with
    | none => exact ⟨0, fun _ => 0, fun q h => by cases h⟩
    | some q =>
      obtain ⟨C, T, n⟩ := q
      have hi : (Cond.instantiable C n).before #[Value.ref b] s = true := by
        match ci, hq with
        | 0, h => cases h; exact wl (i := 184) (by decide +kernel)
        | 1, h => cases h; exact wl (i := 161) (by decide +kernel)
        | 2, h => cases h; exact wl (i := 167) (by decide +kernel)
        | 3, h => cases h; exact wl (i := 138) (by decide +kernel)
        | 4, h => cases h; exact wl (i := 297) (by decide +kernel)
        | 5, h => cases h; exact wl (i := 192) (by decide +kernel)
        | 6, h => cases h; exact wl (i := 106) (by decide +kernel)
        | 7, h => cases h; exact wl (i := 234) (by decide +kernel)
        | 8, h => cases h; exact wl (i := 98) (by decide +kernel)
        | 9, h => cases h; exact wl (i := 1119) (by decide +kernel)
        | k + 10, h => simp at h
      obtain ⟨cC, iS, h⟩ := u_known (T := T) (N := n) hzT (zcl_F hq).1 hi
      exact ⟨cC, iS, fun q h9 => by cases h9; exact h⟩
  obtain ⟨c0, k0, d0, f0, g0, h0⟩ := Cond.arrayClass_spec (wl (i := 159) (w := .arrayClass .int) (by decide +kernel))
  obtain ⟨c1, k1, d1, f1, g1, h1⟩ := Cond.arrayClass_spec (wl (i := 224) (w := .arrayClass .long) (by decide +kernel))
  obtain ⟨c2, k2, d2, f2, g2, h2⟩ := Cond.arrayClass_spec (wl (i := 182) (w := .arrayClass .byte) (by decide +kernel))
  have h4 : (Cond.arrayOver (.object "SoundPacker$Subframe")).before #[Value.ref b] s = true := wl (i := 233) (by decide +kernel)
  obtain ⟨d4, c4, k4, f4, _, g4, e4, n4⟩ := Cond.arrayOver_spec h4
  have h3 : (Cond.arrayOver (.array .int)).before #[Value.ref b] s = true := wl (i := 305) (by decide +kernel)
  obtain ⟨c3, k3, g3, e3, n3⟩ : ∃ (c3 : ClassId) (k3 : Class), s.vm.classes[c3]? = some k3 ∧ k3.kind = .array c0 (.array .int) ∧ s.vm.findClass ("[" ++ (FieldType.array .int).toString) = some c3 := by
    have f0' : s.vm.findClass (FieldType.array .int).toString = some c0 := f0
    unfold Cond.before Cond.holds at h3
    simp only [Cond.value, beq_iff_eq, f0', Option.bind_some, Option.bind_eq_some_iff, Option.map_eq_some_iff] at h3
    obtain ⟨c, hi, k, hk, hb⟩ := h3
    obtain ⟨hlt, hp, -⟩ := Array.findIdx?_eq_some_iff_getElem.mp hi
    have hkk : s.vm.classes[c] = k := (Array.getElem?_eq_some_iff.mp hk).2
    rw [hkk] at hp
    cases hkind : k.kind with
    | array component ty =>
      rw [hkind] at hb hp
      simp at hb hp
      exact ⟨c, k, hk, by rw [hkind, hp, hb.1], hb.2⟩
    | _ => rw [hkind] at hb; simp at hb
  refine ⟨(fun ci => (hk ci).choose, fun ci => (hk ci).choose_spec.choose), fun t => match t with | 0 => c0 | 1 => c1 | 2 => c2 | 3 => c3 | _ => c4, ⟨fun ci q h => (hk ci).choose_spec.choose_spec q h, fun t q h => ?_⟩, va_AO.of h4, k3, g3, e3⟩
  match t, h with
  | 0, h => cases h; exact ⟨fun n z => ⟨fun k h => (by cases h), k0, g0, d0, h0⟩, f0⟩
  | 1, h => cases h; exact ⟨fun n z => ⟨fun k h => (by cases h), k1, g1, d1, h1⟩, f1⟩
  | 2, h => cases h; exact ⟨fun n z => ⟨fun k h => (by cases h), k2, g2, d2, h2⟩, f2⟩
  | 3, h => cases h; exact ⟨fun n z => ⟨fun k h => (by cases h), k3, g3, c0, e3⟩, n3⟩
  | 4, h => cases h; exact ⟨fun n z => ⟨fun k h => (by cases h), k4, g4, d4, e4⟩, k4, d4, g4, e4, f4, n4⟩
  | t + 5, h => simp at h
