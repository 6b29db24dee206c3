/-! ===== the first numbers keep the ties; the law from its entry ===== -/
theorem Inv_D0 : Inv D0 := by
  refine ⟨⟨1, 16, 64, 44100, 0, fun _ => 0, ⟨by decide, by decide, by decide, by decide, by decide, fun j hj => absurd hj (Nat.not_lt_zero j)⟩, ⟨by decide, by decide, by decide, by decide, by decide, fun j hj => absurd hj (Nat.not_lt_zero j)⟩, by omega, by omega, by omega, by omega, by omega⟩, ⟨0, 0, fun _ => 0, ⟨by decide, by decide, fun j hj => absurd hj (Nat.not_lt_zero j)⟩, ⟨by decide, by decide, fun j hj => absurd hj (Nat.not_lt_zero j)⟩, by omega, by omega⟩, ⟨0, 0, 0, fun _ => false, ⟨by decide, by decide, fun i hi => ?_, fun _ _ => rfl, fun i hi => ?_⟩, ⟨by decide, fun i hi => absurd hi (Nat.not_lt_zero i)⟩, ⟨by decide, by decide, by decide, by decide⟩, ⟨by omega, by omega, by omega⟩, fun f hf => absurd hf (Nat.not_lt_zero f)⟩, ⟨0, fun _ => false, ⟨by decide, by decide, by omega⟩, fun i hi => absurd hi (Nat.not_lt_zero i), fun i hi => absurd hi (Nat.not_lt_zero i)⟩, by decide, by decide⟩
  · show bt8 (D0.1 7) i = false
    rw [show D0.1 7 = fun _ => 0 from rfl]
    unfold bt8
    simp
  · show fits .byte (.int (D0.1 7 i)) = true
    rw [show D0.1 7 i = 0 from rfl]
    decide
abbrev iL_start : zI := (RL, cL_law, 7, ret, [])
set_option maxHeartbeats 4000000 in
set_option maxRecDepth 100000 in
theorem start_N {p : Program} {e : Env} {s : State} {m : MethodId} {below : List Frame} {meth : Method} {c : Code} (l : Launch) (htr : l.stackTraces = false) {b L : Nat} {xs : Nat → Int32} (hL : L ≤ 2560) (C0 : lw_At p s m meth c b L xs) {G : va_G} {cA : Nat → ClassId} (hK : va_K G zcl (ztys cA) s) (hAO : nAO cA s) {t : Nat} (hO : ∀ ad : Nat → Nat, ad 66 = t → zO (fun q => s.heap.size ≤ q) ad s s.heap) :
    N p l e room_1 s m #[Value.ref b] below meth c G (fun q => s.heap.size ≤ q) (lw_Z below #[Value.ref b] s) iL_start 0 0 0 [(0, .ref b)] [] [] := by
  obtain ⟨hx, hb, hr, hml, hown, hts, hX, hbl, hlocks, hgv⟩ := id C0
  have hC : Nc p room_1 s m #[Value.ref b] meth c cA G (fun q => s.heap.size ≤ q) iL_start := ⟨hx, hb, hml, hown, fun w hw => hts w (List.mem_filter.mp hw).1, hK, fun _ h => h, hAO⟩
  refine n_new (ci := 8) (fs := fX8) (x1 := 97) (x2 := 98) (x3 := 71) hC tyX8 dL_law_0 rfl tyX8_ok fX8_ok (by decide +kernel) (by decide +kernel) (by decide +kernel) (Nat.le_of_ble_eq_true rfl) (Nat.le_of_ble_eq_true rfl) (fun q1 => ?_)
  refine n_dup hC dL_law_3 rfl ?_
  refine n_call (X := []) (b := q1) hC c_X8_init [101, 71, 99, 100] (by decide +kernel) dL_law_4 rfl rfl (Nat.le_of_ble_eq_true rfl) ⟨Nat.le_of_ble_eq_true rfl, Nat.le_of_ble_eq_true rfl⟩ ⟨Nat.le_of_ble_eq_true rfl, Nat.le_of_ble_eq_true rfl⟩ (fun a1 e1 => ?_)
  subst e1
  refine n_astore (lv' := [(1, .ref (a1 0)), (0, .ref b)]) hC dL_law_7 (by decide) rfl ?_
  refine n_new (ci := 9) (fs := fX9) (x1 := 1118) (x2 := 1119) (x3 := 80) hC tyX9 dL_law_8 rfl tyX9_ok fX9_ok (by decide +kernel) (by decide +kernel) (by decide +kernel) (Nat.le_of_ble_eq_true rfl) (Nat.le_of_ble_eq_true rfl) (fun q2 => ?_)
  refine n_dup hC dL_law_11 rfl ?_
  refine n_call (X := [] ++ F_X8 cA a1) (b := q2) hC c_X9_init [1122, 80, 1120, 1121] (by decide +kernel) dL_law_12 rfl rfl (Nat.le_of_ble_eq_true rfl) ⟨Nat.le_of_ble_eq_true rfl, Nat.le_of_ble_eq_true rfl⟩ ⟨Nat.le_of_ble_eq_true rfl, Nat.le_of_ble_eq_true rfl⟩ (fun a2 e2 => ?_)
  subst e2
  refine n_astore (lv' := [(2, .ref (a2 0)), (1, .ref (a1 0)), (0, .ref b)]) hC dL_law_15 (by decide) rfl ?_
  refine n_iconst (v := 1) hC dL_law_16 (by decide) ?_
  refine n_newa (ty := .long) (n' := 1) (a0 := (1, .inr (.inl (fun _ => 0)))) hC 1 224 dL_law_17 (by decide +kernel) rfl rfl (fun _ h => by cases h) (fun c9 => rfl) (by decide) (by decide) (Nat.le_of_ble_eq_true rfl) (Nat.le_of_ble_eq_true rfl) (Nat.le_of_ble_eq_true rfl) (fun q => ?_)
  refine n_astore (lv' := [(3, .ref q), (2, .ref (a2 0)), (1, .ref (a1 0)), (0, .ref b)]) hC dL_law_19 (by decide) rfl ?_
  refine n_iconst (v := 0) hC dL_law_20 (by decide) ?_
  refine n_istore4 (lv' := [(4, .int 0), (3, .ref q), (2, .ref (a2 0)), (1, .ref (a1 0)), (0, .ref b)]) hC dL_law_21 (by decide) rfl ?_
  intro H locs ls hP hD hS hl
  have hP : va_P G zcl (bws cA a1 a2 q) H := hP
  have hD : va_D (fun q => s.heap.size ≤ q) (bws cA a1 a2 q) := hD
  obtain ⟨hP2, hD2⟩ := bws_all cA a1 a2 q t b hP hD
  refine W.widen (k := yB1 + 0) (n := yB2 + 6 * 0) (Nat.le_of_ble_eq_true rfl) (Nat.le_of_ble_eq_true rfl) ?_
  have hY := law_loop (sx := xs) hL 513 0 0 D0 (by omega) (by omega) (by omega) Inv_D0
  refine hY p l e s m below meth c (adl a1 a2 q t b) cA G (fun q => s.heap.size ≤ q) b H locs ls ⟨hx, hb, hr, hml, hlocks, hown, ⟨fun w hw _ => hts w hw, htr, hK, hO _ rfl, fun _ h => h⟩, hX, hbl, Nat.not_le.mpr hbl, rfl, fun _ h => h⟩ ⟨hP2, hD2, hS⟩ ⟨hl.1, hl.2.1, fun i v hv => ?_⟩
  match i, hv with
  | 0, h => cases h; exact lv_at hl 4 rfl
  | 1, h => cases h; exact lv_at hl 3 rfl
  | 2, h => cases h; exact lv_at hl 2 rfl
  | 3, h => cases h; exact lv_at hl 1 rfl
  | 4, h => cases h; exact lv_at hl 0 rfl
  | i + 5, h => exact absurd h (by simp [zl, yl])
theorem whole_start {p : Program} {e : Env} {s : State} {m : MethodId} {below : List Frame} {meth : Method} {c : Code} (l : Launch) (htr : l.stackTraces = false) {b L : Nat} {xs : Nat → Int32} (hL : L ≤ 2560) (C0 : lw_At p s m meth c b L xs) : W p l e room_1 s m #[Value.ref b] below meth c s.heap [] 0 0 (lw_Z below #[Value.ref b] s) (entryFrame m ([Value.ref b] : List Value).toArray 7) := by
  obtain ⟨t, hO⟩ := sO C0
  obtain ⟨G, cA, hK, hAO⟩ := sK C0
  have hl := lv_entry ([.ref b]) (n := 7) (Nat.le_of_ble_eq_true rfl)
  rw [lg_entry_eq]
  exact start_N l htr hL C0 hK hAO hO s.heap [] _ (fun k q h => by simp at h) ⟨fun i j p q h => by simp at h, fun k q h => by simp at h⟩ va_S.rf hl
