/-! ===== the constructors (printed by wip/tools/ctors.py) ===== -/
def rmk (f c s l : Nat) : Room := { frames := f, cells := c, slots := s, locals := l }
def fX0 : List Value := [.null, .null]
theorem fX0_ok : ∀ j, j < 2 → defaultValue (tyX0 j) = vp_V fX0 j
  | 0, _ => rfl
  | 1, _ => rfl
  | j + 2, h => absurd h (by omega)
def fX1 : List Value := [.null, .int 0, .int 0, .null, .null, .null, .null]
theorem fX1_ok : ∀ j, j < 7 → defaultValue (tyX1 j) = vp_V fX1 j
  | 0, _ => rfl
  | 1, _ => rfl
  | 2, _ => rfl
  | 3, _ => rfl
  | 4, _ => rfl
  | 5, _ => rfl
  | 6, _ => rfl
  | j + 7, h => absurd h (by omega)
def fX2 : List Value := [.null, .int 0]
theorem fX2_ok : ∀ j, j < 2 → defaultValue (tyX2 j) = vp_V fX2 j
  | 0, _ => rfl
  | 1, _ => rfl
  | j + 2, h => absurd h (by omega)
def fX3 : List Value := [.null, .int 0, .int 0]
theorem fX3_ok : ∀ j, j < 3 → defaultValue (tyX3 j) = vp_V fX3 j
  | 0, _ => rfl
  | 1, _ => rfl
  | 2, _ => rfl
  | j + 3, h => absurd h (by omega)
def fX4 : List Value := [.null, .int 0, .int 0, .int 0, .null, .int 0, .null, .int 0, .int 0, .null, .null]
theorem fX4_ok : ∀ j, j < 11 → defaultValue (tyX4 j) = vp_V fX4 j
  | 0, _ => rfl
  | 1, _ => rfl
  | 2, _ => rfl
  | 3, _ => rfl
  | 4, _ => rfl
  | 5, _ => rfl
  | 6, _ => rfl
  | 7, _ => rfl
  | 8, _ => rfl
  | 9, _ => rfl
  | 10, _ => rfl
  | j + 11, h => absurd h (by omega)
def fX5 : List Value := [.null, .int 0, .int 0, .null, .null, .null, .int 0, .long 0]
theorem fX5_ok : ∀ j, j < 8 → defaultValue (tyX5 j) = vp_V fX5 j
  | 0, _ => rfl
  | 1, _ => rfl
  | 2, _ => rfl
  | 3, _ => rfl
  | 4, _ => rfl
  | 5, _ => rfl
  | 6, _ => rfl
  | 7, _ => rfl
  | j + 8, h => absurd h (by omega)
def fX6 : List Value := [.int 0, .int 0, .int 0, .int 0]
theorem fX6_ok : ∀ j, j < 4 → defaultValue (tyX6 j) = vp_V fX6 j
  | 0, _ => rfl
  | 1, _ => rfl
  | 2, _ => rfl
  | 3, _ => rfl
  | j + 4, h => absurd h (by omega)
def fX7 : List Value := [.null, .int 0, .int 0, .int 0, .int 0, .int 0, .long 0]
theorem fX7_ok : ∀ j, j < 7 → defaultValue (tyX7 j) = vp_V fX7 j
  | 0, _ => rfl
  | 1, _ => rfl
  | 2, _ => rfl
  | 3, _ => rfl
  | 4, _ => rfl
  | 5, _ => rfl
  | 6, _ => rfl
  | j + 7, h => absurd h (by omega)
def fX8 : List Value := [.null, .null, .null, .int 0, .null, .null]
theorem fX8_ok : ∀ j, j < 6 → defaultValue (tyX8 j) = vp_V fX8 j
  | 0, _ => rfl
  | 1, _ => rfl
  | 2, _ => rfl
  | 3, _ => rfl
  | 4, _ => rfl
  | 5, _ => rfl
  | j + 6, h => absurd h (by omega)
def fX9 : List Value := [.int 0, .int 0, .int 0, .int 0, .int 0, .int 0, .int 0, .null, .int 0, .null, .int 0, .null, .long 0, .int 0, .int 0, .null, .null, .null, .null, .null, .int 0, .null, .int 0, .int 0, .int 0, .null, .null, .int 0, .int 0, .int 0, .long 0, .int 0, .long 0, .long 0, .int 0, .int 0, .int 0, .int 0, .long 0, .int 0, .null, .null, .null, .int 0]
theorem fX9_ok : ∀ j, j < 44 → defaultValue (tyX9 j) = vp_V fX9 j
  | 0, _ => rfl
  | 1, _ => rfl
  | 2, _ => rfl
  | 3, _ => rfl
  | 4, _ => rfl
  | 5, _ => rfl
  | 6, _ => rfl
  | 7, _ => rfl
  | 8, _ => rfl
  | 9, _ => rfl
  | 10, _ => rfl
  | 11, _ => rfl
  | 12, _ => rfl
  | 13, _ => rfl
  | 14, _ => rfl
  | 15, _ => rfl
  | 16, _ => rfl
  | 17, _ => rfl
  | 18, _ => rfl
  | 19, _ => rfl
  | 20, _ => rfl
  | 21, _ => rfl
  | 22, _ => rfl
  | 23, _ => rfl
  | 24, _ => rfl
  | 25, _ => rfl
  | 26, _ => rfl
  | 27, _ => rfl
  | 28, _ => rfl
  | 29, _ => rfl
  | 30, _ => rfl
  | 31, _ => rfl
  | 32, _ => rfl
  | 33, _ => rfl
  | 34, _ => rfl
  | 35, _ => rfl
  | 36, _ => rfl
  | 37, _ => rfl
  | 38, _ => rfl
  | 39, _ => rfl
  | 40, _ => rfl
  | 41, _ => rfl
  | 42, _ => rfl
  | 43, _ => rfl
  | j + 44, h => absurd h (by omega)
def F_X6 (cA : Nat → ClassId) (a : Nat → Nat) : va_W := [(a 0, .inr (6, [.int 1, .int 16, .int 64, .int 44100]))]
set_option maxHeartbeats 4000000 in
set_option maxRecDepth 100000 in
theorem c_X6_init : NM yX6_init iX6_init (rmk 2 0 0 60) [] (.inr (6, fX6)) F_X6 := by
  refine n_method (by decide +kernel) rfl rfl (fun _ => (Nat.le_of_ble_eq_true rfl)) ?_
  intro p l e s m args below meth c cA G A h0 hC hin hr hlk
  refine n_aload hC dX6_init_0 0 rfl ?_
  refine n_obj (x := 110) hC dX6_init_1 (by decide +kernel) ⟨(Nat.le_of_ble_eq_true rfl), (Nat.le_of_ble_eq_true rfl)⟩ ?_
  refine n_aload hC dX6_init_4 0 rfl ?_
  refine n_iconst (v := 1) hC dX6_init_5 (by decide) ?_
  refine n_put (ws' := [(h0, .inr (6, [.int 1, .int 0, .int 0, .int 0]))]) hC dX6_init_6 zfx_X6_7 0 rfl (Nat.le_of_ble_eq_true rfl) hin ⟨TX6, 4, tyX6 0, rfl, rfl, tyX6_ok 0 (by decide), rfl, rfl⟩ rfl ?_
  refine n_aload hC dX6_init_9 0 rfl ?_
  refine n_bipush (v := 16) hC dX6_init_10 (by decide) ?_
  refine n_put (ws' := [(h0, .inr (6, [.int 1, .int 16, .int 0, .int 0]))]) hC dX6_init_12 zfx_X6_13 0 rfl (Nat.le_of_ble_eq_true rfl) hin ⟨TX6, 4, tyX6 1, rfl, rfl, tyX6_ok 1 (by decide), rfl, rfl⟩ rfl ?_
  refine n_aload hC dX6_init_15 0 rfl ?_
  refine n_bipush (v := 64) hC dX6_init_16 (by decide) ?_
  refine n_put (ws' := [(h0, .inr (6, [.int 1, .int 16, .int 64, .int 0]))]) hC dX6_init_18 zfx_X6_16 0 rfl (Nat.le_of_ble_eq_true rfl) hin ⟨TX6, 4, tyX6 2, rfl, rfl, tyX6_ok 2 (by decide), rfl, rfl⟩ rfl ?_
  refine n_aload hC dX6_init_21 0 rfl ?_
  refine n_ldc (v := 44100) hC dX6_init_22 (by decide +kernel) ?_
  refine n_put (ws' := [(h0, .inr (6, [.int 1, .int 16, .int 64, .int 44100]))]) hC dX6_init_24 zfx_X6_20 0 rfl (Nat.le_of_ble_eq_true rfl) hin ⟨TX6, 4, tyX6 3, rfl, rfl, tyX6_ok 3 (by decide), rfl, rfl⟩ rfl ?_
  exact n_ret hC hr hlk (fun j => ([h0] : List Nat).getD j 0) dX6_init_27 rfl rfl (Nat.le_of_ble_eq_true rfl) (Nat.le_of_ble_eq_true rfl)
def F_X3 (n' : Nat) (cA : Nat → ClassId) (a : Nat → Nat) : va_W := [(a 0, .inr (3, [.ref (a 1), .int 0, .int 0])), (a 1, .inl (cA 0, n', .inl (fun _ => 0)))]
set_option maxHeartbeats 4000000 in
set_option maxRecDepth 100000 in
theorem c_X3_init (v : Int32) (n' : Nat) (hv1 : ¬ v < 0) (hv2 : v.toNatClampNeg = n') (hv3 : n' ≤ 32) : NM yX3_init iX3_init (rmk 2 1 n' 60) [.int v] (.inr (3, fX3)) (F_X3 n') := by
  refine n_method (by decide +kernel) rfl rfl (fun _ => (Nat.le_of_ble_eq_true rfl)) ?_
  intro p l e s m args below meth c cA G A h0 hC hin hr hlk
  refine n_aload hC dX3_init_0 0 rfl ?_
  refine n_obj (x := 142) hC dX3_init_1 (by decide +kernel) ⟨(Nat.le_of_ble_eq_true rfl), (Nat.le_of_ble_eq_true rfl)⟩ ?_
  refine n_aload hC dX3_init_4 0 rfl ?_
  refine n_iload hC dX3_init_5 1 rfl ?_
  refine n_newa (ty := .int) (n' := n') (a0 := (n', .inl (fun _ => 0))) hC 0 159 dX3_init_6 (by decide +kernel) rfl rfl (fun _ h => by cases h) (fun c9 => by unfold vp_cell; rfl) hv1 hv2 (by show n' * 4 ≤ _; omega) (Nat.le_of_ble_eq_true rfl) (by show 0 + n' ≤ n'; omega) (fun q1 => ?_)
  refine n_put (ws' := [(h0, .inr (3, [.ref q1, .int 0, .int 0])), (q1, .inl (cA 0, n', .inl (fun _ => 0)))]) hC dX3_init_8 zfx_X3_7 0 rfl (Nat.le_of_ble_eq_true rfl) hin ⟨TX3, 3, tyX3 0, rfl, rfl, tyX3_ok 0 (by decide), rfl, rfl⟩ rfl ?_
  refine n_aload hC dX3_init_11 0 rfl ?_
  refine n_iconst (v := 0) hC dX3_init_12 (by decide) ?_
  refine n_put (ws' := [(h0, .inr (3, [.ref q1, .int 0, .int 0])), (q1, .inl (cA 0, n', .inl (fun _ => 0)))]) hC dX3_init_13 zfx_X3_13 0 rfl (Nat.le_of_ble_eq_true rfl) hin ⟨TX3, 3, tyX3 1, rfl, rfl, tyX3_ok 1 (by decide), rfl, rfl⟩ rfl ?_
  refine n_aload hC dX3_init_16 0 rfl ?_
  refine n_iconst (v := 0) hC dX3_init_17 (by decide) ?_
  refine n_put (ws' := [(h0, .inr (3, [.ref q1, .int 0, .int 0])), (q1, .inl (cA 0, n', .inl (fun _ => 0)))]) hC dX3_init_18 zfx_X3_17 0 rfl (Nat.le_of_ble_eq_true rfl) hin ⟨TX3, 3, tyX3 2, rfl, rfl, tyX3_ok 2 (by decide), rfl, rfl⟩ rfl ?_
  exact n_ret hC hr hlk (fun j => ([h0, q1] : List Nat).getD j 0) dX3_init_21 rfl rfl (Nat.le_of_ble_eq_true rfl) (by show 0 + n' ≤ n'; omega)
def F_X2 (cA : Nat → ClassId) (a : Nat → Nat) : va_W := [(a 0, .inr (2, [.ref (a 1), .int 0])), (a 1, .inl (cA 2, 20000, .inl (fun _ => 0)))]
set_option maxHeartbeats 4000000 in
set_option maxRecDepth 100000 in
theorem c_X2_init : NM yX2_init iX2_init (rmk 2 1 20000 60) [] (.inr (2, fX2)) F_X2 := by
  refine n_method (by decide +kernel) rfl rfl (fun _ => (Nat.le_of_ble_eq_true rfl)) ?_
  intro p l e s m args below meth c cA G A h0 hC hin hr hlk
  refine n_aload hC dX2_init_0 0 rfl ?_
  refine n_obj (x := 171) hC dX2_init_1 (by decide +kernel) ⟨(Nat.le_of_ble_eq_true rfl), (Nat.le_of_ble_eq_true rfl)⟩ ?_
  refine n_aload hC dX2_init_4 0 rfl ?_
  refine n_sipush (v := 20000) hC dX2_init_5 (by decide) ?_
  refine n_newa (ty := .byte) (n' := 20000) (a0 := (20000, .inl (fun _ => 0))) hC 2 182 dX2_init_8 (by decide +kernel) rfl rfl (fun _ h => by cases h) (fun c9 => rfl) (by decide) (by decide) (Nat.le_of_ble_eq_true rfl) (Nat.le_of_ble_eq_true rfl) (Nat.le_of_ble_eq_true rfl) (fun q1 => ?_)
  refine n_put (ws' := [(h0, .inr (2, [.ref q1, .int 0])), (q1, .inl (cA 2, 20000, .inl (fun _ => 0)))]) hC dX2_init_10 zfx_X2_9 0 rfl (Nat.le_of_ble_eq_true rfl) hin ⟨TX2, 2, tyX2 0, rfl, rfl, tyX2_ok 0 (by decide), rfl, rfl⟩ rfl ?_
  refine n_aload hC dX2_init_13 0 rfl ?_
  refine n_iconst (v := 0) hC dX2_init_14 (by decide) ?_
  refine n_put (ws' := [(h0, .inr (2, [.ref q1, .int 0])), (q1, .inl (cA 2, 20000, .inl (fun _ => 0)))]) hC dX2_init_15 zfx_X2_15 0 rfl (Nat.le_of_ble_eq_true rfl) hin ⟨TX2, 2, tyX2 1, rfl, rfl, tyX2_ok 1 (by decide), rfl, rfl⟩ rfl ?_
  exact n_ret hC hr hlk (fun j => ([h0, q1] : List Nat).getD j 0) dX2_init_18 rfl rfl (Nat.le_of_ble_eq_true rfl) (Nat.le_of_ble_eq_true rfl)
def F_X5 (cA : Nat → ClassId) (a : Nat → Nat) : va_W := [(a 0, .inr (5, [.ref (a 1), .int 0, .int 0, .ref (a 2), .ref (a 3), .ref (a 4), .int 0, .long 0])), (a 1, .inl (cA 1, 256, .inr (.inl (fun _ => 0)))), (a 2, .inl (cA 1, 120, .inr (.inl (fun _ => 0)))), (a 3, .inl (cA 0, 8, .inl (fun _ => 0))), (a 4, .inl (cA 0, 8, .inl (fun _ => 0)))]
set_option maxHeartbeats 4000000 in
set_option maxRecDepth 100000 in
theorem c_X5_init : NM yX5_init iX5_init (rmk 2 4 392 60) [] (.inr (5, fX5)) F_X5 := by
  refine n_method (by decide +kernel) rfl rfl (fun _ => (Nat.le_of_ble_eq_true rfl)) ?_
  intro p l e s m args below meth c cA G A h0 hC hin hr hlk
  refine n_aload hC dX5_init_0 0 rfl ?_
  refine n_obj (x := 196) hC dX5_init_1 (by decide +kernel) ⟨(Nat.le_of_ble_eq_true rfl), (Nat.le_of_ble_eq_true rfl)⟩ ?_
  refine n_aload hC dX5_init_4 0 rfl ?_
  refine n_sipush (v := 256) hC dX5_init_5 (by decide) ?_
  refine n_newa (ty := .long) (n' := 256) (a0 := (256, .inr (.inl (fun _ => 0)))) hC 1 224 dX5_init_8 (by decide +kernel) rfl rfl (fun _ h => by cases h) (fun c9 => rfl) (by decide) (by decide) (Nat.le_of_ble_eq_true rfl) (Nat.le_of_ble_eq_true rfl) (Nat.le_of_ble_eq_true rfl) (fun q1 => ?_)
  refine n_put (ws' := [(h0, .inr (5, [.ref q1, .int 0, .int 0, .null, .null, .null, .int 0, .long 0])), (q1, .inl (cA 1, 256, .inr (.inl (fun _ => 0))))]) hC dX5_init_10 zfx_X5_9 0 rfl (Nat.le_of_ble_eq_true rfl) hin ⟨TX5, 8, tyX5 0, rfl, rfl, tyX5_ok 0 (by decide), rfl, rfl⟩ rfl ?_
  refine n_aload hC dX5_init_13 0 rfl ?_
  refine n_bipush (v := 120) hC dX5_init_14 (by decide) ?_
  refine n_newa (ty := .long) (n' := 120) (a0 := (120, .inr (.inl (fun _ => 0)))) hC 1 224 dX5_init_16 (by decide +kernel) rfl rfl (fun _ h => by cases h) (fun c9 => rfl) (by decide) (by decide) (Nat.le_of_ble_eq_true rfl) (Nat.le_of_ble_eq_true rfl) (Nat.le_of_ble_eq_true rfl) (fun q2 => ?_)
  refine n_put (ws' := [(h0, .inr (5, [.ref q1, .int 0, .int 0, .ref q2, .null, .null, .int 0, .long 0])), (q1, .inl (cA 1, 256, .inr (.inl (fun _ => 0)))), (q2, .inl (cA 1, 120, .inr (.inl (fun _ => 0))))]) hC dX5_init_18 zfx_X5_15 0 rfl (Nat.le_of_ble_eq_true rfl) hin ⟨TX5, 8, tyX5 3, rfl, rfl, tyX5_ok 3 (by decide), rfl, rfl⟩ rfl ?_
  refine n_aload hC dX5_init_21 0 rfl ?_
  refine n_bipush (v := 8) hC dX5_init_22 (by decide) ?_
  refine n_newa (ty := .int) (n' := 8) (a0 := (8, .inl (fun _ => 0))) hC 0 159 dX5_init_24 (by decide +kernel) rfl rfl (fun _ h => by cases h) (fun c9 => rfl) (by decide) (by decide) (Nat.le_of_ble_eq_true rfl) (Nat.le_of_ble_eq_true rfl) (Nat.le_of_ble_eq_true rfl) (fun q3 => ?_)
  refine n_put (ws' := [(h0, .inr (5, [.ref q1, .int 0, .int 0, .ref q2, .ref q3, .null, .int 0, .long 0])), (q1, .inl (cA 1, 256, .inr (.inl (fun _ => 0)))), (q2, .inl (cA 1, 120, .inr (.inl (fun _ => 0)))), (q3, .inl (cA 0, 8, .inl (fun _ => 0)))]) hC dX5_init_26 zfx_X5_18 0 rfl (Nat.le_of_ble_eq_true rfl) hin ⟨TX5, 8, tyX5 4, rfl, rfl, tyX5_ok 4 (by decide), rfl, rfl⟩ rfl ?_
  refine n_aload hC dX5_init_29 0 rfl ?_
  refine n_bipush (v := 8) hC dX5_init_30 (by decide) ?_
  refine n_newa (ty := .int) (n' := 8) (a0 := (8, .inl (fun _ => 0))) hC 0 159 dX5_init_32 (by decide +kernel) rfl rfl (fun _ h => by cases h) (fun c9 => rfl) (by decide) (by decide) (Nat.le_of_ble_eq_true rfl) (Nat.le_of_ble_eq_true rfl) (Nat.le_of_ble_eq_true rfl) (fun q4 => ?_)
  refine n_put (ws' := [(h0, .inr (5, [.ref q1, .int 0, .int 0, .ref q2, .ref q3, .ref q4, .int 0, .long 0])), (q1, .inl (cA 1, 256, .inr (.inl (fun _ => 0)))), (q2, .inl (cA 1, 120, .inr (.inl (fun _ => 0)))), (q3, .inl (cA 0, 8, .inl (fun _ => 0))), (q4, .inl (cA 0, 8, .inl (fun _ => 0)))]) hC dX5_init_34 zfx_X5_22 0 rfl (Nat.le_of_ble_eq_true rfl) hin ⟨TX5, 8, tyX5 5, rfl, rfl, tyX5_ok 5 (by decide), rfl, rfl⟩ rfl ?_
  exact n_ret hC hr hlk (fun j => ([h0, q1, q2, q3, q4] : List Nat).getD j 0) dX5_init_37 rfl rfl (Nat.le_of_ble_eq_true rfl) (Nat.le_of_ble_eq_true rfl)
def F_X7 (cA : Nat → ClassId) (a : Nat → Nat) : va_W := [(a 0, .inr (7, [.ref (a 1), .int 0, .int 0, .int 0, .int 0, .int 0, .long 0])), (a 1, .inl (cA 0, 256, .inl (fun _ => 0)))]
set_option maxHeartbeats 4000000 in
set_option maxRecDepth 100000 in
theorem c_X7_init : NM yX7_init iX7_init (rmk 2 1 256 60) [] (.inr (7, fX7)) F_X7 := by
  refine n_method (by decide +kernel) rfl rfl (fun _ => (Nat.le_of_ble_eq_true rfl)) ?_
  intro p l e s m args below meth c cA G A h0 hC hin hr hlk
  refine n_aload hC dX7_init_0 0 rfl ?_
  refine n_obj (x := 238) hC dX7_init_1 (by decide +kernel) ⟨(Nat.le_of_ble_eq_true rfl), (Nat.le_of_ble_eq_true rfl)⟩ ?_
  refine n_aload hC dX7_init_4 0 rfl ?_
  refine n_sipush (v := 256) hC dX7_init_5 (by decide) ?_
  refine n_newa (ty := .int) (n' := 256) (a0 := (256, .inl (fun _ => 0))) hC 0 159 dX7_init_8 (by decide +kernel) rfl rfl (fun _ h => by cases h) (fun c9 => rfl) (by decide) (by decide) (Nat.le_of_ble_eq_true rfl) (Nat.le_of_ble_eq_true rfl) (Nat.le_of_ble_eq_true rfl) (fun q1 => ?_)
  refine n_put (ws' := [(h0, .inr (7, [.ref q1, .int 0, .int 0, .int 0, .int 0, .int 0, .long 0])), (q1, .inl (cA 0, 256, .inl (fun _ => 0)))]) hC dX7_init_10 zfx_X7_9 0 rfl (Nat.le_of_ble_eq_true rfl) hin ⟨TX7, 7, tyX7 0, rfl, rfl, tyX7_ok 0 (by decide), rfl, rfl⟩ rfl ?_
  exact n_ret hC hr hlk (fun j => ([h0, q1] : List Nat).getD j 0) dX7_init_13 rfl rfl (Nat.le_of_ble_eq_true rfl) (Nat.le_of_ble_eq_true rfl)
def F_X0 (cA : Nat → ClassId) (a : Nat → Nat) : va_W := [(a 0, .inr (0, [.ref (a 1), .ref (a 3)])), (a 1, .inr (3, [.ref (a 2), .int 0, .int 0])), (a 2, .inl (cA 0, 4, .inl (fun _ => 0))), (a 3, .inr (5, [.ref (a 4), .int 0, .int 0, .ref (a 5), .ref (a 6), .ref (a 7), .int 0, .long 0])), (a 4, .inl (cA 1, 256, .inr (.inl (fun _ => 0)))), (a 5, .inl (cA 1, 120, .inr (.inl (fun _ => 0)))), (a 6, .inl (cA 0, 8, .inl (fun _ => 0))), (a 7, .inl (cA 0, 8, .inl (fun _ => 0)))]
set_option maxHeartbeats 4000000 in
set_option maxRecDepth 100000 in
theorem c_X0_init : NM yX0_init iX0_init (rmk 3 7 407 160) [] (.inr (0, fX0)) F_X0 := by
  refine n_method (by decide +kernel) rfl rfl (fun _ => (Nat.le_of_ble_eq_true rfl)) ?_
  intro p l e s m args below meth c cA G A h0 hC hin hr hlk
  refine n_aload hC dX0_init_0 0 rfl ?_
  refine n_obj (x := 188) hC dX0_init_1 (by decide +kernel) ⟨(Nat.le_of_ble_eq_true rfl), (Nat.le_of_ble_eq_true rfl)⟩ ?_
  refine n_aload hC dX0_init_4 0 rfl ?_
  refine n_new (ci := 3) (fs := fX3) (x1 := 189) (x2 := 138) (x3 := 73) hC tyX3 dX0_init_5 rfl tyX3_ok fX3_ok (by decide +kernel) (by decide +kernel) (by decide +kernel) (Nat.le_of_ble_eq_true rfl) (Nat.le_of_ble_eq_true rfl) (fun q1 => ?_)
  refine n_dup hC dX0_init_8 rfl ?_
  refine n_iconst (v := 4) hC dX0_init_9 (by decide) ?_
  refine n_call (X := [(h0, .inr (0, [.null, .null]))]) (b := q1) hC (c_X3_init 4 4 (by decide) (by decide) (by decide)) [141, 73, 190, 140] (by decide +kernel) dX0_init_10 rfl rfl (Nat.le_of_ble_eq_true rfl) ⟨(Nat.le_of_ble_eq_true rfl), (Nat.le_of_ble_eq_true rfl)⟩ ⟨(Nat.le_of_ble_eq_true rfl), (Nat.le_of_ble_eq_true rfl)⟩ (fun a2 ea2 => ?_)
  subst ea2
  refine n_put (ws' := [(h0, .inr (0, [.ref (a2 0), .null])), ((a2 0), .inr (3, [.ref (a2 1), .int 0, .int 0])), ((a2 1), .inl (cA 0, 4, .inl (fun _ => 0)))]) hC dX0_init_13 zfx_X0_14 0 rfl (Nat.le_of_ble_eq_true rfl) hin ⟨TX0, 2, tyX0 0, rfl, rfl, tyX0_ok 0 (by decide), rfl, rfl⟩ rfl ?_
  refine n_aload hC dX0_init_16 0 rfl ?_
  refine n_new (ci := 5) (fs := fX5) (x1 := 191) (x2 := 192) (x3 := 77) hC tyX5 dX0_init_17 rfl tyX5_ok fX5_ok (by decide +kernel) (by decide +kernel) (by decide +kernel) (Nat.le_of_ble_eq_true rfl) (Nat.le_of_ble_eq_true rfl) (fun q3 => ?_)
  refine n_dup hC dX0_init_20 rfl ?_
  refine n_call (X := [(h0, .inr (0, [.ref (a2 0), .null])), ((a2 0), .inr (3, [.ref (a2 1), .int 0, .int 0])), ((a2 1), .inl (cA 0, 4, .inl (fun _ => 0)))]) (b := q3) hC c_X5_init [195, 77, 193, 194] (by decide +kernel) dX0_init_21 rfl rfl (Nat.le_of_ble_eq_true rfl) ⟨(Nat.le_of_ble_eq_true rfl), (Nat.le_of_ble_eq_true rfl)⟩ ⟨(Nat.le_of_ble_eq_true rfl), (Nat.le_of_ble_eq_true rfl)⟩ (fun a4 ea4 => ?_)
  subst ea4
  refine n_put (ws' := [(h0, .inr (0, [.ref (a2 0), .ref (a4 0)])), ((a2 0), .inr (3, [.ref (a2 1), .int 0, .int 0])), ((a2 1), .inl (cA 0, 4, .inl (fun _ => 0))), ((a4 0), .inr (5, [.ref (a4 1), .int 0, .int 0, .ref (a4 2), .ref (a4 3), .ref (a4 4), .int 0, .long 0])), ((a4 1), .inl (cA 1, 256, .inr (.inl (fun _ => 0)))), ((a4 2), .inl (cA 1, 120, .inr (.inl (fun _ => 0)))), ((a4 3), .inl (cA 0, 8, .inl (fun _ => 0))), ((a4 4), .inl (cA 0, 8, .inl (fun _ => 0)))]) hC dX0_init_24 zfx_X0_23 0 rfl (Nat.le_of_ble_eq_true rfl) hin ⟨TX0, 2, tyX0 1, rfl, rfl, tyX0_ok 1 (by decide), rfl, rfl⟩ rfl ?_
  exact n_ret hC hr hlk (fun j => ([h0, (a2 0), (a2 1), (a4 0), (a4 1), (a4 2), (a4 3), (a4 4)] : List Nat).getD j 0) dX0_init_27 rfl rfl (Nat.le_of_ble_eq_true rfl) (Nat.le_of_ble_eq_true rfl)
def F_X1 (cA : Nat → ClassId) (a : Nat → Nat) : va_W := [(a 0, .inr (1, [.ref (a 1), .int 0, .int 0, .ref (a 3), .ref (a 4), .ref (a 5), .ref (a 13)])), (a 1, .inr (2, [.ref (a 2), .int 0])), (a 2, .inl (cA 2, 20000, .inl (fun _ => 0))), (a 3, .inl (cA 0, 256, .inl (fun _ => 0))), (a 4, .inl (cA 0, 1056, .inl (fun _ => 0))), (a 5, .inr (0, [.ref (a 6), .ref (a 8)])), (a 6, .inr (3, [.ref (a 7), .int 0, .int 0])), (a 7, .inl (cA 0, 4, .inl (fun _ => 0))), (a 8, .inr (5, [.ref (a 9), .int 0, .int 0, .ref (a 10), .ref (a 11), .ref (a 12), .int 0, .long 0])), (a 9, .inl (cA 1, 256, .inr (.inl (fun _ => 0)))), (a 10, .inl (cA 1, 120, .inr (.inl (fun _ => 0)))), (a 11, .inl (cA 0, 8, .inl (fun _ => 0))), (a 12, .inl (cA 0, 8, .inl (fun _ => 0))), (a 13, .inl (cA 4, 8, .inr (.inr (.inr (.inr (va_up (va_up (va_up (va_up (va_up (va_up (va_up (va_up (fun _ => none) 0 (some (a 14))) 1 (some (a 16))) 2 (some (a 18))) 3 (some (a 20))) 4 (some (a 22))) 5 (some (a 24))) 6 (some (a 26))) 7 (some (a 28)))))))), (a 14, .inr (7, [.ref (a 15), .int 0, .int 0, .int 0, .int 0, .int 0, .long 0])), (a 15, .inl (cA 0, 256, .inl (fun _ => 0))), (a 16, .inr (7, [.ref (a 17), .int 0, .int 0, .int 0, .int 0, .int 0, .long 0])), (a 17, .inl (cA 0, 256, .inl (fun _ => 0))), (a 18, .inr (7, [.ref (a 19), .int 0, .int 0, .int 0, .int 0, .int 0, .long 0])), (a 19, .inl (cA 0, 256, .inl (fun _ => 0))), (a 20, .inr (7, [.ref (a 21), .int 0, .int 0, .int 0, .int 0, .int 0, .long 0])), (a 21, .inl (cA 0, 256, .inl (fun _ => 0))), (a 22, .inr (7, [.ref (a 23), .int 0, .int 0, .int 0, .int 0, .int 0, .long 0])), (a 23, .inl (cA 0, 256, .inl (fun _ => 0))), (a 24, .inr (7, [.ref (a 25), .int 0, .int 0, .int 0, .int 0, .int 0, .long 0])), (a 25, .inl (cA 0, 256, .inl (fun _ => 0))), (a 26, .inr (7, [.ref (a 27), .int 0, .int 0, .int 0, .int 0, .int 0, .long 0])), (a 27, .inl (cA 0, 256, .inl (fun _ => 0))), (a 28, .inr (7, [.ref (a 29), .int 0, .int 0, .int 0, .int 0, .int 0, .long 0])), (a 29, .inl (cA 0, 256, .inl (fun _ => 0)))]
set_option maxHeartbeats 4000000 in
set_option maxRecDepth 100000 in
theorem c_X1_init : NM yX1_init iX1_init (rmk 4 29 23835 260) [] (.inr (1, fX1)) F_X1 := by
  refine n_method (by decide +kernel) rfl rfl (fun _ => (Nat.le_of_ble_eq_true rfl)) ?_
  intro p l e s m args below meth c cA G A h0 hC hin hr hlk
  refine n_aload hC dX1_init_0 0 rfl ?_
  refine n_obj (x := 165) hC dX1_init_1 (by decide +kernel) ⟨(Nat.le_of_ble_eq_true rfl), (Nat.le_of_ble_eq_true rfl)⟩ ?_
  refine n_aload hC dX1_init_4 0 rfl ?_
  refine n_new (ci := 2) (fs := fX2) (x1 := 166) (x2 := 167) (x3 := 75) hC tyX2 dX1_init_5 rfl tyX2_ok fX2_ok (by decide +kernel) (by decide +kernel) (by decide +kernel) (Nat.le_of_ble_eq_true rfl) (Nat.le_of_ble_eq_true rfl) (fun q1 => ?_)
  refine n_dup hC dX1_init_8 rfl ?_
  refine n_call (X := [(h0, .inr (1, [.null, .int 0, .int 0, .null, .null, .null, .null]))]) (b := q1) hC c_X2_init [170, 75, 168, 169] (by decide +kernel) dX1_init_9 rfl rfl (Nat.le_of_ble_eq_true rfl) ⟨(Nat.le_of_ble_eq_true rfl), (Nat.le_of_ble_eq_true rfl)⟩ ⟨(Nat.le_of_ble_eq_true rfl), (Nat.le_of_ble_eq_true rfl)⟩ (fun a2 ea2 => ?_)
  subst ea2
  refine n_put (ws' := [(h0, .inr (1, [.ref (a2 0), .int 0, .int 0, .null, .null, .null, .null])), ((a2 0), .inr (2, [.ref (a2 1), .int 0])), ((a2 1), .inl (cA 2, 20000, .inl (fun _ => 0)))]) hC dX1_init_12 zfx_X1_12 0 rfl (Nat.le_of_ble_eq_true rfl) hin ⟨TX1, 7, tyX1 0, rfl, rfl, tyX1_ok 0 (by decide), rfl, rfl⟩ rfl ?_
  refine n_aload hC dX1_init_15 0 rfl ?_
  refine n_iconst (v := 0) hC dX1_init_16 (by decide) ?_
  refine n_put (ws' := [(h0, .inr (1, [.ref (a2 0), .int 0, .int 0, .null, .null, .null, .null])), ((a2 0), .inr (2, [.ref (a2 1), .int 0])), ((a2 1), .inl (cA 2, 20000, .inl (fun _ => 0)))]) hC dX1_init_17 zfx_X1_18 0 rfl (Nat.le_of_ble_eq_true rfl) hin ⟨TX1, 7, tyX1 1, rfl, rfl, tyX1_ok 1 (by decide), rfl, rfl⟩ rfl ?_
  refine n_aload hC dX1_init_20 0 rfl ?_
  refine n_iconst (v := 0) hC dX1_init_21 (by decide) ?_
  refine n_put (ws' := [(h0, .inr (1, [.ref (a2 0), .int 0, .int 0, .null, .null, .null, .null])), ((a2 0), .inr (2, [.ref (a2 1), .int 0])), ((a2 1), .inl (cA 2, 20000, .inl (fun _ => 0)))]) hC dX1_init_22 zfx_X1_22 0 rfl (Nat.le_of_ble_eq_true rfl) hin ⟨TX1, 7, tyX1 2, rfl, rfl, tyX1_ok 2 (by decide), rfl, rfl⟩ rfl ?_
  refine n_aload hC dX1_init_25 0 rfl ?_
  refine n_sipush (v := 256) hC dX1_init_26 (by decide) ?_
  refine n_newa (ty := .int) (n' := 256) (a0 := (256, .inl (fun _ => 0))) hC 0 159 dX1_init_29 (by decide +kernel) rfl rfl (fun _ h => by cases h) (fun c9 => rfl) (by decide) (by decide) (Nat.le_of_ble_eq_true rfl) (Nat.le_of_ble_eq_true rfl) (Nat.le_of_ble_eq_true rfl) (fun q3 => ?_)
  refine n_put (ws' := [(h0, .inr (1, [.ref (a2 0), .int 0, .int 0, .ref q3, .null, .null, .null])), ((a2 0), .inr (2, [.ref (a2 1), .int 0])), ((a2 1), .inl (cA 2, 20000, .inl (fun _ => 0))), (q3, .inl (cA 0, 256, .inl (fun _ => 0)))]) hC dX1_init_31 zfx_X1_25 0 rfl (Nat.le_of_ble_eq_true rfl) hin ⟨TX1, 7, tyX1 3, rfl, rfl, tyX1_ok 3 (by decide), rfl, rfl⟩ rfl ?_
  refine n_aload hC dX1_init_34 0 rfl ?_
  refine n_sipush (v := 1056) hC dX1_init_35 (by decide) ?_
  refine n_newa (ty := .int) (n' := 1056) (a0 := (1056, .inl (fun _ => 0))) hC 0 159 dX1_init_38 (by decide +kernel) rfl rfl (fun _ h => by cases h) (fun c9 => rfl) (by decide) (by decide) (Nat.le_of_ble_eq_true rfl) (Nat.le_of_ble_eq_true rfl) (Nat.le_of_ble_eq_true rfl) (fun q4 => ?_)
  refine n_put (ws' := [(h0, .inr (1, [.ref (a2 0), .int 0, .int 0, .ref q3, .ref q4, .null, .null])), ((a2 0), .inr (2, [.ref (a2 1), .int 0])), ((a2 1), .inl (cA 2, 20000, .inl (fun _ => 0))), (q3, .inl (cA 0, 256, .inl (fun _ => 0))), (q4, .inl (cA 0, 1056, .inl (fun _ => 0)))]) hC dX1_init_40 zfx_X1_29 0 rfl (Nat.le_of_ble_eq_true rfl) hin ⟨TX1, 7, tyX1 4, rfl, rfl, tyX1_ok 4 (by decide), rfl, rfl⟩ rfl ?_
  refine n_aload hC dX1_init_43 0 rfl ?_
  refine n_new (ci := 0) (fs := fX0) (x1 := 183) (x2 := 184) (x3 := 76) hC tyX0 dX1_init_44 rfl tyX0_ok fX0_ok (by decide +kernel) (by decide +kernel) (by decide +kernel) (Nat.le_of_ble_eq_true rfl) (Nat.le_of_ble_eq_true rfl) (fun q5 => ?_)
  refine n_dup hC dX1_init_47 rfl ?_
  refine n_call (X := [(h0, .inr (1, [.ref (a2 0), .int 0, .int 0, .ref q3, .ref q4, .null, .null])), ((a2 0), .inr (2, [.ref (a2 1), .int 0])), ((a2 1), .inl (cA 2, 20000, .inl (fun _ => 0))), (q3, .inl (cA 0, 256, .inl (fun _ => 0))), (q4, .inl (cA 0, 1056, .inl (fun _ => 0)))]) (b := q5) hC c_X0_init [187, 76, 185, 186] (by decide +kernel) dX1_init_48 rfl rfl (Nat.le_of_ble_eq_true rfl) ⟨(Nat.le_of_ble_eq_true rfl), (Nat.le_of_ble_eq_true rfl)⟩ ⟨(Nat.le_of_ble_eq_true rfl), (Nat.le_of_ble_eq_true rfl)⟩ (fun a6 ea6 => ?_)
  subst ea6
  refine n_put (ws' := [(h0, .inr (1, [.ref (a2 0), .int 0, .int 0, .ref q3, .ref q4, .ref (a6 0), .null])), ((a2 0), .inr (2, [.ref (a2 1), .int 0])), ((a2 1), .inl (cA 2, 20000, .inl (fun _ => 0))), (q3, .inl (cA 0, 256, .inl (fun _ => 0))), (q4, .inl (cA 0, 1056, .inl (fun _ => 0))), ((a6 0), .inr (0, [.ref (a6 1), .ref (a6 3)])), ((a6 1), .inr (3, [.ref (a6 2), .int 0, .int 0])), ((a6 2), .inl (cA 0, 4, .inl (fun _ => 0))), ((a6 3), .inr (5, [.ref (a6 4), .int 0, .int 0, .ref (a6 5), .ref (a6 6), .ref (a6 7), .int 0, .long 0])), ((a6 4), .inl (cA 1, 256, .inr (.inl (fun _ => 0)))), ((a6 5), .inl (cA 1, 120, .inr (.inl (fun _ => 0)))), ((a6 6), .inl (cA 0, 8, .inl (fun _ => 0))), ((a6 7), .inl (cA 0, 8, .inl (fun _ => 0)))]) hC dX1_init_51 zfx_X1_35 0 rfl (Nat.le_of_ble_eq_true rfl) hin ⟨TX1, 7, tyX1 5, rfl, rfl, tyX1_ok 5 (by decide), rfl, rfl⟩ rfl ?_
  refine n_aload hC dX1_init_54 0 rfl ?_
  refine n_bipush (v := 8) hC dX1_init_55 (by decide) ?_
  refine n_newq (x := 232) (n' := 8) hC dX1_init_57 (by decide +kernel) (by decide) (by decide) (Nat.le_of_ble_eq_true rfl) (Nat.le_of_ble_eq_true rfl) (Nat.le_of_ble_eq_true rfl) (fun q7 => ?_)
  refine n_put (ws' := [(h0, .inr (1, [.ref (a2 0), .int 0, .int 0, .ref q3, .ref q4, .ref (a6 0), .ref q7])), ((a2 0), .inr (2, [.ref (a2 1), .int 0])), ((a2 1), .inl (cA 2, 20000, .inl (fun _ => 0))), (q3, .inl (cA 0, 256, .inl (fun _ => 0))), (q4, .inl (cA 0, 1056, .inl (fun _ => 0))), ((a6 0), .inr (0, [.ref (a6 1), .ref (a6 3)])), ((a6 1), .inr (3, [.ref (a6 2), .int 0, .int 0])), ((a6 2), .inl (cA 0, 4, .inl (fun _ => 0))), ((a6 3), .inr (5, [.ref (a6 4), .int 0, .int 0, .ref (a6 5), .ref (a6 6), .ref (a6 7), .int 0, .long 0])), ((a6 4), .inl (cA 1, 256, .inr (.inl (fun _ => 0)))), ((a6 5), .inl (cA 1, 120, .inr (.inl (fun _ => 0)))), ((a6 6), .inl (cA 0, 8, .inl (fun _ => 0))), ((a6 7), .inl (cA 0, 8, .inl (fun _ => 0))), (q7, .inl (cA 4, 8, .inr (.inr (.inr (.inr (fun _ => none))))))]) hC dX1_init_60 zfx_X1_41 0 rfl (Nat.le_of_ble_eq_true rfl) hin ⟨TX1, 7, tyX1 6, rfl, rfl, tyX1_ok 6 (by decide), rfl, rfl⟩ rfl ?_
  refine n_iconst (v := 0) hC dX1_init_63 (by decide) ?_
  refine n_istore (lv' := [(1, .int 0), (0, .ref h0)]) hC dX1_init_64 (by decide) rfl ?_
  refine n_iload hC dX1_init_65 0 rfl ?_
  refine n_bipush (v := 8) hC dX1_init_66 (by decide) ?_
  refine n_ge (tgt := 90) hC dX1_init_68 (by decide) (fun h9 => absurd h9 (by decide)) (fun _ => ?_)
  refine n_aload hC dX1_init_71 1 rfl ?_
  refine n_get hC dX1_init_72 zfx_X1_41 0 rfl rfl ?_
  refine n_iload hC dX1_init_75 0 rfl ?_
  refine n_new (ci := 7) (fs := fX7) (x1 := 232) (x2 := 234) (x3 := 78) hC tyX7 dX1_init_76 rfl tyX7_ok fX7_ok (by decide +kernel) (by decide +kernel) (by decide +kernel) (Nat.le_of_ble_eq_true rfl) (Nat.le_of_ble_eq_true rfl) (fun q8 => ?_)
  refine n_dup hC dX1_init_79 rfl ?_
  refine n_call (X := [(h0, .inr (1, [.ref (a2 0), .int 0, .int 0, .ref q3, .ref q4, .ref (a6 0), .ref q7])), ((a2 0), .inr (2, [.ref (a2 1), .int 0])), ((a2 1), .inl (cA 2, 20000, .inl (fun _ => 0))), (q3, .inl (cA 0, 256, .inl (fun _ => 0))), (q4, .inl (cA 0, 1056, .inl (fun _ => 0))), ((a6 0), .inr (0, [.ref (a6 1), .ref (a6 3)])), ((a6 1), .inr (3, [.ref (a6 2), .int 0, .int 0])), ((a6 2), .inl (cA 0, 4, .inl (fun _ => 0))), ((a6 3), .inr (5, [.ref (a6 4), .int 0, .int 0, .ref (a6 5), .ref (a6 6), .ref (a6 7), .int 0, .long 0])), ((a6 4), .inl (cA 1, 256, .inr (.inl (fun _ => 0)))), ((a6 5), .inl (cA 1, 120, .inr (.inl (fun _ => 0)))), ((a6 6), .inl (cA 0, 8, .inl (fun _ => 0))), ((a6 7), .inl (cA 0, 8, .inl (fun _ => 0))), (q7, .inl (cA 4, 8, .inr (.inr (.inr (.inr (fun _ => none))))))]) (b := q8) hC c_X7_init [237, 78, 235, 236] (by decide +kernel) dX1_init_80 rfl rfl (Nat.le_of_ble_eq_true rfl) ⟨(Nat.le_of_ble_eq_true rfl), (Nat.le_of_ble_eq_true rfl)⟩ ⟨(Nat.le_of_ble_eq_true rfl), (Nat.le_of_ble_eq_true rfl)⟩ (fun a9 ea9 => ?_)
  subst ea9
  refine n_aast (ws' := [(h0, .inr (1, [.ref (a2 0), .int 0, .int 0, .ref q3, .ref q4, .ref (a6 0), .ref q7])), ((a2 0), .inr (2, [.ref (a2 1), .int 0])), ((a2 1), .inl (cA 2, 20000, .inl (fun _ => 0))), (q3, .inl (cA 0, 256, .inl (fun _ => 0))), (q4, .inl (cA 0, 1056, .inl (fun _ => 0))), ((a6 0), .inr (0, [.ref (a6 1), .ref (a6 3)])), ((a6 1), .inr (3, [.ref (a6 2), .int 0, .int 0])), ((a6 2), .inl (cA 0, 4, .inl (fun _ => 0))), ((a6 3), .inr (5, [.ref (a6 4), .int 0, .int 0, .ref (a6 5), .ref (a6 6), .ref (a6 7), .int 0, .long 0])), ((a6 4), .inl (cA 1, 256, .inr (.inl (fun _ => 0)))), ((a6 5), .inl (cA 1, 120, .inr (.inl (fun _ => 0)))), ((a6 6), .inl (cA 0, 8, .inl (fun _ => 0))), ((a6 7), .inl (cA 0, 8, .inl (fun _ => 0))), (q7, .inl (cA 4, 8, .inr (.inr (.inr (.inr (va_up (fun _ => none) 0 (some (a9 0)))))))), ((a9 0), .inr (7, [.ref (a9 1), .int 0, .int 0, .int 0, .int 0, .int 0, .long 0])), ((a9 1), .inl (cA 0, 256, .inl (fun _ => 0)))]) hC 13 14 dX1_init_83 rfl rfl (by unfold vp_in; decide) rfl ?_
  refine n_iinc (j := 0) (v := 1) (lv' := [(1, .int 1), (0, .ref h0)]) hC dX1_init_84 rfl (by decide) (by decide) rfl ?_
  refine n_goto (tgt := 65) hC dX1_init_87 (by decide) ?_
  refine n_iload hC dX1_init_65 0 rfl ?_
  refine n_bipush (v := 8) hC dX1_init_66 (by decide) ?_
  refine n_ge (tgt := 90) hC dX1_init_68 (by decide) (fun h9 => absurd h9 (by decide)) (fun _ => ?_)
  refine n_aload hC dX1_init_71 1 rfl ?_
  refine n_get hC dX1_init_72 zfx_X1_41 0 rfl rfl ?_
  refine n_iload hC dX1_init_75 0 rfl ?_
  refine n_new (ci := 7) (fs := fX7) (x1 := 232) (x2 := 234) (x3 := 78) hC tyX7 dX1_init_76 rfl tyX7_ok fX7_ok (by decide +kernel) (by decide +kernel) (by decide +kernel) (Nat.le_of_ble_eq_true rfl) (Nat.le_of_ble_eq_true rfl) (fun q10 => ?_)
  refine n_dup hC dX1_init_79 rfl ?_
  refine n_call (X := [(h0, .inr (1, [.ref (a2 0), .int 0, .int 0, .ref q3, .ref q4, .ref (a6 0), .ref q7])), ((a2 0), .inr (2, [.ref (a2 1), .int 0])), ((a2 1), .inl (cA 2, 20000, .inl (fun _ => 0))), (q3, .inl (cA 0, 256, .inl (fun _ => 0))), (q4, .inl (cA 0, 1056, .inl (fun _ => 0))), ((a6 0), .inr (0, [.ref (a6 1), .ref (a6 3)])), ((a6 1), .inr (3, [.ref (a6 2), .int 0, .int 0])), ((a6 2), .inl (cA 0, 4, .inl (fun _ => 0))), ((a6 3), .inr (5, [.ref (a6 4), .int 0, .int 0, .ref (a6 5), .ref (a6 6), .ref (a6 7), .int 0, .long 0])), ((a6 4), .inl (cA 1, 256, .inr (.inl (fun _ => 0)))), ((a6 5), .inl (cA 1, 120, .inr (.inl (fun _ => 0)))), ((a6 6), .inl (cA 0, 8, .inl (fun _ => 0))), ((a6 7), .inl (cA 0, 8, .inl (fun _ => 0))), (q7, .inl (cA 4, 8, .inr (.inr (.inr (.inr (va_up (fun _ => none) 0 (some (a9 0)))))))), ((a9 0), .inr (7, [.ref (a9 1), .int 0, .int 0, .int 0, .int 0, .int 0, .long 0])), ((a9 1), .inl (cA 0, 256, .inl (fun _ => 0)))]) (b := q10) hC c_X7_init [237, 78, 235, 236] (by decide +kernel) dX1_init_80 rfl rfl (Nat.le_of_ble_eq_true rfl) ⟨(Nat.le_of_ble_eq_true rfl), (Nat.le_of_ble_eq_true rfl)⟩ ⟨(Nat.le_of_ble_eq_true rfl), (Nat.le_of_ble_eq_true rfl)⟩ (fun a11 ea11 => ?_)
  subst ea11
  refine n_aast (ws' := [(h0, .inr (1, [.ref (a2 0), .int 0, .int 0, .ref q3, .ref q4, .ref (a6 0), .ref q7])), ((a2 0), .inr (2, [.ref (a2 1), .int 0])), ((a2 1), .inl (cA 2, 20000, .inl (fun _ => 0))), (q3, .inl (cA 0, 256, .inl (fun _ => 0))), (q4, .inl (cA 0, 1056, .inl (fun _ => 0))), ((a6 0), .inr (0, [.ref (a6 1), .ref (a6 3)])), ((a6 1), .inr (3, [.ref (a6 2), .int 0, .int 0])), ((a6 2), .inl (cA 0, 4, .inl (fun _ => 0))), ((a6 3), .inr (5, [.ref (a6 4), .int 0, .int 0, .ref (a6 5), .ref (a6 6), .ref (a6 7), .int 0, .long 0])), ((a6 4), .inl (cA 1, 256, .inr (.inl (fun _ => 0)))), ((a6 5), .inl (cA 1, 120, .inr (.inl (fun _ => 0)))), ((a6 6), .inl (cA 0, 8, .inl (fun _ => 0))), ((a6 7), .inl (cA 0, 8, .inl (fun _ => 0))), (q7, .inl (cA 4, 8, .inr (.inr (.inr (.inr (va_up (va_up (fun _ => none) 0 (some (a9 0))) 1 (some (a11 0)))))))), ((a9 0), .inr (7, [.ref (a9 1), .int 0, .int 0, .int 0, .int 0, .int 0, .long 0])), ((a9 1), .inl (cA 0, 256, .inl (fun _ => 0))), ((a11 0), .inr (7, [.ref (a11 1), .int 0, .int 0, .int 0, .int 0, .int 0, .long 0])), ((a11 1), .inl (cA 0, 256, .inl (fun _ => 0)))]) hC 13 16 dX1_init_83 rfl rfl (by unfold vp_in; decide) rfl ?_
  refine n_iinc (j := 0) (v := 2) (lv' := [(1, .int 2), (0, .ref h0)]) hC dX1_init_84 rfl (by decide) (by decide) rfl ?_
  refine n_goto (tgt := 65) hC dX1_init_87 (by decide) ?_
  refine n_iload hC dX1_init_65 0 rfl ?_
  refine n_bipush (v := 8) hC dX1_init_66 (by decide) ?_
  refine n_ge (tgt := 90) hC dX1_init_68 (by decide) (fun h9 => absurd h9 (by decide)) (fun _ => ?_)
  refine n_aload hC dX1_init_71 1 rfl ?_
  refine n_get hC dX1_init_72 zfx_X1_41 0 rfl rfl ?_
  refine n_iload hC dX1_init_75 0 rfl ?_
  refine n_new (ci := 7) (fs := fX7) (x1 := 232) (x2 := 234) (x3 := 78) hC tyX7 dX1_init_76 rfl tyX7_ok fX7_ok (by decide +kernel) (by decide +kernel) (by decide +kernel) (Nat.le_of_ble_eq_true rfl) (Nat.le_of_ble_eq_true rfl) (fun q12 => ?_)
  refine n_dup hC dX1_init_79 rfl ?_
  refine n_call (X := [(h0, .inr (1, [.ref (a2 0), .int 0, .int 0, .ref q3, .ref q4, .ref (a6 0), .ref q7])), ((a2 0), .inr (2, [.ref (a2 1), .int 0])), ((a2 1), .inl (cA 2, 20000, .inl (fun _ => 0))), (q3, .inl (cA 0, 256, .inl (fun _ => 0))), (q4, .inl (cA 0, 1056, .inl (fun _ => 0))), ((a6 0), .inr (0, [.ref (a6 1), .ref (a6 3)])), ((a6 1), .inr (3, [.ref (a6 2), .int 0, .int 0])), ((a6 2), .inl (cA 0, 4, .inl (fun _ => 0))), ((a6 3), .inr (5, [.ref (a6 4), .int 0, .int 0, .ref (a6 5), .ref (a6 6), .ref (a6 7), .int 0, .long 0])), ((a6 4), .inl (cA 1, 256, .inr (.inl (fun _ => 0)))), ((a6 5), .inl (cA 1, 120, .inr (.inl (fun _ => 0)))), ((a6 6), .inl (cA 0, 8, .inl (fun _ => 0))), ((a6 7), .inl (cA 0, 8, .inl (fun _ => 0))), (q7, .inl (cA 4, 8, .inr (.inr (.inr (.inr (va_up (va_up (fun _ => none) 0 (some (a9 0))) 1 (some (a11 0)))))))), ((a9 0), .inr (7, [.ref (a9 1), .int 0, .int 0, .int 0, .int 0, .int 0, .long 0])), ((a9 1), .inl (cA 0, 256, .inl (fun _ => 0))), ((a11 0), .inr (7, [.ref (a11 1), .int 0, .int 0, .int 0, .int 0, .int 0, .long 0])), ((a11 1), .inl (cA 0, 256, .inl (fun _ => 0)))]) (b := q12) hC c_X7_init [237, 78, 235, 236] (by decide +kernel) dX1_init_80 rfl rfl (Nat.le_of_ble_eq_true rfl) ⟨(Nat.le_of_ble_eq_true rfl), (Nat.le_of_ble_eq_true rfl)⟩ ⟨(Nat.le_of_ble_eq_true rfl), (Nat.le_of_ble_eq_true rfl)⟩ (fun a13 ea13 => ?_)
  subst ea13
  refine n_aast (ws' := [(h0, .inr (1, [.ref (a2 0), .int 0, .int 0, .ref q3, .ref q4, .ref (a6 0), .ref q7])), ((a2 0), .inr (2, [.ref (a2 1), .int 0])), ((a2 1), .inl (cA 2, 20000, .inl (fun _ => 0))), (q3, .inl (cA 0, 256, .inl (fun _ => 0))), (q4, .inl (cA 0, 1056, .inl (fun _ => 0))), ((a6 0), .inr (0, [.ref (a6 1), .ref (a6 3)])), ((a6 1), .inr (3, [.ref (a6 2), .int 0, .int 0])), ((a6 2), .inl (cA 0, 4, .inl (fun _ => 0))), ((a6 3), .inr (5, [.ref (a6 4), .int 0, .int 0, .ref (a6 5), .ref (a6 6), .ref (a6 7), .int 0, .long 0])), ((a6 4), .inl (cA 1, 256, .inr (.inl (fun _ => 0)))), ((a6 5), .inl (cA 1, 120, .inr (.inl (fun _ => 0)))), ((a6 6), .inl (cA 0, 8, .inl (fun _ => 0))), ((a6 7), .inl (cA 0, 8, .inl (fun _ => 0))), (q7, .inl (cA 4, 8, .inr (.inr (.inr (.inr (va_up (va_up (va_up (fun _ => none) 0 (some (a9 0))) 1 (some (a11 0))) 2 (some (a13 0)))))))), ((a9 0), .inr (7, [.ref (a9 1), .int 0, .int 0, .int 0, .int 0, .int 0, .long 0])), ((a9 1), .inl (cA 0, 256, .inl (fun _ => 0))), ((a11 0), .inr (7, [.ref (a11 1), .int 0, .int 0, .int 0, .int 0, .int 0, .long 0])), ((a11 1), .inl (cA 0, 256, .inl (fun _ => 0))), ((a13 0), .inr (7, [.ref (a13 1), .int 0, .int 0, .int 0, .int 0, .int 0, .long 0])), ((a13 1), .inl (cA 0, 256, .inl (fun _ => 0)))]) hC 13 18 dX1_init_83 rfl rfl (by unfold vp_in; decide) rfl ?_
  refine n_iinc (j := 0) (v := 3) (lv' := [(1, .int 3), (0, .ref h0)]) hC dX1_init_84 rfl (by decide) (by decide) rfl ?_
  refine n_goto (tgt := 65) hC dX1_init_87 (by decide) ?_
  refine n_iload hC dX1_init_65 0 rfl ?_
  refine n_bipush (v := 8) hC dX1_init_66 (by decide) ?_
  refine n_ge (tgt := 90) hC dX1_init_68 (by decide) (fun h9 => absurd h9 (by decide)) (fun _ => ?_)
  refine n_aload hC dX1_init_71 1 rfl ?_
  refine n_get hC dX1_init_72 zfx_X1_41 0 rfl rfl ?_
  refine n_iload hC dX1_init_75 0 rfl ?_
  refine n_new (ci := 7) (fs := fX7) (x1 := 232) (x2 := 234) (x3 := 78) hC tyX7 dX1_init_76 rfl tyX7_ok fX7_ok (by decide +kernel) (by decide +kernel) (by decide +kernel) (Nat.le_of_ble_eq_true rfl) (Nat.le_of_ble_eq_true rfl) (fun q14 => ?_)
  refine n_dup hC dX1_init_79 rfl ?_
  refine n_call (X := [(h0, .inr (1, [.ref (a2 0), .int 0, .int 0, .ref q3, .ref q4, .ref (a6 0), .ref q7])), ((a2 0), .inr (2, [.ref (a2 1), .int 0])), ((a2 1), .inl (cA 2, 20000, .inl (fun _ => 0))), (q3, .inl (cA 0, 256, .inl (fun _ => 0))), (q4, .inl (cA 0, 1056, .inl (fun _ => 0))), ((a6 0), .inr (0, [.ref (a6 1), .ref (a6 3)])), ((a6 1), .inr (3, [.ref (a6 2), .int 0, .int 0])), ((a6 2), .inl (cA 0, 4, .inl (fun _ => 0))), ((a6 3), .inr (5, [.ref (a6 4), .int 0, .int 0, .ref (a6 5), .ref (a6 6), .ref (a6 7), .int 0, .long 0])), ((a6 4), .inl (cA 1, 256, .inr (.inl (fun _ => 0)))), ((a6 5), .inl (cA 1, 120, .inr (.inl (fun _ => 0)))), ((a6 6), .inl (cA 0, 8, .inl (fun _ => 0))), ((a6 7), .inl (cA 0, 8, .inl (fun _ => 0))), (q7, .inl (cA 4, 8, .inr (.inr (.inr (.inr (va_up (va_up (va_up (fun _ => none) 0 (some (a9 0))) 1 (some (a11 0))) 2 (some (a13 0)))))))), ((a9 0), .inr (7, [.ref (a9 1), .int 0, .int 0, .int 0, .int 0, .int 0, .long 0])), ((a9 1), .inl (cA 0, 256, .inl (fun _ => 0))), ((a11 0), .inr (7, [.ref (a11 1), .int 0, .int 0, .int 0, .int 0, .int 0, .long 0])), ((a11 1), .inl (cA 0, 256, .inl (fun _ => 0))), ((a13 0), .inr (7, [.ref (a13 1), .int 0, .int 0, .int 0, .int 0, .int 0, .long 0])), ((a13 1), .inl (cA 0, 256, .inl (fun _ => 0)))]) (b := q14) hC c_X7_init [237, 78, 235, 236] (by decide +kernel) dX1_init_80 rfl rfl (Nat.le_of_ble_eq_true rfl) ⟨(Nat.le_of_ble_eq_true rfl), (Nat.le_of_ble_eq_true rfl)⟩ ⟨(Nat.le_of_ble_eq_true rfl), (Nat.le_of_ble_eq_true rfl)⟩ (fun a15 ea15 => ?_)
  subst ea15
  refine n_aast (ws' := [(h0, .inr (1, [.ref (a2 0), .int 0, .int 0, .ref q3, .ref q4, .ref (a6 0), .ref q7])), ((a2 0), .inr (2, [.ref (a2 1), .int 0])), ((a2 1), .inl (cA 2, 20000, .inl (fun _ => 0))), (q3, .inl (cA 0, 256, .inl (fun _ => 0))), (q4, .inl (cA 0, 1056, .inl (fun _ => 0))), ((a6 0), .inr (0, [.ref (a6 1), .ref (a6 3)])), ((a6 1), .inr (3, [.ref (a6 2), .int 0, .int 0])), ((a6 2), .inl (cA 0, 4, .inl (fun _ => 0))), ((a6 3), .inr (5, [.ref (a6 4), .int 0, .int 0, .ref (a6 5), .ref (a6 6), .ref (a6 7), .int 0, .long 0])), ((a6 4), .inl (cA 1, 256, .inr (.inl (fun _ => 0)))), ((a6 5), .inl (cA 1, 120, .inr (.inl (fun _ => 0)))), ((a6 6), .inl (cA 0, 8, .inl (fun _ => 0))), ((a6 7), .inl (cA 0, 8, .inl (fun _ => 0))), (q7, .inl (cA 4, 8, .inr (.inr (.inr (.inr (va_up (va_up (va_up (va_up (fun _ => none) 0 (some (a9 0))) 1 (some (a11 0))) 2 (some (a13 0))) 3 (some (a15 0)))))))), ((a9 0), .inr (7, [.ref (a9 1), .int 0, .int 0, .int 0, .int 0, .int 0, .long 0])), ((a9 1), .inl (cA 0, 256, .inl (fun _ => 0))), ((a11 0), .inr (7, [.ref (a11 1), .int 0, .int 0, .int 0, .int 0, .int 0, .long 0])), ((a11 1), .inl (cA 0, 256, .inl (fun _ => 0))), ((a13 0), .inr (7, [.ref (a13 1), .int 0, .int 0, .int 0, .int 0, .int 0, .long 0])), ((a13 1), .inl (cA 0, 256, .inl (fun _ => 0))), ((a15 0), .inr (7, [.ref (a15 1), .int 0, .int 0, .int 0, .int 0, .int 0, .long 0])), ((a15 1), .inl (cA 0, 256, .inl (fun _ => 0)))]) hC 13 20 dX1_init_83 rfl rfl (by unfold vp_in; decide) rfl ?_
  refine n_iinc (j := 0) (v := 4) (lv' := [(1, .int 4), (0, .ref h0)]) hC dX1_init_84 rfl (by decide) (by decide) rfl ?_
  refine n_goto (tgt := 65) hC dX1_init_87 (by decide) ?_
  refine n_iload hC dX1_init_65 0 rfl ?_
  refine n_bipush (v := 8) hC dX1_init_66 (by decide) ?_
  refine n_ge (tgt := 90) hC dX1_init_68 (by decide) (fun h9 => absurd h9 (by decide)) (fun _ => ?_)
  refine n_aload hC dX1_init_71 1 rfl ?_
  refine n_get hC dX1_init_72 zfx_X1_41 0 rfl rfl ?_
  refine n_iload hC dX1_init_75 0 rfl ?_
  refine n_new (ci := 7) (fs := fX7) (x1 := 232) (x2 := 234) (x3 := 78) hC tyX7 dX1_init_76 rfl tyX7_ok fX7_ok (by decide +kernel) (by decide +kernel) (by decide +kernel) (Nat.le_of_ble_eq_true rfl) (Nat.le_of_ble_eq_true rfl) (fun q16 => ?_)
  refine n_dup hC dX1_init_79 rfl ?_
  refine n_call (X := [(h0, .inr (1, [.ref (a2 0), .int 0, .int 0, .ref q3, .ref q4, .ref (a6 0), .ref q7])), ((a2 0), .inr (2, [.ref (a2 1), .int 0])), ((a2 1), .inl (cA 2, 20000, .inl (fun _ => 0))), (q3, .inl (cA 0, 256, .inl (fun _ => 0))), (q4, .inl (cA 0, 1056, .inl (fun _ => 0))), ((a6 0), .inr (0, [.ref (a6 1), .ref (a6 3)])), ((a6 1), .inr (3, [.ref (a6 2), .int 0, .int 0])), ((a6 2), .inl (cA 0, 4, .inl (fun _ => 0))), ((a6 3), .inr (5, [.ref (a6 4), .int 0, .int 0, .ref (a6 5), .ref (a6 6), .ref (a6 7), .int 0, .long 0])), ((a6 4), .inl (cA 1, 256, .inr (.inl (fun _ => 0)))), ((a6 5), .inl (cA 1, 120, .inr (.inl (fun _ => 0)))), ((a6 6), .inl (cA 0, 8, .inl (fun _ => 0))), ((a6 7), .inl (cA 0, 8, .inl (fun _ => 0))), (q7, .inl (cA 4, 8, .inr (.inr (.inr (.inr (va_up (va_up (va_up (va_up (fun _ => none) 0 (some (a9 0))) 1 (some (a11 0))) 2 (some (a13 0))) 3 (some (a15 0)))))))), ((a9 0), .inr (7, [.ref (a9 1), .int 0, .int 0, .int 0, .int 0, .int 0, .long 0])), ((a9 1), .inl (cA 0, 256, .inl (fun _ => 0))), ((a11 0), .inr (7, [.ref (a11 1), .int 0, .int 0, .int 0, .int 0, .int 0, .long 0])), ((a11 1), .inl (cA 0, 256, .inl (fun _ => 0))), ((a13 0), .inr (7, [.ref (a13 1), .int 0, .int 0, .int 0, .int 0, .int 0, .long 0])), ((a13 1), .inl (cA 0, 256, .inl (fun _ => 0))), ((a15 0), .inr (7, [.ref (a15 1), .int 0, .int 0, .int 0, .int 0, .int 0, .long 0])), ((a15 1), .inl (cA 0, 256, .inl (fun _ => 0)))]) (b := q16) hC c_X7_init [237, 78, 235, 236] (by decide +kernel) dX1_init_80 rfl rfl (Nat.le_of_ble_eq_true rfl) ⟨(Nat.le_of_ble_eq_true rfl), (Nat.le_of_ble_eq_true rfl)⟩ ⟨(Nat.le_of_ble_eq_true rfl), (Nat.le_of_ble_eq_true rfl)⟩ (fun a17 ea17 => ?_)
  subst ea17
  refine n_aast (ws' := [(h0, .inr (1, [.ref (a2 0), .int 0, .int 0, .ref q3, .ref q4, .ref (a6 0), .ref q7])), ((a2 0), .inr (2, [.ref (a2 1), .int 0])), ((a2 1), .inl (cA 2, 20000, .inl (fun _ => 0))), (q3, .inl (cA 0, 256, .inl (fun _ => 0))), (q4, .inl (cA 0, 1056, .inl (fun _ => 0))), ((a6 0), .inr (0, [.ref (a6 1), .ref (a6 3)])), ((a6 1), .inr (3, [.ref (a6 2), .int 0, .int 0])), ((a6 2), .inl (cA 0, 4, .inl (fun _ => 0))), ((a6 3), .inr (5, [.ref (a6 4), .int 0, .int 0, .ref (a6 5), .ref (a6 6), .ref (a6 7), .int 0, .long 0])), ((a6 4), .inl (cA 1, 256, .inr (.inl (fun _ => 0)))), ((a6 5), .inl (cA 1, 120, .inr (.inl (fun _ => 0)))), ((a6 6), .inl (cA 0, 8, .inl (fun _ => 0))), ((a6 7), .inl (cA 0, 8, .inl (fun _ => 0))), (q7, .inl (cA 4, 8, .inr (.inr (.inr (.inr (va_up (va_up (va_up (va_up (va_up (fun _ => none) 0 (some (a9 0))) 1 (some (a11 0))) 2 (some (a13 0))) 3 (some (a15 0))) 4 (some (a17 0)))))))), ((a9 0), .inr (7, [.ref (a9 1), .int 0, .int 0, .int 0, .int 0, .int 0, .long 0])), ((a9 1), .inl (cA 0, 256, .inl (fun _ => 0))), ((a11 0), .inr (7, [.ref (a11 1), .int 0, .int 0, .int 0, .int 0, .int 0, .long 0])), ((a11 1), .inl (cA 0, 256, .inl (fun _ => 0))), ((a13 0), .inr (7, [.ref (a13 1), .int 0, .int 0, .int 0, .int 0, .int 0, .long 0])), ((a13 1), .inl (cA 0, 256, .inl (fun _ => 0))), ((a15 0), .inr (7, [.ref (a15 1), .int 0, .int 0, .int 0, .int 0, .int 0, .long 0])), ((a15 1), .inl (cA 0, 256, .inl (fun _ => 0))), ((a17 0), .inr (7, [.ref (a17 1), .int 0, .int 0, .int 0, .int 0, .int 0, .long 0])), ((a17 1), .inl (cA 0, 256, .inl (fun _ => 0)))]) hC 13 22 dX1_init_83 rfl rfl (by unfold vp_in; decide) rfl ?_
  refine n_iinc (j := 0) (v := 5) (lv' := [(1, .int 5), (0, .ref h0)]) hC dX1_init_84 rfl (by decide) (by decide) rfl ?_
  refine n_goto (tgt := 65) hC dX1_init_87 (by decide) ?_
  refine n_iload hC dX1_init_65 0 rfl ?_
  refine n_bipush (v := 8) hC dX1_init_66 (by decide) ?_
  refine n_ge (tgt := 90) hC dX1_init_68 (by decide) (fun h9 => absurd h9 (by decide)) (fun _ => ?_)
  refine n_aload hC dX1_init_71 1 rfl ?_
  refine n_get hC dX1_init_72 zfx_X1_41 0 rfl rfl ?_
  refine n_iload hC dX1_init_75 0 rfl ?_
  refine n_new (ci := 7) (fs := fX7) (x1 := 232) (x2 := 234) (x3 := 78) hC tyX7 dX1_init_76 rfl tyX7_ok fX7_ok (by decide +kernel) (by decide +kernel) (by decide +kernel) (Nat.le_of_ble_eq_true rfl) (Nat.le_of_ble_eq_true rfl) (fun q18 => ?_)
  refine n_dup hC dX1_init_79 rfl ?_
  refine n_call (X := [(h0, .inr (1, [.ref (a2 0), .int 0, .int 0, .ref q3, .ref q4, .ref (a6 0), .ref q7])), ((a2 0), .inr (2, [.ref (a2 1), .int 0])), ((a2 1), .inl (cA 2, 20000, .inl (fun _ => 0))), (q3, .inl (cA 0, 256, .inl (fun _ => 0))), (q4, .inl (cA 0, 1056, .inl (fun _ => 0))), ((a6 0), .inr (0, [.ref (a6 1), .ref (a6 3)])), ((a6 1), .inr (3, [.ref (a6 2), .int 0, .int 0])), ((a6 2), .inl (cA 0, 4, .inl (fun _ => 0))), ((a6 3), .inr (5, [.ref (a6 4), .int 0, .int 0, .ref (a6 5), .ref (a6 6), .ref (a6 7), .int 0, .long 0])), ((a6 4), .inl (cA 1, 256, .inr (.inl (fun _ => 0)))), ((a6 5), .inl (cA 1, 120, .inr (.inl (fun _ => 0)))), ((a6 6), .inl (cA 0, 8, .inl (fun _ => 0))), ((a6 7), .inl (cA 0, 8, .inl (fun _ => 0))), (q7, .inl (cA 4, 8, .inr (.inr (.inr (.inr (va_up (va_up (va_up (va_up (va_up (fun _ => none) 0 (some (a9 0))) 1 (some (a11 0))) 2 (some (a13 0))) 3 (some (a15 0))) 4 (some (a17 0)))))))), ((a9 0), .inr (7, [.ref (a9 1), .int 0, .int 0, .int 0, .int 0, .int 0, .long 0])), ((a9 1), .inl (cA 0, 256, .inl (fun _ => 0))), ((a11 0), .inr (7, [.ref (a11 1), .int 0, .int 0, .int 0, .int 0, .int 0, .long 0])), ((a11 1), .inl (cA 0, 256, .inl (fun _ => 0))), ((a13 0), .inr (7, [.ref (a13 1), .int 0, .int 0, .int 0, .int 0, .int 0, .long 0])), ((a13 1), .inl (cA 0, 256, .inl (fun _ => 0))), ((a15 0), .inr (7, [.ref (a15 1), .int 0, .int 0, .int 0, .int 0, .int 0, .long 0])), ((a15 1), .inl (cA 0, 256, .inl (fun _ => 0))), ((a17 0), .inr (7, [.ref (a17 1), .int 0, .int 0, .int 0, .int 0, .int 0, .long 0])), ((a17 1), .inl (cA 0, 256, .inl (fun _ => 0)))]) (b := q18) hC c_X7_init [237, 78, 235, 236] (by decide +kernel) dX1_init_80 rfl rfl (Nat.le_of_ble_eq_true rfl) ⟨(Nat.le_of_ble_eq_true rfl), (Nat.le_of_ble_eq_true rfl)⟩ ⟨(Nat.le_of_ble_eq_true rfl), (Nat.le_of_ble_eq_true rfl)⟩ (fun a19 ea19 => ?_)
  subst ea19
  refine n_aast (ws' := [(h0, .inr (1, [.ref (a2 0), .int 0, .int 0, .ref q3, .ref q4, .ref (a6 0), .ref q7])), ((a2 0), .inr (2, [.ref (a2 1), .int 0])), ((a2 1), .inl (cA 2, 20000, .inl (fun _ => 0))), (q3, .inl (cA 0, 256, .inl (fun _ => 0))), (q4, .inl (cA 0, 1056, .inl (fun _ => 0))), ((a6 0), .inr (0, [.ref (a6 1), .ref (a6 3)])), ((a6 1), .inr (3, [.ref (a6 2), .int 0, .int 0])), ((a6 2), .inl (cA 0, 4, .inl (fun _ => 0))), ((a6 3), .inr (5, [.ref (a6 4), .int 0, .int 0, .ref (a6 5), .ref (a6 6), .ref (a6 7), .int 0, .long 0])), ((a6 4), .inl (cA 1, 256, .inr (.inl (fun _ => 0)))), ((a6 5), .inl (cA 1, 120, .inr (.inl (fun _ => 0)))), ((a6 6), .inl (cA 0, 8, .inl (fun _ => 0))), ((a6 7), .inl (cA 0, 8, .inl (fun _ => 0))), (q7, .inl (cA 4, 8, .inr (.inr (.inr (.inr (va_up (va_up (va_up (va_up (va_up (va_up (fun _ => none) 0 (some (a9 0))) 1 (some (a11 0))) 2 (some (a13 0))) 3 (some (a15 0))) 4 (some (a17 0))) 5 (some (a19 0)))))))), ((a9 0), .inr (7, [.ref (a9 1), .int 0, .int 0, .int 0, .int 0, .int 0, .long 0])), ((a9 1), .inl (cA 0, 256, .inl (fun _ => 0))), ((a11 0), .inr (7, [.ref (a11 1), .int 0, .int 0, .int 0, .int 0, .int 0, .long 0])), ((a11 1), .inl (cA 0, 256, .inl (fun _ => 0))), ((a13 0), .inr (7, [.ref (a13 1), .int 0, .int 0, .int 0, .int 0, .int 0, .long 0])), ((a13 1), .inl (cA 0, 256, .inl (fun _ => 0))), ((a15 0), .inr (7, [.ref (a15 1), .int 0, .int 0, .int 0, .int 0, .int 0, .long 0])), ((a15 1), .inl (cA 0, 256, .inl (fun _ => 0))), ((a17 0), .inr (7, [.ref (a17 1), .int 0, .int 0, .int 0, .int 0, .int 0, .long 0])), ((a17 1), .inl (cA 0, 256, .inl (fun _ => 0))), ((a19 0), .inr (7, [.ref (a19 1), .int 0, .int 0, .int 0, .int 0, .int 0, .long 0])), ((a19 1), .inl (cA 0, 256, .inl (fun _ => 0)))]) hC 13 24 dX1_init_83 rfl rfl (by unfold vp_in; decide) rfl ?_
  refine n_iinc (j := 0) (v := 6) (lv' := [(1, .int 6), (0, .ref h0)]) hC dX1_init_84 rfl (by decide) (by decide) rfl ?_
  refine n_goto (tgt := 65) hC dX1_init_87 (by decide) ?_
  refine n_iload hC dX1_init_65 0 rfl ?_
  refine n_bipush (v := 8) hC dX1_init_66 (by decide) ?_
  refine n_ge (tgt := 90) hC dX1_init_68 (by decide) (fun h9 => absurd h9 (by decide)) (fun _ => ?_)
  refine n_aload hC dX1_init_71 1 rfl ?_
  refine n_get hC dX1_init_72 zfx_X1_41 0 rfl rfl ?_
  refine n_iload hC dX1_init_75 0 rfl ?_
  refine n_new (ci := 7) (fs := fX7) (x1 := 232) (x2 := 234) (x3 := 78) hC tyX7 dX1_init_76 rfl tyX7_ok fX7_ok (by decide +kernel) (by decide +kernel) (by decide +kernel) (Nat.le_of_ble_eq_true rfl) (Nat.le_of_ble_eq_true rfl) (fun q20 => ?_)
  refine n_dup hC dX1_init_79 rfl ?_
  refine n_call (X := [(h0, .inr (1, [.ref (a2 0), .int 0, .int 0, .ref q3, .ref q4, .ref (a6 0), .ref q7])), ((a2 0), .inr (2, [.ref (a2 1), .int 0])), ((a2 1), .inl (cA 2, 20000, .inl (fun _ => 0))), (q3, .inl (cA 0, 256, .inl (fun _ => 0))), (q4, .inl (cA 0, 1056, .inl (fun _ => 0))), ((a6 0), .inr (0, [.ref (a6 1), .ref (a6 3)])), ((a6 1), .inr (3, [.ref (a6 2), .int 0, .int 0])), ((a6 2), .inl (cA 0, 4, .inl (fun _ => 0))), ((a6 3), .inr (5, [.ref (a6 4), .int 0, .int 0, .ref (a6 5), .ref (a6 6), .ref (a6 7), .int 0, .long 0])), ((a6 4), .inl (cA 1, 256, .inr (.inl (fun _ => 0)))), ((a6 5), .inl (cA 1, 120, .inr (.inl (fun _ => 0)))), ((a6 6), .inl (cA 0, 8, .inl (fun _ => 0))), ((a6 7), .inl (cA 0, 8, .inl (fun _ => 0))), (q7, .inl (cA 4, 8, .inr (.inr (.inr (.inr (va_up (va_up (va_up (va_up (va_up (va_up (fun _ => none) 0 (some (a9 0))) 1 (some (a11 0))) 2 (some (a13 0))) 3 (some (a15 0))) 4 (some (a17 0))) 5 (some (a19 0)))))))), ((a9 0), .inr (7, [.ref (a9 1), .int 0, .int 0, .int 0, .int 0, .int 0, .long 0])), ((a9 1), .inl (cA 0, 256, .inl (fun _ => 0))), ((a11 0), .inr (7, [.ref (a11 1), .int 0, .int 0, .int 0, .int 0, .int 0, .long 0])), ((a11 1), .inl (cA 0, 256, .inl (fun _ => 0))), ((a13 0), .inr (7, [.ref (a13 1), .int 0, .int 0, .int 0, .int 0, .int 0, .long 0])), ((a13 1), .inl (cA 0, 256, .inl (fun _ => 0))), ((a15 0), .inr (7, [.ref (a15 1), .int 0, .int 0, .int 0, .int 0, .int 0, .long 0])), ((a15 1), .inl (cA 0, 256, .inl (fun _ => 0))), ((a17 0), .inr (7, [.ref (a17 1), .int 0, .int 0, .int 0, .int 0, .int 0, .long 0])), ((a17 1), .inl (cA 0, 256, .inl (fun _ => 0))), ((a19 0), .inr (7, [.ref (a19 1), .int 0, .int 0, .int 0, .int 0, .int 0, .long 0])), ((a19 1), .inl (cA 0, 256, .inl (fun _ => 0)))]) (b := q20) hC c_X7_init [237, 78, 235, 236] (by decide +kernel) dX1_init_80 rfl rfl (Nat.le_of_ble_eq_true rfl) ⟨(Nat.le_of_ble_eq_true rfl), (Nat.le_of_ble_eq_true rfl)⟩ ⟨(Nat.le_of_ble_eq_true rfl), (Nat.le_of_ble_eq_true rfl)⟩ (fun a21 ea21 => ?_)
  subst ea21
  refine n_aast (ws' := [(h0, .inr (1, [.ref (a2 0), .int 0, .int 0, .ref q3, .ref q4, .ref (a6 0), .ref q7])), ((a2 0), .inr (2, [.ref (a2 1), .int 0])), ((a2 1), .inl (cA 2, 20000, .inl (fun _ => 0))), (q3, .inl (cA 0, 256, .inl (fun _ => 0))), (q4, .inl (cA 0, 1056, .inl (fun _ => 0))), ((a6 0), .inr (0, [.ref (a6 1), .ref (a6 3)])), ((a6 1), .inr (3, [.ref (a6 2), .int 0, .int 0])), ((a6 2), .inl (cA 0, 4, .inl (fun _ => 0))), ((a6 3), .inr (5, [.ref (a6 4), .int 0, .int 0, .ref (a6 5), .ref (a6 6), .ref (a6 7), .int 0, .long 0])), ((a6 4), .inl (cA 1, 256, .inr (.inl (fun _ => 0)))), ((a6 5), .inl (cA 1, 120, .inr (.inl (fun _ => 0)))), ((a6 6), .inl (cA 0, 8, .inl (fun _ => 0))), ((a6 7), .inl (cA 0, 8, .inl (fun _ => 0))), (q7, .inl (cA 4, 8, .inr (.inr (.inr (.inr (va_up (va_up (va_up (va_up (va_up (va_up (va_up (fun _ => none) 0 (some (a9 0))) 1 (some (a11 0))) 2 (some (a13 0))) 3 (some (a15 0))) 4 (some (a17 0))) 5 (some (a19 0))) 6 (some (a21 0)))))))), ((a9 0), .inr (7, [.ref (a9 1), .int 0, .int 0, .int 0, .int 0, .int 0, .long 0])), ((a9 1), .inl (cA 0, 256, .inl (fun _ => 0))), ((a11 0), .inr (7, [.ref (a11 1), .int 0, .int 0, .int 0, .int 0, .int 0, .long 0])), ((a11 1), .inl (cA 0, 256, .inl (fun _ => 0))), ((a13 0), .inr (7, [.ref (a13 1), .int 0, .int 0, .int 0, .int 0, .int 0, .long 0])), ((a13 1), .inl (cA 0, 256, .inl (fun _ => 0))), ((a15 0), .inr (7, [.ref (a15 1), .int 0, .int 0, .int 0, .int 0, .int 0, .long 0])), ((a15 1), .inl (cA 0, 256, .inl (fun _ => 0))), ((a17 0), .inr (7, [.ref (a17 1), .int 0, .int 0, .int 0, .int 0, .int 0, .long 0])), ((a17 1), .inl (cA 0, 256, .inl (fun _ => 0))), ((a19 0), .inr (7, [.ref (a19 1), .int 0, .int 0, .int 0, .int 0, .int 0, .long 0])), ((a19 1), .inl (cA 0, 256, .inl (fun _ => 0))), ((a21 0), .inr (7, [.ref (a21 1), .int 0, .int 0, .int 0, .int 0, .int 0, .long 0])), ((a21 1), .inl (cA 0, 256, .inl (fun _ => 0)))]) hC 13 26 dX1_init_83 rfl rfl (by unfold vp_in; decide) rfl ?_
  refine n_iinc (j := 0) (v := 7) (lv' := [(1, .int 7), (0, .ref h0)]) hC dX1_init_84 rfl (by decide) (by decide) rfl ?_
  refine n_goto (tgt := 65) hC dX1_init_87 (by decide) ?_
  refine n_iload hC dX1_init_65 0 rfl ?_
  refine n_bipush (v := 8) hC dX1_init_66 (by decide) ?_
  refine n_ge (tgt := 90) hC dX1_init_68 (by decide) (fun h9 => absurd h9 (by decide)) (fun _ => ?_)
  refine n_aload hC dX1_init_71 1 rfl ?_
  refine n_get hC dX1_init_72 zfx_X1_41 0 rfl rfl ?_
  refine n_iload hC dX1_init_75 0 rfl ?_
  refine n_new (ci := 7) (fs := fX7) (x1 := 232) (x2 := 234) (x3 := 78) hC tyX7 dX1_init_76 rfl tyX7_ok fX7_ok (by decide +kernel) (by decide +kernel) (by decide +kernel) (Nat.le_of_ble_eq_true rfl) (Nat.le_of_ble_eq_true rfl) (fun q22 => ?_)
  refine n_dup hC dX1_init_79 rfl ?_
  refine n_call (X := [(h0, .inr (1, [.ref (a2 0), .int 0, .int 0, .ref q3, .ref q4, .ref (a6 0), .ref q7])), ((a2 0), .inr (2, [.ref (a2 1), .int 0])), ((a2 1), .inl (cA 2, 20000, .inl (fun _ => 0))), (q3, .inl (cA 0, 256, .inl (fun _ => 0))), (q4, .inl (cA 0, 1056, .inl (fun _ => 0))), ((a6 0), .inr (0, [.ref (a6 1), .ref (a6 3)])), ((a6 1), .inr (3, [.ref (a6 2), .int 0, .int 0])), ((a6 2), .inl (cA 0, 4, .inl (fun _ => 0))), ((a6 3), .inr (5, [.ref (a6 4), .int 0, .int 0, .ref (a6 5), .ref (a6 6), .ref (a6 7), .int 0, .long 0])), ((a6 4), .inl (cA 1, 256, .inr (.inl (fun _ => 0)))), ((a6 5), .inl (cA 1, 120, .inr (.inl (fun _ => 0)))), ((a6 6), .inl (cA 0, 8, .inl (fun _ => 0))), ((a6 7), .inl (cA 0, 8, .inl (fun _ => 0))), (q7, .inl (cA 4, 8, .inr (.inr (.inr (.inr (va_up (va_up (va_up (va_up (va_up (va_up (va_up (fun _ => none) 0 (some (a9 0))) 1 (some (a11 0))) 2 (some (a13 0))) 3 (some (a15 0))) 4 (some (a17 0))) 5 (some (a19 0))) 6 (some (a21 0)))))))), ((a9 0), .inr (7, [.ref (a9 1), .int 0, .int 0, .int 0, .int 0, .int 0, .long 0])), ((a9 1), .inl (cA 0, 256, .inl (fun _ => 0))), ((a11 0), .inr (7, [.ref (a11 1), .int 0, .int 0, .int 0, .int 0, .int 0, .long 0])), ((a11 1), .inl (cA 0, 256, .inl (fun _ => 0))), ((a13 0), .inr (7, [.ref (a13 1), .int 0, .int 0, .int 0, .int 0, .int 0, .long 0])), ((a13 1), .inl (cA 0, 256, .inl (fun _ => 0))), ((a15 0), .inr (7, [.ref (a15 1), .int 0, .int 0, .int 0, .int 0, .int 0, .long 0])), ((a15 1), .inl (cA 0, 256, .inl (fun _ => 0))), ((a17 0), .inr (7, [.ref (a17 1), .int 0, .int 0, .int 0, .int 0, .int 0, .long 0])), ((a17 1), .inl (cA 0, 256, .inl (fun _ => 0))), ((a19 0), .inr (7, [.ref (a19 1), .int 0, .int 0, .int 0, .int 0, .int 0, .long 0])), ((a19 1), .inl (cA 0, 256, .inl (fun _ => 0))), ((a21 0), .inr (7, [.ref (a21 1), .int 0, .int 0, .int 0, .int 0, .int 0, .long 0])), ((a21 1), .inl (cA 0, 256, .inl (fun _ => 0)))]) (b := q22) hC c_X7_init [237, 78, 235, 236] (by decide +kernel) dX1_init_80 rfl rfl (Nat.le_of_ble_eq_true rfl) ⟨(Nat.le_of_ble_eq_true rfl), (Nat.le_of_ble_eq_true rfl)⟩ ⟨(Nat.le_of_ble_eq_true rfl), (Nat.le_of_ble_eq_true rfl)⟩ (fun a23 ea23 => ?_)
  subst ea23
  refine n_aast (ws' := [(h0, .inr (1, [.ref (a2 0), .int 0, .int 0, .ref q3, .ref q4, .ref (a6 0), .ref q7])), ((a2 0), .inr (2, [.ref (a2 1), .int 0])), ((a2 1), .inl (cA 2, 20000, .inl (fun _ => 0))), (q3, .inl (cA 0, 256, .inl (fun _ => 0))), (q4, .inl (cA 0, 1056, .inl (fun _ => 0))), ((a6 0), .inr (0, [.ref (a6 1), .ref (a6 3)])), ((a6 1), .inr (3, [.ref (a6 2), .int 0, .int 0])), ((a6 2), .inl (cA 0, 4, .inl (fun _ => 0))), ((a6 3), .inr (5, [.ref (a6 4), .int 0, .int 0, .ref (a6 5), .ref (a6 6), .ref (a6 7), .int 0, .long 0])), ((a6 4), .inl (cA 1, 256, .inr (.inl (fun _ => 0)))), ((a6 5), .inl (cA 1, 120, .inr (.inl (fun _ => 0)))), ((a6 6), .inl (cA 0, 8, .inl (fun _ => 0))), ((a6 7), .inl (cA 0, 8, .inl (fun _ => 0))), (q7, .inl (cA 4, 8, .inr (.inr (.inr (.inr (va_up (va_up (va_up (va_up (va_up (va_up (va_up (va_up (fun _ => none) 0 (some (a9 0))) 1 (some (a11 0))) 2 (some (a13 0))) 3 (some (a15 0))) 4 (some (a17 0))) 5 (some (a19 0))) 6 (some (a21 0))) 7 (some (a23 0)))))))), ((a9 0), .inr (7, [.ref (a9 1), .int 0, .int 0, .int 0, .int 0, .int 0, .long 0])), ((a9 1), .inl (cA 0, 256, .inl (fun _ => 0))), ((a11 0), .inr (7, [.ref (a11 1), .int 0, .int 0, .int 0, .int 0, .int 0, .long 0])), ((a11 1), .inl (cA 0, 256, .inl (fun _ => 0))), ((a13 0), .inr (7, [.ref (a13 1), .int 0, .int 0, .int 0, .int 0, .int 0, .long 0])), ((a13 1), .inl (cA 0, 256, .inl (fun _ => 0))), ((a15 0), .inr (7, [.ref (a15 1), .int 0, .int 0, .int 0, .int 0, .int 0, .long 0])), ((a15 1), .inl (cA 0, 256, .inl (fun _ => 0))), ((a17 0), .inr (7, [.ref (a17 1), .int 0, .int 0, .int 0, .int 0, .int 0, .long 0])), ((a17 1), .inl (cA 0, 256, .inl (fun _ => 0))), ((a19 0), .inr (7, [.ref (a19 1), .int 0, .int 0, .int 0, .int 0, .int 0, .long 0])), ((a19 1), .inl (cA 0, 256, .inl (fun _ => 0))), ((a21 0), .inr (7, [.ref (a21 1), .int 0, .int 0, .int 0, .int 0, .int 0, .long 0])), ((a21 1), .inl (cA 0, 256, .inl (fun _ => 0))), ((a23 0), .inr (7, [.ref (a23 1), .int 0, .int 0, .int 0, .int 0, .int 0, .long 0])), ((a23 1), .inl (cA 0, 256, .inl (fun _ => 0)))]) hC 13 28 dX1_init_83 rfl rfl (by unfold vp_in; decide) rfl ?_
  refine n_iinc (j := 0) (v := 8) (lv' := [(1, .int 8), (0, .ref h0)]) hC dX1_init_84 rfl (by decide) (by decide) rfl ?_
  refine n_goto (tgt := 65) hC dX1_init_87 (by decide) ?_
  refine n_iload hC dX1_init_65 0 rfl ?_
  refine n_bipush (v := 8) hC dX1_init_66 (by decide) ?_
  refine n_ge (tgt := 90) hC dX1_init_68 (by decide) (fun _ => ?_) (fun h9 => absurd (by decide) h9)
  exact n_ret hC hr hlk (fun j => ([h0, (a2 0), (a2 1), q3, q4, (a6 0), (a6 1), (a6 2), (a6 3), (a6 4), (a6 5), (a6 6), (a6 7), q7, (a9 0), (a9 1), (a11 0), (a11 1), (a13 0), (a13 1), (a15 0), (a15 1), (a17 0), (a17 1), (a19 0), (a19 1), (a21 0), (a21 1), (a23 0), (a23 1)] : List Nat).getD j 0) dX1_init_90 rfl rfl (Nat.le_of_ble_eq_true rfl) (Nat.le_of_ble_eq_true rfl)
def F_X4 (cA : Nat → ClassId) (a : Nat → Nat) : va_W := [(a 0, .inr (4, [.ref (a 1), .int 0, .int 0, .int (-1), .ref (a 2), .int 0, .ref (a 3), .int 0, .int 0, .ref (a 4), .ref (a 5)])), (a 1, .inl (cA 2, 20000, .inl (fun _ => 0))), (a 2, .inr (6, [.int 1, .int 16, .int 64, .int 44100])), (a 3, .inl (cA 0, 4096, .inl (fun _ => 0))), (a 4, .inl (cA 3, 8, .inr (.inr (.inr (.inr (fun i => if i < 8 then some ((a 4) + 1 + i) else none)))))), (a 4 + 1 + 0, .inl (cA 0, 256, .inl (fun _ => 0))), (a 4 + 1 + 1, .inl (cA 0, 256, .inl (fun _ => 0))), (a 4 + 1 + 2, .inl (cA 0, 256, .inl (fun _ => 0))), (a 4 + 1 + 3, .inl (cA 0, 256, .inl (fun _ => 0))), (a 4 + 1 + 4, .inl (cA 0, 256, .inl (fun _ => 0))), (a 4 + 1 + 5, .inl (cA 0, 256, .inl (fun _ => 0))), (a 4 + 1 + 6, .inl (cA 0, 256, .inl (fun _ => 0))), (a 4 + 1 + 7, .inl (cA 0, 256, .inl (fun _ => 0))), (a 5, .inr (3, [.ref (a 6), .int 0, .int 0])), (a 6, .inl (cA 0, 32, .inl (fun _ => 0)))]
set_option maxHeartbeats 4000000 in
set_option maxRecDepth 100000 in
theorem c_X4_init : NM yX4_init iX4_init (rmk 3 14 26191 160) [] (.inr (4, fX4)) F_X4 := by
  refine n_method (by decide +kernel) rfl rfl (fun _ => (Nat.le_of_ble_eq_true rfl)) ?_
  intro p l e s m args below meth c cA G A h0 hC hin hr hlk
  refine n_aload hC dX4_init_0 0 rfl ?_
  refine n_obj (x := 301) hC dX4_init_1 (by decide +kernel) ⟨(Nat.le_of_ble_eq_true rfl), (Nat.le_of_ble_eq_true rfl)⟩ ?_
  refine n_aload hC dX4_init_4 0 rfl ?_
  refine n_sipush (v := 20000) hC dX4_init_5 (by decide) ?_
  refine n_newa (ty := .byte) (n' := 20000) (a0 := (20000, .inl (fun _ => 0))) hC 2 182 dX4_init_8 (by decide +kernel) rfl rfl (fun _ h => by cases h) (fun c9 => rfl) (by decide) (by decide) (Nat.le_of_ble_eq_true rfl) (Nat.le_of_ble_eq_true rfl) (Nat.le_of_ble_eq_true rfl) (fun q1 => ?_)
  refine n_put (ws' := [(h0, .inr (4, [.ref q1, .int 0, .int 0, .int 0, .null, .int 0, .null, .int 0, .int 0, .null, .null])), (q1, .inl (cA 2, 20000, .inl (fun _ => 0)))]) hC dX4_init_10 zfx_X4_9 0 rfl (Nat.le_of_ble_eq_true rfl) hin ⟨TX4, 11, tyX4 0, rfl, rfl, tyX4_ok 0 (by decide), rfl, rfl⟩ rfl ?_
  refine n_aload hC dX4_init_13 0 rfl ?_
  refine n_iconst (v := 0) hC dX4_init_14 (by decide) ?_
  refine n_put (ws' := [(h0, .inr (4, [.ref q1, .int 0, .int 0, .int 0, .null, .int 0, .null, .int 0, .int 0, .null, .null])), (q1, .inl (cA 2, 20000, .inl (fun _ => 0)))]) hC dX4_init_15 zfx_X4_15 0 rfl (Nat.le_of_ble_eq_true rfl) hin ⟨TX4, 11, tyX4 1, rfl, rfl, tyX4_ok 1 (by decide), rfl, rfl⟩ rfl ?_
  refine n_aload hC dX4_init_18 0 rfl ?_
  refine n_iconst (v := 0) hC dX4_init_19 (by decide) ?_
  refine n_put (ws' := [(h0, .inr (4, [.ref q1, .int 0, .int 0, .int 0, .null, .int 0, .null, .int 0, .int 0, .null, .null])), (q1, .inl (cA 2, 20000, .inl (fun _ => 0)))]) hC dX4_init_20 zfx_X4_19 0 rfl (Nat.le_of_ble_eq_true rfl) hin ⟨TX4, 11, tyX4 2, rfl, rfl, tyX4_ok 2 (by decide), rfl, rfl⟩ rfl ?_
  refine n_aload hC dX4_init_23 0 rfl ?_
  refine n_iconst (v := (-1)) hC dX4_init_24 (by decide) ?_
  refine n_put (ws' := [(h0, .inr (4, [.ref q1, .int 0, .int 0, .int (-1), .null, .int 0, .null, .int 0, .int 0, .null, .null])), (q1, .inl (cA 2, 20000, .inl (fun _ => 0)))]) hC dX4_init_25 zfx_X4_22 0 rfl (Nat.le_of_ble_eq_true rfl) hin ⟨TX4, 11, tyX4 3, rfl, rfl, tyX4_ok 3 (by decide), rfl, rfl⟩ rfl ?_
  refine n_aload hC dX4_init_28 0 rfl ?_
  refine n_new (ci := 6) (fs := fX6) (x1 := 302) (x2 := 106) (x3 := 72) hC tyX6 dX4_init_29 rfl tyX6_ok fX6_ok (by decide +kernel) (by decide +kernel) (by decide +kernel) (Nat.le_of_ble_eq_true rfl) (Nat.le_of_ble_eq_true rfl) (fun q2 => ?_)
  refine n_dup hC dX4_init_32 rfl ?_
  refine n_call (X := [(h0, .inr (4, [.ref q1, .int 0, .int 0, .int (-1), .null, .int 0, .null, .int 0, .int 0, .null, .null])), (q1, .inl (cA 2, 20000, .inl (fun _ => 0)))]) (b := q2) hC c_X6_init [109, 72, 303, 108] (by decide +kernel) dX4_init_33 rfl rfl (Nat.le_of_ble_eq_true rfl) ⟨(Nat.le_of_ble_eq_true rfl), (Nat.le_of_ble_eq_true rfl)⟩ ⟨(Nat.le_of_ble_eq_true rfl), (Nat.le_of_ble_eq_true rfl)⟩ (fun a3 ea3 => ?_)
  subst ea3
  refine n_put (ws' := [(h0, .inr (4, [.ref q1, .int 0, .int 0, .int (-1), .ref (a3 0), .int 0, .null, .int 0, .int 0, .null, .null])), (q1, .inl (cA 2, 20000, .inl (fun _ => 0))), ((a3 0), .inr (6, [.int 1, .int 16, .int 64, .int 44100]))]) hC dX4_init_36 zfx_X4_28 0 rfl (Nat.le_of_ble_eq_true rfl) hin ⟨TX4, 11, tyX4 4, rfl, rfl, tyX4_ok 4 (by decide), rfl, rfl⟩ rfl ?_
  refine n_aload hC dX4_init_39 0 rfl ?_
  refine n_sipush (v := 4096) hC dX4_init_40 (by decide) ?_
  refine n_newa (ty := .int) (n' := 4096) (a0 := (4096, .inl (fun _ => 0))) hC 0 159 dX4_init_43 (by decide +kernel) rfl rfl (fun _ h => by cases h) (fun c9 => rfl) (by decide) (by decide) (Nat.le_of_ble_eq_true rfl) (Nat.le_of_ble_eq_true rfl) (Nat.le_of_ble_eq_true rfl) (fun q4 => ?_)
  refine n_put (ws' := [(h0, .inr (4, [.ref q1, .int 0, .int 0, .int (-1), .ref (a3 0), .int 0, .ref q4, .int 0, .int 0, .null, .null])), (q1, .inl (cA 2, 20000, .inl (fun _ => 0))), ((a3 0), .inr (6, [.int 1, .int 16, .int 64, .int 44100])), (q4, .inl (cA 0, 4096, .inl (fun _ => 0)))]) hC dX4_init_45 zfx_X4_32 0 rfl (Nat.le_of_ble_eq_true rfl) hin ⟨TX4, 11, tyX4 6, rfl, rfl, tyX4_ok 6 (by decide), rfl, rfl⟩ rfl ?_
  refine n_aload hC dX4_init_48 0 rfl ?_
  refine n_bipush (v := 8) hC dX4_init_49 (by decide) ?_
  refine n_sipush (v := 256) hC dX4_init_51 (by decide) ?_
  refine n_mna (x := 304) hC dX4_init_54 (by decide +kernel) (Nat.le_of_ble_eq_true rfl) (Nat.le_of_ble_eq_true rfl) (fun q5 => ?_)
  refine n_put (ws' := [(h0, .inr (4, [.ref q1, .int 0, .int 0, .int (-1), .ref (a3 0), .int 0, .ref q4, .int 0, .int 0, .ref q5, .null])), (q1, .inl (cA 2, 20000, .inl (fun _ => 0))), ((a3 0), .inr (6, [.int 1, .int 16, .int 64, .int 44100])), (q4, .inl (cA 0, 4096, .inl (fun _ => 0))), (q5, .inl (cA 3, 8, .inr (.inr (.inr (.inr (fun i => if i < 8 then some (q5 + 1 + i) else none)))))), (q5 + 1 + 0, .inl (cA 0, 256, .inl (fun _ => 0))), (q5 + 1 + 1, .inl (cA 0, 256, .inl (fun _ => 0))), (q5 + 1 + 2, .inl (cA 0, 256, .inl (fun _ => 0))), (q5 + 1 + 3, .inl (cA 0, 256, .inl (fun _ => 0))), (q5 + 1 + 4, .inl (cA 0, 256, .inl (fun _ => 0))), (q5 + 1 + 5, .inl (cA 0, 256, .inl (fun _ => 0))), (q5 + 1 + 6, .inl (cA 0, 256, .inl (fun _ => 0))), (q5 + 1 + 7, .inl (cA 0, 256, .inl (fun _ => 0)))]) hC dX4_init_58 zfx_X4_38 0 rfl (Nat.le_of_ble_eq_true rfl) hin ⟨TX4, 11, tyX4 9, rfl, rfl, tyX4_ok 9 (by decide), rfl, rfl⟩ rfl ?_
  refine n_aload hC dX4_init_61 0 rfl ?_
  refine n_new (ci := 3) (fs := fX3) (x1 := 306) (x2 := 138) (x3 := 73) hC tyX3 dX4_init_62 rfl tyX3_ok fX3_ok (by decide +kernel) (by decide +kernel) (by decide +kernel) (Nat.le_of_ble_eq_true rfl) (Nat.le_of_ble_eq_true rfl) (fun q6 => ?_)
  refine n_dup hC dX4_init_65 rfl ?_
  refine n_bipush (v := 32) hC dX4_init_66 (by decide) ?_
  refine n_call (X := [(h0, .inr (4, [.ref q1, .int 0, .int 0, .int (-1), .ref (a3 0), .int 0, .ref q4, .int 0, .int 0, .ref q5, .null])), (q1, .inl (cA 2, 20000, .inl (fun _ => 0))), ((a3 0), .inr (6, [.int 1, .int 16, .int 64, .int 44100])), (q4, .inl (cA 0, 4096, .inl (fun _ => 0))), (q5, .inl (cA 3, 8, .inr (.inr (.inr (.inr (fun i => if i < 8 then some (q5 + 1 + i) else none)))))), (q5 + 1 + 0, .inl (cA 0, 256, .inl (fun _ => 0))), (q5 + 1 + 1, .inl (cA 0, 256, .inl (fun _ => 0))), (q5 + 1 + 2, .inl (cA 0, 256, .inl (fun _ => 0))), (q5 + 1 + 3, .inl (cA 0, 256, .inl (fun _ => 0))), (q5 + 1 + 4, .inl (cA 0, 256, .inl (fun _ => 0))), (q5 + 1 + 5, .inl (cA 0, 256, .inl (fun _ => 0))), (q5 + 1 + 6, .inl (cA 0, 256, .inl (fun _ => 0))), (q5 + 1 + 7, .inl (cA 0, 256, .inl (fun _ => 0)))]) (b := q6) hC (c_X3_init 32 32 (by decide) (by decide) (by decide)) [141, 73, 307, 140] (by decide +kernel) dX4_init_68 rfl rfl (Nat.le_of_ble_eq_true rfl) ⟨(Nat.le_of_ble_eq_true rfl), (Nat.le_of_ble_eq_true rfl)⟩ ⟨(Nat.le_of_ble_eq_true rfl), (Nat.le_of_ble_eq_true rfl)⟩ (fun a7 ea7 => ?_)
  subst ea7
  refine n_put (ws' := [(h0, .inr (4, [.ref q1, .int 0, .int 0, .int (-1), .ref (a3 0), .int 0, .ref q4, .int 0, .int 0, .ref q5, .ref (a7 0)])), (q1, .inl (cA 2, 20000, .inl (fun _ => 0))), ((a3 0), .inr (6, [.int 1, .int 16, .int 64, .int 44100])), (q4, .inl (cA 0, 4096, .inl (fun _ => 0))), (q5, .inl (cA 3, 8, .inr (.inr (.inr (.inr (fun i => if i < 8 then some (q5 + 1 + i) else none)))))), (q5 + 1 + 0, .inl (cA 0, 256, .inl (fun _ => 0))), (q5 + 1 + 1, .inl (cA 0, 256, .inl (fun _ => 0))), (q5 + 1 + 2, .inl (cA 0, 256, .inl (fun _ => 0))), (q5 + 1 + 3, .inl (cA 0, 256, .inl (fun _ => 0))), (q5 + 1 + 4, .inl (cA 0, 256, .inl (fun _ => 0))), (q5 + 1 + 5, .inl (cA 0, 256, .inl (fun _ => 0))), (q5 + 1 + 6, .inl (cA 0, 256, .inl (fun _ => 0))), (q5 + 1 + 7, .inl (cA 0, 256, .inl (fun _ => 0))), ((a7 0), .inr (3, [.ref (a7 1), .int 0, .int 0])), ((a7 1), .inl (cA 0, 32, .inl (fun _ => 0)))]) hC dX4_init_71 zfx_X4_46 0 rfl (Nat.le_of_ble_eq_true rfl) hin ⟨TX4, 11, tyX4 10, rfl, rfl, tyX4_ok 10 (by decide), rfl, rfl⟩ rfl ?_
  exact n_ret hC hr hlk (fun j => ([h0, q1, (a3 0), q4, q5, (a7 0), (a7 1)] : List Nat).getD j 0) dX4_init_74 rfl rfl (Nat.le_of_ble_eq_true rfl) (Nat.le_of_ble_eq_true rfl)
def F_X8 (cA : Nat → ClassId) (a : Nat → Nat) : va_W := [(a 0, .inr (8, [.ref (a 1), .ref (a 2), .ref (a 4), .int 0, .ref (a 5), .ref (a 35)])), (a 1, .inr (6, [.int 1, .int 16, .int 64, .int 44100])), (a 2, .inr (3, [.ref (a 3), .int 0, .int 0])), (a 3, .inl (cA 0, 8, .inl (fun _ => 0))), (a 4, .inl (cA 0, 4096, .inl (fun _ => 0))), (a 5, .inr (1, [.ref (a 6), .int 0, .int 0, .ref (a 8), .ref (a 9), .ref (a 10), .ref (a 18)])), (a 6, .inr (2, [.ref (a 7), .int 0])), (a 7, .inl (cA 2, 20000, .inl (fun _ => 0))), (a 8, .inl (cA 0, 256, .inl (fun _ => 0))), (a 9, .inl (cA 0, 1056, .inl (fun _ => 0))), (a 10, .inr (0, [.ref (a 11), .ref (a 13)])), (a 11, .inr (3, [.ref (a 12), .int 0, .int 0])), (a 12, .inl (cA 0, 4, .inl (fun _ => 0))), (a 13, .inr (5, [.ref (a 14), .int 0, .int 0, .ref (a 15), .ref (a 16), .ref (a 17), .int 0, .long 0])), (a 14, .inl (cA 1, 256, .inr (.inl (fun _ => 0)))), (a 15, .inl (cA 1, 120, .inr (.inl (fun _ => 0)))), (a 16, .inl (cA 0, 8, .inl (fun _ => 0))), (a 17, .inl (cA 0, 8, .inl (fun _ => 0))), (a 18, .inl (cA 4, 8, .inr (.inr (.inr (.inr (va_up (va_up (va_up (va_up (va_up (va_up (va_up (va_up (fun _ => none) 0 (some (a 19))) 1 (some (a 21))) 2 (some (a 23))) 3 (some (a 25))) 4 (some (a 27))) 5 (some (a 29))) 6 (some (a 31))) 7 (some (a 33)))))))), (a 19, .inr (7, [.ref (a 20), .int 0, .int 0, .int 0, .int 0, .int 0, .long 0])), (a 20, .inl (cA 0, 256, .inl (fun _ => 0))), (a 21, .inr (7, [.ref (a 22), .int 0, .int 0, .int 0, .int 0, .int 0, .long 0])), (a 22, .inl (cA 0, 256, .inl (fun _ => 0))), (a 23, .inr (7, [.ref (a 24), .int 0, .int 0, .int 0, .int 0, .int 0, .long 0])), (a 24, .inl (cA 0, 256, .inl (fun _ => 0))), (a 25, .inr (7, [.ref (a 26), .int 0, .int 0, .int 0, .int 0, .int 0, .long 0])), (a 26, .inl (cA 0, 256, .inl (fun _ => 0))), (a 27, .inr (7, [.ref (a 28), .int 0, .int 0, .int 0, .int 0, .int 0, .long 0])), (a 28, .inl (cA 0, 256, .inl (fun _ => 0))), (a 29, .inr (7, [.ref (a 30), .int 0, .int 0, .int 0, .int 0, .int 0, .long 0])), (a 30, .inl (cA 0, 256, .inl (fun _ => 0))), (a 31, .inr (7, [.ref (a 32), .int 0, .int 0, .int 0, .int 0, .int 0, .long 0])), (a 32, .inl (cA 0, 256, .inl (fun _ => 0))), (a 33, .inr (7, [.ref (a 34), .int 0, .int 0, .int 0, .int 0, .int 0, .long 0])), (a 34, .inl (cA 0, 256, .inl (fun _ => 0))), (a 35, .inr (4, [.ref (a 36), .int 0, .int 0, .int (-1), .ref (a 37), .int 0, .ref (a 38), .int 0, .int 0, .ref (a 39), .ref (a 40)])), (a 36, .inl (cA 2, 20000, .inl (fun _ => 0))), (a 37, .inr (6, [.int 1, .int 16, .int 64, .int 44100])), (a 38, .inl (cA 0, 4096, .inl (fun _ => 0))), (a 39, .inl (cA 3, 8, .inr (.inr (.inr (.inr (fun i => if i < 8 then some ((a 39) + 1 + i) else none)))))), (a 39 + 1 + 0, .inl (cA 0, 256, .inl (fun _ => 0))), (a 39 + 1 + 1, .inl (cA 0, 256, .inl (fun _ => 0))), (a 39 + 1 + 2, .inl (cA 0, 256, .inl (fun _ => 0))), (a 39 + 1 + 3, .inl (cA 0, 256, .inl (fun _ => 0))), (a 39 + 1 + 4, .inl (cA 0, 256, .inl (fun _ => 0))), (a 39 + 1 + 5, .inl (cA 0, 256, .inl (fun _ => 0))), (a 39 + 1 + 6, .inl (cA 0, 256, .inl (fun _ => 0))), (a 39 + 1 + 7, .inl (cA 0, 256, .inl (fun _ => 0))), (a 40, .inr (3, [.ref (a 41), .int 0, .int 0])), (a 41, .inl (cA 0, 32, .inl (fun _ => 0)))]
set_option maxHeartbeats 4000000 in
set_option maxRecDepth 100000 in
theorem c_X8_init : NM yX8_init iX8_init (rmk 5 49 54155 360) [] (.inr (8, fX8)) F_X8 := by
  refine n_method (by decide +kernel) rfl rfl (fun _ => (Nat.le_of_ble_eq_true rfl)) ?_
  intro p l e s m args below meth c cA G A h0 hC hin hr hlk
  refine n_aload hC dX8_init_0 0 rfl ?_
  refine n_obj (x := 102) hC dX8_init_1 (by decide +kernel) ⟨(Nat.le_of_ble_eq_true rfl), (Nat.le_of_ble_eq_true rfl)⟩ ?_
  refine n_aload hC dX8_init_4 0 rfl ?_
  refine n_new (ci := 6) (fs := fX6) (x1 := 105) (x2 := 106) (x3 := 72) hC tyX6 dX8_init_5 rfl tyX6_ok fX6_ok (by decide +kernel) (by decide +kernel) (by decide +kernel) (Nat.le_of_ble_eq_true rfl) (Nat.le_of_ble_eq_true rfl) (fun q1 => ?_)
  refine n_dup hC dX8_init_8 rfl ?_
  refine n_call (X := [(h0, .inr (8, [.null, .null, .null, .int 0, .null, .null]))]) (b := q1) hC c_X6_init [109, 72, 107, 108] (by decide +kernel) dX8_init_9 rfl rfl (Nat.le_of_ble_eq_true rfl) ⟨(Nat.le_of_ble_eq_true rfl), (Nat.le_of_ble_eq_true rfl)⟩ ⟨(Nat.le_of_ble_eq_true rfl), (Nat.le_of_ble_eq_true rfl)⟩ (fun a2 ea2 => ?_)
  subst ea2
  refine n_put (ws' := [(h0, .inr (8, [.ref (a2 0), .null, .null, .int 0, .null, .null])), ((a2 0), .inr (6, [.int 1, .int 16, .int 64, .int 44100]))]) hC dX8_init_12 zfx_X8_12 0 rfl (Nat.le_of_ble_eq_true rfl) hin ⟨TX8, 6, tyX8 0, rfl, rfl, tyX8_ok 0 (by decide), rfl, rfl⟩ rfl ?_
  refine n_aload hC dX8_init_15 0 rfl ?_
  refine n_new (ci := 3) (fs := fX3) (x1 := 137) (x2 := 138) (x3 := 73) hC tyX3 dX8_init_16 rfl tyX3_ok fX3_ok (by decide +kernel) (by decide +kernel) (by decide +kernel) (Nat.le_of_ble_eq_true rfl) (Nat.le_of_ble_eq_true rfl) (fun q3 => ?_)
  refine n_dup hC dX8_init_19 rfl ?_
  refine n_bipush (v := 8) hC dX8_init_20 (by decide) ?_
  refine n_call (X := [(h0, .inr (8, [.ref (a2 0), .null, .null, .int 0, .null, .null])), ((a2 0), .inr (6, [.int 1, .int 16, .int 64, .int 44100]))]) (b := q3) hC (c_X3_init 8 8 (by decide) (by decide) (by decide)) [141, 73, 139, 140] (by decide +kernel) dX8_init_22 rfl rfl (Nat.le_of_ble_eq_true rfl) ⟨(Nat.le_of_ble_eq_true rfl), (Nat.le_of_ble_eq_true rfl)⟩ ⟨(Nat.le_of_ble_eq_true rfl), (Nat.le_of_ble_eq_true rfl)⟩ (fun a4 ea4 => ?_)
  subst ea4
  refine n_put (ws' := [(h0, .inr (8, [.ref (a2 0), .ref (a4 0), .null, .int 0, .null, .null])), ((a2 0), .inr (6, [.int 1, .int 16, .int 64, .int 44100])), ((a4 0), .inr (3, [.ref (a4 1), .int 0, .int 0])), ((a4 1), .inl (cA 0, 8, .inl (fun _ => 0)))]) hC dX8_init_25 zfx_X8_21 0 rfl (Nat.le_of_ble_eq_true rfl) hin ⟨TX8, 6, tyX8 1, rfl, rfl, tyX8_ok 1 (by decide), rfl, rfl⟩ rfl ?_
  refine n_aload hC dX8_init_28 0 rfl ?_
  refine n_sipush (v := 4096) hC dX8_init_29 (by decide) ?_
  refine n_newa (ty := .int) (n' := 4096) (a0 := (4096, .inl (fun _ => 0))) hC 0 159 dX8_init_32 (by decide +kernel) rfl rfl (fun _ h => by cases h) (fun c9 => rfl) (by decide) (by decide) (Nat.le_of_ble_eq_true rfl) (Nat.le_of_ble_eq_true rfl) (Nat.le_of_ble_eq_true rfl) (fun q5 => ?_)
  refine n_put (ws' := [(h0, .inr (8, [.ref (a2 0), .ref (a4 0), .ref q5, .int 0, .null, .null])), ((a2 0), .inr (6, [.int 1, .int 16, .int 64, .int 44100])), ((a4 0), .inr (3, [.ref (a4 1), .int 0, .int 0])), ((a4 1), .inl (cA 0, 8, .inl (fun _ => 0))), (q5, .inl (cA 0, 4096, .inl (fun _ => 0)))]) hC dX8_init_34 zfx_X8_25 0 rfl (Nat.le_of_ble_eq_true rfl) hin ⟨TX8, 6, tyX8 2, rfl, rfl, tyX8_ok 2 (by decide), rfl, rfl⟩ rfl ?_
  refine n_aload hC dX8_init_37 0 rfl ?_
  refine n_iconst (v := 0) hC dX8_init_38 (by decide) ?_
  refine n_put (ws' := [(h0, .inr (8, [.ref (a2 0), .ref (a4 0), .ref q5, .int 0, .null, .null])), ((a2 0), .inr (6, [.int 1, .int 16, .int 64, .int 44100])), ((a4 0), .inr (3, [.ref (a4 1), .int 0, .int 0])), ((a4 1), .inl (cA 0, 8, .inl (fun _ => 0))), (q5, .inl (cA 0, 4096, .inl (fun _ => 0)))]) hC dX8_init_39 zfx_X8_29 0 rfl (Nat.le_of_ble_eq_true rfl) hin ⟨TX8, 6, tyX8 3, rfl, rfl, tyX8_ok 3 (by decide), rfl, rfl⟩ rfl ?_
  refine n_aload hC dX8_init_42 0 rfl ?_
  refine n_new (ci := 1) (fs := fX1) (x1 := 160) (x2 := 161) (x3 := 74) hC tyX1 dX8_init_43 rfl tyX1_ok fX1_ok (by decide +kernel) (by decide +kernel) (by decide +kernel) (Nat.le_of_ble_eq_true rfl) (Nat.le_of_ble_eq_true rfl) (fun q6 => ?_)
  refine n_dup hC dX8_init_46 rfl ?_
  refine n_call (X := [(h0, .inr (8, [.ref (a2 0), .ref (a4 0), .ref q5, .int 0, .null, .null])), ((a2 0), .inr (6, [.int 1, .int 16, .int 64, .int 44100])), ((a4 0), .inr (3, [.ref (a4 1), .int 0, .int 0])), ((a4 1), .inl (cA 0, 8, .inl (fun _ => 0))), (q5, .inl (cA 0, 4096, .inl (fun _ => 0)))]) (b := q6) hC c_X1_init [164, 74, 162, 163] (by decide +kernel) dX8_init_47 rfl rfl (Nat.le_of_ble_eq_true rfl) ⟨(Nat.le_of_ble_eq_true rfl), (Nat.le_of_ble_eq_true rfl)⟩ ⟨(Nat.le_of_ble_eq_true rfl), (Nat.le_of_ble_eq_true rfl)⟩ (fun a7 ea7 => ?_)
  subst ea7
  refine n_put (ws' := [(h0, .inr (8, [.ref (a2 0), .ref (a4 0), .ref q5, .int 0, .ref (a7 0), .null])), ((a2 0), .inr (6, [.int 1, .int 16, .int 64, .int 44100])), ((a4 0), .inr (3, [.ref (a4 1), .int 0, .int 0])), ((a4 1), .inl (cA 0, 8, .inl (fun _ => 0))), (q5, .inl (cA 0, 4096, .inl (fun _ => 0))), ((a7 0), .inr (1, [.ref (a7 1), .int 0, .int 0, .ref (a7 3), .ref (a7 4), .ref (a7 5), .ref (a7 13)])), ((a7 1), .inr (2, [.ref (a7 2), .int 0])), ((a7 2), .inl (cA 2, 20000, .inl (fun _ => 0))), ((a7 3), .inl (cA 0, 256, .inl (fun _ => 0))), ((a7 4), .inl (cA 0, 1056, .inl (fun _ => 0))), ((a7 5), .inr (0, [.ref (a7 6), .ref (a7 8)])), ((a7 6), .inr (3, [.ref (a7 7), .int 0, .int 0])), ((a7 7), .inl (cA 0, 4, .inl (fun _ => 0))), ((a7 8), .inr (5, [.ref (a7 9), .int 0, .int 0, .ref (a7 10), .ref (a7 11), .ref (a7 12), .int 0, .long 0])), ((a7 9), .inl (cA 1, 256, .inr (.inl (fun _ => 0)))), ((a7 10), .inl (cA 1, 120, .inr (.inl (fun _ => 0)))), ((a7 11), .inl (cA 0, 8, .inl (fun _ => 0))), ((a7 12), .inl (cA 0, 8, .inl (fun _ => 0))), ((a7 13), .inl (cA 4, 8, .inr (.inr (.inr (.inr (va_up (va_up (va_up (va_up (va_up (va_up (va_up (va_up (fun _ => none) 0 (some (a7 14))) 1 (some (a7 16))) 2 (some (a7 18))) 3 (some (a7 20))) 4 (some (a7 22))) 5 (some (a7 24))) 6 (some (a7 26))) 7 (some (a7 28)))))))), ((a7 14), .inr (7, [.ref (a7 15), .int 0, .int 0, .int 0, .int 0, .int 0, .long 0])), ((a7 15), .inl (cA 0, 256, .inl (fun _ => 0))), ((a7 16), .inr (7, [.ref (a7 17), .int 0, .int 0, .int 0, .int 0, .int 0, .long 0])), ((a7 17), .inl (cA 0, 256, .inl (fun _ => 0))), ((a7 18), .inr (7, [.ref (a7 19), .int 0, .int 0, .int 0, .int 0, .int 0, .long 0])), ((a7 19), .inl (cA 0, 256, .inl (fun _ => 0))), ((a7 20), .inr (7, [.ref (a7 21), .int 0, .int 0, .int 0, .int 0, .int 0, .long 0])), ((a7 21), .inl (cA 0, 256, .inl (fun _ => 0))), ((a7 22), .inr (7, [.ref (a7 23), .int 0, .int 0, .int 0, .int 0, .int 0, .long 0])), ((a7 23), .inl (cA 0, 256, .inl (fun _ => 0))), ((a7 24), .inr (7, [.ref (a7 25), .int 0, .int 0, .int 0, .int 0, .int 0, .long 0])), ((a7 25), .inl (cA 0, 256, .inl (fun _ => 0))), ((a7 26), .inr (7, [.ref (a7 27), .int 0, .int 0, .int 0, .int 0, .int 0, .long 0])), ((a7 27), .inl (cA 0, 256, .inl (fun _ => 0))), ((a7 28), .inr (7, [.ref (a7 29), .int 0, .int 0, .int 0, .int 0, .int 0, .long 0])), ((a7 29), .inl (cA 0, 256, .inl (fun _ => 0)))]) hC dX8_init_50 zfx_X8_36 0 rfl (Nat.le_of_ble_eq_true rfl) hin ⟨TX8, 6, tyX8 4, rfl, rfl, tyX8_ok 4 (by decide), rfl, rfl⟩ rfl ?_
  refine n_aload hC dX8_init_53 0 rfl ?_
  refine n_new (ci := 4) (fs := fX4) (x1 := 296) (x2 := 297) (x3 := 79) hC tyX4 dX8_init_54 rfl tyX4_ok fX4_ok (by decide +kernel) (by decide +kernel) (by decide +kernel) (Nat.le_of_ble_eq_true rfl) (Nat.le_of_ble_eq_true rfl) (fun q8 => ?_)
  refine n_dup hC dX8_init_57 rfl ?_
  refine n_call (X := [(h0, .inr (8, [.ref (a2 0), .ref (a4 0), .ref q5, .int 0, .ref (a7 0), .null])), ((a2 0), .inr (6, [.int 1, .int 16, .int 64, .int 44100])), ((a4 0), .inr (3, [.ref (a4 1), .int 0, .int 0])), ((a4 1), .inl (cA 0, 8, .inl (fun _ => 0))), (q5, .inl (cA 0, 4096, .inl (fun _ => 0))), ((a7 0), .inr (1, [.ref (a7 1), .int 0, .int 0, .ref (a7 3), .ref (a7 4), .ref (a7 5), .ref (a7 13)])), ((a7 1), .inr (2, [.ref (a7 2), .int 0])), ((a7 2), .inl (cA 2, 20000, .inl (fun _ => 0))), ((a7 3), .inl (cA 0, 256, .inl (fun _ => 0))), ((a7 4), .inl (cA 0, 1056, .inl (fun _ => 0))), ((a7 5), .inr (0, [.ref (a7 6), .ref (a7 8)])), ((a7 6), .inr (3, [.ref (a7 7), .int 0, .int 0])), ((a7 7), .inl (cA 0, 4, .inl (fun _ => 0))), ((a7 8), .inr (5, [.ref (a7 9), .int 0, .int 0, .ref (a7 10), .ref (a7 11), .ref (a7 12), .int 0, .long 0])), ((a7 9), .inl (cA 1, 256, .inr (.inl (fun _ => 0)))), ((a7 10), .inl (cA 1, 120, .inr (.inl (fun _ => 0)))), ((a7 11), .inl (cA 0, 8, .inl (fun _ => 0))), ((a7 12), .inl (cA 0, 8, .inl (fun _ => 0))), ((a7 13), .inl (cA 4, 8, .inr (.inr (.inr (.inr (va_up (va_up (va_up (va_up (va_up (va_up (va_up (va_up (fun _ => none) 0 (some (a7 14))) 1 (some (a7 16))) 2 (some (a7 18))) 3 (some (a7 20))) 4 (some (a7 22))) 5 (some (a7 24))) 6 (some (a7 26))) 7 (some (a7 28)))))))), ((a7 14), .inr (7, [.ref (a7 15), .int 0, .int 0, .int 0, .int 0, .int 0, .long 0])), ((a7 15), .inl (cA 0, 256, .inl (fun _ => 0))), ((a7 16), .inr (7, [.ref (a7 17), .int 0, .int 0, .int 0, .int 0, .int 0, .long 0])), ((a7 17), .inl (cA 0, 256, .inl (fun _ => 0))), ((a7 18), .inr (7, [.ref (a7 19), .int 0, .int 0, .int 0, .int 0, .int 0, .long 0])), ((a7 19), .inl (cA 0, 256, .inl (fun _ => 0))), ((a7 20), .inr (7, [.ref (a7 21), .int 0, .int 0, .int 0, .int 0, .int 0, .long 0])), ((a7 21), .inl (cA 0, 256, .inl (fun _ => 0))), ((a7 22), .inr (7, [.ref (a7 23), .int 0, .int 0, .int 0, .int 0, .int 0, .long 0])), ((a7 23), .inl (cA 0, 256, .inl (fun _ => 0))), ((a7 24), .inr (7, [.ref (a7 25), .int 0, .int 0, .int 0, .int 0, .int 0, .long 0])), ((a7 25), .inl (cA 0, 256, .inl (fun _ => 0))), ((a7 26), .inr (7, [.ref (a7 27), .int 0, .int 0, .int 0, .int 0, .int 0, .long 0])), ((a7 27), .inl (cA 0, 256, .inl (fun _ => 0))), ((a7 28), .inr (7, [.ref (a7 29), .int 0, .int 0, .int 0, .int 0, .int 0, .long 0])), ((a7 29), .inl (cA 0, 256, .inl (fun _ => 0)))]) (b := q8) hC c_X4_init [300, 79, 298, 299] (by decide +kernel) dX8_init_58 rfl rfl (Nat.le_of_ble_eq_true rfl) ⟨(Nat.le_of_ble_eq_true rfl), (Nat.le_of_ble_eq_true rfl)⟩ ⟨(Nat.le_of_ble_eq_true rfl), (Nat.le_of_ble_eq_true rfl)⟩ (fun a9 ea9 => ?_)
  subst ea9
  refine n_put (ws' := [(h0, .inr (8, [.ref (a2 0), .ref (a4 0), .ref q5, .int 0, .ref (a7 0), .ref (a9 0)])), ((a2 0), .inr (6, [.int 1, .int 16, .int 64, .int 44100])), ((a4 0), .inr (3, [.ref (a4 1), .int 0, .int 0])), ((a4 1), .inl (cA 0, 8, .inl (fun _ => 0))), (q5, .inl (cA 0, 4096, .inl (fun _ => 0))), ((a7 0), .inr (1, [.ref (a7 1), .int 0, .int 0, .ref (a7 3), .ref (a7 4), .ref (a7 5), .ref (a7 13)])), ((a7 1), .inr (2, [.ref (a7 2), .int 0])), ((a7 2), .inl (cA 2, 20000, .inl (fun _ => 0))), ((a7 3), .inl (cA 0, 256, .inl (fun _ => 0))), ((a7 4), .inl (cA 0, 1056, .inl (fun _ => 0))), ((a7 5), .inr (0, [.ref (a7 6), .ref (a7 8)])), ((a7 6), .inr (3, [.ref (a7 7), .int 0, .int 0])), ((a7 7), .inl (cA 0, 4, .inl (fun _ => 0))), ((a7 8), .inr (5, [.ref (a7 9), .int 0, .int 0, .ref (a7 10), .ref (a7 11), .ref (a7 12), .int 0, .long 0])), ((a7 9), .inl (cA 1, 256, .inr (.inl (fun _ => 0)))), ((a7 10), .inl (cA 1, 120, .inr (.inl (fun _ => 0)))), ((a7 11), .inl (cA 0, 8, .inl (fun _ => 0))), ((a7 12), .inl (cA 0, 8, .inl (fun _ => 0))), ((a7 13), .inl (cA 4, 8, .inr (.inr (.inr (.inr (va_up (va_up (va_up (va_up (va_up (va_up (va_up (va_up (fun _ => none) 0 (some (a7 14))) 1 (some (a7 16))) 2 (some (a7 18))) 3 (some (a7 20))) 4 (some (a7 22))) 5 (some (a7 24))) 6 (some (a7 26))) 7 (some (a7 28)))))))), ((a7 14), .inr (7, [.ref (a7 15), .int 0, .int 0, .int 0, .int 0, .int 0, .long 0])), ((a7 15), .inl (cA 0, 256, .inl (fun _ => 0))), ((a7 16), .inr (7, [.ref (a7 17), .int 0, .int 0, .int 0, .int 0, .int 0, .long 0])), ((a7 17), .inl (cA 0, 256, .inl (fun _ => 0))), ((a7 18), .inr (7, [.ref (a7 19), .int 0, .int 0, .int 0, .int 0, .int 0, .long 0])), ((a7 19), .inl (cA 0, 256, .inl (fun _ => 0))), ((a7 20), .inr (7, [.ref (a7 21), .int 0, .int 0, .int 0, .int 0, .int 0, .long 0])), ((a7 21), .inl (cA 0, 256, .inl (fun _ => 0))), ((a7 22), .inr (7, [.ref (a7 23), .int 0, .int 0, .int 0, .int 0, .int 0, .long 0])), ((a7 23), .inl (cA 0, 256, .inl (fun _ => 0))), ((a7 24), .inr (7, [.ref (a7 25), .int 0, .int 0, .int 0, .int 0, .int 0, .long 0])), ((a7 25), .inl (cA 0, 256, .inl (fun _ => 0))), ((a7 26), .inr (7, [.ref (a7 27), .int 0, .int 0, .int 0, .int 0, .int 0, .long 0])), ((a7 27), .inl (cA 0, 256, .inl (fun _ => 0))), ((a7 28), .inr (7, [.ref (a7 29), .int 0, .int 0, .int 0, .int 0, .int 0, .long 0])), ((a7 29), .inl (cA 0, 256, .inl (fun _ => 0))), ((a9 0), .inr (4, [.ref (a9 1), .int 0, .int 0, .int (-1), .ref (a9 2), .int 0, .ref (a9 3), .int 0, .int 0, .ref (a9 4), .ref (a9 5)])), ((a9 1), .inl (cA 2, 20000, .inl (fun _ => 0))), ((a9 2), .inr (6, [.int 1, .int 16, .int 64, .int 44100])), ((a9 3), .inl (cA 0, 4096, .inl (fun _ => 0))), ((a9 4), .inl (cA 3, 8, .inr (.inr (.inr (.inr (fun i => if i < 8 then some ((a9 4) + 1 + i) else none)))))), ((a9 4) + 1 + 0, .inl (cA 0, 256, .inl (fun _ => 0))), ((a9 4) + 1 + 1, .inl (cA 0, 256, .inl (fun _ => 0))), ((a9 4) + 1 + 2, .inl (cA 0, 256, .inl (fun _ => 0))), ((a9 4) + 1 + 3, .inl (cA 0, 256, .inl (fun _ => 0))), ((a9 4) + 1 + 4, .inl (cA 0, 256, .inl (fun _ => 0))), ((a9 4) + 1 + 5, .inl (cA 0, 256, .inl (fun _ => 0))), ((a9 4) + 1 + 6, .inl (cA 0, 256, .inl (fun _ => 0))), ((a9 4) + 1 + 7, .inl (cA 0, 256, .inl (fun _ => 0))), ((a9 5), .inr (3, [.ref (a9 6), .int 0, .int 0])), ((a9 6), .inl (cA 0, 32, .inl (fun _ => 0)))]) hC dX8_init_61 zfx_X8_43 0 rfl (Nat.le_of_ble_eq_true rfl) hin ⟨TX8, 6, tyX8 5, rfl, rfl, tyX8_ok 5 (by decide), rfl, rfl⟩ rfl ?_
  exact n_ret hC hr hlk (fun j => ([h0, (a2 0), (a4 0), (a4 1), q5, (a7 0), (a7 1), (a7 2), (a7 3), (a7 4), (a7 5), (a7 6), (a7 7), (a7 8), (a7 9), (a7 10), (a7 11), (a7 12), (a7 13), (a7 14), (a7 15), (a7 16), (a7 17), (a7 18), (a7 19), (a7 20), (a7 21), (a7 22), (a7 23), (a7 24), (a7 25), (a7 26), (a7 27), (a7 28), (a7 29), (a9 0), (a9 1), (a9 2), (a9 3), (a9 4), (a9 5), (a9 6)] : List Nat).getD j 0) dX8_init_64 rfl rfl (Nat.le_of_ble_eq_true rfl) (Nat.le_of_ble_eq_true rfl)
def F_X9 (cA : Nat → ClassId) (a : Nat → Nat) : va_W := [(a 0, .inr (9, [.int 0, .int 1, .int 16, .int 64, .int 44100, .int 0, .int 0, .ref (a 1), .int 0, .ref (a 2), .int 0, .ref (a 3), .long 0, .int 0, .int 0, .ref (a 4), .ref (a 5), .ref (a 6), .ref (a 7), .ref (a 8), .int 0, .ref (a 9), .int 0, .int (-1), .int 0, .ref (a 10), .ref (a 11), .int 0, .int 0, .int 0, .long 0, .int 0, .long 0, .long 0, .int 0, .int 0, .int 0, .int 0, .long 0, .int 0, .ref (a 12), .ref (a 13), .ref (a 14), .int 0])), (a 1, .inl (cA 0, 8, .inl (fun _ => 0))), (a 2, .inl (cA 0, 4096, .inl (fun _ => 0))), (a 3, .inl (cA 1, 2500, .inr (.inl (fun _ => 0)))), (a 4, .inl (cA 0, 264, .inl (fun _ => 0))), (a 5, .inl (cA 0, 264, .inl (fun _ => 0))), (a 6, .inl (cA 0, 264, .inl (fun _ => 0))), (a 7, .inl (cA 0, 264, .inl (fun _ => 0))), (a 8, .inl (cA 0, 256, .inl (fun _ => 0))), (a 9, .inl (cA 1, 2500, .inr (.inl (fun _ => 0)))), (a 10, .inl (cA 1, 256, .inr (.inl (fun _ => 0)))), (a 11, .inl (cA 1, 256, .inr (.inl (fun _ => 0)))), (a 12, .inl (cA 0, 4096, .inl (fun _ => 0))), (a 13, .inl (cA 1, 2048, .inr (.inl (fun _ => 0)))), (a 14, .inl (cA 0, 32, .inl (fun _ => 0)))]
set_option maxHeartbeats 4000000 in
set_option maxRecDepth 100000 in
theorem c_X9_init : NM yX9_init iX9_init (rmk 2 14 17104 60) [] (.inr (9, fX9)) F_X9 := by
  refine n_method (by decide +kernel) rfl rfl (fun _ => (Nat.le_of_ble_eq_true rfl)) ?_
  intro p l e s m args below meth c cA G A h0 hC hin hr hlk
  refine n_aload hC dX9_init_0 0 rfl ?_
  refine n_obj (x := 1123) hC dX9_init_1 (by decide +kernel) ⟨(Nat.le_of_ble_eq_true rfl), (Nat.le_of_ble_eq_true rfl)⟩ ?_
  refine n_aload hC dX9_init_4 0 rfl ?_
  refine n_iconst (v := 1) hC dX9_init_5 (by decide) ?_
  refine n_put (ws' := [(h0, .inr (9, [.int 0, .int 1, .int 0, .int 0, .int 0, .int 0, .int 0, .null, .int 0, .null, .int 0, .null, .long 0, .int 0, .int 0, .null, .null, .null, .null, .null, .int 0, .null, .int 0, .int 0, .int 0, .null, .null, .int 0, .int 0, .int 0, .long 0, .int 0, .long 0, .long 0, .int 0, .int 0, .int 0, .int 0, .long 0, .int 0, .null, .null, .null, .int 0]))]) hC dX9_init_6 zfx_X9_7 0 rfl (Nat.le_of_ble_eq_true rfl) hin ⟨TX9, 44, tyX9 1, rfl, rfl, tyX9_ok 1 (by decide), rfl, rfl⟩ rfl ?_
  refine n_aload hC dX9_init_9 0 rfl ?_
  refine n_bipush (v := 16) hC dX9_init_10 (by decide) ?_
  refine n_put (ws' := [(h0, .inr (9, [.int 0, .int 1, .int 16, .int 0, .int 0, .int 0, .int 0, .null, .int 0, .null, .int 0, .null, .long 0, .int 0, .int 0, .null, .null, .null, .null, .null, .int 0, .null, .int 0, .int 0, .int 0, .null, .null, .int 0, .int 0, .int 0, .long 0, .int 0, .long 0, .long 0, .int 0, .int 0, .int 0, .int 0, .long 0, .int 0, .null, .null, .null, .int 0]))]) hC dX9_init_12 zfx_X9_13 0 rfl (Nat.le_of_ble_eq_true rfl) hin ⟨TX9, 44, tyX9 2, rfl, rfl, tyX9_ok 2 (by decide), rfl, rfl⟩ rfl ?_
  refine n_aload hC dX9_init_15 0 rfl ?_
  refine n_bipush (v := 64) hC dX9_init_16 (by decide) ?_
  refine n_put (ws' := [(h0, .inr (9, [.int 0, .int 1, .int 16, .int 64, .int 0, .int 0, .int 0, .null, .int 0, .null, .int 0, .null, .long 0, .int 0, .int 0, .null, .null, .null, .null, .null, .int 0, .null, .int 0, .int 0, .int 0, .null, .null, .int 0, .int 0, .int 0, .long 0, .int 0, .long 0, .long 0, .int 0, .int 0, .int 0, .int 0, .long 0, .int 0, .null, .null, .null, .int 0]))]) hC dX9_init_18 zfx_X9_16 0 rfl (Nat.le_of_ble_eq_true rfl) hin ⟨TX9, 44, tyX9 3, rfl, rfl, tyX9_ok 3 (by decide), rfl, rfl⟩ rfl ?_
  refine n_aload hC dX9_init_21 0 rfl ?_
  refine n_ldc (v := 44100) hC dX9_init_22 (by decide +kernel) ?_
  refine n_put (ws' := [(h0, .inr (9, [.int 0, .int 1, .int 16, .int 64, .int 44100, .int 0, .int 0, .null, .int 0, .null, .int 0, .null, .long 0, .int 0, .int 0, .null, .null, .null, .null, .null, .int 0, .null, .int 0, .int 0, .int 0, .null, .null, .int 0, .int 0, .int 0, .long 0, .int 0, .long 0, .long 0, .int 0, .int 0, .int 0, .int 0, .long 0, .int 0, .null, .null, .null, .int 0]))]) hC dX9_init_24 zfx_X9_20 0 rfl (Nat.le_of_ble_eq_true rfl) hin ⟨TX9, 44, tyX9 4, rfl, rfl, tyX9_ok 4 (by decide), rfl, rfl⟩ rfl ?_
  refine n_aload hC dX9_init_27 0 rfl ?_
  refine n_bipush (v := 8) hC dX9_init_28 (by decide) ?_
  refine n_newa (ty := .int) (n' := 8) (a0 := (8, .inl (fun _ => 0))) hC 0 159 dX9_init_30 (by decide +kernel) rfl rfl (fun _ h => by cases h) (fun c9 => rfl) (by decide) (by decide) (Nat.le_of_ble_eq_true rfl) (Nat.le_of_ble_eq_true rfl) (Nat.le_of_ble_eq_true rfl) (fun q1 => ?_)
  refine n_put (ws' := [(h0, .inr (9, [.int 0, .int 1, .int 16, .int 64, .int 44100, .int 0, .int 0, .ref q1, .int 0, .null, .int 0, .null, .long 0, .int 0, .int 0, .null, .null, .null, .null, .null, .int 0, .null, .int 0, .int 0, .int 0, .null, .null, .int 0, .int 0, .int 0, .long 0, .int 0, .long 0, .long 0, .int 0, .int 0, .int 0, .int 0, .long 0, .int 0, .null, .null, .null, .int 0])), (q1, .inl (cA 0, 8, .inl (fun _ => 0)))]) hC dX9_init_32 zfx_X9_23 0 rfl (Nat.le_of_ble_eq_true rfl) hin ⟨TX9, 44, tyX9 7, rfl, rfl, tyX9_ok 7 (by decide), rfl, rfl⟩ rfl ?_
  refine n_aload hC dX9_init_35 0 rfl ?_
  refine n_sipush (v := 4096) hC dX9_init_36 (by decide) ?_
  refine n_newa (ty := .int) (n' := 4096) (a0 := (4096, .inl (fun _ => 0))) hC 0 159 dX9_init_39 (by decide +kernel) rfl rfl (fun _ h => by cases h) (fun c9 => rfl) (by decide) (by decide) (Nat.le_of_ble_eq_true rfl) (Nat.le_of_ble_eq_true rfl) (Nat.le_of_ble_eq_true rfl) (fun q2 => ?_)
  refine n_put (ws' := [(h0, .inr (9, [.int 0, .int 1, .int 16, .int 64, .int 44100, .int 0, .int 0, .ref q1, .int 0, .ref q2, .int 0, .null, .long 0, .int 0, .int 0, .null, .null, .null, .null, .null, .int 0, .null, .int 0, .int 0, .int 0, .null, .null, .int 0, .int 0, .int 0, .long 0, .int 0, .long 0, .long 0, .int 0, .int 0, .int 0, .int 0, .long 0, .int 0, .null, .null, .null, .int 0])), (q1, .inl (cA 0, 8, .inl (fun _ => 0))), (q2, .inl (cA 0, 4096, .inl (fun _ => 0)))]) hC dX9_init_41 zfx_X9_27 0 rfl (Nat.le_of_ble_eq_true rfl) hin ⟨TX9, 44, tyX9 9, rfl, rfl, tyX9_ok 9 (by decide), rfl, rfl⟩ rfl ?_
  refine n_aload hC dX9_init_44 0 rfl ?_
  refine n_sipush (v := 2500) hC dX9_init_45 (by decide) ?_
  refine n_newa (ty := .long) (n' := 2500) (a0 := (2500, .inr (.inl (fun _ => 0)))) hC 1 224 dX9_init_48 (by decide +kernel) rfl rfl (fun _ h => by cases h) (fun c9 => rfl) (by decide) (by decide) (Nat.le_of_ble_eq_true rfl) (Nat.le_of_ble_eq_true rfl) (Nat.le_of_ble_eq_true rfl) (fun q3 => ?_)
  refine n_put (ws' := [(h0, .inr (9, [.int 0, .int 1, .int 16, .int 64, .int 44100, .int 0, .int 0, .ref q1, .int 0, .ref q2, .int 0, .ref q3, .long 0, .int 0, .int 0, .null, .null, .null, .null, .null, .int 0, .null, .int 0, .int 0, .int 0, .null, .null, .int 0, .int 0, .int 0, .long 0, .int 0, .long 0, .long 0, .int 0, .int 0, .int 0, .int 0, .long 0, .int 0, .null, .null, .null, .int 0])), (q1, .inl (cA 0, 8, .inl (fun _ => 0))), (q2, .inl (cA 0, 4096, .inl (fun _ => 0))), (q3, .inl (cA 1, 2500, .inr (.inl (fun _ => 0))))]) hC dX9_init_50 zfx_X9_30 0 rfl (Nat.le_of_ble_eq_true rfl) hin ⟨TX9, 44, tyX9 11, rfl, rfl, tyX9_ok 11 (by decide), rfl, rfl⟩ rfl ?_
  refine n_aload hC dX9_init_53 0 rfl ?_
  refine n_sipush (v := 264) hC dX9_init_54 (by decide) ?_
  refine n_newa (ty := .int) (n' := 264) (a0 := (264, .inl (fun _ => 0))) hC 0 159 dX9_init_57 (by decide +kernel) rfl rfl (fun _ h => by cases h) (fun c9 => rfl) (by decide) (by decide) (Nat.le_of_ble_eq_true rfl) (Nat.le_of_ble_eq_true rfl) (Nat.le_of_ble_eq_true rfl) (fun q4 => ?_)
  refine n_put (ws' := [(h0, .inr (9, [.int 0, .int 1, .int 16, .int 64, .int 44100, .int 0, .int 0, .ref q1, .int 0, .ref q2, .int 0, .ref q3, .long 0, .int 0, .int 0, .ref q4, .null, .null, .null, .null, .int 0, .null, .int 0, .int 0, .int 0, .null, .null, .int 0, .int 0, .int 0, .long 0, .int 0, .long 0, .long 0, .int 0, .int 0, .int 0, .int 0, .long 0, .int 0, .null, .null, .null, .int 0])), (q1, .inl (cA 0, 8, .inl (fun _ => 0))), (q2, .inl (cA 0, 4096, .inl (fun _ => 0))), (q3, .inl (cA 1, 2500, .inr (.inl (fun _ => 0)))), (q4, .inl (cA 0, 264, .inl (fun _ => 0)))]) hC dX9_init_59 zfx_X9_34 0 rfl (Nat.le_of_ble_eq_true rfl) hin ⟨TX9, 44, tyX9 15, rfl, rfl, tyX9_ok 15 (by decide), rfl, rfl⟩ rfl ?_
  refine n_aload hC dX9_init_62 0 rfl ?_
  refine n_sipush (v := 264) hC dX9_init_63 (by decide) ?_
  refine n_newa (ty := .int) (n' := 264) (a0 := (264, .inl (fun _ => 0))) hC 0 159 dX9_init_66 (by decide +kernel) rfl rfl (fun _ h => by cases h) (fun c9 => rfl) (by decide) (by decide) (Nat.le_of_ble_eq_true rfl) (Nat.le_of_ble_eq_true rfl) (Nat.le_of_ble_eq_true rfl) (fun q5 => ?_)
  refine n_put (ws' := [(h0, .inr (9, [.int 0, .int 1, .int 16, .int 64, .int 44100, .int 0, .int 0, .ref q1, .int 0, .ref q2, .int 0, .ref q3, .long 0, .int 0, .int 0, .ref q4, .ref q5, .null, .null, .null, .int 0, .null, .int 0, .int 0, .int 0, .null, .null, .int 0, .int 0, .int 0, .long 0, .int 0, .long 0, .long 0, .int 0, .int 0, .int 0, .int 0, .long 0, .int 0, .null, .null, .null, .int 0])), (q1, .inl (cA 0, 8, .inl (fun _ => 0))), (q2, .inl (cA 0, 4096, .inl (fun _ => 0))), (q3, .inl (cA 1, 2500, .inr (.inl (fun _ => 0)))), (q4, .inl (cA 0, 264, .inl (fun _ => 0))), (q5, .inl (cA 0, 264, .inl (fun _ => 0)))]) hC dX9_init_68 zfx_X9_37 0 rfl (Nat.le_of_ble_eq_true rfl) hin ⟨TX9, 44, tyX9 16, rfl, rfl, tyX9_ok 16 (by decide), rfl, rfl⟩ rfl ?_
  refine n_aload hC dX9_init_71 0 rfl ?_
  refine n_sipush (v := 264) hC dX9_init_72 (by decide) ?_
  refine n_newa (ty := .int) (n' := 264) (a0 := (264, .inl (fun _ => 0))) hC 0 159 dX9_init_75 (by decide +kernel) rfl rfl (fun _ h => by cases h) (fun c9 => rfl) (by decide) (by decide) (Nat.le_of_ble_eq_true rfl) (Nat.le_of_ble_eq_true rfl) (Nat.le_of_ble_eq_true rfl) (fun q6 => ?_)
  refine n_put (ws' := [(h0, .inr (9, [.int 0, .int 1, .int 16, .int 64, .int 44100, .int 0, .int 0, .ref q1, .int 0, .ref q2, .int 0, .ref q3, .long 0, .int 0, .int 0, .ref q4, .ref q5, .ref q6, .null, .null, .int 0, .null, .int 0, .int 0, .int 0, .null, .null, .int 0, .int 0, .int 0, .long 0, .int 0, .long 0, .long 0, .int 0, .int 0, .int 0, .int 0, .long 0, .int 0, .null, .null, .null, .int 0])), (q1, .inl (cA 0, 8, .inl (fun _ => 0))), (q2, .inl (cA 0, 4096, .inl (fun _ => 0))), (q3, .inl (cA 1, 2500, .inr (.inl (fun _ => 0)))), (q4, .inl (cA 0, 264, .inl (fun _ => 0))), (q5, .inl (cA 0, 264, .inl (fun _ => 0))), (q6, .inl (cA 0, 264, .inl (fun _ => 0)))]) hC dX9_init_77 zfx_X9_40 0 rfl (Nat.le_of_ble_eq_true rfl) hin ⟨TX9, 44, tyX9 17, rfl, rfl, tyX9_ok 17 (by decide), rfl, rfl⟩ rfl ?_
  refine n_aload hC dX9_init_80 0 rfl ?_
  refine n_sipush (v := 264) hC dX9_init_81 (by decide) ?_
  refine n_newa (ty := .int) (n' := 264) (a0 := (264, .inl (fun _ => 0))) hC 0 159 dX9_init_84 (by decide +kernel) rfl rfl (fun _ h => by cases h) (fun c9 => rfl) (by decide) (by decide) (Nat.le_of_ble_eq_true rfl) (Nat.le_of_ble_eq_true rfl) (Nat.le_of_ble_eq_true rfl) (fun q7 => ?_)
  refine n_put (ws' := [(h0, .inr (9, [.int 0, .int 1, .int 16, .int 64, .int 44100, .int 0, .int 0, .ref q1, .int 0, .ref q2, .int 0, .ref q3, .long 0, .int 0, .int 0, .ref q4, .ref q5, .ref q6, .ref q7, .null, .int 0, .null, .int 0, .int 0, .int 0, .null, .null, .int 0, .int 0, .int 0, .long 0, .int 0, .long 0, .long 0, .int 0, .int 0, .int 0, .int 0, .long 0, .int 0, .null, .null, .null, .int 0])), (q1, .inl (cA 0, 8, .inl (fun _ => 0))), (q2, .inl (cA 0, 4096, .inl (fun _ => 0))), (q3, .inl (cA 1, 2500, .inr (.inl (fun _ => 0)))), (q4, .inl (cA 0, 264, .inl (fun _ => 0))), (q5, .inl (cA 0, 264, .inl (fun _ => 0))), (q6, .inl (cA 0, 264, .inl (fun _ => 0))), (q7, .inl (cA 0, 264, .inl (fun _ => 0)))]) hC dX9_init_86 zfx_X9_43 0 rfl (Nat.le_of_ble_eq_true rfl) hin ⟨TX9, 44, tyX9 18, rfl, rfl, tyX9_ok 18 (by decide), rfl, rfl⟩ rfl ?_
  refine n_aload hC dX9_init_89 0 rfl ?_
  refine n_sipush (v := 256) hC dX9_init_90 (by decide) ?_
  refine n_newa (ty := .int) (n' := 256) (a0 := (256, .inl (fun _ => 0))) hC 0 159 dX9_init_93 (by decide +kernel) rfl rfl (fun _ h => by cases h) (fun c9 => rfl) (by decide) (by decide) (Nat.le_of_ble_eq_true rfl) (Nat.le_of_ble_eq_true rfl) (Nat.le_of_ble_eq_true rfl) (fun q8 => ?_)
  refine n_put (ws' := [(h0, .inr (9, [.int 0, .int 1, .int 16, .int 64, .int 44100, .int 0, .int 0, .ref q1, .int 0, .ref q2, .int 0, .ref q3, .long 0, .int 0, .int 0, .ref q4, .ref q5, .ref q6, .ref q7, .ref q8, .int 0, .null, .int 0, .int 0, .int 0, .null, .null, .int 0, .int 0, .int 0, .long 0, .int 0, .long 0, .long 0, .int 0, .int 0, .int 0, .int 0, .long 0, .int 0, .null, .null, .null, .int 0])), (q1, .inl (cA 0, 8, .inl (fun _ => 0))), (q2, .inl (cA 0, 4096, .inl (fun _ => 0))), (q3, .inl (cA 1, 2500, .inr (.inl (fun _ => 0)))), (q4, .inl (cA 0, 264, .inl (fun _ => 0))), (q5, .inl (cA 0, 264, .inl (fun _ => 0))), (q6, .inl (cA 0, 264, .inl (fun _ => 0))), (q7, .inl (cA 0, 264, .inl (fun _ => 0))), (q8, .inl (cA 0, 256, .inl (fun _ => 0)))]) hC dX9_init_95 zfx_X9_46 0 rfl (Nat.le_of_ble_eq_true rfl) hin ⟨TX9, 44, tyX9 19, rfl, rfl, tyX9_ok 19 (by decide), rfl, rfl⟩ rfl ?_
  refine n_aload hC dX9_init_98 0 rfl ?_
  refine n_sipush (v := 2500) hC dX9_init_99 (by decide) ?_
  refine n_newa (ty := .long) (n' := 2500) (a0 := (2500, .inr (.inl (fun _ => 0)))) hC 1 224 dX9_init_102 (by decide +kernel) rfl rfl (fun _ h => by cases h) (fun c9 => rfl) (by decide) (by decide) (Nat.le_of_ble_eq_true rfl) (Nat.le_of_ble_eq_true rfl) (Nat.le_of_ble_eq_true rfl) (fun q9 => ?_)
  refine n_put (ws' := [(h0, .inr (9, [.int 0, .int 1, .int 16, .int 64, .int 44100, .int 0, .int 0, .ref q1, .int 0, .ref q2, .int 0, .ref q3, .long 0, .int 0, .int 0, .ref q4, .ref q5, .ref q6, .ref q7, .ref q8, .int 0, .ref q9, .int 0, .int 0, .int 0, .null, .null, .int 0, .int 0, .int 0, .long 0, .int 0, .long 0, .long 0, .int 0, .int 0, .int 0, .int 0, .long 0, .int 0, .null, .null, .null, .int 0])), (q1, .inl (cA 0, 8, .inl (fun _ => 0))), (q2, .inl (cA 0, 4096, .inl (fun _ => 0))), (q3, .inl (cA 1, 2500, .inr (.inl (fun _ => 0)))), (q4, .inl (cA 0, 264, .inl (fun _ => 0))), (q5, .inl (cA 0, 264, .inl (fun _ => 0))), (q6, .inl (cA 0, 264, .inl (fun _ => 0))), (q7, .inl (cA 0, 264, .inl (fun _ => 0))), (q8, .inl (cA 0, 256, .inl (fun _ => 0))), (q9, .inl (cA 1, 2500, .inr (.inl (fun _ => 0))))]) hC dX9_init_104 zfx_X9_49 0 rfl (Nat.le_of_ble_eq_true rfl) hin ⟨TX9, 44, tyX9 21, rfl, rfl, tyX9_ok 21 (by decide), rfl, rfl⟩ rfl ?_
  refine n_aload hC dX9_init_107 0 rfl ?_
  refine n_iconst (v := (-1)) hC dX9_init_108 (by decide) ?_
  refine n_put (ws' := [(h0, .inr (9, [.int 0, .int 1, .int 16, .int 64, .int 44100, .int 0, .int 0, .ref q1, .int 0, .ref q2, .int 0, .ref q3, .long 0, .int 0, .int 0, .ref q4, .ref q5, .ref q6, .ref q7, .ref q8, .int 0, .ref q9, .int 0, .int (-1), .int 0, .null, .null, .int 0, .int 0, .int 0, .long 0, .int 0, .long 0, .long 0, .int 0, .int 0, .int 0, .int 0, .long 0, .int 0, .null, .null, .null, .int 0])), (q1, .inl (cA 0, 8, .inl (fun _ => 0))), (q2, .inl (cA 0, 4096, .inl (fun _ => 0))), (q3, .inl (cA 1, 2500, .inr (.inl (fun _ => 0)))), (q4, .inl (cA 0, 264, .inl (fun _ => 0))), (q5, .inl (cA 0, 264, .inl (fun _ => 0))), (q6, .inl (cA 0, 264, .inl (fun _ => 0))), (q7, .inl (cA 0, 264, .inl (fun _ => 0))), (q8, .inl (cA 0, 256, .inl (fun _ => 0))), (q9, .inl (cA 1, 2500, .inr (.inl (fun _ => 0))))]) hC dX9_init_109 zfx_X9_52 0 rfl (Nat.le_of_ble_eq_true rfl) hin ⟨TX9, 44, tyX9 23, rfl, rfl, tyX9_ok 23 (by decide), rfl, rfl⟩ rfl ?_
  refine n_aload hC dX9_init_112 0 rfl ?_
  refine n_sipush (v := 256) hC dX9_init_113 (by decide) ?_
  refine n_newa (ty := .long) (n' := 256) (a0 := (256, .inr (.inl (fun _ => 0)))) hC 1 224 dX9_init_116 (by decide +kernel) rfl rfl (fun _ h => by cases h) (fun c9 => rfl) (by decide) (by decide) (Nat.le_of_ble_eq_true rfl) (Nat.le_of_ble_eq_true rfl) (Nat.le_of_ble_eq_true rfl) (fun q10 => ?_)
  refine n_put (ws' := [(h0, .inr (9, [.int 0, .int 1, .int 16, .int 64, .int 44100, .int 0, .int 0, .ref q1, .int 0, .ref q2, .int 0, .ref q3, .long 0, .int 0, .int 0, .ref q4, .ref q5, .ref q6, .ref q7, .ref q8, .int 0, .ref q9, .int 0, .int (-1), .int 0, .ref q10, .null, .int 0, .int 0, .int 0, .long 0, .int 0, .long 0, .long 0, .int 0, .int 0, .int 0, .int 0, .long 0, .int 0, .null, .null, .null, .int 0])), (q1, .inl (cA 0, 8, .inl (fun _ => 0))), (q2, .inl (cA 0, 4096, .inl (fun _ => 0))), (q3, .inl (cA 1, 2500, .inr (.inl (fun _ => 0)))), (q4, .inl (cA 0, 264, .inl (fun _ => 0))), (q5, .inl (cA 0, 264, .inl (fun _ => 0))), (q6, .inl (cA 0, 264, .inl (fun _ => 0))), (q7, .inl (cA 0, 264, .inl (fun _ => 0))), (q8, .inl (cA 0, 256, .inl (fun _ => 0))), (q9, .inl (cA 1, 2500, .inr (.inl (fun _ => 0)))), (q10, .inl (cA 1, 256, .inr (.inl (fun _ => 0))))]) hC dX9_init_118 zfx_X9_55 0 rfl (Nat.le_of_ble_eq_true rfl) hin ⟨TX9, 44, tyX9 25, rfl, rfl, tyX9_ok 25 (by decide), rfl, rfl⟩ rfl ?_
  refine n_aload hC dX9_init_121 0 rfl ?_
  refine n_sipush (v := 256) hC dX9_init_122 (by decide) ?_
  refine n_newa (ty := .long) (n' := 256) (a0 := (256, .inr (.inl (fun _ => 0)))) hC 1 224 dX9_init_125 (by decide +kernel) rfl rfl (fun _ h => by cases h) (fun c9 => rfl) (by decide) (by decide) (Nat.le_of_ble_eq_true rfl) (Nat.le_of_ble_eq_true rfl) (Nat.le_of_ble_eq_true rfl) (fun q11 => ?_)
  refine n_put (ws' := [(h0, .inr (9, [.int 0, .int 1, .int 16, .int 64, .int 44100, .int 0, .int 0, .ref q1, .int 0, .ref q2, .int 0, .ref q3, .long 0, .int 0, .int 0, .ref q4, .ref q5, .ref q6, .ref q7, .ref q8, .int 0, .ref q9, .int 0, .int (-1), .int 0, .ref q10, .ref q11, .int 0, .int 0, .int 0, .long 0, .int 0, .long 0, .long 0, .int 0, .int 0, .int 0, .int 0, .long 0, .int 0, .null, .null, .null, .int 0])), (q1, .inl (cA 0, 8, .inl (fun _ => 0))), (q2, .inl (cA 0, 4096, .inl (fun _ => 0))), (q3, .inl (cA 1, 2500, .inr (.inl (fun _ => 0)))), (q4, .inl (cA 0, 264, .inl (fun _ => 0))), (q5, .inl (cA 0, 264, .inl (fun _ => 0))), (q6, .inl (cA 0, 264, .inl (fun _ => 0))), (q7, .inl (cA 0, 264, .inl (fun _ => 0))), (q8, .inl (cA 0, 256, .inl (fun _ => 0))), (q9, .inl (cA 1, 2500, .inr (.inl (fun _ => 0)))), (q10, .inl (cA 1, 256, .inr (.inl (fun _ => 0)))), (q11, .inl (cA 1, 256, .inr (.inl (fun _ => 0))))]) hC dX9_init_127 zfx_X9_58 0 rfl (Nat.le_of_ble_eq_true rfl) hin ⟨TX9, 44, tyX9 26, rfl, rfl, tyX9_ok 26 (by decide), rfl, rfl⟩ rfl ?_
  refine n_aload hC dX9_init_130 0 rfl ?_
  refine n_sipush (v := 4096) hC dX9_init_131 (by decide) ?_
  refine n_newa (ty := .int) (n' := 4096) (a0 := (4096, .inl (fun _ => 0))) hC 0 159 dX9_init_134 (by decide +kernel) rfl rfl (fun _ h => by cases h) (fun c9 => rfl) (by decide) (by decide) (Nat.le_of_ble_eq_true rfl) (Nat.le_of_ble_eq_true rfl) (Nat.le_of_ble_eq_true rfl) (fun q12 => ?_)
  refine n_put (ws' := [(h0, .inr (9, [.int 0, .int 1, .int 16, .int 64, .int 44100, .int 0, .int 0, .ref q1, .int 0, .ref q2, .int 0, .ref q3, .long 0, .int 0, .int 0, .ref q4, .ref q5, .ref q6, .ref q7, .ref q8, .int 0, .ref q9, .int 0, .int (-1), .int 0, .ref q10, .ref q11, .int 0, .int 0, .int 0, .long 0, .int 0, .long 0, .long 0, .int 0, .int 0, .int 0, .int 0, .long 0, .int 0, .ref q12, .null, .null, .int 0])), (q1, .inl (cA 0, 8, .inl (fun _ => 0))), (q2, .inl (cA 0, 4096, .inl (fun _ => 0))), (q3, .inl (cA 1, 2500, .inr (.inl (fun _ => 0)))), (q4, .inl (cA 0, 264, .inl (fun _ => 0))), (q5, .inl (cA 0, 264, .inl (fun _ => 0))), (q6, .inl (cA 0, 264, .inl (fun _ => 0))), (q7, .inl (cA 0, 264, .inl (fun _ => 0))), (q8, .inl (cA 0, 256, .inl (fun _ => 0))), (q9, .inl (cA 1, 2500, .inr (.inl (fun _ => 0)))), (q10, .inl (cA 1, 256, .inr (.inl (fun _ => 0)))), (q11, .inl (cA 1, 256, .inr (.inl (fun _ => 0)))), (q12, .inl (cA 0, 4096, .inl (fun _ => 0)))]) hC dX9_init_136 zfx_X9_61 0 rfl (Nat.le_of_ble_eq_true rfl) hin ⟨TX9, 44, tyX9 40, rfl, rfl, tyX9_ok 40 (by decide), rfl, rfl⟩ rfl ?_
  refine n_aload hC dX9_init_139 0 rfl ?_
  refine n_sipush (v := 2048) hC dX9_init_140 (by decide) ?_
  refine n_newa (ty := .long) (n' := 2048) (a0 := (2048, .inr (.inl (fun _ => 0)))) hC 1 224 dX9_init_143 (by decide +kernel) rfl rfl (fun _ h => by cases h) (fun c9 => rfl) (by decide) (by decide) (Nat.le_of_ble_eq_true rfl) (Nat.le_of_ble_eq_true rfl) (Nat.le_of_ble_eq_true rfl) (fun q13 => ?_)
  refine n_put (ws' := [(h0, .inr (9, [.int 0, .int 1, .int 16, .int 64, .int 44100, .int 0, .int 0, .ref q1, .int 0, .ref q2, .int 0, .ref q3, .long 0, .int 0, .int 0, .ref q4, .ref q5, .ref q6, .ref q7, .ref q8, .int 0, .ref q9, .int 0, .int (-1), .int 0, .ref q10, .ref q11, .int 0, .int 0, .int 0, .long 0, .int 0, .long 0, .long 0, .int 0, .int 0, .int 0, .int 0, .long 0, .int 0, .ref q12, .ref q13, .null, .int 0])), (q1, .inl (cA 0, 8, .inl (fun _ => 0))), (q2, .inl (cA 0, 4096, .inl (fun _ => 0))), (q3, .inl (cA 1, 2500, .inr (.inl (fun _ => 0)))), (q4, .inl (cA 0, 264, .inl (fun _ => 0))), (q5, .inl (cA 0, 264, .inl (fun _ => 0))), (q6, .inl (cA 0, 264, .inl (fun _ => 0))), (q7, .inl (cA 0, 264, .inl (fun _ => 0))), (q8, .inl (cA 0, 256, .inl (fun _ => 0))), (q9, .inl (cA 1, 2500, .inr (.inl (fun _ => 0)))), (q10, .inl (cA 1, 256, .inr (.inl (fun _ => 0)))), (q11, .inl (cA 1, 256, .inr (.inl (fun _ => 0)))), (q12, .inl (cA 0, 4096, .inl (fun _ => 0))), (q13, .inl (cA 1, 2048, .inr (.inl (fun _ => 0))))]) hC dX9_init_145 zfx_X9_64 0 rfl (Nat.le_of_ble_eq_true rfl) hin ⟨TX9, 44, tyX9 41, rfl, rfl, tyX9_ok 41 (by decide), rfl, rfl⟩ rfl ?_
  refine n_aload hC dX9_init_148 0 rfl ?_
  refine n_bipush (v := 32) hC dX9_init_149 (by decide) ?_
  refine n_newa (ty := .int) (n' := 32) (a0 := (32, .inl (fun _ => 0))) hC 0 159 dX9_init_151 (by decide +kernel) rfl rfl (fun _ h => by cases h) (fun c9 => rfl) (by decide) (by decide) (Nat.le_of_ble_eq_true rfl) (Nat.le_of_ble_eq_true rfl) (Nat.le_of_ble_eq_true rfl) (fun q14 => ?_)
  refine n_put (ws' := [(h0, .inr (9, [.int 0, .int 1, .int 16, .int 64, .int 44100, .int 0, .int 0, .ref q1, .int 0, .ref q2, .int 0, .ref q3, .long 0, .int 0, .int 0, .ref q4, .ref q5, .ref q6, .ref q7, .ref q8, .int 0, .ref q9, .int 0, .int (-1), .int 0, .ref q10, .ref q11, .int 0, .int 0, .int 0, .long 0, .int 0, .long 0, .long 0, .int 0, .int 0, .int 0, .int 0, .long 0, .int 0, .ref q12, .ref q13, .ref q14, .int 0])), (q1, .inl (cA 0, 8, .inl (fun _ => 0))), (q2, .inl (cA 0, 4096, .inl (fun _ => 0))), (q3, .inl (cA 1, 2500, .inr (.inl (fun _ => 0)))), (q4, .inl (cA 0, 264, .inl (fun _ => 0))), (q5, .inl (cA 0, 264, .inl (fun _ => 0))), (q6, .inl (cA 0, 264, .inl (fun _ => 0))), (q7, .inl (cA 0, 264, .inl (fun _ => 0))), (q8, .inl (cA 0, 256, .inl (fun _ => 0))), (q9, .inl (cA 1, 2500, .inr (.inl (fun _ => 0)))), (q10, .inl (cA 1, 256, .inr (.inl (fun _ => 0)))), (q11, .inl (cA 1, 256, .inr (.inl (fun _ => 0)))), (q12, .inl (cA 0, 4096, .inl (fun _ => 0))), (q13, .inl (cA 1, 2048, .inr (.inl (fun _ => 0)))), (q14, .inl (cA 0, 32, .inl (fun _ => 0)))]) hC dX9_init_153 zfx_X9_67 0 rfl (Nat.le_of_ble_eq_true rfl) hin ⟨TX9, 44, tyX9 42, rfl, rfl, tyX9_ok 42 (by decide), rfl, rfl⟩ rfl ?_
  exact n_ret hC hr hlk (fun j => ([h0, q1, q2, q3, q4, q5, q6, q7, q8, q9, q10, q11, q12, q13, q14] : List Nat).getD j 0) dX9_init_156 rfl rfl (Nat.le_of_ble_eq_true rfl) (Nat.le_of_ble_eq_true rfl)
