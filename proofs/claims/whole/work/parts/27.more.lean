/-! ===== lengths of other arrays; Arrays.fill ===== -/
section ZMORE
variable {M : zM} {k pc : Nat} {L : zLo} {st : List Value} {D : zD} {Q : zQ}
theorem z_alenB {a n : Nat} (hs : zac a = some (2, n)) (hd : decode (zcc M) pc = .ok (.arraylength, 1)) (kk : Z M k (pc + 1) L (.int (nI n) :: st) D Q) : Z M k pc L (.ref a :: st) D Q := by
  obtain ⟨r, h⟩ := zac_ok hs
  intro p l e R s m args below meth c ad cA G A H locs ls C hH hl
  exact va_alen (D := G) (ws := zws ad cA D) C.1 C.2.1 C.2.2.2.2.2.2.2.2.2.2.1 hH.1 a 2 (zws_at h) (ty := .byte) rfl rfl hd (kk p l e R s m args below meth c ad cA G A H locs ls C hH hl)
theorem z_alenJ {a n : Nat} (hs : zac a = some (1, n)) (hd : decode (zcc M) pc = .ok (.arraylength, 1)) (kk : Z M k (pc + 1) L (.int (nI n) :: st) D Q) : Z M k pc L (.ref a :: st) D Q := by
  obtain ⟨r, h⟩ := zac_ok hs
  intro p l e R s m args below meth c ad cA G A H locs ls C hH hl
  exact va_alen (D := G) (ws := zws ad cA D) C.1 C.2.1 C.2.2.2.2.2.2.2.2.2.2.1 hH.1 a 1 (zws_at h) (ty := .long) rfl rfl hd (kk p l e R s m args below meth c ad cA G A H locs ls C hH hl)
end ZMORE
theorem c_rangeCheck {d n a b : Nat} {D : zD} {Q : zQ} (h1 : a ≤ b) (h2 : b ≤ n) (hn : n < 2 ^ 31) (hq : Q (.inl none) 0 D) : ZM yJ7_rangeCheck_23922 iJ7_rangeCheck_23922 d [.int (nI n), .int (nI a), .int (nI b)] D Q := by
  refine z_method (by decide) rfl (Nat.le_of_ble_eq_true rfl) ?_
  refine z_at [(0, .int (nI n)), (1, .int (nI a)), (2, .int (nI b))] ⟨rfl, rfl, rfl, trivial⟩ ?_
  refine z_iload_n dJ7_rangeCheck_23922_0 (by exact rfl) ?_
  refine z_iload_n dJ7_rangeCheck_23922_1 (by exact rfl) ?_
  refine z_icmp_le (tgt := 46) dJ7_rangeCheck_23922_2 (by decide) (fun _ => ?_) (fun q9 => absurd ((nI_le h1 (by omega))) q9)
  refine z_iload_n dJ7_rangeCheck_23922_46 (by exact rfl) ?_
  refine z_if_ge (tgt := 59) dJ7_rangeCheck_23922_47 (by decide) (fun _ => ?_) (fun q9 => absurd ((nI_pos' (by omega))) q9)
  refine z_iload_n dJ7_rangeCheck_23922_59 (by exact rfl) ?_
  refine z_iload_n dJ7_rangeCheck_23922_60 (by exact rfl) ?_
  refine z_icmp_le (tgt := 73) dJ7_rangeCheck_23922_61 (by decide) (fun _ => ?_) (fun q9 => absurd ((nI_le h2 (by omega))) q9)
  exact z_vret (st := []) rfl dJ7_rangeCheck_23922_73 hq
/-- a row, with v from a up to i -/
def flF {α : Type} (f : Nat → α) (a i : Nat) (v : α) : Nat → α := fun j => if a ≤ j ∧ j < i then v else f j
theorem flF_0 {α : Type} (f : Nat → α) (a : Nat) (v : α) : flF f a a v = f := by
  funext j
  unfold flF
  rw [if_neg (by omega)]
theorem flF_s {f : Nat → Int32} {a i : Nat} {v : Int32} (h : a ≤ i) : upd (flF f a i v) i v = flF f a (i + 1) v := by
  funext j
  unfold upd flF
  by_cases hj : j = i
  · rw [if_pos hj, if_pos (by omega)]
  · rw [if_neg hj]
    by_cases h2 : a ≤ j ∧ j < i
    · rw [if_pos h2, if_pos (by omega)]
    · rw [if_neg h2, if_neg (by omega)]
theorem flF_sL {f : Nat → Int64} {a i : Nat} {v : Int64} (h : a ≤ i) : vp_updL (flF f a i v) i v = flF f a (i + 1) v := by
  funext j
  unfold vp_updL flF
  by_cases hj : j = i
  · rw [if_pos hj, if_pos (by omega)]
  · rw [if_neg hj]
    by_cases h2 : a ≤ j ∧ j < i
    · rw [if_pos h2, if_pos (by omega)]
    · rw [if_neg h2, if_neg (by omega)]
theorem c_fillB {d c n a b : Nat} {D : zD} {Q : zQ} {v : Int32} (hc : zac c = some (2, n)) (h1 : a ≤ b) (h2 : b ≤ n) (hn : n < 2 ^ 31) (hv : v.toInt8.toInt32 = v) (hq : Q (.inl none) 0 (zuR D c (flF (D.1 c) a b v))) : ZM yJ7_fill_eb02e iJ7_fill_eb02e (d + 1) [.ref c, .int (nI a), .int (nI b), .int v] D Q := by
  refine z_method (by decide) rfl (Nat.le_of_ble_eq_true rfl) ?_
  refine z_at [(0, .ref c), (1, .int (nI a)), (2, .int (nI b)), (3, .int v)] ⟨rfl, rfl, rfl, rfl, trivial⟩ ?_
  have lp : ∀ (m i : Nat), i + m = b → a ≤ i → Z (zmk iJ7_fill_eb02e (d + 1)) 0 10 (zl [(0, .ref c), (2, .int (nI b)), (3, .int v), (4, .int (nI i))]) [] (zuR D c (flF (D.1 c) a i v)) Q := by
    intro m
    induction m with
    | zero =>
      intro i hi ha
      have e : i = b := by omega
      subst e
      refine z_iload dJ7_fill_eb02e_10 (by exact rfl) ?_
      refine z_iload_n dJ7_fill_eb02e_12 (by exact rfl) ?_
      refine z_icmp_ge (tgt := 27) dJ7_fill_eb02e_13 (by decide) (fun _ => ?_) (fun q9 => absurd ((Int32.le_refl _)) q9)
      exact z_vret (st := []) rfl dJ7_fill_eb02e_27 hq
    | succ m ih =>
      intro i hi ha
      refine z_iload dJ7_fill_eb02e_10 (by exact rfl) ?_
      refine z_iload_n dJ7_fill_eb02e_12 (by exact rfl) ?_
      refine z_icmp_ge (tgt := 27) dJ7_fill_eb02e_13 (by decide) (fun q9 => absurd q9 ((nI_ge (by omega) (by omega)))) (fun _ => ?_)
      refine z_aload_n dJ7_fill_eb02e_16 (by exact rfl) ?_
      refine z_iload dJ7_fill_eb02e_17 (by exact rfl) ?_
      refine z_iload_n dJ7_fill_eb02e_19 (by exact rfl) ?_
      refine z_sB hc dJ7_fill_eb02e_20 (vp_in_nI (by omega) (by omega)) ?_
      rw [nI_clamp (show i < 2 ^ 31 by omega), hv, zuI_zuR, flF_s ha]
      refine z_iinc dJ7_fill_eb02e_21 (by exact rfl) ?_
      refine z_goto (tgt := 10) dJ7_fill_eb02e_24 (by decide) ?_
      refine z_at [(0, .ref c), (2, .int (nI b)), (3, .int v), (4, .int (nI (i + 1)))] ⟨rfl, rfl, rfl, congrArg (fun v => some (Value.int v)) (nI_1 i), trivial⟩ (ih (i + 1) (by omega) (by omega))
  refine z_aload_n dJ7_fill_eb02e_0 (by exact rfl) ?_
  refine z_alenB hc dJ7_fill_eb02e_1 ?_
  refine z_iload_n dJ7_fill_eb02e_2 (by exact rfl) ?_
  refine z_iload_n dJ7_fill_eb02e_3 (by exact rfl) ?_
  refine z_cS dJ7_fill_eb02e_4 zk_J7_13 (by exact rfl) (Nat.le_of_ble_eq_true rfl) (Nat.le_of_ble_eq_true rfl) (Nat.le_refl _) ?_
  refine c_rangeCheck h1 h2 hn ?_
  refine z_iload_n dJ7_fill_eb02e_7 (by exact rfl) ?_
  refine z_istore dJ7_fill_eb02e_8 (Nat.le_of_ble_eq_true rfl) ?_
  have h9 := lp (b - a) a (by omega) (Nat.le_refl _)
  rw [flF_0, zuR_id] at h9
  exact z_at [(0, .ref c), (2, .int (nI b)), (3, .int v), (4, .int (nI a))] ⟨rfl, rfl, rfl, rfl, trivial⟩ h9
theorem c_fillI {d c n a b : Nat} {D : zD} {Q : zQ} {v : Int32} (hc : zac c = some (0, n)) (h1 : a ≤ b) (h2 : b ≤ n) (hn : n < 2 ^ 31) (hq : Q (.inl none) 0 (zuR D c (flF (D.1 c) a b v))) : ZM yJ7_fill_fda19 iJ7_fill_fda19 (d + 1) [.ref c, .int (nI a), .int (nI b), .int v] D Q := by
  refine z_method (by decide) rfl (Nat.le_of_ble_eq_true rfl) ?_
  refine z_at [(0, .ref c), (1, .int (nI a)), (2, .int (nI b)), (3, .int v)] ⟨rfl, rfl, rfl, rfl, trivial⟩ ?_
  have lp : ∀ (m i : Nat), i + m = b → a ≤ i → Z (zmk iJ7_fill_fda19 (d + 1)) 0 10 (zl [(0, .ref c), (2, .int (nI b)), (3, .int v), (4, .int (nI i))]) [] (zuR D c (flF (D.1 c) a i v)) Q := by
    intro m
    induction m with
    | zero =>
      intro i hi ha
      have e : i = b := by omega
      subst e
      refine z_iload dJ7_fill_fda19_10 (by exact rfl) ?_
      refine z_iload_n dJ7_fill_fda19_12 (by exact rfl) ?_
      refine z_icmp_ge (tgt := 27) dJ7_fill_fda19_13 (by decide) (fun _ => ?_) (fun q9 => absurd ((Int32.le_refl _)) q9)
      exact z_vret (st := []) rfl dJ7_fill_fda19_27 hq
    | succ m ih =>
      intro i hi ha
      refine z_iload dJ7_fill_fda19_10 (by exact rfl) ?_
      refine z_iload_n dJ7_fill_fda19_12 (by exact rfl) ?_
      refine z_icmp_ge (tgt := 27) dJ7_fill_fda19_13 (by decide) (fun q9 => absurd q9 ((nI_ge (by omega) (by omega)))) (fun _ => ?_)
      refine z_aload_n dJ7_fill_fda19_16 (by exact rfl) ?_
      refine z_iload dJ7_fill_fda19_17 (by exact rfl) ?_
      refine z_iload_n dJ7_fill_fda19_19 (by exact rfl) ?_
      refine z_sI hc dJ7_fill_fda19_20 (vp_in_nI (by omega) (by omega)) ?_
      rw [nI_clamp (show i < 2 ^ 31 by omega), zuI_zuR, flF_s ha]
      refine z_iinc dJ7_fill_fda19_21 (by exact rfl) ?_
      refine z_goto (tgt := 10) dJ7_fill_fda19_24 (by decide) ?_
      refine z_at [(0, .ref c), (2, .int (nI b)), (3, .int v), (4, .int (nI (i + 1)))] ⟨rfl, rfl, rfl, congrArg (fun v => some (Value.int v)) (nI_1 i), trivial⟩ (ih (i + 1) (by omega) (by omega))
  refine z_aload_n dJ7_fill_fda19_0 (by exact rfl) ?_
  refine z_alenL hc dJ7_fill_fda19_1 ?_
  refine z_iload_n dJ7_fill_fda19_2 (by exact rfl) ?_
  refine z_iload_n dJ7_fill_fda19_3 (by exact rfl) ?_
  refine z_cS dJ7_fill_fda19_4 zk_J7_13 (by exact rfl) (Nat.le_of_ble_eq_true rfl) (Nat.le_of_ble_eq_true rfl) (Nat.le_refl _) ?_
  refine c_rangeCheck h1 h2 hn ?_
  refine z_iload_n dJ7_fill_fda19_7 (by exact rfl) ?_
  refine z_istore dJ7_fill_fda19_8 (Nat.le_of_ble_eq_true rfl) ?_
  have h9 := lp (b - a) a (by omega) (Nat.le_refl _)
  rw [flF_0, zuR_id] at h9
  exact z_at [(0, .ref c), (2, .int (nI b)), (3, .int v), (4, .int (nI a))] ⟨rfl, rfl, rfl, rfl, trivial⟩ h9
theorem c_fillJ {d c n : Nat} {D : zD} {Q : zQ} {v : Int64} (hc : zac c = some (1, n)) (hn : n < 2 ^ 31) (hq : Q (.inl none) 0 (zuM D c (flF (D.2 c) 0 n v))) : ZM yJ7_fill_d0a16 iJ7_fill_d0a16 d [.ref c, .long v] D Q := by
  refine z_method (by decide) rfl (Nat.le_of_ble_eq_true rfl) ?_
  refine z_at [(0, .ref c), (1, .long v)] ⟨rfl, rfl, trivial⟩ ?_
  have lp : ∀ (m i : Nat), i + m = n → Z (zmk iJ7_fill_d0a16 d) 0 6 (zl [(0, .ref c), (1, .long v), (3, .int (nI i)), (4, .int (nI n))]) [] (zuM D c (flF (D.2 c) 0 i v)) Q := by
    intro m
    induction m with
    | zero =>
      intro i hi
      have e : i = n := by omega
      subst e
      refine z_iload_n dJ7_fill_d0a16_6 (by exact rfl) ?_
      refine z_iload dJ7_fill_d0a16_7 (by exact rfl) ?_
      refine z_icmp_ge (tgt := 22) dJ7_fill_d0a16_9 (by decide) (fun _ => ?_) (fun q9 => absurd ((Int32.le_refl _)) q9)
      exact z_vret (st := []) rfl dJ7_fill_d0a16_22 hq
    | succ m ih =>
      intro i hi
      refine z_iload_n dJ7_fill_d0a16_6 (by exact rfl) ?_
      refine z_iload dJ7_fill_d0a16_7 (by exact rfl) ?_
      refine z_icmp_ge (tgt := 22) dJ7_fill_d0a16_9 (by decide) (fun q9 => absurd q9 ((nI_ge (by omega) (by omega)))) (fun _ => ?_)
      refine z_aload_n dJ7_fill_d0a16_12 (by exact rfl) ?_
      refine z_iload_n dJ7_fill_d0a16_13 (by exact rfl) ?_
      refine z_lload_n dJ7_fill_d0a16_14 (by exact rfl) ?_
      refine z_sJ hc dJ7_fill_d0a16_15 (vp_in_nI (by omega) (by omega)) ?_
      rw [nI_clamp (show i < 2 ^ 31 by omega), zuL_zuM, flF_sL (Nat.zero_le _)]
      refine z_iinc dJ7_fill_d0a16_16 (by exact rfl) ?_
      refine z_goto (tgt := 6) dJ7_fill_d0a16_19 (by decide) ?_
      refine z_at [(0, .ref c), (1, .long v), (3, .int (nI (i + 1))), (4, .int (nI n))] ⟨rfl, rfl, congrArg (fun v => some (Value.int v)) (nI_1 i), rfl, trivial⟩ (ih (i + 1) (by omega))
  refine z_iconst dJ7_fill_d0a16_0 ?_
  refine z_istore_n dJ7_fill_d0a16_1 (Nat.le_of_ble_eq_true rfl) ?_
  refine z_aload_n dJ7_fill_d0a16_2 (by exact rfl) ?_
  refine z_alenJ hc dJ7_fill_d0a16_3 ?_
  refine z_istore dJ7_fill_d0a16_4 (Nat.le_of_ble_eq_true rfl) ?_
  have h9 := lp n 0 (by omega)
  rw [flF_0, zuM_id] at h9
  exact z_at [(0, .ref c), (1, .long v), (3, .int (nI 0)), (4, .int (nI n))] ⟨rfl, rfl, rfl, rfl, trivial⟩ h9
