/-! ===== Math.min, Math.max, System.arraycopy ===== -/
def zminw (own : String) (idx : Nat) : Bool := decide (Cond.methodLink own idx Lib.Math.min.name ∈ lw_tbl) && decide (Cond.static Lib.Math.min.name ∈ lw_tbl) && decide (Cond.initialized "java/lang/Math" ∈ lw_tbl) && decide (Cond.code Lib.Math.min.name Lib.Math.min.code 2 (some .int) ∈ lw_tbl)
def zmaxw (own : String) (idx : Nat) : Bool := decide (Cond.methodLink own idx Lib.Math.max.name ∈ lw_tbl) && decide (Cond.static Lib.Math.max.name ∈ lw_tbl) && decide (Cond.initialized "java/lang/Math" ∈ lw_tbl) && decide (Cond.code Lib.Math.max.name Lib.Math.max.code 2 (some .int) ∈ lw_tbl)
def zcpyw (own : String) (idx : Nat) : Bool := decide (Cond.methodLink own idx arraycopyName ∈ lw_tbl) && decide (Cond.native arraycopyName ∈ lw_tbl) && decide (Cond.static arraycopyName ∈ lw_tbl) && decide (Cond.initialized "java/lang/System" ∈ lw_tbl)
section ZJDK
variable {M : zM} {k pc idx : Nat} {L : zLo} {st : List Value} {D : zD} {Q : zQ}
theorem z_min {x y : Int32} (hd : decode (zcc M) pc = .ok (.invokestatic idx, 3)) (hw : zminw (zown M) idx = true) (hst : (st.map fun v => v.category).sum ≤ 8) (hk : k ≤ zcap M) (kk : Z M k (pc + 3) L (.int (if y < x then y else x) :: st) D Q) : Z M k pc L (.int y :: .int x :: st) D Q := by
  intro p l e R s m args below meth c ad cA G A H locs ls C hH hl
  obtain ⟨hx, hb, -, hml, -, -, ho, ⟨f1, f2, f3, f4⟩, hG⟩ := id C
  unfold zminw at hw
  simp only [Bool.and_eq_true, decide_eq_true_eq] at hw
  obtain ⟨⟨⟨w1, w2⟩, w3⟩, w4⟩ := hw
  exact va_mmin hx hb (hml.trans hl.1.symm) ho (hG.1 _ w1 rfl) (hG.1 _ w2 rfl) (hG.1 _ w3 rfl) (hG.1 _ w4 rfl) (by omega) (by rw [zcategory_map]; omega) (by omega) (by omega) hd (kk p l e R s m args below meth c ad cA G A H locs ls C hH hl)
theorem z_max {x y : Int32} (hd : decode (zcc M) pc = .ok (.invokestatic idx, 3)) (hw : zmaxw (zown M) idx = true) (hst : (st.map fun v => v.category).sum ≤ 8) (hk : k ≤ zcap M) (kk : Z M k (pc + 3) L (.int (if x < y then y else x) :: st) D Q) : Z M k pc L (.int y :: .int x :: st) D Q := by
  intro p l e R s m args below meth c ad cA G A H locs ls C hH hl
  obtain ⟨hx, hb, -, hml, -, -, ho, ⟨f1, f2, f3, f4⟩, hG⟩ := id C
  unfold zmaxw at hw
  simp only [Bool.and_eq_true, decide_eq_true_eq] at hw
  obtain ⟨⟨⟨w1, w2⟩, w3⟩, w4⟩ := hw
  exact va_mmax hx hb (hml.trans hl.1.symm) ho (hG.1 _ w1 rfl) (hG.1 _ w2 rfl) (hG.1 _ w3 rfl) (hG.1 _ w4 rfl) (by omega) (by rw [zcategory_map]; omega) (by omega) (by omega) hd (kk p l e R s m args below meth c ad cA G A H locs ls C hH hl)
theorem z_copyI {a0 a1 n0 n1 : Nat} {r0 r1 : List Nat} {sp dp n : Int32} (h0 : zSH[a0]? = some (0, n0, r0)) (h1 : zSH[a1]? = some (0, n1, r1)) (hd : decode (zcc M) pc = .ok (.invokestatic idx, 3)) (hw : zcpyw (zown M) idx = true) (g1 : ¬ sp < 0) (g2 : ¬ dp < 0) (g3 : ¬ n < 0) (g4 : sp.toNatClampNeg + n.toNatClampNeg ≤ n0) (g5 : dp.toNatClampNeg + n.toNatClampNeg ≤ n1) (hst : (st.map fun v => v.category).sum ≤ 8)
    (kk : Z M k (pc + 3) L st (zuR D a1 (va_cpy (D.1 a0) (D.1 a1) sp.toNatClampNeg dp.toNatClampNeg n.toNatClampNeg)) Q) : Z M k pc L (.int n :: .int dp :: .ref a1 :: .int sp :: .ref a0 :: st) D Q := by
  intro p l e R s m args below meth c ad cA G A H locs ls C hH hl
  obtain ⟨hx, hb, -, hml, -, -, ho, ⟨f1, f2, f3, f4⟩, hG⟩ := id C
  unfold zcpyw at hw
  simp only [Bool.and_eq_true, decide_eq_true_eq] at hw
  obtain ⟨⟨⟨w1, w2⟩, w3⟩, w4⟩ := hw
  refine va_copyi (D := G) (ws := zws ad cA D) hx hb (hml.trans hl.1.symm) ho (hG.1 _ w1 rfl) (hG.1 _ w2 rfl) (hG.1 _ w3 rfl) (hG.1 _ w4 rfl) hG.2.2.1 hH.1 hH.2.1 hH.2.2 a0 a1 0 0 (ty := .int) (zws_at h0) (zws_at h1) rfl rfl rfl g1 g2 g3 g4 g5 (fun _ _ => rfl) (by omega) (by
    rw [zcategory_map]
    have : nativeFrameWords "java/lang/System" "arraycopy" 5 + 11 ≤ 142 := by decide +kernel
    omega) hd (fun H1 locs1 q1 q2 q3 => ?_)
  have e1 := zws_set (ad := ad) (cA := cA) (D := D) (D' := zuR D a1 (va_cpy (D.1 a0) (D.1 a1) sp.toNatClampNeg dp.toNatClampNeg n.toNatClampNeg)) (e := .inl (cA 0, n1, .inl (va_cpy (D.1 a0) (D.1 a1) sp.toNatClampNeg dp.toNatClampNeg n.toNatClampNeg))) h1 (by show (Sum.inl (cA 0, n1, Sum.inl ((zuR D a1 _).1 a1)) : va_E) = _; rw [zuR_s]) (fun b hb => if_neg hb) (fun _ _ => rfl)
  refine kk p l e R s m args below meth c ad cA G A H1 locs1 ls C ⟨?_, ?_, q3⟩ hl
  · rw [← e1]; exact q1
  · rw [← e1]; exact q2
/-- .. of bytes -/
theorem z_copyB {a0 a1 n0 n1 : Nat} {r0 r1 : List Nat} {sp dp n : Int32} (h0 : zSH[a0]? = some (2, n0, r0)) (h1 : zSH[a1]? = some (2, n1, r1)) (hd : decode (zcc M) pc = .ok (.invokestatic idx, 3)) (hw : zcpyw (zown M) idx = true) (g1 : ¬ sp < 0) (g2 : ¬ dp < 0) (g3 : ¬ n < 0) (g4 : sp.toNatClampNeg + n.toNatClampNeg ≤ n0) (g5 : dp.toNatClampNeg + n.toNatClampNeg ≤ n1) (hfit : ∀ i, i < n.toNatClampNeg → fits .byte (.int (D.1 a0 (sp.toNatClampNeg + i))) = true) (hst : (st.map fun v => v.category).sum ≤ 8)
    (kk : Z M k (pc + 3) L st (zuR D a1 (va_cpy (D.1 a0) (D.1 a1) sp.toNatClampNeg dp.toNatClampNeg n.toNatClampNeg)) Q) : Z M k pc L (.int n :: .int dp :: .ref a1 :: .int sp :: .ref a0 :: st) D Q := by
  intro p l e R s m args below meth c ad cA G A H locs ls C hH hl
  obtain ⟨hx, hb, -, hml, -, -, ho, ⟨f1, f2, f3, f4⟩, hG⟩ := id C
  unfold zcpyw at hw
  simp only [Bool.and_eq_true, decide_eq_true_eq] at hw
  obtain ⟨⟨⟨w1, w2⟩, w3⟩, w4⟩ := hw
  refine va_copyi (D := G) (ws := zws ad cA D) hx hb (hml.trans hl.1.symm) ho (hG.1 _ w1 rfl) (hG.1 _ w2 rfl) (hG.1 _ w3 rfl) (hG.1 _ w4 rfl) hG.2.2.1 hH.1 hH.2.1 hH.2.2 a0 a1 2 2 (ty := .byte) (zws_at h0) (zws_at h1) rfl rfl rfl g1 g2 g3 g4 g5 hfit (by omega) (by
    rw [zcategory_map]
    have : nativeFrameWords "java/lang/System" "arraycopy" 5 + 11 ≤ 142 := by decide +kernel
    omega) hd (fun H1 locs1 q1 q2 q3 => ?_)
  have e1 := zws_set (ad := ad) (cA := cA) (D := D) (D' := zuR D a1 (va_cpy (D.1 a0) (D.1 a1) sp.toNatClampNeg dp.toNatClampNeg n.toNatClampNeg)) (e := .inl (cA 2, n1, .inl (va_cpy (D.1 a0) (D.1 a1) sp.toNatClampNeg dp.toNatClampNeg n.toNatClampNeg))) h1 (by show (Sum.inl (cA 2, n1, Sum.inl ((zuR D a1 _).1 a1)) : va_E) = _; rw [zuR_s]) (fun b hb => if_neg hb) (fun _ _ => rfl)
  refine kk p l e R s m args below meth c ad cA G A H1 locs1 ls C ⟨?_, ?_, q3⟩ hl
  · rw [← e1]; exact q1
  · rw [← e1]; exact q2
end ZJDK
