/-! ===== calls by what comes behind them ===== -/
/-- behind a call at pc -/
abbrev zcont (M : zM) (k pc : Nat) (L : zLo) (st : List Value) (Q : zQ) : zQ := fun o k' D' => match o with
  | .inl v => Z M (k + k') (pc + 3) L (v.toList ++ st) D' Q
  | .inr E => ZX M (k + k') pc L E D' Q
def zpop : Nat → List Value → List Value → Option (List Value × List Value)
  | 0, st, acc => some (acc, st)
  | n + 1, v :: st, acc => zpop n st (v :: acc)
  | _ + 1, [], _ => none
theorem zpop_eq : ∀ {n : Nat} {stk acc av st : List Value}, zpop n stk acc = some (av, st) → acc.reverse ++ stk = av.reverse ++ st ∧ av.length = n + acc.length
  | 0, stk, acc, av, st, h => by cases h; exact ⟨rfl, (Nat.zero_add _).symm⟩
  | n + 1, [], acc, av, st, h => by cases h
  | n + 1, v :: stk, acc, av, st, h => by
    have h1 := zpop_eq (n := n) (stk := stk) (acc := v :: acc) h
    refine ⟨?_, by rw [h1.2, List.length_cons]; omega⟩
    rw [← h1.1, List.reverse_cons, List.append_assoc]
    rfl
section ZCPS
variable {M : zM} {k pc : Nat} {L : zLo} {st stk : List Value} {D : zD} {Q : zQ} {y : MethodName} {I : zI} {d idx n : Nat} {av : List Value}
theorem z_cV {a ci : Nat} {fl : List Nat} {Tt : u_T} {N : Nat} (hd : decode (zcc M) pc = .ok (.invokevirtual idx, 3)) (hw : zcall (zown M) idx 0 y I n) (hp : zpop (n + 1) stk [] = some (.ref a :: av, st)) (ha : zSH[a]? = some (5, ci, fl)) (hcl : zcl[ci]? = some (y.cls, Tt, N))
    (hst : (st.map fun v => v.category).sum ≤ 8) (hk : k + 2 ≤ zcap M) (hdep : d + 1 ≤ zdep M) (hM : ZM y I d (.ref a :: av) D (zcont M k pc L st Q)) : Z M k pc L stk D Q := by
  have h1 := zpop_eq hp
  refine z_callV hM hd hw ha hcl (by have := h1.2; simp at this; omega) (by
    have := h1.1
    simp only [List.reverse_nil, List.nil_append, List.reverse_cons, List.append_assoc] at this
    exact this) hst hk hdep (fun v k' D' h => h) (fun E k' D' h => h)
theorem z_cS (hd : decode (zcc M) pc = .ok (.invokestatic idx, 3)) (hw : zcall (zown M) idx 1 y I n) (hp : zpop n stk [] = some (av, st))
    (hst : (st.map fun v => v.category).sum ≤ 8) (hk : k + 2 ≤ zcap M) (hdep : d + 1 ≤ zdep M) (hM : ZM y I d av D (zcont M k pc L st Q)) : Z M k pc L stk D Q := by
  have h1 := zpop_eq hp
  exact z_callS hM hd hw (by have := h1.2; simpa using this) (by simpa using h1.1) hst hk hdep (fun v k' D' h => h) (fun E k' D' h => h)
theorem z_cN (hd : decode (zcc M) pc = .ok (.invokestatic idx, 3)) (hw : zcall (zown M) idx 2 y I n) (hI : I.2.2.2.2 = []) (hp : zpop n stk [] = some (av, st))
    (hst : (st.map fun v => v.category).sum ≤ 8) (hk : k + 2 ≤ zcap M) (hdep : d + 1 ≤ zdep M) (hM : ZM y I d av D (zcont M k pc L st Q)) : Z M k pc L stk D Q := by
  have h1 := zpop_eq hp
  exact z_callN hM hd hw hI (by have := h1.2; simpa using this) (by simpa using h1.1) hst hk hdep (fun v k' D' h => h) (fun E k' D' h => h)
/-- two longs compared, and a jump -/
theorem z_lt {x y : Int64} {off : Int} {tgt : Nat} (d1 : decode (zcc M) pc = .ok (.lcmp, 1)) (d2 : decode (zcc M) (pc + 1) = .ok (.ifCond .lt off, 3)) (ht : ((pc + 1 : Nat) : Int) + off = (tgt : Int)) (kt : x < y → Z M k tgt L st D Q) (kf : ¬ x < y → Z M k (pc + 4) L st D Q) : Z M k pc L (.long y :: .long x :: st) D Q :=
  z_lcmp d1 (z_if_lt d2 ht (fun h => kt ((lg_cmp_lt x y).mp h)) (fun h => kf (fun q => h ((lg_cmp_lt x y).mpr q))))
theorem z_ge {x y : Int64} {off : Int} {tgt : Nat} (d1 : decode (zcc M) pc = .ok (.lcmp, 1)) (d2 : decode (zcc M) (pc + 1) = .ok (.ifCond .ge off, 3)) (ht : ((pc + 1 : Nat) : Int) + off = (tgt : Int)) (kt : y ≤ x → Z M k tgt L st D Q) (kf : ¬ y ≤ x → Z M k (pc + 4) L st D Q) : Z M k pc L (.long y :: .long x :: st) D Q :=
  z_lcmp d1 (z_if_ge d2 ht (fun h => kt ((lg_cmp_ge x y).mp h)) (fun h => kf (fun q => h ((lg_cmp_ge x y).mpr q))))
theorem z_gt {x y : Int64} {off : Int} {tgt : Nat} (d1 : decode (zcc M) pc = .ok (.lcmp, 1)) (d2 : decode (zcc M) (pc + 1) = .ok (.ifCond .gt off, 3)) (ht : ((pc + 1 : Nat) : Int) + off = (tgt : Int)) (kt : y < x → Z M k tgt L st D Q) (kf : ¬ y < x → Z M k (pc + 4) L st D Q) : Z M k pc L (.long y :: .long x :: st) D Q :=
  z_lcmp d1 (z_if_gt d2 ht (fun h => kt ((lg_cmp_gt x y).mp h)) (fun h => kf (fun q => h ((lg_cmp_gt x y).mpr q))))
theorem z_le {x y : Int64} {off : Int} {tgt : Nat} (d1 : decode (zcc M) pc = .ok (.lcmp, 1)) (d2 : decode (zcc M) (pc + 1) = .ok (.ifCond .le off, 3)) (ht : ((pc + 1 : Nat) : Int) + off = (tgt : Int)) (kt : x ≤ y → Z M k tgt L st D Q) (kf : ¬ x ≤ y → Z M k (pc + 4) L st D Q) : Z M k pc L (.long y :: .long x :: st) D Q :=
  z_lcmp d1 (z_if_le d2 ht (fun h => kt ((lg_cmp_le x y).mp h)) (fun h => kf (fun q => h ((lg_cmp_le x y).mpr q))))
theorem z_eq {x y : Int64} {off : Int} {tgt : Nat} (d1 : decode (zcc M) pc = .ok (.lcmp, 1)) (d2 : decode (zcc M) (pc + 1) = .ok (.ifCond .eq off, 3)) (ht : ((pc + 1 : Nat) : Int) + off = (tgt : Int)) (kt : x = y → Z M k tgt L st D Q) (kf : ¬ x = y → Z M k (pc + 4) L st D Q) : Z M k pc L (.long y :: .long x :: st) D Q :=
  z_lcmp d1 (z_if_eq d2 ht (fun h => kt ((lg_cmp_eq x y).mp h)) (fun h => kf (fun q => h ((lg_cmp_eq x y).mpr q))))
theorem z_ne {x y : Int64} {off : Int} {tgt : Nat} (d1 : decode (zcc M) pc = .ok (.lcmp, 1)) (d2 : decode (zcc M) (pc + 1) = .ok (.ifCond .ne off, 3)) (ht : ((pc + 1 : Nat) : Int) + off = (tgt : Int)) (kt : ¬ x = y → Z M k tgt L st D Q) (kf : x = y → Z M k (pc + 4) L st D Q) : Z M k pc L (.long y :: .long x :: st) D Q :=
  z_lcmp d1 (z_if_ne d2 ht (fun h => kt (fun q => h ((lg_cmp_eq x y).mpr q))) (fun h => kf ((lg_cmp_eq x y).mp h)))
theorem z_alenL {a n : Nat} (hs : zac a = some (0, n)) (hd : decode (zcc M) pc = .ok (.arraylength, 1)) (kk : Z M k (pc + 1) L (.int (nI n) :: st) D Q) : Z M k pc L (.ref a :: st) D Q := by
  obtain ⟨r, h⟩ := zac_ok hs
  exact z_alen h hd rfl kk
/-- a condition that is decided: one branch is left -/
theorem z_ift {x : Int32} {off : Int} {tgt : Nat} (hd : decode (zcc M) pc = .ok (.ifCond .ne off, 3)) (ht : (pc : Int) + off = (tgt : Int)) (hx : ¬ x = 0) (kk : Z M k tgt L st D Q) : Z M k pc L (.int x :: st) D Q := z_if_ne hd ht (fun _ => kk) (fun h => absurd h hx)
theorem z_iff {x : Int32} {off : Int} {tgt : Nat} (hd : decode (zcc M) pc = .ok (.ifCond .ne off, 3)) (ht : (pc : Int) + off = (tgt : Int)) (hx : x = 0) (kk : Z M k (pc + 3) L st D Q) : Z M k pc L (.int x :: st) D Q := z_if_ne hd ht (fun h => absurd hx h) (fun _ => kk)
theorem z_ief {x : Int32} {off : Int} {tgt : Nat} (hd : decode (zcc M) pc = .ok (.ifCond .eq off, 3)) (ht : (pc : Int) + off = (tgt : Int)) (hx : ¬ x = 0) (kk : Z M k (pc + 3) L st D Q) : Z M k pc L (.int x :: st) D Q := z_if_eq hd ht (fun h => absurd h hx) (fun _ => kk)
theorem z_iet {x : Int32} {off : Int} {tgt : Nat} (hd : decode (zcc M) pc = .ok (.ifCond .eq off, 3)) (ht : (pc : Int) + off = (tgt : Int)) (hx : x = 0) (kk : Z M k tgt L st D Q) : Z M k pc L (.int x :: st) D Q := z_if_eq hd ht (fun _ => kk) (fun h => absurd hx h)
end ZCPS
