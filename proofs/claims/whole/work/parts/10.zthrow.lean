/-! ===== throws, and what becomes of them ===== -/
theorem zxW.mono {p : Program} {l : Launch} {e : Env} {R : Room} {s : State} {m : MethodId} {args : Array Value} {below : List Frame} {meth : Method} {c : Code} {H : Heap} {locs : List Loc} {cells slots : Nat} {Q Q' : State → Prop} {g : JFrame} {q : Addr} (h : vx_W p l e R s m args below meth c H locs cells slots Q g q) (hq : ∀ t, Q t → Q' t) : vx_W p l e R s m args below meth c H locs cells slots Q' g q := fun T hT X => by
  obtain ⟨t, h1, h2⟩ := h T hT X
  exact ⟨t, h1, hq t h2⟩
abbrev znames : List String := ["java/lang/RuntimeException", "java/lang/Exception"]
def zthr (own : String) (ik ic : Nat) (cls : String) : Bool :=
  decide (Cond.classLink own ik cls ∈ lw_tbl) && decide (Cond.initialized cls ∈ lw_tbl) && ((vx_at0 own ic cls znames).all (fun w => (decide (w ∈ lw_tbl) && (goodWord w || znk w)) || decide (w = .castable cls cls)) && Bundle.fit cls)
theorem zthr_spec {own : String} {ik ic : Nat} {cls : String} (h : zthr own ik ic cls = true) : Cond.classLink own ik cls ∈ lw_tbl ∧ Cond.initialized cls ∈ lw_tbl ∧ (∀ w ∈ vx_at0 own ic cls znames, (w ∈ lw_tbl ∧ (goodWord w = true ∨ znk w = true)) ∨ w = .castable cls cls) ∧ Bundle.fit cls = true := by
  unfold zthr at h
  simp only [Bool.and_eq_true, decide_eq_true_eq] at h
  obtain ⟨⟨h1, h2⟩, h3, h4⟩ := h
  refine ⟨h1, h2, fun w hw => ?_, h4⟩
  have h5 := List.all_eq_true.mp h3 w hw
  simp only [Bool.or_eq_true, Bool.and_eq_true, decide_eq_true_eq] at h5
  exact h5
theorem zend_of {below : List Frame} {args : Array Value} {s t : State} {ad : Nat → Nat} {cA : Nat → ClassId} {G : va_G} {A : Nat → Prop} {M : zM} {Q : zQ} {D : zD} {E : String} {k : Nat} (hq : Q (.inr E) k D)
    (h : vx_MQ below (fun _ _ _ _ => False) (fun E' _ t => E' = E ∧ va_P G zcl (zws ad cA D) t.heap ∧ va_D A (zws ad cA D) ∧ va_F A s t) args s (zb1 M + k) (zb2 M + 6 * k) A t) : zEnd below args s ad cA G A M Q t := by
  obtain ⟨o, h1, h2, h3⟩ := h
  rcases h3 with ⟨h3, -⟩ | ⟨q, rfl, E', ce, L, ⟨rfl, g1, g2, g3⟩, g4, g5, g6, g7, g8, g9⟩
  · exact h3.elim
  · exact ⟨_, h1, h2, k, D, L, Or.inr ⟨q, E', ce, rfl, g4, g5, g6, hq⟩, g1, g2, g3, g7, g8, g9⟩
section ZTHROW
variable {M : zM} {k pc : Nat} {L : zLo} {st : List Value} {D : zD} {Q : zQ}
/-- throw new E() -/
theorem z_throw {ik ic : Nat} {cls : String} (hc : cls = zIAE ∨ cls = zISE) (hw : zthr (zown M) ik ic cls = true) (d0 : decode (zcc M) pc = .ok (.new ik, 3)) (d3 : decode (zcc M) (pc + 3) = .ok (.dup, 1)) (d4 : decode (zcc M) (pc + 4) = .ok (.invokespecial ic, 3)) (d7 : decode (zcc M) (pc + 7) = .ok (.athrow, 1))
    (hh : zhh M = []) (hst : (st.map fun v => v.category).sum ≤ 8) (hk : k + 1 ≤ zcap M) (hq : Q (.inr cls) (k + 1) D) : Z M k pc L st D Q := by
  intro p l e R s m args below meth c ad cA G A H locs ls C hH hl
  obtain ⟨hx, hb, -, hml, htab, hlocks, ho, ⟨f1, f2, f3, f4⟩, hG⟩ := id C
  obtain ⟨w1, w2, w3, w4⟩ := zthr_spec hw
  have hcast : va_Nw (.castable cls cls) s := by
    rcases hc with rfl | rfl
    · exact hG.2.2.2.1.2.2.1
    · exact hG.2.2.2.1.2.2.2.1
  refine W.mono (vx_throw0 (Qc := fun _ _ _ _ => False) (XC := fun E' _ t => E' = cls ∧ va_P G zcl (zws ad cA D) t.heap ∧ va_D A (zws ad cA D) ∧ va_F A s t) (free := A) (names := znames) (mc := zb1 M + (k + 1)) (ms := zb2 M + 6 * (k + 1)) hx hb hG.2.1 ho w4 (by decide +kernel) (hG.1 _ w1 rfl) (hG.1 _ w2 rfl) (fun w hw9 => ?_) (fun w hw9 => ?_)
    hG.2.2.2.1.1 hG.2.2.2.1.2.1 hH.2.2 (hl.1.trans hml.symm) d0 d3 d4 d7 (fun x hx9 => ?_) ?_ ?_ (by omega) (by omega) hlocks (fun t hal hsz hkeep => ⟨rfl, ?_, hH.2.1, ?_⟩) hH.2.2.2.2 (by omega) (by omega)) (fun t ht => zend_of hq ht)
  · rcases w3 w hw9 with ⟨h1, h2 | h2⟩ | rfl
    · exact hG.1 w h1 h2
    · exact va_Nw.use (znk_tab h2) (hG.2.2.2.1.2.2.2.2.2.1 w (List.mem_filter.mpr ⟨h1, h2⟩))
    · exact va_Nw.use rfl hcast
  · rcases List.mem_cons.mp hw9 with rfl | hw9
    · rfl
    · rcases List.mem_cons.mp hw9 with rfl | hw9
      · rfl
      · rcases w3 w hw9 with ⟨h1, h2 | h2⟩ | rfl
        · unfold vx_ot; rw [h2, Bool.or_true]
        · unfold vx_ot; rw [znk_tab h2, Bool.true_or]
        · rfl
  · rw [htab, hh] at hx9
    cases hx9
  · show 2 + 3 < R.frames
    omega
  · rw [zcategory_map]
    show _ + (13 * (2 + 1) + 42) ≤ R.locals
    omega
  · exact hH.1.kept (fun j q hj => hkeep q.1 (hH.1 j q hj).lt)
  · exact ⟨Nat.le_trans hH.2.2.1 hsz, fun q h1 h2 => by rw [hkeep q (Nat.lt_of_lt_of_le h1 hH.2.2.1)]; exact hH.2.2.2.1 q h1 h2⟩
/-- a method without handlers lets it go on -/
theorem zx_out {E : String} (hh : zhh M = []) (hq : Q (.inr E) k D) : ZX M k pc L E D Q := by
  intro p l e R s m args below meth c ad cA G A H locs ls rest q ce C hH hl h1 h2 h3
  obtain ⟨hx, hb, -, hml, htab, hlocks, ho, -, hG⟩ := id C
  refine zxW.mono (vx_out (Qc := fun _ _ _ _ => False) (XC := fun E' _ t => E' = E ∧ va_P G zcl (zws ad cA D) t.heap ∧ va_D A (zws ad cA D) ∧ va_F A s t) (free := A) (mc := zb1 M + k) (ms := zb2 M + 6 * k) (fun x hx9 => ?_) hlocks h1 h2 h3 (fun t ht hal => ⟨rfl, by rw [ht]; exact hH.1, hH.2.1, hH.2.2.F ht⟩) hH.2.2.2.2 (Nat.le_refl _) (Nat.le_refl _)) (fun t ht => zend_of hq ht)
  rw [htab, hh] at hx9
  cases hx9
end ZTHROW
